/-! 44.o.lean.txt -/
theorem dX12_operand_0 : decode cX12_operand 0 = .ok (.aload_n 0, 1) := by decide +kernel
theorem dX12_operand_1 : decode cX12_operand 1 = .ok (.invokevirtual 266, 3) := by decide +kernel
theorem dX12_operand_4 : decode cX12_operand 4 = .ok (.aload_n 0, 1) := by decide +kernel
theorem dX12_operand_5 : decode cX12_operand 5 = .ok (.getfield 36, 3) := by decide +kernel
theorem dX12_operand_8 : decode cX12_operand 8 = .ok (.ifCond .le 5, 3) := by decide +kernel
theorem dX12_operand_11 : decode cX12_operand 11 = .ok (.iconst 1, 1) := by decide +kernel
theorem dX12_operand_12 : decode cX12_operand 12 = .ok (.ireturn, 1) := by decide +kernel
theorem dX12_operand_13 : decode cX12_operand 13 = .ok (.aload_n 0, 1) := by decide +kernel
theorem dX12_operand_14 : decode cX12_operand 14 = .ok (.getfield 140, 3) := by decide +kernel
theorem dX12_operand_17 : decode cX12_operand 17 = .ok (.iconst 1, 1) := by decide +kernel
theorem dX12_operand_18 : decode cX12_operand 18 = .ok (.isub, 1) := by decide +kernel
theorem dX12_operand_19 : decode cX12_operand 19 = .ok (.istore_n 1, 1) := by decide +kernel
theorem dX12_operand_20 : decode cX12_operand 20 = .ok (.aload_n 0, 1) := by decide +kernel
theorem dX12_operand_21 : decode cX12_operand 21 = .ok (.getfield 124, 3) := by decide +kernel
theorem dX12_operand_24 : decode cX12_operand 24 = .ok (.iload_n 1, 1) := by decide +kernel
theorem dX12_operand_25 : decode cX12_operand 25 = .ok (.iaload, 1) := by decide +kernel
theorem dX12_operand_26 : decode cX12_operand 26 = .ok (.invokestatic 346, 3) := by decide +kernel
theorem dX12_operand_29 : decode cX12_operand 29 = .ok (.ifCond .eq 16, 3) := by decide +kernel
theorem dX12_operand_32 : decode cX12_operand 32 = .ok (.aload_n 0, 1) := by decide +kernel
theorem dX12_operand_33 : decode cX12_operand 33 = .ok (.getfield 130, 3) := by decide +kernel
theorem dX12_operand_36 : decode cX12_operand 36 = .ok (.iload_n 1, 1) := by decide +kernel
theorem dX12_operand_37 : decode cX12_operand 37 = .ok (.baload, 1) := by decide +kernel
theorem dX12_operand_38 : decode cX12_operand 38 = .ok (.ifCond .eq 7, 3) := by decide +kernel
theorem dX12_operand_41 : decode cX12_operand 41 = .ok (.iconst 1, 1) := by decide +kernel
theorem dX12_operand_42 : decode cX12_operand 42 = .ok (.goto 4, 3) := by decide +kernel
theorem dX12_operand_45 : decode cX12_operand 45 = .ok (.iconst 0, 1) := by decide +kernel
theorem dX12_operand_46 : decode cX12_operand 46 = .ok (.istore_n 2, 1) := by decide +kernel
theorem dX12_operand_47 : decode cX12_operand 47 = .ok (.iload_n 2, 1) := by decide +kernel
theorem dX12_operand_48 : decode cX12_operand 48 = .ok (.ifCond .eq 62, 3) := by decide +kernel
theorem dX12_operand_51 : decode cX12_operand 51 = .ok (.aload_n 0, 1) := by decide +kernel
theorem dX12_operand_52 : decode cX12_operand 52 = .ok (.ldc2_w 321, 3) := by decide +kernel
theorem dX12_operand_55 : decode cX12_operand 55 = .ok (.invokevirtual 349, 3) := by decide +kernel
theorem dX12_operand_58 : decode cX12_operand 58 = .ok (.ifCond .eq 52, 3) := by decide +kernel
theorem dX12_operand_61 : decode cX12_operand 61 = .ok (.aload_n 0, 1) := by decide +kernel
theorem dX12_operand_62 : decode cX12_operand 62 = .ok (.getfield 143, 3) := by decide +kernel
theorem dX12_operand_65 : decode cX12_operand 65 = .ok (.bipush 7, 2) := by decide +kernel
theorem dX12_operand_67 : decode cX12_operand 67 = .ok (.if_icmp .ne 12, 3) := by decide +kernel
theorem dX12_operand_70 : decode cX12_operand 70 = .ok (.aload_n 0, 1) := by decide +kernel
theorem dX12_operand_71 : decode cX12_operand 71 = .ok (.iconst 5, 1) := by decide +kernel
theorem dX12_operand_72 : decode cX12_operand 72 = .ok (.aload_n 0, 1) := by decide +kernel
theorem dX12_operand_73 : decode cX12_operand 73 = .ok (.getfield 23, 3) := by decide +kernel
theorem dX12_operand_76 : decode cX12_operand 76 = .ok (.invokevirtual 255, 3) := by decide +kernel
theorem dX12_operand_79 : decode cX12_operand 79 = .ok (.aload_n 0, 1) := by decide +kernel
theorem dX12_operand_80 : decode cX12_operand 80 = .ok (.getfield 36, 3) := by decide +kernel
theorem dX12_operand_83 : decode cX12_operand 83 = .ok (.ifCond .le 5, 3) := by decide +kernel
theorem dX12_operand_86 : decode cX12_operand 86 = .ok (.iconst 1, 1) := by decide +kernel
theorem dX12_operand_87 : decode cX12_operand 87 = .ok (.ireturn, 1) := by decide +kernel
theorem dX12_operand_88 : decode cX12_operand 88 = .ok (.aload_n 0, 1) := by decide +kernel
theorem dX12_operand_89 : decode cX12_operand 89 = .ok (.dup, 1) := by decide +kernel
theorem dX12_operand_90 : decode cX12_operand 90 = .ok (.getfield 143, 3) := by decide +kernel
theorem dX12_operand_93 : decode cX12_operand 93 = .ok (.iconst 1, 1) := by decide +kernel
theorem dX12_operand_94 : decode cX12_operand 94 = .ok (.iadd, 1) := by decide +kernel
theorem dX12_operand_95 : decode cX12_operand 95 = .ok (.putfield 143, 3) := by decide +kernel
theorem dX12_operand_98 : decode cX12_operand 98 = .ok (.aload_n 0, 1) := by decide +kernel
theorem dX12_operand_99 : decode cX12_operand 99 = .ok (.bipush 43, 2) := by decide +kernel
theorem dX12_operand_101 : decode cX12_operand 101 = .ok (.invokevirtual 353, 3) := by decide +kernel
theorem dX12_operand_104 : decode cX12_operand 104 = .ok (.aload_n 0, 1) := by decide +kernel
theorem dX12_operand_105 : decode cX12_operand 105 = .ok (.invokevirtual 272, 3) := by decide +kernel
theorem dX12_operand_108 : decode cX12_operand 108 = .ok (.iconst 0, 1) := by decide +kernel
theorem dX12_operand_109 : decode cX12_operand 109 = .ok (.ireturn, 1) := by decide +kernel
theorem dX12_operand_110 : decode cX12_operand 110 = .ok (.aload_n 0, 1) := by decide +kernel
theorem dX12_operand_111 : decode cX12_operand 111 = .ok (.getfield 130, 3) := by decide +kernel
theorem dX12_operand_114 : decode cX12_operand 114 = .ok (.iload_n 1, 1) := by decide +kernel
theorem dX12_operand_115 : decode cX12_operand 115 = .ok (.iconst 0, 1) := by decide +kernel
theorem dX12_operand_116 : decode cX12_operand 116 = .ok (.bastore, 1) := by decide +kernel
theorem dX12_operand_117 : decode cX12_operand 117 = .ok (.iload_n 2, 1) := by decide +kernel
theorem dX12_operand_118 : decode cX12_operand 118 = .ok (.ifCond .eq 19, 3) := by decide +kernel
theorem dX12_operand_121 : decode cX12_operand 121 = .ok (.aload_n 0, 1) := by decide +kernel
theorem dX12_operand_122 : decode cX12_operand 122 = .ok (.bipush 91, 2) := by decide +kernel
theorem dX12_operand_124 : decode cX12_operand 124 = .ok (.invokevirtual 269, 3) := by decide +kernel
theorem dX12_operand_127 : decode cX12_operand 127 = .ok (.ifCond .eq 10, 3) := by decide +kernel
theorem dX12_operand_130 : decode cX12_operand 130 = .ok (.aload_n 0, 1) := by decide +kernel
theorem dX12_operand_131 : decode cX12_operand 131 = .ok (.iconst 5, 1) := by decide +kernel
theorem dX12_operand_132 : decode cX12_operand 132 = .ok (.invokevirtual 356, 3) := by decide +kernel
theorem dX12_operand_135 : decode cX12_operand 135 = .ok (.iconst 0, 1) := by decide +kernel
theorem dX12_operand_136 : decode cX12_operand 136 = .ok (.ireturn, 1) := by decide +kernel
theorem dX12_operand_137 : decode cX12_operand 137 = .ok (.iload_n 2, 1) := by decide +kernel
theorem dX12_operand_138 : decode cX12_operand 138 = .ok (.ifCond .eq 33, 3) := by decide +kernel
theorem dX12_operand_141 : decode cX12_operand 141 = .ok (.aload_n 0, 1) := by decide +kernel
theorem dX12_operand_142 : decode cX12_operand 142 = .ok (.ldc2_w 323, 3) := by decide +kernel
theorem dX12_operand_145 : decode cX12_operand 145 = .ok (.invokevirtual 349, 3) := by decide +kernel
theorem dX12_operand_148 : decode cX12_operand 148 = .ok (.ifCond .eq 23, 3) := by decide +kernel
theorem dX12_operand_151 : decode cX12_operand 151 = .ok (.aload_n 0, 1) := by decide +kernel
theorem dX12_operand_152 : decode cX12_operand 152 = .ok (.bipush 30, 2) := by decide +kernel
theorem dX12_operand_154 : decode cX12_operand 154 = .ok (.iconst 0, 1) := by decide +kernel
theorem dX12_operand_155 : decode cX12_operand 155 = .ok (.invokevirtual 340, 3) := by decide +kernel
theorem dX12_operand_158 : decode cX12_operand 158 = .ok (.aload_n 0, 1) := by decide +kernel
theorem dX12_operand_159 : decode cX12_operand 159 = .ok (.getfield 127, 3) := by decide +kernel
theorem dX12_operand_162 : decode cX12_operand 162 = .ok (.iload_n 1, 1) := by decide +kernel
theorem dX12_operand_163 : decode cX12_operand 163 = .ok (.iconst 2, 1) := by decide +kernel
theorem dX12_operand_164 : decode cX12_operand 164 = .ok (.iastore, 1) := by decide +kernel
theorem dX12_operand_165 : decode cX12_operand 165 = .ok (.aload_n 0, 1) := by decide +kernel
theorem dX12_operand_166 : decode cX12_operand 166 = .ok (.invokevirtual 272, 3) := by decide +kernel
theorem dX12_operand_169 : decode cX12_operand 169 = .ok (.iconst 1, 1) := by decide +kernel
theorem dX12_operand_170 : decode cX12_operand 170 = .ok (.ireturn, 1) := by decide +kernel
theorem dX12_operand_171 : decode cX12_operand 171 = .ok (.aload_n 0, 1) := by decide +kernel
theorem dX12_operand_172 : decode cX12_operand 172 = .ok (.bipush 40, 2) := by decide +kernel
theorem dX12_operand_174 : decode cX12_operand 174 = .ok (.invokevirtual 269, 3) := by decide +kernel
theorem dX12_operand_177 : decode cX12_operand 177 = .ok (.ifCond .eq 10, 3) := by decide +kernel
theorem dX12_operand_180 : decode cX12_operand 180 = .ok (.aload_n 0, 1) := by decide +kernel
theorem dX12_operand_181 : decode cX12_operand 181 = .ok (.iconst 2, 1) := by decide +kernel
theorem dX12_operand_182 : decode cX12_operand 182 = .ok (.invokevirtual 356, 3) := by decide +kernel
theorem dX12_operand_185 : decode cX12_operand 185 = .ok (.iconst 0, 1) := by decide +kernel
theorem dX12_operand_186 : decode cX12_operand 186 = .ok (.ireturn, 1) := by decide +kernel
theorem dX12_operand_187 : decode cX12_operand 187 = .ok (.aload_n 0, 1) := by decide +kernel
theorem dX12_operand_188 : decode cX12_operand 188 = .ok (.ldc2_w 325, 3) := by decide +kernel
theorem dX12_operand_191 : decode cX12_operand 191 = .ok (.invokevirtual 349, 3) := by decide +kernel
theorem dX12_operand_194 : decode cX12_operand 194 = .ok (.ifCond .ne 23, 3) := by decide +kernel
theorem dX12_operand_197 : decode cX12_operand 197 = .ok (.aload_n 0, 1) := by decide +kernel
theorem dX12_operand_198 : decode cX12_operand 198 = .ok (.ldc2_w 327, 3) := by decide +kernel
theorem dX12_operand_201 : decode cX12_operand 201 = .ok (.invokevirtual 349, 3) := by decide +kernel
theorem dX12_operand_204 : decode cX12_operand 204 = .ok (.ifCond .ne 13, 3) := by decide +kernel
theorem dX12_operand_207 : decode cX12_operand 207 = .ok (.aload_n 0, 1) := by decide +kernel
theorem dX12_operand_208 : decode cX12_operand 208 = .ok (.ldc2_w 315, 3) := by decide +kernel
theorem dX12_operand_211 : decode cX12_operand 211 = .ok (.invokevirtual 349, 3) := by decide +kernel
theorem dX12_operand_214 : decode cX12_operand 214 = .ok (.ifCond .eq 99, 3) := by decide +kernel
theorem dX12_operand_217 : decode cX12_operand 217 = .ok (.aload_n 0, 1) := by decide +kernel
theorem dX12_operand_218 : decode cX12_operand 218 = .ok (.ldc2_w 325, 3) := by decide +kernel
theorem dX12_operand_221 : decode cX12_operand 221 = .ok (.invokevirtual 349, 3) := by decide +kernel
theorem dX12_operand_224 : decode cX12_operand 224 = .ok (.ifCond .eq 8, 3) := by decide +kernel
theorem dX12_operand_227 : decode cX12_operand 227 = .ok (.bipush 36, 2) := by decide +kernel
theorem dX12_operand_229 : decode cX12_operand 229 = .ok (.goto 20, 3) := by decide +kernel
theorem dX12_operand_232 : decode cX12_operand 232 = .ok (.aload_n 0, 1) := by decide +kernel
theorem dX12_operand_233 : decode cX12_operand 233 = .ok (.ldc2_w 327, 3) := by decide +kernel
theorem dX12_operand_236 : decode cX12_operand 236 = .ok (.invokevirtual 349, 3) := by decide +kernel
theorem dX12_operand_239 : decode cX12_operand 239 = .ok (.ifCond .eq 8, 3) := by decide +kernel
theorem dX12_operand_242 : decode cX12_operand 242 = .ok (.bipush 37, 2) := by decide +kernel
theorem dX12_operand_244 : decode cX12_operand 244 = .ok (.goto 5, 3) := by decide +kernel
theorem dX12_operand_247 : decode cX12_operand 247 = .ok (.bipush 44, 2) := by decide +kernel
theorem dX12_operand_249 : decode cX12_operand 249 = .ok (.istore_n 3, 1) := by decide +kernel
theorem dX12_operand_250 : decode cX12_operand 250 = .ok (.aload_n 0, 1) := by decide +kernel
theorem dX12_operand_251 : decode cX12_operand 251 = .ok (.invokevirtual 272, 3) := by decide +kernel
theorem dX12_operand_254 : decode cX12_operand 254 = .ok (.aload_n 0, 1) := by decide +kernel
theorem dX12_operand_255 : decode cX12_operand 255 = .ok (.invokevirtual 266, 3) := by decide +kernel
theorem dX12_operand_258 : decode cX12_operand 258 = .ok (.aload_n 0, 1) := by decide +kernel
theorem dX12_operand_259 : decode cX12_operand 259 = .ok (.bipush 40, 2) := by decide +kernel
theorem dX12_operand_261 : decode cX12_operand 261 = .ok (.invokevirtual 269, 3) := by decide +kernel
theorem dX12_operand_264 : decode cX12_operand 264 = .ok (.ifCond .ne 12, 3) := by decide +kernel
theorem dX12_operand_267 : decode cX12_operand 267 = .ok (.aload_n 0, 1) := by decide +kernel
theorem dX12_operand_268 : decode cX12_operand 268 = .ok (.iconst 1, 1) := by decide +kernel
theorem dX12_operand_269 : decode cX12_operand 269 = .ok (.aload_n 0, 1) := by decide +kernel
theorem dX12_operand_270 : decode cX12_operand 270 = .ok (.getfield 23, 3) := by decide +kernel
theorem dX12_operand_273 : decode cX12_operand 273 = .ok (.invokevirtual 255, 3) := by decide +kernel
theorem dX12_operand_276 : decode cX12_operand 276 = .ok (.aload_n 0, 1) := by decide +kernel
theorem dX12_operand_277 : decode cX12_operand 277 = .ok (.iload_n 3, 1) := by decide +kernel
theorem dX12_operand_278 : decode cX12_operand 278 = .ok (.bipush 44, 2) := by decide +kernel
theorem dX12_operand_280 : decode cX12_operand 280 = .ok (.if_icmp .ne 8, 3) := by decide +kernel
theorem dX12_operand_283 : decode cX12_operand 283 = .ok (.bipush 6, 2) := by decide +kernel
theorem dX12_operand_285 : decode cX12_operand 285 = .ok (.goto 4, 3) := by decide +kernel
theorem dX12_operand_288 : decode cX12_operand 288 = .ok (.iconst 3, 1) := by decide +kernel
theorem dX12_operand_289 : decode cX12_operand 289 = .ok (.invokevirtual 356, 3) := by decide +kernel
theorem dX12_operand_292 : decode cX12_operand 292 = .ok (.aload_n 0, 1) := by decide +kernel
theorem dX12_operand_293 : decode cX12_operand 293 = .ok (.getfield 36, 3) := by decide +kernel
theorem dX12_operand_296 : decode cX12_operand 296 = .ok (.ifCond .ne 15, 3) := by decide +kernel
theorem dX12_operand_299 : decode cX12_operand 299 = .ok (.aload_n 0, 1) := by decide +kernel
theorem dX12_operand_300 : decode cX12_operand 300 = .ok (.getfield 134, 3) := by decide +kernel
theorem dX12_operand_303 : decode cX12_operand 303 = .ok (.aload_n 0, 1) := by decide +kernel
theorem dX12_operand_304 : decode cX12_operand 304 = .ok (.getfield 140, 3) := by decide +kernel
theorem dX12_operand_307 : decode cX12_operand 307 = .ok (.iconst 1, 1) := by decide +kernel
theorem dX12_operand_308 : decode cX12_operand 308 = .ok (.isub, 1) := by decide +kernel
theorem dX12_operand_309 : decode cX12_operand 309 = .ok (.iload_n 3, 1) := by decide +kernel
theorem dX12_operand_310 : decode cX12_operand 310 = .ok (.iastore, 1) := by decide +kernel
theorem dX12_operand_311 : decode cX12_operand 311 = .ok (.iconst 0, 1) := by decide +kernel
theorem dX12_operand_312 : decode cX12_operand 312 = .ok (.ireturn, 1) := by decide +kernel
theorem dX12_operand_313 : decode cX12_operand 313 = .ok (.aload_n 0, 1) := by decide +kernel
theorem dX12_operand_314 : decode cX12_operand 314 = .ok (.getfield 20, 3) := by decide +kernel
theorem dX12_operand_317 : decode cX12_operand 317 = .ok (.iconst 2, 1) := by decide +kernel
theorem dX12_operand_318 : decode cX12_operand 318 = .ok (.if_icmp .ne 7, 3) := by decide +kernel
theorem dX12_operand_321 : decode cX12_operand 321 = .ok (.iconst 0, 1) := by decide +kernel
theorem dX12_operand_322 : decode cX12_operand 322 = .ok (.goto 89, 3) := by decide +kernel
theorem dX12_operand_325 : decode cX12_operand 325 = .ok (.aload_n 0, 1) := by decide +kernel
theorem dX12_operand_326 : decode cX12_operand 326 = .ok (.ldc2_w 285, 3) := by decide +kernel
theorem dX12_operand_329 : decode cX12_operand 329 = .ok (.invokevirtual 349, 3) := by decide +kernel
theorem dX12_operand_332 : decode cX12_operand 332 = .ok (.ifCond .eq 7, 3) := by decide +kernel
theorem dX12_operand_335 : decode cX12_operand 335 = .ok (.iconst 1, 1) := by decide +kernel
theorem dX12_operand_336 : decode cX12_operand 336 = .ok (.goto 75, 3) := by decide +kernel
theorem dX12_operand_339 : decode cX12_operand 339 = .ok (.aload_n 0, 1) := by decide +kernel
theorem dX12_operand_340 : decode cX12_operand 340 = .ok (.ldc2_w 305, 3) := by decide +kernel
theorem dX12_operand_343 : decode cX12_operand 343 = .ok (.invokevirtual 349, 3) := by decide +kernel
theorem dX12_operand_346 : decode cX12_operand 346 = .ok (.ifCond .eq 7, 3) := by decide +kernel
theorem dX12_operand_349 : decode cX12_operand 349 = .ok (.iconst 2, 1) := by decide +kernel
theorem dX12_operand_350 : decode cX12_operand 350 = .ok (.goto 61, 3) := by decide +kernel
theorem dX12_operand_353 : decode cX12_operand 353 = .ok (.aload_n 0, 1) := by decide +kernel
theorem dX12_operand_354 : decode cX12_operand 354 = .ok (.ldc2_w 307, 3) := by decide +kernel
theorem dX12_operand_357 : decode cX12_operand 357 = .ok (.invokevirtual 349, 3) := by decide +kernel
theorem dX12_operand_360 : decode cX12_operand 360 = .ok (.ifCond .eq 7, 3) := by decide +kernel
theorem dX12_operand_363 : decode cX12_operand 363 = .ok (.iconst 3, 1) := by decide +kernel
theorem dX12_operand_364 : decode cX12_operand 364 = .ok (.goto 47, 3) := by decide +kernel
theorem dX12_operand_367 : decode cX12_operand 367 = .ok (.aload_n 0, 1) := by decide +kernel
theorem dX12_operand_368 : decode cX12_operand 368 = .ok (.ldc2_w 309, 3) := by decide +kernel
theorem dX12_operand_371 : decode cX12_operand 371 = .ok (.invokevirtual 349, 3) := by decide +kernel
theorem dX12_operand_374 : decode cX12_operand 374 = .ok (.ifCond .eq 7, 3) := by decide +kernel
theorem dX12_operand_377 : decode cX12_operand 377 = .ok (.iconst 4, 1) := by decide +kernel
theorem dX12_operand_378 : decode cX12_operand 378 = .ok (.goto 33, 3) := by decide +kernel
theorem dX12_operand_381 : decode cX12_operand 381 = .ok (.aload_n 0, 1) := by decide +kernel
theorem dX12_operand_382 : decode cX12_operand 382 = .ok (.ldc2_w 311, 3) := by decide +kernel
theorem dX12_operand_385 : decode cX12_operand 385 = .ok (.invokevirtual 349, 3) := by decide +kernel
theorem dX12_operand_388 : decode cX12_operand 388 = .ok (.ifCond .eq 7, 3) := by decide +kernel
theorem dX12_operand_391 : decode cX12_operand 391 = .ok (.iconst 5, 1) := by decide +kernel
theorem dX12_operand_392 : decode cX12_operand 392 = .ok (.goto 19, 3) := by decide +kernel
theorem dX12_operand_395 : decode cX12_operand 395 = .ok (.aload_n 0, 1) := by decide +kernel
theorem dX12_operand_396 : decode cX12_operand 396 = .ok (.ldc2_w 313, 3) := by decide +kernel
theorem dX12_operand_399 : decode cX12_operand 399 = .ok (.invokevirtual 349, 3) := by decide +kernel
theorem dX12_operand_402 : decode cX12_operand 402 = .ok (.ifCond .eq 8, 3) := by decide +kernel
theorem dX12_operand_405 : decode cX12_operand 405 = .ok (.bipush 6, 2) := by decide +kernel
theorem dX12_operand_407 : decode cX12_operand 407 = .ok (.goto 4, 3) := by decide +kernel
theorem dX12_operand_410 : decode cX12_operand 410 = .ok (.iconst (-1), 1) := by decide +kernel
theorem dX12_operand_411 : decode cX12_operand 411 = .ok (.istore_n 3, 1) := by decide +kernel
theorem dX12_operand_412 : decode cX12_operand 412 = .ok (.iload_n 3, 1) := by decide +kernel
theorem dX12_operand_413 : decode cX12_operand 413 = .ok (.iconst 4, 1) := by decide +kernel
theorem dX12_operand_414 : decode cX12_operand 414 = .ok (.if_icmp .lt 30, 3) := by decide +kernel
theorem dX12_operand_417 : decode cX12_operand 417 = .ok (.iload_n 3, 1) := by decide +kernel
theorem dX12_operand_418 : decode cX12_operand 418 = .ok (.iconst 4, 1) := by decide +kernel
theorem dX12_operand_419 : decode cX12_operand 419 = .ok (.if_icmp .ne 7, 3) := by decide +kernel
theorem dX12_operand_422 : decode cX12_operand 422 = .ok (.iconst 1, 1) := by decide +kernel
theorem dX12_operand_423 : decode cX12_operand 423 = .ok (.goto 4, 3) := by decide +kernel
theorem dX12_operand_426 : decode cX12_operand 426 = .ok (.iconst 0, 1) := by decide +kernel
theorem dX12_operand_427 : decode cX12_operand 427 = .ok (.aload_n 0, 1) := by decide +kernel
theorem dX12_operand_428 : decode cX12_operand 428 = .ok (.getfield 121, 3) := by decide +kernel
theorem dX12_operand_431 : decode cX12_operand 431 = .ok (.ifCond .ne 7, 3) := by decide +kernel
theorem dX12_operand_434 : decode cX12_operand 434 = .ok (.iconst 1, 1) := by decide +kernel
theorem dX12_operand_435 : decode cX12_operand 435 = .ok (.goto 4, 3) := by decide +kernel
theorem dX12_operand_438 : decode cX12_operand 438 = .ok (.iconst 0, 1) := by decide +kernel
theorem dX12_operand_439 : decode cX12_operand 439 = .ok (.if_icmp .eq 5, 3) := by decide +kernel
theorem dX12_operand_442 : decode cX12_operand 442 = .ok (.iconst (-1), 1) := by decide +kernel
theorem dX12_operand_443 : decode cX12_operand 443 = .ok (.istore_n 3, 1) := by decide +kernel
theorem dX12_operand_444 : decode cX12_operand 444 = .ok (.iload_n 3, 1) := by decide +kernel
theorem dX12_operand_445 : decode cX12_operand 445 = .ok (.iconst (-1), 1) := by decide +kernel
theorem dX12_operand_446 : decode cX12_operand 446 = .ok (.if_icmp .ne 12, 3) := by decide +kernel
theorem dX12_operand_449 : decode cX12_operand 449 = .ok (.aload_n 0, 1) := by decide +kernel
theorem dX12_operand_450 : decode cX12_operand 450 = .ok (.iconst 1, 1) := by decide +kernel
theorem dX12_operand_451 : decode cX12_operand 451 = .ok (.aload_n 0, 1) := by decide +kernel
theorem dX12_operand_452 : decode cX12_operand 452 = .ok (.getfield 23, 3) := by decide +kernel
theorem dX12_operand_455 : decode cX12_operand 455 = .ok (.invokevirtual 255, 3) := by decide +kernel
theorem dX12_operand_458 : decode cX12_operand 458 = .ok (.aload_n 0, 1) := by decide +kernel
theorem dX12_operand_459 : decode cX12_operand 459 = .ok (.getfield 36, 3) := by decide +kernel
theorem dX12_operand_462 : decode cX12_operand 462 = .ok (.ifCond .le 5, 3) := by decide +kernel
theorem dX12_operand_465 : decode cX12_operand 465 = .ok (.iconst 1, 1) := by decide +kernel
theorem dX12_operand_466 : decode cX12_operand 466 = .ok (.ireturn, 1) := by decide +kernel
theorem dX12_operand_467 : decode cX12_operand 467 = .ok (.aload_n 0, 1) := by decide +kernel
theorem dX12_operand_468 : decode cX12_operand 468 = .ok (.iload_n 3, 1) := by decide +kernel
theorem dX12_operand_469 : decode cX12_operand 469 = .ok (.aload_n 0, 1) := by decide +kernel
theorem dX12_operand_470 : decode cX12_operand 470 = .ok (.getfield 29, 3) := by decide +kernel
theorem dX12_operand_473 : decode cX12_operand 473 = .ok (.invokevirtual 340, 3) := by decide +kernel
theorem dX12_operand_476 : decode cX12_operand 476 = .ok (.aload_n 0, 1) := by decide +kernel
theorem dX12_operand_477 : decode cX12_operand 477 = .ok (.invokevirtual 272, 3) := by decide +kernel
theorem dX12_operand_480 : decode cX12_operand 480 = .ok (.iconst 1, 1) := by decide +kernel
theorem dX12_operand_481 : decode cX12_operand 481 = .ok (.ireturn, 1) := by decide +kernel
theorem wB_1220 : Cond.code yX12_isTest cX12_isTest 1 (some .boolean) ∈ dgB := List.mem_filter.mpr ⟨tbl_8 _ (List.mem_of_getElem? (i := 79) rfl), rfl⟩
theorem wB_1221 : Cond.methodLink RX12 346 yX12_isTest ∈ dgB := List.mem_filter.mpr ⟨tbl_8 _ (List.mem_of_getElem? (i := 77) (by decide +kernel)), by decide +kernel⟩
theorem wB_1222 : Cond.static yX12_isTest ∈ dgB := List.mem_filter.mpr ⟨tbl_8 _ (List.mem_of_getElem? (i := 78) (by decide +kernel)), by decide +kernel⟩
theorem wB_1223 : Cond.code yX12_holdsBack cX12_holdsBack 2 none ∈ dgB := List.mem_filter.mpr ⟨tbl_8 _ (List.mem_of_getElem? (i := 83) rfl), rfl⟩
theorem wB_1224 : Cond.methodLink RX12 353 yX12_holdsBack ∈ dgB := List.mem_filter.mpr ⟨tbl_8 _ (List.mem_of_getElem? (i := 80) (by decide +kernel)), by decide +kernel⟩
theorem wB_1225 : Cond.instanceMethod yX12_holdsBack ∈ dgB := List.mem_filter.mpr ⟨tbl_8 _ (List.mem_of_getElem? (i := 82) (by decide +kernel)), by decide +kernel⟩
theorem wB_1226 : Cond.selects RX12 yX12_holdsBack yX12_holdsBack ∈ dgB := List.mem_filter.mpr ⟨List.mem_of_getElem? (i := 109) (by decide +kernel), by decide +kernel⟩
theorem wB_1227 : Cond.code yX12_frames cX12_frames 2 none ∈ dgB := List.mem_filter.mpr ⟨tbl_8 _ (List.mem_of_getElem? (i := 87) rfl), rfl⟩
theorem wB_1228 : Cond.methodLink RX12 356 yX12_frames ∈ dgB := List.mem_filter.mpr ⟨tbl_8 _ (List.mem_of_getElem? (i := 84) (by decide +kernel)), by decide +kernel⟩
theorem wB_1229 : Cond.instanceMethod yX12_frames ∈ dgB := List.mem_filter.mpr ⟨tbl_8 _ (List.mem_of_getElem? (i := 86) (by decide +kernel)), by decide +kernel⟩
theorem wB_1230 : Cond.selects RX12 yX12_frames yX12_frames ∈ dgB := List.mem_filter.mpr ⟨List.mem_of_getElem? (i := 110) (by decide +kernel), by decide +kernel⟩
theorem wB_1231 : Cond.fieldLink RX12 121 "DarkMineModel" "law" "I" ∈ dgB := List.mem_filter.mpr ⟨tbl_6 _ (List.mem_of_getElem? (i := 199) (by decide +kernel)), by decide +kernel⟩
theorem wB_1232 : Cond.fieldLink RX12 134 "DarkMineModel" "pair" "[I" ∈ dgB := List.mem_filter.mpr ⟨tbl_6 _ (List.mem_of_getElem? (i := 203) (by decide +kernel)), by decide +kernel⟩
set_option maxHeartbeats 8000000 in
set_option maxRecDepth 100000 in
theorem c_m_operand (l : Launch) (g : Nat → ClassId) (D : va_G) (o : Nat) (S : dg_S) (sg : Int32) (f_sg : S.1 0 3 = .int sg) (b_sg : 0 ≤ (sg).toInt ∧ (sg).toInt ≤ 3) (sa : Int32) (f_sa : S.1 0 4 = .int sa) (b_sa : 0 ≤ (sa).toInt ∧ (sa).toInt ≤ 1600) (se : Int32) (f_se : S.1 0 5 = .int se) (b_se : 0 ≤ (se).toInt ∧ (se).toInt ≤ 1600) (sl : Int32) (f_sl : S.1 0 2 = .int sl) (b_sl : 0 ≤ (sl).toInt ∧ (sl).toInt ≤ 1600) (va : Int32) (f_va : S.1 0 6 = .int va) (b_va : 0 ≤ (va).toInt ∧ (va).toInt ≤ 9999) (cd : Int32) (f_cd : S.1 0 34 = .int cd) (b_cd : 0 ≤ (cd).toInt ∧ (cd).toInt ≤ 1600) (dp : Int32) (f_dp : S.1 0 42 = .int dp) (b_dp : 0 ≤ (dp).toInt ∧ (dp).toInt ≤ 20) (on : Int32) (f_on : S.1 0 43 = .int on) (om : Int32) (f_om : S.1 0 45 = .int om) (b_om : 0 ≤ (om).toInt ∧ (om).toInt ≤ 500) (fk : Int32) (f_fk : S.1 0 8 = .int fk) (b_fk : 0 ≤ (fk).toInt ∧ (fk).toInt ≤ 6) (hlx : (sa).toInt ≤ (se).toInt ∧ (se).toInt ≤ (sl).toInt ∧ ((sg).toInt ≠ 0 → (sa).toInt + 1 ≤ (se).toInt)) (hro : (cd).toInt + (om).toInt + (dp).toInt ≤ (sa).toInt) (ZW : ZWM S) (ZK : ZKM S) (P0 : P0M S) (I : CM o S) (sz : Nat) : Met l yX12_operand (bw yX12_operand cX12_operand 4 (some .boolean)) ({ frames := 4, cells := 0, slots := 0, locals := 98 } : Room) (dk_Pc g D (dg_w g shM o rfM S) sz [.ref (o + 0)]) (va_Qi (fun (r : Int32) S' => CM o S' ∧ dg_sm shM [(0, 3), (0, 4), (0, 5), (0, 6), (0, 7), (0, 8), (0, 9), (0, 12), (0, 34), (0, 42), (0, 43), (0, 45)] [18, 19, 22, 23, 24, 25, 26, 27] S S' ∧ (0 ≤ (r).toInt ∧ (r).toInt ≤ 1) ∧ (∃ y9_3 y9_4 y9_5 y9_8 y9_34 y9_42 y9_45 : Int32, S'.1 0 3 = .int y9_3 ∧ S'.1 0 4 = .int y9_4 ∧ S'.1 0 5 = .int y9_5 ∧ S'.1 0 8 = .int y9_8 ∧ S'.1 0 34 = .int y9_34 ∧ S'.1 0 42 = .int y9_42 ∧ S'.1 0 45 = .int y9_45 ∧ (((y9_4).toInt ≤ (y9_5).toInt ∧ (y9_5).toInt ≤ (sl).toInt ∧ ((y9_3).toInt ≠ 0 → (y9_4).toInt + 1 ≤ (y9_5).toInt)) ∧ (sa).toInt ≤ (y9_4).toInt ∧ ((fk).toInt ≠ 0 → (y9_8).toInt ≠ 0) ∧ (((y9_8).toInt = 0 → (sa).toInt + 1 ≤ (y9_4).toInt) ∧ ((y9_8).toInt = 0 → (y9_34).toInt + (y9_45).toInt + (y9_42).toInt ≤ (y9_4).toInt)))) ∧ (∀ k9 : Int32, S'.1 0 8 = .int k9 → k9.toInt = 0 → ((r).toInt = 1 → P1M S') ∧ ((r).toInt = 0 → P0M S')) ∧ ZWM S' ∧ True) (dg_B g D shM o rfM) (dg_A o shM.length sz)) 0 0 (dg_A o shM.length sz) := by
  refine dg_met (cc := cX12_operand) (maxL := 4) (ret := (some .boolean)) (by decide) rfl (Nat.le_of_ble_eq_true rfl) ?_
  intro p e s m args below meth c A hAe harg hx hb hr hml hts hown hlocks hin hP K hS hA1 hA ST hsz ls hl
  rw [← hAe]
  have F : CallFix p m c cX12_operand 4 s args (bw yX12_operand cX12_operand 4 (some .boolean)) RX12 := ⟨hx, hb, hml, hown, hts⟩
  have hl : lv_has ls 4 [(0, .ref (o + 0))] := hl
  have M_0 : dg_sm shM [(0, 3), (0, 4), (0, 5), (0, 6), (0, 7), (0, 8), (0, 9), (0, 12), (0, 34), (0, 42), (0, 43), (0, 45)] [18, 19, 22, 23, 24, 25, 26, 27] S S := dg_sm.rf
  obtain ⟨Q9, hQ9⟩ : ∃ Q : State → Prop, Q = MQ below (va_Qi (fun (r : Int32) S' => CM o S' ∧ dg_sm shM [(0, 3), (0, 4), (0, 5), (0, 6), (0, 7), (0, 8), (0, 9), (0, 12), (0, 34), (0, 42), (0, 43), (0, 45)] [18, 19, 22, 23, 24, 25, 26, 27] S S' ∧ (0 ≤ (r).toInt ∧ (r).toInt ≤ 1) ∧ (∃ y9_3 y9_4 y9_5 y9_8 y9_34 y9_42 y9_45 : Int32, S'.1 0 3 = .int y9_3 ∧ S'.1 0 4 = .int y9_4 ∧ S'.1 0 5 = .int y9_5 ∧ S'.1 0 8 = .int y9_8 ∧ S'.1 0 34 = .int y9_34 ∧ S'.1 0 42 = .int y9_42 ∧ S'.1 0 45 = .int y9_45 ∧ (((y9_4).toInt ≤ (y9_5).toInt ∧ (y9_5).toInt ≤ (sl).toInt ∧ ((y9_3).toInt ≠ 0 → (y9_4).toInt + 1 ≤ (y9_5).toInt)) ∧ (sa).toInt ≤ (y9_4).toInt ∧ ((fk).toInt ≠ 0 → (y9_8).toInt ≠ 0) ∧ (((y9_8).toInt = 0 → (sa).toInt + 1 ≤ (y9_4).toInt) ∧ ((y9_8).toInt = 0 → (y9_34).toInt + (y9_45).toInt + (y9_42).toInt ≤ (y9_4).toInt)))) ∧ (∀ k9 : Int32, S'.1 0 8 = .int k9 → k9.toInt = 0 → ((r).toInt = 1 → P1M S') ∧ ((r).toInt = 0 → P0M S')) ∧ ZWM S' ∧ True) (dg_B g D shM o rfM) A) args s 0 0 A := ⟨_, rfl⟩
  rw [← hQ9]
  obtain ⟨hlx_0, hlx_1, hlx_2⟩ := hlx
  have hdm_0 := PSM.dims P0 f_dp f_on f_om
  refine lv_aload_n hx hb dX12_operand_0 rfl (lv_at hl 0 rfl) ?_
  refine dg_callv hS hA1 hA (va_runV (As := []) (rest := []) F (c_m_lex l g D o S fk f_fk (by omega) I s.heap.size) (cwV 0 hts (bw_V wB_1153 wB_1154 wB_1155 wB_881 wB_1152) rfl rfl rfl (by decide +kernel) ⟨Nat.le_of_ble_eq_true rfl, Nat.le_of_ble_eq_true rfl⟩) (dg_preV sM_0 rfl K ST hP hS hA1 hA) rfl rfl hl.1 rfl (lv_room (Nat.le_of_ble_eq_true rfl)) dX12_operand_1 ⟨Nat.le_of_ble_eq_true rfl, Nat.le_of_ble_eq_true rfl⟩) (fun S_2 hw_2 H locs hP hS => ?_)
  obtain ⟨I_2, m_2, w_2_0, -⟩ := hw_2
  have M_2 := dg_sm.tr M_0 m_2 (by decide) (by decide)
  obtain ⟨y_3, f_y_3, w_2_0⟩ := w_2_0
  have w_2_0 : (fk).toInt ≠ 0 → (y_3).toInt = (fk).toInt := w_2_0
  have b_y_3 : 0 ≤ (y_3).toInt ∧ (y_3).toInt ≤ 6 := dg_I.intb (lo := 0) (hi := 6) I_2 sM_0 (by decide +kernel) f_y_3
  refine lv_aload_n hx hb dX12_operand_4 rfl (lv_at hl 0 rfl) ?_
  refine dg_get (C := RX12) (T := TX12) (N := 77) hx hb hts (fun w h => bw_mem (wU_X12 w h)) hown K hP sM_0 rfl 8 (by decide) (hts _ (bw_mem wB_1133)) (fun _ h9 => h9) (v := .int y_3) f_y_3 dX12_operand_5 ?_
  refine lv_if_le (tgt := 13) hx hb dX12_operand_8 (by decide) (fun c_4 => ?_) (fun c_4 => ?_)
  · have jc_4 := dk_lec (k := 0) (by decide +kernel) c_4
    have w_2_0c : (fk).toInt = 0 := by omega
    clear w_2_0
    refine lv_aload_n hx hb dX12_operand_13 rfl (lv_at hl 0 rfl) ?_
    refine dg_get (C := RX12) (T := TX12) (N := 77) hx hb hts (fun w h => bw_mem (wU_X12 w h)) hown K hP sM_0 rfl 42 (by decide) (hts _ (bw_mem wB_1203)) (fun _ h9 => h9) (v := .int dp) ((m_2.1 0 42 _ sM_0 (by decide)).trans f_dp) dX12_operand_14 ?_
    refine lv_iconst (v := 1) hx hb dX12_operand_17 (by decide +kernel) ?_
    refine lv_isub hx hb dX12_operand_18 ?_
    refine lv_topi (fun x_5 ex_5 => ?_)
    have jx_5 : (x_5).toInt = (dp).toInt - 1 := by rw [ex_5]; exact dk_subT rfl (by decide +kernel) (by omega) (by omega)
    refine lv_istore_n (lv' := [(1, .int x_5), (0, .ref (o + 0))]) hx hb dX12_operand_19 rfl hl (by decide) rfl (fun ls hl => ?_)
    refine lv_aload_n hx hb dX12_operand_20 rfl (lv_at hl 1 rfl) ?_
    refine dg_get (C := RX12) (T := TX12) (N := 77) hx hb hts (fun w h => bw_mem (wU_X12 w h)) hown K hP sM_0 rfl 37 (by decide) (hts _ (bw_mem wB_1213)) (fun _ h9 => h9) (v := .ref (o + 22)) (show S_2.1 0 37 = .ref (o + 22) from dg_I.rel (d := 22) I_2 sM_0 (by decide +kernel)) dX12_operand_21 ?_
    refine lv_iload_n hx hb dX12_operand_24 rfl (lv_at hl 0 rfl) ?_
    have hin_6 : vp_in x_5 20 := (dk_inv (by omega) (by omega))
    refine dg_iald hx hb K hP sM_22 hin_6 dX12_operand_25 (fun x_7 ex_7 => ?_)
    have b_x_7 := dk_all_at (dg_I.row (lo := 0) (hi := 6) I_2 sM_22 (by decide +kernel)) hin_6 ex_7
    refine dg_calli hS hA1 hA (va_runS (As := [.int x_7]) (rest := []) F (c_m_isTest l g D o S_2 x_7 I_2 H.size) (va_cwS 1 hts (bw_S wB_1221 wB_1222 wB_881 wB_1220) rfl rfl rfl (by decide +kernel) ⟨Nat.le_of_ble_eq_true rfl, Nat.le_of_ble_eq_true rfl⟩) (dg_preS K ST hP hS hA1 hA) rfl rfl hl.1 rfl (lv_room (Nat.le_of_ble_eq_true rfl)) dX12_operand_26 ⟨Nat.le_of_ble_eq_true rfl, Nat.le_of_ble_eq_true rfl⟩) (fun x_8 S_9 hw_9 H locs hP hS => ?_)
    rw [hw_9.1] at hP
    obtain ⟨hq_9, w_9_0, w_9_1, -⟩ := hw_9
    have w_9_0 : 0 ≤ (x_8).toInt ∧ (x_8).toInt ≤ 1 := w_9_0
    have w_9_1 : (x_8).toInt = 1 ↔ ((x_7).toInt = 1 ∨ (x_7).toInt = 5 ∨ (x_7).toInt = 6) := w_9_1
    have J_293 : ∀ (x_14 : Int32), (0 ≤ (x_14).toInt ∧ (x_14).toInt ≤ 1) → ((x_14 : Int32).toInt = 1 → (((x_7).toInt = 1 ∨ (x_7).toInt = 5 ∨ (x_7).toInt = 6) ∧ (S_2.2.1 24 (x_5 : Int32).toNatClampNeg).toInt = 1)) → ∀ (H : Heap) (locs : List Loc), va_P D vwCl (dg_w g shM o rfM S_2) H → va_S A s.heap H locs → ∀ ls : Array Slot, lv_has ls 4 [(1, .int x_5), (0, .ref (o + 0))] → W p l e ({ frames := 4, cells := 0, slots := 0, locals := 98 } : Room) s m args below meth c H locs 0 0 Q9 (F0 m 46 ls [.int x_14]) := by
      intro x_14 b_x_14 rel_0 H locs hP hS ls hl
      clear w_9_1
      refine lv_istore_n (lv' := [(2, .int x_14), (1, .int x_5), (0, .ref (o + 0))]) hx hb dX12_operand_46 rfl hl (by decide) rfl (fun ls hl => ?_)
      refine lv_iload_n hx hb dX12_operand_47 rfl (lv_at hl 0 rfl) ?_
      have J_572 : ∀ (H : Heap) (locs : List Loc), va_P D vwCl (dg_w g shM o rfM S_2) H → va_S A s.heap H locs → ∀ ls : Array Slot, lv_has ls 4 [(2, .int x_14), (1, .int x_5), (0, .ref (o + 0))] → W p l e ({ frames := 4, cells := 0, slots := 0, locals := 98 } : Room) s m args below meth c H locs 0 0 Q9 (F0 m 110 ls []) := by
        intro H locs hP hS ls hl
        refine lv_aload_n hx hb dX12_operand_110 rfl (lv_at hl 2 rfl) ?_
        refine dg_get (C := RX12) (T := TX12) (N := 77) hx hb hts (fun w h => bw_mem (wU_X12 w h)) hown K hP sM_0 rfl 39 (by decide) (hts _ (bw_mem wB_1215)) (fun _ h9 => h9) (v := .ref (o + 24)) (show S_2.1 0 39 = .ref (o + 24) from dg_I.rel (d := 24) I_2 sM_0 (by decide +kernel)) dX12_operand_111 ?_
        refine lv_iload_n hx hb dX12_operand_114 rfl (lv_at hl 1 rfl) ?_
        refine lv_iconst (v := 0) hx hb dX12_operand_115 (by decide +kernel) ?_
        have hin_573 : vp_in x_5 20 := (dk_inv (by omega) (by omega))
        have hz_575 : (0 : Int32).toInt = 0 := by decide +kernel
        refine dg_zast hx hb K hP hS hA1 sM_24 hin_573 (by decide +kernel) dX12_operand_116 (fun S_574 e_574 H locs hP hS => ?_)
        have I_574 := dg_I.ufu (lo := 0) (hi := 1) I_2 e_574 sM_24 (by decide +kernel) (show 0 ≤ ((0 : Int32)).toInt ∧ ((0 : Int32)).toInt ≤ 1 from (by decide +kernel))
        have M_574 := dg_sm.uf M_2 e_574 sM_24 (by decide)
        have hz_576 : (0 : Int32).toInt = 0 := by decide +kernel
        have PB_574 : PBM S_574 := P0M.bg0 (P0M.keep P0 m_2 (by decide) (by decide) (by decide) (by decide) (by decide) (by decide) (by decide) (by decide) (by decide) (by decide) (by decide) (by decide) (by decide) (by decide) (by decide)) ((m_2.1 0 42 _ sM_0 (by decide)).trans f_dp) (by omega) (by omega) (by omega) e_574
        refine lv_iload_n hx hb dX12_operand_117 rfl (lv_at hl 0 rfl) ?_
        have J_825 : ∀ (H : Heap) (locs : List Loc), va_P D vwCl (dg_w g shM o rfM S_574) H → va_S A s.heap H locs → ∀ ls : Array Slot, lv_has ls 4 [(2, .int x_14), (1, .int x_5), (0, .ref (o + 0))] → W p l e ({ frames := 4, cells := 0, slots := 0, locals := 98 } : Room) s m args below meth c H locs 0 0 Q9 (F0 m 137 ls []) := by
          intro H locs hP hS ls hl
          refine lv_iload_n hx hb dX12_operand_137 rfl (lv_at hl 0 rfl) ?_
          have J_1057 : ∀ (H : Heap) (locs : List Loc), va_P D vwCl (dg_w g shM o rfM S_574) H → va_S A s.heap H locs → ∀ ls : Array Slot, lv_has ls 4 [(2, .int x_14), (1, .int x_5), (0, .ref (o + 0))] → W p l e ({ frames := 4, cells := 0, slots := 0, locals := 98 } : Room) s m args below meth c H locs 0 0 Q9 (F0 m 171 ls []) := by
            intro H locs hP hS ls hl
            refine lv_aload_n hx hb dX12_operand_171 rfl (lv_at hl 2 rfl) ?_
            refine lv_bipush (v := 40) hx hb dX12_operand_172 (by decide +kernel) ?_
            refine dg_calli hS hA1 hA (va_runV (As := [.int 40]) (rest := []) F (c_m_isSign l g D o S_574 40 sg (((dg_uf_F e_574 0 3).trans (m_2.1 0 3 _ sM_0 (by decide))).trans f_sg) (by omega) va (((dg_uf_F e_574 0 6).trans (m_2.1 0 6 _ sM_0 (by decide))).trans f_va) (by omega) I_574 H.size) (cwV 1 hts (bw_V wB_1157 wB_1158 wB_1159 wB_881 wB_1156) rfl rfl rfl (by decide +kernel) ⟨Nat.le_of_ble_eq_true rfl, Nat.le_of_ble_eq_true rfl⟩) (dg_preV sM_0 rfl K ST hP hS hA1 hA) rfl rfl hl.1 rfl (lv_room (Nat.le_of_ble_eq_true rfl)) dX12_operand_174 ⟨Nat.le_of_ble_eq_true rfl, Nat.le_of_ble_eq_true rfl⟩) (fun x_1058 S_1059 hw_1059 H locs hP hS => ?_)
            rw [hw_1059.1] at hP
            obtain ⟨hq_1059, w_1059_0, w_1059_1, -⟩ := hw_1059
            have hz_1060 : (40 : Int32).toInt = 40 := by decide +kernel
            have w_1059_0 : 0 ≤ (x_1058).toInt ∧ (x_1058).toInt ≤ 1 := w_1059_0
            have w_1059_1 : (x_1058).toInt = 1 ↔ ((sg).toInt = 3 ∧ (va).toInt = ((40 : Int32)).toInt) := w_1059_1
            refine lv_if_eq (tgt := 187) hx hb dX12_operand_177 (by decide) (fun c_1061 => ?_) (fun c_1061 => ?_)
            · have jc_1061 := dk_eqc (k := 0) (by decide +kernel) c_1061
              clear w_1059_1
              refine lv_aload_n hx hb dX12_operand_187 rfl (lv_at hl 2 rfl) ?_
              refine lv_ldc2 hx hb hown (hts _ (bw_mem wB_1193)) dX12_operand_188 ?_
              refine dg_calli hS hA1 hA (va_runV (As := [.long 7170414]) (rest := []) F (c_m_isWord l g D o S_574 7170414 sg (((dg_uf_F e_574 0 3).trans (m_2.1 0 3 _ sM_0 (by decide))).trans f_sg) (by omega) I_574 H.size) (cwV 1 hts (bw_V wB_1165 wB_1166 wB_1167 wB_881 wB_1164) rfl rfl rfl (by decide +kernel) ⟨Nat.le_of_ble_eq_true rfl, Nat.le_of_ble_eq_true rfl⟩) (dg_preV sM_0 rfl K ST hP hS hA1 hA) rfl rfl hl.1 rfl (lv_room (Nat.le_of_ble_eq_true rfl)) dX12_operand_191 ⟨Nat.le_of_ble_eq_true rfl, Nat.le_of_ble_eq_true rfl⟩) (fun x_1062 S_1063 hw_1063 H locs hP hS => ?_)
              rw [hw_1063.1] at hP
              obtain ⟨hq_1063, w_1063_0, w_1063_1, -⟩ := hw_1063
              have w_1063_0 : 0 ≤ (x_1062).toInt ∧ (x_1062).toInt ≤ 1 := w_1063_0
              have w_1063_1 : (x_1062).toInt = 1 → (sg).toInt = 1 := w_1063_1
              have J_1256 : ∀ (u9 : Unit), ((sg).toInt = 1) → ∀ (H : Heap) (locs : List Loc), va_P D vwCl (dg_w g shM o rfM S_574) H → va_S A s.heap H locs → ∀ ls : Array Slot, lv_has ls 4 [(2, .int x_14), (1, .int x_5), (0, .ref (o + 0))] → W p l e ({ frames := 4, cells := 0, slots := 0, locals := 98 } : Room) s m args below meth c H locs 0 0 Q9 (F0 m 217 ls []) := by
                intro u9 rel_0 H locs hP hS ls hl
                clear w_1063_1
                refine lv_aload_n hx hb dX12_operand_217 rfl (lv_at hl 2 rfl) ?_
                refine lv_ldc2 hx hb hown (hts _ (bw_mem wB_1193)) dX12_operand_218 ?_
                refine dg_calli hS hA1 hA (va_runV (As := [.long 7170414]) (rest := []) F (c_m_isWord l g D o S_574 7170414 sg (((dg_uf_F e_574 0 3).trans (m_2.1 0 3 _ sM_0 (by decide))).trans f_sg) (by omega) I_574 H.size) (cwV 1 hts (bw_V wB_1165 wB_1166 wB_1167 wB_881 wB_1164) rfl rfl rfl (by decide +kernel) ⟨Nat.le_of_ble_eq_true rfl, Nat.le_of_ble_eq_true rfl⟩) (dg_preV sM_0 rfl K ST hP hS hA1 hA) rfl rfl hl.1 rfl (lv_room (Nat.le_of_ble_eq_true rfl)) dX12_operand_221 ⟨Nat.le_of_ble_eq_true rfl, Nat.le_of_ble_eq_true rfl⟩) (fun x_1257 S_1258 hw_1258 H locs hP hS => ?_)
                rw [hw_1258.1] at hP
                obtain ⟨hq_1258, w_1258_0, w_1258_1, -⟩ := hw_1258
                have w_1258_0 : 0 ≤ (x_1257).toInt ∧ (x_1257).toInt ≤ 1 := w_1258_0
                have w_1258_1 : (x_1257).toInt = 1 → (sg).toInt = 1 := w_1258_1
                have J_1361 : ∀ (x_1263 : Int32), (36 ≤ (x_1263).toInt ∧ (x_1263).toInt ≤ 44) → ((x_1263 : Int32).toInt = 36 ∨ (x_1263 : Int32).toInt = 37 ∨ (x_1263 : Int32).toInt = 44) → ∀ (H : Heap) (locs : List Loc), va_P D vwCl (dg_w g shM o rfM S_574) H → va_S A s.heap H locs → ∀ ls : Array Slot, lv_has ls 4 [(2, .int x_14), (1, .int x_5), (0, .ref (o + 0))] → W p l e ({ frames := 4, cells := 0, slots := 0, locals := 98 } : Room) s m args below meth c H locs 0 0 Q9 (F0 m 249 ls [.int x_1263]) := by
                  intro x_1263 b_x_1263 rel_0 H locs hP hS ls hl
                  clear w_1258_1
                  refine lv_istore_n (lv' := [(3, .int x_1263), (2, .int x_14), (1, .int x_5), (0, .ref (o + 0))]) hx hb dX12_operand_249 rfl hl (by decide) rfl (fun ls hl => ?_)
                  refine lv_aload_n hx hb dX12_operand_250 rfl (lv_at hl 3 rfl) ?_
                  refine dg_callv hS hA1 hA (va_runV (As := []) (rest := []) F (c_m_ahead l g D o S_574 se (((dg_uf_F e_574 0 5).trans (m_2.1 0 5 _ sM_0 (by decide))).trans f_se) (by omega) sl (((dg_uf_F e_574 0 2).trans (m_2.1 0 2 _ sM_0 (by decide))).trans f_sl) (by omega) (by omega) I_574 H.size) (cwV 0 hts (bw_V wB_1161 wB_1162 wB_1163 wB_881 wB_1160) rfl rfl rfl (by decide +kernel) ⟨Nat.le_of_ble_eq_true rfl, Nat.le_of_ble_eq_true rfl⟩) (dg_preV sM_0 rfl K ST hP hS hA1 hA) rfl rfl hl.1 rfl (lv_room (Nat.le_of_ble_eq_true rfl)) dX12_operand_251 ⟨Nat.le_of_ble_eq_true rfl, Nat.le_of_ble_eq_true rfl⟩) (fun S_1362 hw_1362 H locs hP hS => ?_)
                  obtain ⟨I_1362, m_1362, w_1362_0, -⟩ := hw_1362
                  have M_1362 := dg_sm.tr M_574 m_1362 (by decide) (by decide)
                  obtain ⟨y_1363, y_1364, y_1365, f_y_1363, f_y_1364, f_y_1365, w_1362_0⟩ := w_1362_0
                  have w_1362_0 : (se).toInt ≤ (y_1364).toInt ∧ (y_1364).toInt ≤ (y_1365).toInt ∧ (y_1365).toInt ≤ (sl).toInt ∧ ((y_1363).toInt ≠ 0 → (y_1364).toInt + 1 ≤ (y_1365).toInt) := w_1362_0
                  obtain ⟨w_1362_0_0, w_1362_0_1, w_1362_0_2, w_1362_0_3⟩ := w_1362_0
                  have b_y_1363 : 0 ≤ (y_1363).toInt ∧ (y_1363).toInt ≤ 3 := dg_I.intb (lo := 0) (hi := 3) I_1362 sM_0 (by decide +kernel) f_y_1363
                  have b_y_1364 : 0 ≤ (y_1364).toInt ∧ (y_1364).toInt ≤ 1600 := dg_I.intb (lo := 0) (hi := 1600) I_1362 sM_0 (by decide +kernel) f_y_1364
                  have b_y_1365 : 0 ≤ (y_1365).toInt ∧ (y_1365).toInt ≤ 1600 := dg_I.intb (lo := 0) (hi := 1600) I_1362 sM_0 (by decide +kernel) f_y_1365
                  refine lv_aload_n hx hb dX12_operand_254 rfl (lv_at hl 3 rfl) ?_
                  refine dg_callv hS hA1 hA (va_runV (As := []) (rest := []) F (c_m_lex l g D o S_1362 y_3 (((m_1362.1 0 8 _ sM_0 (by decide)).trans (dg_uf_F e_574 0 8)).trans f_y_3) (by omega) I_1362 H.size) (cwV 0 hts (bw_V wB_1153 wB_1154 wB_1155 wB_881 wB_1152) rfl rfl rfl (by decide +kernel) ⟨Nat.le_of_ble_eq_true rfl, Nat.le_of_ble_eq_true rfl⟩) (dg_preV sM_0 rfl K ST hP hS hA1 hA) rfl rfl hl.1 rfl (lv_room (Nat.le_of_ble_eq_true rfl)) dX12_operand_255 ⟨Nat.le_of_ble_eq_true rfl, Nat.le_of_ble_eq_true rfl⟩) (fun S_1366 hw_1366 H locs hP hS => ?_)
                  obtain ⟨I_1366, m_1366, w_1366_0, -⟩ := hw_1366
                  have M_1366 := dg_sm.tr M_1362 m_1366 (by decide) (by decide)
                  obtain ⟨y_1367, f_y_1367, w_1366_0⟩ := w_1366_0
                  have w_1366_0 : (y_3).toInt ≠ 0 → (y_1367).toInt = (y_3).toInt := w_1366_0
                  clear w_1366_0
                  have b_y_1367 : 0 ≤ (y_1367).toInt ∧ (y_1367).toInt ≤ 6 := dg_I.intb (lo := 0) (hi := 6) I_1366 sM_0 (by decide +kernel) f_y_1367
                  refine lv_aload_n hx hb dX12_operand_258 rfl (lv_at hl 3 rfl) ?_
                  refine lv_bipush (v := 40) hx hb dX12_operand_259 (by decide +kernel) ?_
                  obtain ⟨x_1368, f_x_1368, b_x_1368⟩ := dg_I.int (i := 0) (k := 6) (lo := 0) (hi := 9999) I_1366 sM_0 (by decide +kernel)
                  refine dg_calli hS hA1 hA (va_runV (As := [.int 40]) (rest := []) F (c_m_isSign l g D o S_1366 40 y_1363 ((m_1366.1 0 3 _ sM_0 (by decide)).trans f_y_1363) (by omega) x_1368 f_x_1368 (by omega) I_1366 H.size) (cwV 1 hts (bw_V wB_1157 wB_1158 wB_1159 wB_881 wB_1156) rfl rfl rfl (by decide +kernel) ⟨Nat.le_of_ble_eq_true rfl, Nat.le_of_ble_eq_true rfl⟩) (dg_preV sM_0 rfl K ST hP hS hA1 hA) rfl rfl hl.1 rfl (lv_room (Nat.le_of_ble_eq_true rfl)) dX12_operand_261 ⟨Nat.le_of_ble_eq_true rfl, Nat.le_of_ble_eq_true rfl⟩) (fun x_1369 S_1370 hw_1370 H locs hP hS => ?_)
                  rw [hw_1370.1] at hP
                  obtain ⟨hq_1370, w_1370_0, w_1370_1, -⟩ := hw_1370
                  have hz_1371 : (40 : Int32).toInt = 40 := by decide +kernel
                  have w_1370_0 : 0 ≤ (x_1369).toInt ∧ (x_1369).toInt ≤ 1 := w_1370_0
                  have w_1370_1 : (x_1369).toInt = 1 ↔ ((y_1363).toInt = 3 ∧ (x_1368).toInt = ((40 : Int32)).toInt) := w_1370_1
                  refine lv_if_ne (tgt := 276) hx hb dX12_operand_264 (by decide) (fun c_1372 => ?_) (fun c_1372 => ?_)
                  · have jc_1372 := dk_neqc (k := 0) (by decide +kernel) c_1372
                    have jbc_1372 : 1 ≤ (x_1369).toInt := by omega
                    clear jc_1372
                    have w_1370_1_r := w_1370_1.mp (by omega)
                    obtain ⟨w_1370_1_r1, w_1370_1_r2⟩ := w_1370_1_r
                    clear w_1370_1
                    have w_1362_0_3r := w_1362_0_3 (by omega)
                    clear w_1362_0_3
                    refine lv_aload_n hx hb dX12_operand_276 rfl (lv_at hl 3 rfl) ?_
                    refine lv_iload_n hx hb dX12_operand_277 rfl (lv_at hl 0 rfl) ?_
                    refine lv_bipush (v := 44) hx hb dX12_operand_278 (by decide +kernel) ?_
                    refine lv_icmp_ne (tgt := 288) hx hb dX12_operand_280 (by decide) (fun c_1373 => ?_) (fun c_1373 => ?_)
                    · have jc_1373 := dk_neqc (k := 44) (by decide +kernel) c_1373
                      have jtc_1373 : (x_1263).toInt ≤ 43 := by omega
                      clear jc_1373
                      refine lv_iconst (v := 3) hx hb dX12_operand_288 (by decide +kernel) ?_
                      have hz_1374 : (3 : Int32).toInt = 3 := by decide +kernel
                      refine dg_callv hS hA1 hA (va_runV (As := [.int 3]) (rest := []) F (c_m_frames l g D o S_1366 3 (by decide +kernel) y_1363 ((m_1366.1 0 3 _ sM_0 (by decide)).trans f_y_1363) (by omega) y_1364 ((m_1366.1 0 4 _ sM_0 (by decide)).trans f_y_1364) (by omega) y_1365 ((m_1366.1 0 5 _ sM_0 (by decide)).trans f_y_1365) (by omega) sl (((m_1366.1 0 2 _ sM_0 (by decide)).trans ((m_1362.1 0 2 _ sM_0 (by decide)).trans ((dg_uf_F e_574 0 2).trans (m_2.1 0 2 _ sM_0 (by decide))))).trans f_sl) (by omega) y_1367 f_y_1367 (by omega) dp (((m_1366.1 0 42 _ sM_0 (by decide)).trans ((m_1362.1 0 42 _ sM_0 (by decide)).trans ((dg_uf_F e_574 0 42).trans (m_2.1 0 42 _ sM_0 (by decide))))).trans f_dp) (by omega) om (((m_1366.1 0 45 _ sM_0 (by decide)).trans ((m_1362.1 0 45 _ sM_0 (by decide)).trans ((dg_uf_F e_574 0 45).trans (m_2.1 0 45 _ sM_0 (by decide))))).trans f_om) (by omega) on (((m_1366.1 0 43 _ sM_0 (by decide)).trans ((m_1362.1 0 43 _ sM_0 (by decide)).trans ((dg_uf_F e_574 0 43).trans (m_2.1 0 43 _ sM_0 (by decide))))).trans f_on) (by omega) (by omega) (by omega) I_1366 H.size) (cwV 1 hts (bw_V wB_1228 wB_1229 wB_1230 wB_881 wB_1227) rfl rfl rfl (by decide +kernel) ⟨Nat.le_of_ble_eq_true rfl, Nat.le_of_ble_eq_true rfl⟩) (dg_preV sM_0 rfl K ST hP hS hA1 hA) rfl rfl hl.1 rfl (lv_room (Nat.le_of_ble_eq_true rfl)) dX12_operand_289 ⟨Nat.le_of_ble_eq_true rfl, Nat.le_of_ble_eq_true rfl⟩) (fun S_1375 hw_1375 H locs hP hS => ?_)
                      obtain ⟨I_1375, m_1375, w_1375_0, w_1375_1, -⟩ := hw_1375
                      have M_1375 := dg_sm.tr M_1366 m_1375 (by decide) (by decide)
                      have hz_1376 : (3 : Int32).toInt = 3 := by decide +kernel
                      obtain ⟨y_1377, y_1378, y_1379, y_1380, y_1381, f_y_1377, f_y_1378, f_y_1379, f_y_1380, f_y_1381, w_1375_0⟩ := w_1375_0
                      have w_1375_0 : ((y_1378).toInt ≤ (y_1379).toInt ∧ (y_1379).toInt ≤ (sl).toInt ∧ ((y_1377).toInt ≠ 0 → (y_1378).toInt + 1 ≤ (y_1379).toInt)) ∧ (y_1364).toInt ≤ (y_1378).toInt ∧ ((y_1367).toInt ≠ 0 → (y_1380).toInt ≠ 0) ∧ (((y_1380).toInt = 0 → ((y_1364).toInt + 1 ≤ (y_1378).toInt ∧ (y_1381).toInt = (dp).toInt + 1))) := w_1375_0
                      obtain ⟨⟨w_1375_0_0, w_1375_0_1, w_1375_0_2⟩, w_1375_0_3, w_1375_0_4, w_1375_0_5⟩ := w_1375_0
                      have b_y_1377 : 0 ≤ (y_1377).toInt ∧ (y_1377).toInt ≤ 3 := dg_I.intb (lo := 0) (hi := 3) I_1375 sM_0 (by decide +kernel) f_y_1377
                      have b_y_1378 : 0 ≤ (y_1378).toInt ∧ (y_1378).toInt ≤ 1600 := dg_I.intb (lo := 0) (hi := 1600) I_1375 sM_0 (by decide +kernel) f_y_1378
                      have b_y_1379 : 0 ≤ (y_1379).toInt ∧ (y_1379).toInt ≤ 1600 := dg_I.intb (lo := 0) (hi := 1600) I_1375 sM_0 (by decide +kernel) f_y_1379
                      have b_y_1380 : 0 ≤ (y_1380).toInt ∧ (y_1380).toInt ≤ 6 := dg_I.intb (lo := 0) (hi := 6) I_1375 sM_0 (by decide +kernel) f_y_1380
                      have b_y_1381 : 0 ≤ (y_1381).toInt ∧ (y_1381).toInt ≤ 20 := dg_I.intb (lo := 0) (hi := 20) I_1375 sM_0 (by decide +kernel) f_y_1381
                      have w_1375_1 : ∀ k9 : Int32, S_1375.1 0 8 = .int k9 → k9.toInt = 0 → FRM S_1366 S_1375 (3 : Int32) := w_1375_1
                      refine lv_aload_n hx hb dX12_operand_292 rfl (lv_at hl 3 rfl) ?_
                      refine dg_get (C := RX12) (T := TX12) (N := 77) hx hb hts (fun w h => bw_mem (wU_X12 w h)) hown K hP sM_0 rfl 8 (by decide) (hts _ (bw_mem wB_1133)) (fun _ h9 => h9) (v := .int y_1380) f_y_1380 dX12_operand_293 ?_
                      refine lv_if_ne (tgt := 311) hx hb dX12_operand_296 (by decide) (fun c_1382 => ?_) (fun c_1382 => ?_)
                      · have jc_1382 := dk_neqc (k := 0) (by decide +kernel) c_1382
                        have jbc_1382 : 1 ≤ (y_1380).toInt := by omega
                        clear jc_1382
                        clear w_1375_0_5
                        refine lv_iconst (v := 0) hx hb dX12_operand_311 (by decide +kernel) ?_
                        have hz_1383 : (0 : Int32).toInt = 0 := by decide +kernel
                        have hz_1384 : (0 : Int32).toInt = 0 := by decide +kernel
                        have hz_1385 : (0 : Int32).toInt = 0 := by decide +kernel
                        have hz_1386 : (0 : Int32).toInt = 0 := by decide +kernel
                        refine W.widen (k := 0) (n := 0) (Nat.le_of_ble_eq_true rfl) (Nat.le_of_ble_eq_true rfl) ?_
                        rw [hQ9]
                        exact dg_iret hx hb hr hlocks (by decide +kernel) hP hS ⟨I_1375, M_1375, (by decide +kernel), ⟨y_1377, y_1378, y_1379, y_1380, cd, y_1381, om, f_y_1377, f_y_1378, f_y_1379, f_y_1380, (((m_1375.1 0 34 _ sM_0 (by decide)).trans ((m_1366.1 0 34 _ sM_0 (by decide)).trans ((m_1362.1 0 34 _ sM_0 (by decide)).trans ((dg_uf_F e_574 0 34).trans (m_2.1 0 34 _ sM_0 (by decide)))))).trans f_cd), f_y_1381, (((m_1375.1 0 45 _ sM_0 (by decide)).trans ((m_1366.1 0 45 _ sM_0 (by decide)).trans ((m_1362.1 0 45 _ sM_0 (by decide)).trans ((dg_uf_F e_574 0 45).trans (m_2.1 0 45 _ sM_0 (by decide)))))).trans f_om), (by omega)⟩, (fun k9 hk9 hk0 => by have q9 := (f_y_1380).symm.trans hk9; cases q9; omega), (ZWM.keep (ZWM.keep (ZWM.keep (ZWM.keep (ZWM.keep ZW m_2 (by decide) (by decide) (by decide) (by decide)) (dg_sm.uf (WF := []) (WA := [24]) dg_sm.rf e_574 sM_24 (by decide)) (by decide) (by decide) (by decide) (by decide)) m_1362 (by decide) (by decide) (by decide) (by decide)) m_1366 (by decide) (by decide) (by decide) (by decide)) m_1375 (by decide) (by decide) (by decide) (by decide)), trivial⟩ dX12_operand_312
                      · have jc_1382 := dk_eqc (k := 0) (by decide +kernel) c_1382
                        have w_1375_0_4c : (y_1367).toInt = 0 := by omega
                        clear w_1375_0_4
                        have w_1375_0_5r := w_1375_0_5 (by omega)
                        clear w_1375_0_5
                        obtain ⟨w_1375_0_5r_0, w_1375_0_5r_1⟩ := w_1375_0_5r
                        refine lv_aload_n hx hb dX12_operand_299 rfl (lv_at hl 3 rfl) ?_
                        refine dg_get (C := RX12) (T := TX12) (N := 77) hx hb hts (fun w h => bw_mem (wU_X12 w h)) hown K hP sM_0 rfl 40 (by decide) (hts _ (bw_mem wB_1232)) (fun _ h9 => h9) (v := .ref (o + 25)) (show S_1375.1 0 40 = .ref (o + 25) from dg_I.rel (d := 25) I_1375 sM_0 (by decide +kernel)) dX12_operand_300 ?_
                        refine lv_aload_n hx hb dX12_operand_303 rfl (lv_at hl 3 rfl) ?_
                        refine dg_get (C := RX12) (T := TX12) (N := 77) hx hb hts (fun w h => bw_mem (wU_X12 w h)) hown K hP sM_0 rfl 42 (by decide) (hts _ (bw_mem wB_1203)) (fun _ h9 => h9) (v := .int y_1381) f_y_1381 dX12_operand_304 ?_
                        refine lv_iconst (v := 1) hx hb dX12_operand_307 (by decide +kernel) ?_
                        refine lv_isub hx hb dX12_operand_308 ?_
                        refine lv_topi (fun x_1387 ex_1387 => ?_)
                        have jx_1387 : (x_1387).toInt = (y_1381).toInt - 1 := by rw [ex_1387]; exact dk_subT rfl (by decide +kernel) (by omega) (by omega)
                        refine lv_iload_n hx hb dX12_operand_309 rfl (lv_at hl 0 rfl) ?_
                        have hin_1388 : vp_in x_1387 20 := (dk_inv (by omega) (by omega))
                        refine dg_iast hx hb K hP hS hA1 sM_25 hin_1388 dX12_operand_310 (fun S_1389 e_1389 H locs hP hS => ?_)
                        have I_1389 := dg_I.uf0 I_1375 e_1389 sM_25 (by decide +kernel)
                        have M_1389 := dg_sm.uf M_1375 e_1389 sM_25 (by decide)
                        have P0_1389 : P0M S_1389 := PBM.openp (PBM.keep (PBM.keep PB_574 m_1362 (by decide) (by decide) (by decide) (by decide) (by decide) (by decide) (by decide) (by decide) (by decide) (by decide) (by decide) (by decide) (by decide) (by decide) (by decide)) m_1366 (by decide) (by decide) (by decide) (by decide) (by decide) (by decide) (by decide) (by decide) (by decide) (by decide) (by decide) (by decide) (by decide) (by decide) (by decide)) (((m_1366.1 0 42 _ sM_0 (by decide)).trans ((m_1362.1 0 42 _ sM_0 (by decide)).trans ((dg_uf_F e_574 0 42).trans (m_2.1 0 42 _ sM_0 (by decide))))).trans f_dp) (((m_1366.1 0 43 _ sM_0 (by decide)).trans ((m_1362.1 0 43 _ sM_0 (by decide)).trans ((dg_uf_F e_574 0 43).trans (m_2.1 0 43 _ sM_0 (by decide))))).trans f_on) (((m_1366.1 0 45 _ sM_0 (by decide)).trans ((m_1362.1 0 45 _ sM_0 (by decide)).trans ((dg_uf_F e_574 0 45).trans (m_2.1 0 45 _ sM_0 (by decide))))).trans f_om) (w_1375_1 _ f_y_1380 (by omega)) m_1375 (by decide) (by decide) (by decide) (by decide) (by omega) f_y_1381 (by omega) e_1389
                        refine lv_iconst (v := 0) hx hb dX12_operand_311 (by decide +kernel) ?_
                        have hz_1390 : (0 : Int32).toInt = 0 := by decide +kernel
                        have hz_1391 : (0 : Int32).toInt = 0 := by decide +kernel
                        have hz_1392 : (0 : Int32).toInt = 0 := by decide +kernel
                        have hz_1393 : (0 : Int32).toInt = 0 := by decide +kernel
                        refine W.widen (k := 0) (n := 0) (Nat.le_of_ble_eq_true rfl) (Nat.le_of_ble_eq_true rfl) ?_
                        rw [hQ9]
                        exact dg_iret hx hb hr hlocks (by decide +kernel) hP hS ⟨I_1389, M_1389, (by decide +kernel), ⟨y_1377, y_1378, y_1379, y_1380, cd, y_1381, om, ((dg_uf_F e_1389 0 3).trans f_y_1377), ((dg_uf_F e_1389 0 4).trans f_y_1378), ((dg_uf_F e_1389 0 5).trans f_y_1379), ((dg_uf_F e_1389 0 8).trans f_y_1380), (((dg_uf_F e_1389 0 34).trans ((m_1375.1 0 34 _ sM_0 (by decide)).trans ((m_1366.1 0 34 _ sM_0 (by decide)).trans ((m_1362.1 0 34 _ sM_0 (by decide)).trans ((dg_uf_F e_574 0 34).trans (m_2.1 0 34 _ sM_0 (by decide))))))).trans f_cd), ((dg_uf_F e_1389 0 42).trans f_y_1381), (((dg_uf_F e_1389 0 45).trans ((m_1375.1 0 45 _ sM_0 (by decide)).trans ((m_1366.1 0 45 _ sM_0 (by decide)).trans ((m_1362.1 0 45 _ sM_0 (by decide)).trans ((dg_uf_F e_574 0 45).trans (m_2.1 0 45 _ sM_0 (by decide))))))).trans f_om), (by omega)⟩, (fun k9 hk9 hk0 => ⟨fun h9 => absurd h9 (by decide +kernel), fun _ => P0_1389⟩), (ZWM.keep (ZWM.keep (ZWM.keep (ZWM.keep (ZWM.keep (ZWM.keep ZW m_2 (by decide) (by decide) (by decide) (by decide)) (dg_sm.uf (WF := []) (WA := [24]) dg_sm.rf e_574 sM_24 (by decide)) (by decide) (by decide) (by decide) (by decide)) m_1362 (by decide) (by decide) (by decide) (by decide)) m_1366 (by decide) (by decide) (by decide) (by decide)) m_1375 (by decide) (by decide) (by decide) (by decide)) (dg_sm.uf (WF := []) (WA := [25]) dg_sm.rf e_1389 sM_25 (by decide)) (by decide) (by decide) (by decide) (by decide)), trivial⟩ dX12_operand_312
                    · have jc_1373 := dk_eqc (k := 44) (by decide +kernel) c_1373
                      refine lv_bipush (v := 6) hx hb dX12_operand_283 (by decide +kernel) ?_
                      refine lv_goto (tgt := 289) hx hb dX12_operand_285 (by decide) ?_
                      have hz_1394 : (6 : Int32).toInt = 6 := by decide +kernel
                      refine dg_callv hS hA1 hA (va_runV (As := [.int 6]) (rest := []) F (c_m_frames l g D o S_1366 6 (by decide +kernel) y_1363 ((m_1366.1 0 3 _ sM_0 (by decide)).trans f_y_1363) (by omega) y_1364 ((m_1366.1 0 4 _ sM_0 (by decide)).trans f_y_1364) (by omega) y_1365 ((m_1366.1 0 5 _ sM_0 (by decide)).trans f_y_1365) (by omega) sl (((m_1366.1 0 2 _ sM_0 (by decide)).trans ((m_1362.1 0 2 _ sM_0 (by decide)).trans ((dg_uf_F e_574 0 2).trans (m_2.1 0 2 _ sM_0 (by decide))))).trans f_sl) (by omega) y_1367 f_y_1367 (by omega) dp (((m_1366.1 0 42 _ sM_0 (by decide)).trans ((m_1362.1 0 42 _ sM_0 (by decide)).trans ((dg_uf_F e_574 0 42).trans (m_2.1 0 42 _ sM_0 (by decide))))).trans f_dp) (by omega) om (((m_1366.1 0 45 _ sM_0 (by decide)).trans ((m_1362.1 0 45 _ sM_0 (by decide)).trans ((dg_uf_F e_574 0 45).trans (m_2.1 0 45 _ sM_0 (by decide))))).trans f_om) (by omega) on (((m_1366.1 0 43 _ sM_0 (by decide)).trans ((m_1362.1 0 43 _ sM_0 (by decide)).trans ((dg_uf_F e_574 0 43).trans (m_2.1 0 43 _ sM_0 (by decide))))).trans f_on) (by omega) (by omega) (by omega) I_1366 H.size) (cwV 1 hts (bw_V wB_1228 wB_1229 wB_1230 wB_881 wB_1227) rfl rfl rfl (by decide +kernel) ⟨Nat.le_of_ble_eq_true rfl, Nat.le_of_ble_eq_true rfl⟩) (dg_preV sM_0 rfl K ST hP hS hA1 hA) rfl rfl hl.1 rfl (lv_room (Nat.le_of_ble_eq_true rfl)) dX12_operand_289 ⟨Nat.le_of_ble_eq_true rfl, Nat.le_of_ble_eq_true rfl⟩) (fun S_1395 hw_1395 H locs hP hS => ?_)
                      obtain ⟨I_1395, m_1395, w_1395_0, w_1395_1, -⟩ := hw_1395
                      have M_1395 := dg_sm.tr M_1366 m_1395 (by decide) (by decide)
                      have hz_1396 : (6 : Int32).toInt = 6 := by decide +kernel
                      obtain ⟨y_1397, y_1398, y_1399, y_1400, y_1401, f_y_1397, f_y_1398, f_y_1399, f_y_1400, f_y_1401, w_1395_0⟩ := w_1395_0
                      have w_1395_0 : ((y_1398).toInt ≤ (y_1399).toInt ∧ (y_1399).toInt ≤ (sl).toInt ∧ ((y_1397).toInt ≠ 0 → (y_1398).toInt + 1 ≤ (y_1399).toInt)) ∧ (y_1364).toInt ≤ (y_1398).toInt ∧ ((y_1367).toInt ≠ 0 → (y_1400).toInt ≠ 0) ∧ (((y_1400).toInt = 0 → ((y_1364).toInt + 1 ≤ (y_1398).toInt ∧ (y_1401).toInt = (dp).toInt + 1))) := w_1395_0
                      obtain ⟨⟨w_1395_0_0, w_1395_0_1, w_1395_0_2⟩, w_1395_0_3, w_1395_0_4, w_1395_0_5⟩ := w_1395_0
                      have b_y_1397 : 0 ≤ (y_1397).toInt ∧ (y_1397).toInt ≤ 3 := dg_I.intb (lo := 0) (hi := 3) I_1395 sM_0 (by decide +kernel) f_y_1397
                      have b_y_1398 : 0 ≤ (y_1398).toInt ∧ (y_1398).toInt ≤ 1600 := dg_I.intb (lo := 0) (hi := 1600) I_1395 sM_0 (by decide +kernel) f_y_1398
                      have b_y_1399 : 0 ≤ (y_1399).toInt ∧ (y_1399).toInt ≤ 1600 := dg_I.intb (lo := 0) (hi := 1600) I_1395 sM_0 (by decide +kernel) f_y_1399
                      have b_y_1400 : 0 ≤ (y_1400).toInt ∧ (y_1400).toInt ≤ 6 := dg_I.intb (lo := 0) (hi := 6) I_1395 sM_0 (by decide +kernel) f_y_1400
                      have b_y_1401 : 0 ≤ (y_1401).toInt ∧ (y_1401).toInt ≤ 20 := dg_I.intb (lo := 0) (hi := 20) I_1395 sM_0 (by decide +kernel) f_y_1401
                      have w_1395_1 : ∀ k9 : Int32, S_1395.1 0 8 = .int k9 → k9.toInt = 0 → FRM S_1366 S_1395 (6 : Int32) := w_1395_1
                      refine lv_aload_n hx hb dX12_operand_292 rfl (lv_at hl 3 rfl) ?_
                      refine dg_get (C := RX12) (T := TX12) (N := 77) hx hb hts (fun w h => bw_mem (wU_X12 w h)) hown K hP sM_0 rfl 8 (by decide) (hts _ (bw_mem wB_1133)) (fun _ h9 => h9) (v := .int y_1400) f_y_1400 dX12_operand_293 ?_
                      refine lv_if_ne (tgt := 311) hx hb dX12_operand_296 (by decide) (fun c_1402 => ?_) (fun c_1402 => ?_)
                      · have jc_1402 := dk_neqc (k := 0) (by decide +kernel) c_1402
                        have jbc_1402 : 1 ≤ (y_1400).toInt := by omega
                        clear jc_1402
                        clear w_1395_0_5
                        refine lv_iconst (v := 0) hx hb dX12_operand_311 (by decide +kernel) ?_
                        have hz_1403 : (0 : Int32).toInt = 0 := by decide +kernel
                        have hz_1404 : (0 : Int32).toInt = 0 := by decide +kernel
                        have hz_1405 : (0 : Int32).toInt = 0 := by decide +kernel
                        have hz_1406 : (0 : Int32).toInt = 0 := by decide +kernel
                        refine W.widen (k := 0) (n := 0) (Nat.le_of_ble_eq_true rfl) (Nat.le_of_ble_eq_true rfl) ?_
                        rw [hQ9]
                        exact dg_iret hx hb hr hlocks (by decide +kernel) hP hS ⟨I_1395, M_1395, (by decide +kernel), ⟨y_1397, y_1398, y_1399, y_1400, cd, y_1401, om, f_y_1397, f_y_1398, f_y_1399, f_y_1400, (((m_1395.1 0 34 _ sM_0 (by decide)).trans ((m_1366.1 0 34 _ sM_0 (by decide)).trans ((m_1362.1 0 34 _ sM_0 (by decide)).trans ((dg_uf_F e_574 0 34).trans (m_2.1 0 34 _ sM_0 (by decide)))))).trans f_cd), f_y_1401, (((m_1395.1 0 45 _ sM_0 (by decide)).trans ((m_1366.1 0 45 _ sM_0 (by decide)).trans ((m_1362.1 0 45 _ sM_0 (by decide)).trans ((dg_uf_F e_574 0 45).trans (m_2.1 0 45 _ sM_0 (by decide)))))).trans f_om), (by omega)⟩, (fun k9 hk9 hk0 => by have q9 := (f_y_1400).symm.trans hk9; cases q9; omega), (ZWM.keep (ZWM.keep (ZWM.keep (ZWM.keep (ZWM.keep ZW m_2 (by decide) (by decide) (by decide) (by decide)) (dg_sm.uf (WF := []) (WA := [24]) dg_sm.rf e_574 sM_24 (by decide)) (by decide) (by decide) (by decide) (by decide)) m_1362 (by decide) (by decide) (by decide) (by decide)) m_1366 (by decide) (by decide) (by decide) (by decide)) m_1395 (by decide) (by decide) (by decide) (by decide)), trivial⟩ dX12_operand_312
                      · have jc_1402 := dk_eqc (k := 0) (by decide +kernel) c_1402
                        have w_1395_0_4c : (y_1367).toInt = 0 := by omega
                        clear w_1395_0_4
                        have w_1395_0_5r := w_1395_0_5 (by omega)
                        clear w_1395_0_5
                        obtain ⟨w_1395_0_5r_0, w_1395_0_5r_1⟩ := w_1395_0_5r
                        refine lv_aload_n hx hb dX12_operand_299 rfl (lv_at hl 3 rfl) ?_
                        refine dg_get (C := RX12) (T := TX12) (N := 77) hx hb hts (fun w h => bw_mem (wU_X12 w h)) hown K hP sM_0 rfl 40 (by decide) (hts _ (bw_mem wB_1232)) (fun _ h9 => h9) (v := .ref (o + 25)) (show S_1395.1 0 40 = .ref (o + 25) from dg_I.rel (d := 25) I_1395 sM_0 (by decide +kernel)) dX12_operand_300 ?_
                        refine lv_aload_n hx hb dX12_operand_303 rfl (lv_at hl 3 rfl) ?_
                        refine dg_get (C := RX12) (T := TX12) (N := 77) hx hb hts (fun w h => bw_mem (wU_X12 w h)) hown K hP sM_0 rfl 42 (by decide) (hts _ (bw_mem wB_1203)) (fun _ h9 => h9) (v := .int y_1401) f_y_1401 dX12_operand_304 ?_
                        refine lv_iconst (v := 1) hx hb dX12_operand_307 (by decide +kernel) ?_
                        refine lv_isub hx hb dX12_operand_308 ?_
                        refine lv_topi (fun x_1407 ex_1407 => ?_)
                        have jx_1407 : (x_1407).toInt = (y_1401).toInt - 1 := by rw [ex_1407]; exact dk_subT rfl (by decide +kernel) (by omega) (by omega)
                        refine lv_iload_n hx hb dX12_operand_309 rfl (lv_at hl 0 rfl) ?_
                        have hin_1408 : vp_in x_1407 20 := (dk_inv (by omega) (by omega))
                        refine dg_iast hx hb K hP hS hA1 sM_25 hin_1408 dX12_operand_310 (fun S_1409 e_1409 H locs hP hS => ?_)
                        have I_1409 := dg_I.uf0 I_1395 e_1409 sM_25 (by decide +kernel)
                        have M_1409 := dg_sm.uf M_1395 e_1409 sM_25 (by decide)
                        have P0_1409 : P0M S_1409 := PBM.openp (PBM.keep (PBM.keep PB_574 m_1362 (by decide) (by decide) (by decide) (by decide) (by decide) (by decide) (by decide) (by decide) (by decide) (by decide) (by decide) (by decide) (by decide) (by decide) (by decide)) m_1366 (by decide) (by decide) (by decide) (by decide) (by decide) (by decide) (by decide) (by decide) (by decide) (by decide) (by decide) (by decide) (by decide) (by decide) (by decide)) (((m_1366.1 0 42 _ sM_0 (by decide)).trans ((m_1362.1 0 42 _ sM_0 (by decide)).trans ((dg_uf_F e_574 0 42).trans (m_2.1 0 42 _ sM_0 (by decide))))).trans f_dp) (((m_1366.1 0 43 _ sM_0 (by decide)).trans ((m_1362.1 0 43 _ sM_0 (by decide)).trans ((dg_uf_F e_574 0 43).trans (m_2.1 0 43 _ sM_0 (by decide))))).trans f_on) (((m_1366.1 0 45 _ sM_0 (by decide)).trans ((m_1362.1 0 45 _ sM_0 (by decide)).trans ((dg_uf_F e_574 0 45).trans (m_2.1 0 45 _ sM_0 (by decide))))).trans f_om) (w_1395_1 _ f_y_1400 (by omega)) m_1395 (by decide) (by decide) (by decide) (by decide) (by omega) f_y_1401 (by omega) e_1409
                        refine lv_iconst (v := 0) hx hb dX12_operand_311 (by decide +kernel) ?_
                        have hz_1410 : (0 : Int32).toInt = 0 := by decide +kernel
                        have hz_1411 : (0 : Int32).toInt = 0 := by decide +kernel
                        have hz_1412 : (0 : Int32).toInt = 0 := by decide +kernel
                        have hz_1413 : (0 : Int32).toInt = 0 := by decide +kernel
                        refine W.widen (k := 0) (n := 0) (Nat.le_of_ble_eq_true rfl) (Nat.le_of_ble_eq_true rfl) ?_
                        rw [hQ9]
                        exact dg_iret hx hb hr hlocks (by decide +kernel) hP hS ⟨I_1409, M_1409, (by decide +kernel), ⟨y_1397, y_1398, y_1399, y_1400, cd, y_1401, om, ((dg_uf_F e_1409 0 3).trans f_y_1397), ((dg_uf_F e_1409 0 4).trans f_y_1398), ((dg_uf_F e_1409 0 5).trans f_y_1399), ((dg_uf_F e_1409 0 8).trans f_y_1400), (((dg_uf_F e_1409 0 34).trans ((m_1395.1 0 34 _ sM_0 (by decide)).trans ((m_1366.1 0 34 _ sM_0 (by decide)).trans ((m_1362.1 0 34 _ sM_0 (by decide)).trans ((dg_uf_F e_574 0 34).trans (m_2.1 0 34 _ sM_0 (by decide))))))).trans f_cd), ((dg_uf_F e_1409 0 42).trans f_y_1401), (((dg_uf_F e_1409 0 45).trans ((m_1395.1 0 45 _ sM_0 (by decide)).trans ((m_1366.1 0 45 _ sM_0 (by decide)).trans ((m_1362.1 0 45 _ sM_0 (by decide)).trans ((dg_uf_F e_574 0 45).trans (m_2.1 0 45 _ sM_0 (by decide))))))).trans f_om), (by omega)⟩, (fun k9 hk9 hk0 => ⟨fun h9 => absurd h9 (by decide +kernel), fun _ => P0_1409⟩), (ZWM.keep (ZWM.keep (ZWM.keep (ZWM.keep (ZWM.keep (ZWM.keep ZW m_2 (by decide) (by decide) (by decide) (by decide)) (dg_sm.uf (WF := []) (WA := [24]) dg_sm.rf e_574 sM_24 (by decide)) (by decide) (by decide) (by decide) (by decide)) m_1362 (by decide) (by decide) (by decide) (by decide)) m_1366 (by decide) (by decide) (by decide) (by decide)) m_1395 (by decide) (by decide) (by decide) (by decide)) (dg_sm.uf (WF := []) (WA := [25]) dg_sm.rf e_1409 sM_25 (by decide)) (by decide) (by decide) (by decide) (by decide)), trivial⟩ dX12_operand_312
                  · have jc_1372 := dk_eqc (k := 0) (by decide +kernel) c_1372
                    clear w_1370_1
                    refine lv_aload_n hx hb dX12_operand_267 rfl (lv_at hl 3 rfl) ?_
                    refine lv_iconst (v := 1) hx hb dX12_operand_268 (by decide +kernel) ?_
                    refine lv_aload_n hx hb dX12_operand_269 rfl (lv_at hl 3 rfl) ?_
                    refine dg_get (C := RX12) (T := TX12) (N := 77) hx hb hts (fun w h => bw_mem (wU_X12 w h)) hown K hP sM_0 rfl 4 (by decide) (hts _ (bw_mem wB_1145)) (fun _ h9 => h9) (v := .int y_1364) ((m_1366.1 0 4 _ sM_0 (by decide)).trans f_y_1364) dX12_operand_270 ?_
                    have hz_1414 : (1 : Int32).toInt = 1 := by decide +kernel
                    refine dg_callv hS hA1 hA (va_runV (As := [.int 1, .int y_1364]) (rest := []) F (c_m_blame l g D o S_1366 1 (by decide +kernel) y_1364 y_1367 f_y_1367 (by omega) I_1366 H.size) (cwV 2 hts (bw_V wB_1137 wB_1138 wB_1139 wB_881 wB_1136) rfl rfl rfl (by decide +kernel) ⟨Nat.le_of_ble_eq_true rfl, Nat.le_of_ble_eq_true rfl⟩) (dg_preV sM_0 rfl K ST hP hS hA1 hA) rfl rfl hl.1 rfl (lv_room (Nat.le_of_ble_eq_true rfl)) dX12_operand_273 ⟨Nat.le_of_ble_eq_true rfl, Nat.le_of_ble_eq_true rfl⟩) (fun S_1415 hw_1415 H locs hP hS => ?_)
                    obtain ⟨I_1415, m_1415, w_1415_0, -⟩ := hw_1415
                    have M_1415 := dg_sm.tr M_1366 m_1415 (by decide) (by decide)
                    have hz_1416 : (1 : Int32).toInt = 1 := by decide +kernel
                    obtain ⟨y_1417, f_y_1417, w_1415_0⟩ := w_1415_0
                    have w_1415_0 : ((y_1367).toInt ≠ 0 → (y_1417).toInt = (y_1367).toInt) ∧ ((y_1367).toInt = 0 → (y_1417).toInt = ((1 : Int32)).toInt) := w_1415_0
                    obtain ⟨w_1415_0_0, w_1415_0_1⟩ := w_1415_0
                    have b_y_1417 : 0 ≤ (y_1417).toInt ∧ (y_1417).toInt ≤ 6 := dg_I.intb (lo := 0) (hi := 6) I_1415 sM_0 (by decide +kernel) f_y_1417
                    have hbl_y_1417 : 1 ≤ (y_1417).toInt := by omega
                    refine lv_aload_n hx hb dX12_operand_276 rfl (lv_at hl 3 rfl) ?_
                    refine lv_iload_n hx hb dX12_operand_277 rfl (lv_at hl 0 rfl) ?_
                    refine lv_bipush (v := 44) hx hb dX12_operand_278 (by decide +kernel) ?_
                    refine lv_icmp_ne (tgt := 288) hx hb dX12_operand_280 (by decide) (fun c_1418 => ?_) (fun c_1418 => ?_)
                    · have jc_1418 := dk_neqc (k := 44) (by decide +kernel) c_1418
                      have jtc_1418 : (x_1263).toInt ≤ 43 := by omega
                      clear jc_1418
                      refine lv_iconst (v := 3) hx hb dX12_operand_288 (by decide +kernel) ?_
                      have hz_1419 : (3 : Int32).toInt = 3 := by decide +kernel
                      refine dg_callv hS hA1 hA (va_runV (As := [.int 3]) (rest := []) F (c_m_frames l g D o S_1415 3 (by decide +kernel) y_1363 (((m_1415.1 0 3 _ sM_0 (by decide)).trans (m_1366.1 0 3 _ sM_0 (by decide))).trans f_y_1363) (by omega) y_1364 (((m_1415.1 0 4 _ sM_0 (by decide)).trans (m_1366.1 0 4 _ sM_0 (by decide))).trans f_y_1364) (by omega) y_1365 (((m_1415.1 0 5 _ sM_0 (by decide)).trans (m_1366.1 0 5 _ sM_0 (by decide))).trans f_y_1365) (by omega) sl (((m_1415.1 0 2 _ sM_0 (by decide)).trans ((m_1366.1 0 2 _ sM_0 (by decide)).trans ((m_1362.1 0 2 _ sM_0 (by decide)).trans ((dg_uf_F e_574 0 2).trans (m_2.1 0 2 _ sM_0 (by decide)))))).trans f_sl) (by omega) y_1417 f_y_1417 (by omega) dp (((m_1415.1 0 42 _ sM_0 (by decide)).trans ((m_1366.1 0 42 _ sM_0 (by decide)).trans ((m_1362.1 0 42 _ sM_0 (by decide)).trans ((dg_uf_F e_574 0 42).trans (m_2.1 0 42 _ sM_0 (by decide)))))).trans f_dp) (by omega) om (((m_1415.1 0 45 _ sM_0 (by decide)).trans ((m_1366.1 0 45 _ sM_0 (by decide)).trans ((m_1362.1 0 45 _ sM_0 (by decide)).trans ((dg_uf_F e_574 0 45).trans (m_2.1 0 45 _ sM_0 (by decide)))))).trans f_om) (by omega) on (((m_1415.1 0 43 _ sM_0 (by decide)).trans ((m_1366.1 0 43 _ sM_0 (by decide)).trans ((m_1362.1 0 43 _ sM_0 (by decide)).trans ((dg_uf_F e_574 0 43).trans (m_2.1 0 43 _ sM_0 (by decide)))))).trans f_on) (by omega) (by omega) (by omega) I_1415 H.size) (cwV 1 hts (bw_V wB_1228 wB_1229 wB_1230 wB_881 wB_1227) rfl rfl rfl (by decide +kernel) ⟨Nat.le_of_ble_eq_true rfl, Nat.le_of_ble_eq_true rfl⟩) (dg_preV sM_0 rfl K ST hP hS hA1 hA) rfl rfl hl.1 rfl (lv_room (Nat.le_of_ble_eq_true rfl)) dX12_operand_289 ⟨Nat.le_of_ble_eq_true rfl, Nat.le_of_ble_eq_true rfl⟩) (fun S_1420 hw_1420 H locs hP hS => ?_)
                      obtain ⟨I_1420, m_1420, w_1420_0, w_1420_1, -⟩ := hw_1420
                      have M_1420 := dg_sm.tr M_1415 m_1420 (by decide) (by decide)
                      have hz_1421 : (3 : Int32).toInt = 3 := by decide +kernel
                      obtain ⟨y_1422, y_1423, y_1424, y_1425, y_1426, f_y_1422, f_y_1423, f_y_1424, f_y_1425, f_y_1426, w_1420_0⟩ := w_1420_0
                      have w_1420_0 : ((y_1423).toInt ≤ (y_1424).toInt ∧ (y_1424).toInt ≤ (sl).toInt ∧ ((y_1422).toInt ≠ 0 → (y_1423).toInt + 1 ≤ (y_1424).toInt)) ∧ (y_1364).toInt ≤ (y_1423).toInt ∧ ((y_1417).toInt ≠ 0 → (y_1425).toInt ≠ 0) ∧ (((y_1425).toInt = 0 → ((y_1364).toInt + 1 ≤ (y_1423).toInt ∧ (y_1426).toInt = (dp).toInt + 1))) := w_1420_0
                      obtain ⟨⟨w_1420_0_0, w_1420_0_1, w_1420_0_2⟩, w_1420_0_3, w_1420_0_4, w_1420_0_5⟩ := w_1420_0
                      have w_1420_0_4r := w_1420_0_4 (by omega)
                      clear w_1420_0_4
                      have b_y_1422 : 0 ≤ (y_1422).toInt ∧ (y_1422).toInt ≤ 3 := dg_I.intb (lo := 0) (hi := 3) I_1420 sM_0 (by decide +kernel) f_y_1422
                      have b_y_1423 : 0 ≤ (y_1423).toInt ∧ (y_1423).toInt ≤ 1600 := dg_I.intb (lo := 0) (hi := 1600) I_1420 sM_0 (by decide +kernel) f_y_1423
                      have b_y_1424 : 0 ≤ (y_1424).toInt ∧ (y_1424).toInt ≤ 1600 := dg_I.intb (lo := 0) (hi := 1600) I_1420 sM_0 (by decide +kernel) f_y_1424
                      have b_y_1425 : 0 ≤ (y_1425).toInt ∧ (y_1425).toInt ≤ 6 := dg_I.intb (lo := 0) (hi := 6) I_1420 sM_0 (by decide +kernel) f_y_1425
                      have b_y_1426 : 0 ≤ (y_1426).toInt ∧ (y_1426).toInt ≤ 20 := dg_I.intb (lo := 0) (hi := 20) I_1420 sM_0 (by decide +kernel) f_y_1426
                      have w_1420_1 : ∀ k9 : Int32, S_1420.1 0 8 = .int k9 → k9.toInt = 0 → FRM S_1415 S_1420 (3 : Int32) := w_1420_1
                      refine lv_aload_n hx hb dX12_operand_292 rfl (lv_at hl 3 rfl) ?_
                      refine dg_get (C := RX12) (T := TX12) (N := 77) hx hb hts (fun w h => bw_mem (wU_X12 w h)) hown K hP sM_0 rfl 8 (by decide) (hts _ (bw_mem wB_1133)) (fun _ h9 => h9) (v := .int y_1425) f_y_1425 dX12_operand_293 ?_
                      refine lv_if_ne (tgt := 311) hx hb dX12_operand_296 (by decide) (fun c_1427 => ?_) (fun c_1427 => ?_)
                      · have jc_1427 := dk_neqc (k := 0) (by decide +kernel) c_1427
                        have jbc_1427 : 1 ≤ (y_1425).toInt := by omega
                        clear jc_1427
                        clear w_1420_0_5
                        refine lv_iconst (v := 0) hx hb dX12_operand_311 (by decide +kernel) ?_
                        have hz_1428 : (0 : Int32).toInt = 0 := by decide +kernel
                        have hz_1429 : (0 : Int32).toInt = 0 := by decide +kernel
                        have hz_1430 : (0 : Int32).toInt = 0 := by decide +kernel
                        have hz_1431 : (0 : Int32).toInt = 0 := by decide +kernel
                        refine W.widen (k := 0) (n := 0) (Nat.le_of_ble_eq_true rfl) (Nat.le_of_ble_eq_true rfl) ?_
                        rw [hQ9]
                        exact dg_iret hx hb hr hlocks (by decide +kernel) hP hS ⟨I_1420, M_1420, (by decide +kernel), ⟨y_1422, y_1423, y_1424, y_1425, cd, y_1426, om, f_y_1422, f_y_1423, f_y_1424, f_y_1425, (((m_1420.1 0 34 _ sM_0 (by decide)).trans ((m_1415.1 0 34 _ sM_0 (by decide)).trans ((m_1366.1 0 34 _ sM_0 (by decide)).trans ((m_1362.1 0 34 _ sM_0 (by decide)).trans ((dg_uf_F e_574 0 34).trans (m_2.1 0 34 _ sM_0 (by decide))))))).trans f_cd), f_y_1426, (((m_1420.1 0 45 _ sM_0 (by decide)).trans ((m_1415.1 0 45 _ sM_0 (by decide)).trans ((m_1366.1 0 45 _ sM_0 (by decide)).trans ((m_1362.1 0 45 _ sM_0 (by decide)).trans ((dg_uf_F e_574 0 45).trans (m_2.1 0 45 _ sM_0 (by decide))))))).trans f_om), (by omega)⟩, (fun k9 hk9 hk0 => by have q9 := (f_y_1425).symm.trans hk9; cases q9; omega), (ZWM.keep (ZWM.keep (ZWM.keep (ZWM.keep (ZWM.keep (ZWM.keep ZW m_2 (by decide) (by decide) (by decide) (by decide)) (dg_sm.uf (WF := []) (WA := [24]) dg_sm.rf e_574 sM_24 (by decide)) (by decide) (by decide) (by decide) (by decide)) m_1362 (by decide) (by decide) (by decide) (by decide)) m_1366 (by decide) (by decide) (by decide) (by decide)) m_1415 (by decide) (by decide) (by decide) (by decide)) m_1420 (by decide) (by decide) (by decide) (by decide)), trivial⟩ dX12_operand_312
                      · have jc_1427 := dk_eqc (k := 0) (by decide +kernel) c_1427
                        have w_1420_0_5r := w_1420_0_5 (by omega)
                        clear w_1420_0_5
                        obtain ⟨w_1420_0_5r_0, w_1420_0_5r_1⟩ := w_1420_0_5r
                        refine lv_aload_n hx hb dX12_operand_299 rfl (lv_at hl 3 rfl) ?_
                        refine dg_get (C := RX12) (T := TX12) (N := 77) hx hb hts (fun w h => bw_mem (wU_X12 w h)) hown K hP sM_0 rfl 40 (by decide) (hts _ (bw_mem wB_1232)) (fun _ h9 => h9) (v := .ref (o + 25)) (show S_1420.1 0 40 = .ref (o + 25) from dg_I.rel (d := 25) I_1420 sM_0 (by decide +kernel)) dX12_operand_300 ?_
                        refine lv_aload_n hx hb dX12_operand_303 rfl (lv_at hl 3 rfl) ?_
                        refine dg_get (C := RX12) (T := TX12) (N := 77) hx hb hts (fun w h => bw_mem (wU_X12 w h)) hown K hP sM_0 rfl 42 (by decide) (hts _ (bw_mem wB_1203)) (fun _ h9 => h9) (v := .int y_1426) f_y_1426 dX12_operand_304 ?_
                        refine lv_iconst (v := 1) hx hb dX12_operand_307 (by decide +kernel) ?_
                        refine lv_isub hx hb dX12_operand_308 ?_
                        refine lv_topi (fun x_1432 ex_1432 => ?_)
                        have jx_1432 : (x_1432).toInt = (y_1426).toInt - 1 := by rw [ex_1432]; exact dk_subT rfl (by decide +kernel) (by omega) (by omega)
                        refine lv_iload_n hx hb dX12_operand_309 rfl (lv_at hl 0 rfl) ?_
                        have hin_1433 : vp_in x_1432 20 := (dk_inv (by omega) (by omega))
                        refine dg_iast hx hb K hP hS hA1 sM_25 hin_1433 dX12_operand_310 (fun S_1434 e_1434 H locs hP hS => ?_)
                        have I_1434 := dg_I.uf0 I_1420 e_1434 sM_25 (by decide +kernel)
                        have M_1434 := dg_sm.uf M_1420 e_1434 sM_25 (by decide)
                        have P0_1434 : P0M S_1434 := PBM.openp (PBM.keep (PBM.keep (PBM.keep PB_574 m_1362 (by decide) (by decide) (by decide) (by decide) (by decide) (by decide) (by decide) (by decide) (by decide) (by decide) (by decide) (by decide) (by decide) (by decide) (by decide)) m_1366 (by decide) (by decide) (by decide) (by decide) (by decide) (by decide) (by decide) (by decide) (by decide) (by decide) (by decide) (by decide) (by decide) (by decide) (by decide)) m_1415 (by decide) (by decide) (by decide) (by decide) (by decide) (by decide) (by decide) (by decide) (by decide) (by decide) (by decide) (by decide) (by decide) (by decide) (by decide)) (((m_1415.1 0 42 _ sM_0 (by decide)).trans ((m_1366.1 0 42 _ sM_0 (by decide)).trans ((m_1362.1 0 42 _ sM_0 (by decide)).trans ((dg_uf_F e_574 0 42).trans (m_2.1 0 42 _ sM_0 (by decide)))))).trans f_dp) (((m_1415.1 0 43 _ sM_0 (by decide)).trans ((m_1366.1 0 43 _ sM_0 (by decide)).trans ((m_1362.1 0 43 _ sM_0 (by decide)).trans ((dg_uf_F e_574 0 43).trans (m_2.1 0 43 _ sM_0 (by decide)))))).trans f_on) (((m_1415.1 0 45 _ sM_0 (by decide)).trans ((m_1366.1 0 45 _ sM_0 (by decide)).trans ((m_1362.1 0 45 _ sM_0 (by decide)).trans ((dg_uf_F e_574 0 45).trans (m_2.1 0 45 _ sM_0 (by decide)))))).trans f_om) (w_1420_1 _ f_y_1425 (by omega)) m_1420 (by decide) (by decide) (by decide) (by decide) (by omega) f_y_1426 (by omega) e_1434
                        refine lv_iconst (v := 0) hx hb dX12_operand_311 (by decide +kernel) ?_
                        have hz_1435 : (0 : Int32).toInt = 0 := by decide +kernel
                        have hz_1436 : (0 : Int32).toInt = 0 := by decide +kernel
                        have hz_1437 : (0 : Int32).toInt = 0 := by decide +kernel
                        have hz_1438 : (0 : Int32).toInt = 0 := by decide +kernel
                        refine W.widen (k := 0) (n := 0) (Nat.le_of_ble_eq_true rfl) (Nat.le_of_ble_eq_true rfl) ?_
                        rw [hQ9]
                        exact dg_iret hx hb hr hlocks (by decide +kernel) hP hS ⟨I_1434, M_1434, (by decide +kernel), ⟨y_1422, y_1423, y_1424, y_1425, cd, y_1426, om, ((dg_uf_F e_1434 0 3).trans f_y_1422), ((dg_uf_F e_1434 0 4).trans f_y_1423), ((dg_uf_F e_1434 0 5).trans f_y_1424), ((dg_uf_F e_1434 0 8).trans f_y_1425), (((dg_uf_F e_1434 0 34).trans ((m_1420.1 0 34 _ sM_0 (by decide)).trans ((m_1415.1 0 34 _ sM_0 (by decide)).trans ((m_1366.1 0 34 _ sM_0 (by decide)).trans ((m_1362.1 0 34 _ sM_0 (by decide)).trans ((dg_uf_F e_574 0 34).trans (m_2.1 0 34 _ sM_0 (by decide)))))))).trans f_cd), ((dg_uf_F e_1434 0 42).trans f_y_1426), (((dg_uf_F e_1434 0 45).trans ((m_1420.1 0 45 _ sM_0 (by decide)).trans ((m_1415.1 0 45 _ sM_0 (by decide)).trans ((m_1366.1 0 45 _ sM_0 (by decide)).trans ((m_1362.1 0 45 _ sM_0 (by decide)).trans ((dg_uf_F e_574 0 45).trans (m_2.1 0 45 _ sM_0 (by decide)))))))).trans f_om), (by omega)⟩, (fun k9 hk9 hk0 => ⟨fun h9 => absurd h9 (by decide +kernel), fun _ => P0_1434⟩), (ZWM.keep (ZWM.keep (ZWM.keep (ZWM.keep (ZWM.keep (ZWM.keep (ZWM.keep ZW m_2 (by decide) (by decide) (by decide) (by decide)) (dg_sm.uf (WF := []) (WA := [24]) dg_sm.rf e_574 sM_24 (by decide)) (by decide) (by decide) (by decide) (by decide)) m_1362 (by decide) (by decide) (by decide) (by decide)) m_1366 (by decide) (by decide) (by decide) (by decide)) m_1415 (by decide) (by decide) (by decide) (by decide)) m_1420 (by decide) (by decide) (by decide) (by decide)) (dg_sm.uf (WF := []) (WA := [25]) dg_sm.rf e_1434 sM_25 (by decide)) (by decide) (by decide) (by decide) (by decide)), trivial⟩ dX12_operand_312
                    · have jc_1418 := dk_eqc (k := 44) (by decide +kernel) c_1418
                      refine lv_bipush (v := 6) hx hb dX12_operand_283 (by decide +kernel) ?_
                      refine lv_goto (tgt := 289) hx hb dX12_operand_285 (by decide) ?_
                      have hz_1439 : (6 : Int32).toInt = 6 := by decide +kernel
                      refine dg_callv hS hA1 hA (va_runV (As := [.int 6]) (rest := []) F (c_m_frames l g D o S_1415 6 (by decide +kernel) y_1363 (((m_1415.1 0 3 _ sM_0 (by decide)).trans (m_1366.1 0 3 _ sM_0 (by decide))).trans f_y_1363) (by omega) y_1364 (((m_1415.1 0 4 _ sM_0 (by decide)).trans (m_1366.1 0 4 _ sM_0 (by decide))).trans f_y_1364) (by omega) y_1365 (((m_1415.1 0 5 _ sM_0 (by decide)).trans (m_1366.1 0 5 _ sM_0 (by decide))).trans f_y_1365) (by omega) sl (((m_1415.1 0 2 _ sM_0 (by decide)).trans ((m_1366.1 0 2 _ sM_0 (by decide)).trans ((m_1362.1 0 2 _ sM_0 (by decide)).trans ((dg_uf_F e_574 0 2).trans (m_2.1 0 2 _ sM_0 (by decide)))))).trans f_sl) (by omega) y_1417 f_y_1417 (by omega) dp (((m_1415.1 0 42 _ sM_0 (by decide)).trans ((m_1366.1 0 42 _ sM_0 (by decide)).trans ((m_1362.1 0 42 _ sM_0 (by decide)).trans ((dg_uf_F e_574 0 42).trans (m_2.1 0 42 _ sM_0 (by decide)))))).trans f_dp) (by omega) om (((m_1415.1 0 45 _ sM_0 (by decide)).trans ((m_1366.1 0 45 _ sM_0 (by decide)).trans ((m_1362.1 0 45 _ sM_0 (by decide)).trans ((dg_uf_F e_574 0 45).trans (m_2.1 0 45 _ sM_0 (by decide)))))).trans f_om) (by omega) on (((m_1415.1 0 43 _ sM_0 (by decide)).trans ((m_1366.1 0 43 _ sM_0 (by decide)).trans ((m_1362.1 0 43 _ sM_0 (by decide)).trans ((dg_uf_F e_574 0 43).trans (m_2.1 0 43 _ sM_0 (by decide)))))).trans f_on) (by omega) (by omega) (by omega) I_1415 H.size) (cwV 1 hts (bw_V wB_1228 wB_1229 wB_1230 wB_881 wB_1227) rfl rfl rfl (by decide +kernel) ⟨Nat.le_of_ble_eq_true rfl, Nat.le_of_ble_eq_true rfl⟩) (dg_preV sM_0 rfl K ST hP hS hA1 hA) rfl rfl hl.1 rfl (lv_room (Nat.le_of_ble_eq_true rfl)) dX12_operand_289 ⟨Nat.le_of_ble_eq_true rfl, Nat.le_of_ble_eq_true rfl⟩) (fun S_1440 hw_1440 H locs hP hS => ?_)
                      obtain ⟨I_1440, m_1440, w_1440_0, w_1440_1, -⟩ := hw_1440
                      have M_1440 := dg_sm.tr M_1415 m_1440 (by decide) (by decide)
                      have hz_1441 : (6 : Int32).toInt = 6 := by decide +kernel
                      obtain ⟨y_1442, y_1443, y_1444, y_1445, y_1446, f_y_1442, f_y_1443, f_y_1444, f_y_1445, f_y_1446, w_1440_0⟩ := w_1440_0
                      have w_1440_0 : ((y_1443).toInt ≤ (y_1444).toInt ∧ (y_1444).toInt ≤ (sl).toInt ∧ ((y_1442).toInt ≠ 0 → (y_1443).toInt + 1 ≤ (y_1444).toInt)) ∧ (y_1364).toInt ≤ (y_1443).toInt ∧ ((y_1417).toInt ≠ 0 → (y_1445).toInt ≠ 0) ∧ (((y_1445).toInt = 0 → ((y_1364).toInt + 1 ≤ (y_1443).toInt ∧ (y_1446).toInt = (dp).toInt + 1))) := w_1440_0
                      obtain ⟨⟨w_1440_0_0, w_1440_0_1, w_1440_0_2⟩, w_1440_0_3, w_1440_0_4, w_1440_0_5⟩ := w_1440_0
                      have w_1440_0_4r := w_1440_0_4 (by omega)
                      clear w_1440_0_4
                      have b_y_1442 : 0 ≤ (y_1442).toInt ∧ (y_1442).toInt ≤ 3 := dg_I.intb (lo := 0) (hi := 3) I_1440 sM_0 (by decide +kernel) f_y_1442
                      have b_y_1443 : 0 ≤ (y_1443).toInt ∧ (y_1443).toInt ≤ 1600 := dg_I.intb (lo := 0) (hi := 1600) I_1440 sM_0 (by decide +kernel) f_y_1443
                      have b_y_1444 : 0 ≤ (y_1444).toInt ∧ (y_1444).toInt ≤ 1600 := dg_I.intb (lo := 0) (hi := 1600) I_1440 sM_0 (by decide +kernel) f_y_1444
                      have b_y_1445 : 0 ≤ (y_1445).toInt ∧ (y_1445).toInt ≤ 6 := dg_I.intb (lo := 0) (hi := 6) I_1440 sM_0 (by decide +kernel) f_y_1445
                      have b_y_1446 : 0 ≤ (y_1446).toInt ∧ (y_1446).toInt ≤ 20 := dg_I.intb (lo := 0) (hi := 20) I_1440 sM_0 (by decide +kernel) f_y_1446
                      have w_1440_1 : ∀ k9 : Int32, S_1440.1 0 8 = .int k9 → k9.toInt = 0 → FRM S_1415 S_1440 (6 : Int32) := w_1440_1
                      refine lv_aload_n hx hb dX12_operand_292 rfl (lv_at hl 3 rfl) ?_
                      refine dg_get (C := RX12) (T := TX12) (N := 77) hx hb hts (fun w h => bw_mem (wU_X12 w h)) hown K hP sM_0 rfl 8 (by decide) (hts _ (bw_mem wB_1133)) (fun _ h9 => h9) (v := .int y_1445) f_y_1445 dX12_operand_293 ?_
                      refine lv_if_ne (tgt := 311) hx hb dX12_operand_296 (by decide) (fun c_1447 => ?_) (fun c_1447 => ?_)
                      · have jc_1447 := dk_neqc (k := 0) (by decide +kernel) c_1447
                        have jbc_1447 : 1 ≤ (y_1445).toInt := by omega
                        clear jc_1447
                        clear w_1440_0_5
                        refine lv_iconst (v := 0) hx hb dX12_operand_311 (by decide +kernel) ?_
                        have hz_1448 : (0 : Int32).toInt = 0 := by decide +kernel
                        have hz_1449 : (0 : Int32).toInt = 0 := by decide +kernel
                        have hz_1450 : (0 : Int32).toInt = 0 := by decide +kernel
                        have hz_1451 : (0 : Int32).toInt = 0 := by decide +kernel
                        refine W.widen (k := 0) (n := 0) (Nat.le_of_ble_eq_true rfl) (Nat.le_of_ble_eq_true rfl) ?_
                        rw [hQ9]
                        exact dg_iret hx hb hr hlocks (by decide +kernel) hP hS ⟨I_1440, M_1440, (by decide +kernel), ⟨y_1442, y_1443, y_1444, y_1445, cd, y_1446, om, f_y_1442, f_y_1443, f_y_1444, f_y_1445, (((m_1440.1 0 34 _ sM_0 (by decide)).trans ((m_1415.1 0 34 _ sM_0 (by decide)).trans ((m_1366.1 0 34 _ sM_0 (by decide)).trans ((m_1362.1 0 34 _ sM_0 (by decide)).trans ((dg_uf_F e_574 0 34).trans (m_2.1 0 34 _ sM_0 (by decide))))))).trans f_cd), f_y_1446, (((m_1440.1 0 45 _ sM_0 (by decide)).trans ((m_1415.1 0 45 _ sM_0 (by decide)).trans ((m_1366.1 0 45 _ sM_0 (by decide)).trans ((m_1362.1 0 45 _ sM_0 (by decide)).trans ((dg_uf_F e_574 0 45).trans (m_2.1 0 45 _ sM_0 (by decide))))))).trans f_om), (by omega)⟩, (fun k9 hk9 hk0 => by have q9 := (f_y_1445).symm.trans hk9; cases q9; omega), (ZWM.keep (ZWM.keep (ZWM.keep (ZWM.keep (ZWM.keep (ZWM.keep ZW m_2 (by decide) (by decide) (by decide) (by decide)) (dg_sm.uf (WF := []) (WA := [24]) dg_sm.rf e_574 sM_24 (by decide)) (by decide) (by decide) (by decide) (by decide)) m_1362 (by decide) (by decide) (by decide) (by decide)) m_1366 (by decide) (by decide) (by decide) (by decide)) m_1415 (by decide) (by decide) (by decide) (by decide)) m_1440 (by decide) (by decide) (by decide) (by decide)), trivial⟩ dX12_operand_312
                      · have jc_1447 := dk_eqc (k := 0) (by decide +kernel) c_1447
                        have w_1440_0_5r := w_1440_0_5 (by omega)
                        clear w_1440_0_5
                        obtain ⟨w_1440_0_5r_0, w_1440_0_5r_1⟩ := w_1440_0_5r
                        refine lv_aload_n hx hb dX12_operand_299 rfl (lv_at hl 3 rfl) ?_
                        refine dg_get (C := RX12) (T := TX12) (N := 77) hx hb hts (fun w h => bw_mem (wU_X12 w h)) hown K hP sM_0 rfl 40 (by decide) (hts _ (bw_mem wB_1232)) (fun _ h9 => h9) (v := .ref (o + 25)) (show S_1440.1 0 40 = .ref (o + 25) from dg_I.rel (d := 25) I_1440 sM_0 (by decide +kernel)) dX12_operand_300 ?_
                        refine lv_aload_n hx hb dX12_operand_303 rfl (lv_at hl 3 rfl) ?_
                        refine dg_get (C := RX12) (T := TX12) (N := 77) hx hb hts (fun w h => bw_mem (wU_X12 w h)) hown K hP sM_0 rfl 42 (by decide) (hts _ (bw_mem wB_1203)) (fun _ h9 => h9) (v := .int y_1446) f_y_1446 dX12_operand_304 ?_
                        refine lv_iconst (v := 1) hx hb dX12_operand_307 (by decide +kernel) ?_
                        refine lv_isub hx hb dX12_operand_308 ?_
                        refine lv_topi (fun x_1452 ex_1452 => ?_)
                        have jx_1452 : (x_1452).toInt = (y_1446).toInt - 1 := by rw [ex_1452]; exact dk_subT rfl (by decide +kernel) (by omega) (by omega)
                        refine lv_iload_n hx hb dX12_operand_309 rfl (lv_at hl 0 rfl) ?_
                        have hin_1453 : vp_in x_1452 20 := (dk_inv (by omega) (by omega))
                        refine dg_iast hx hb K hP hS hA1 sM_25 hin_1453 dX12_operand_310 (fun S_1454 e_1454 H locs hP hS => ?_)
                        have I_1454 := dg_I.uf0 I_1440 e_1454 sM_25 (by decide +kernel)
                        have M_1454 := dg_sm.uf M_1440 e_1454 sM_25 (by decide)
                        have P0_1454 : P0M S_1454 := PBM.openp (PBM.keep (PBM.keep (PBM.keep PB_574 m_1362 (by decide) (by decide) (by decide) (by decide) (by decide) (by decide) (by decide) (by decide) (by decide) (by decide) (by decide) (by decide) (by decide) (by decide) (by decide)) m_1366 (by decide) (by decide) (by decide) (by decide) (by decide) (by decide) (by decide) (by decide) (by decide) (by decide) (by decide) (by decide) (by decide) (by decide) (by decide)) m_1415 (by decide) (by decide) (by decide) (by decide) (by decide) (by decide) (by decide) (by decide) (by decide) (by decide) (by decide) (by decide) (by decide) (by decide) (by decide)) (((m_1415.1 0 42 _ sM_0 (by decide)).trans ((m_1366.1 0 42 _ sM_0 (by decide)).trans ((m_1362.1 0 42 _ sM_0 (by decide)).trans ((dg_uf_F e_574 0 42).trans (m_2.1 0 42 _ sM_0 (by decide)))))).trans f_dp) (((m_1415.1 0 43 _ sM_0 (by decide)).trans ((m_1366.1 0 43 _ sM_0 (by decide)).trans ((m_1362.1 0 43 _ sM_0 (by decide)).trans ((dg_uf_F e_574 0 43).trans (m_2.1 0 43 _ sM_0 (by decide)))))).trans f_on) (((m_1415.1 0 45 _ sM_0 (by decide)).trans ((m_1366.1 0 45 _ sM_0 (by decide)).trans ((m_1362.1 0 45 _ sM_0 (by decide)).trans ((dg_uf_F e_574 0 45).trans (m_2.1 0 45 _ sM_0 (by decide)))))).trans f_om) (w_1440_1 _ f_y_1445 (by omega)) m_1440 (by decide) (by decide) (by decide) (by decide) (by omega) f_y_1446 (by omega) e_1454
                        refine lv_iconst (v := 0) hx hb dX12_operand_311 (by decide +kernel) ?_
                        have hz_1455 : (0 : Int32).toInt = 0 := by decide +kernel
                        have hz_1456 : (0 : Int32).toInt = 0 := by decide +kernel
                        have hz_1457 : (0 : Int32).toInt = 0 := by decide +kernel
                        have hz_1458 : (0 : Int32).toInt = 0 := by decide +kernel
                        refine W.widen (k := 0) (n := 0) (Nat.le_of_ble_eq_true rfl) (Nat.le_of_ble_eq_true rfl) ?_
                        rw [hQ9]
                        exact dg_iret hx hb hr hlocks (by decide +kernel) hP hS ⟨I_1454, M_1454, (by decide +kernel), ⟨y_1442, y_1443, y_1444, y_1445, cd, y_1446, om, ((dg_uf_F e_1454 0 3).trans f_y_1442), ((dg_uf_F e_1454 0 4).trans f_y_1443), ((dg_uf_F e_1454 0 5).trans f_y_1444), ((dg_uf_F e_1454 0 8).trans f_y_1445), (((dg_uf_F e_1454 0 34).trans ((m_1440.1 0 34 _ sM_0 (by decide)).trans ((m_1415.1 0 34 _ sM_0 (by decide)).trans ((m_1366.1 0 34 _ sM_0 (by decide)).trans ((m_1362.1 0 34 _ sM_0 (by decide)).trans ((dg_uf_F e_574 0 34).trans (m_2.1 0 34 _ sM_0 (by decide)))))))).trans f_cd), ((dg_uf_F e_1454 0 42).trans f_y_1446), (((dg_uf_F e_1454 0 45).trans ((m_1440.1 0 45 _ sM_0 (by decide)).trans ((m_1415.1 0 45 _ sM_0 (by decide)).trans ((m_1366.1 0 45 _ sM_0 (by decide)).trans ((m_1362.1 0 45 _ sM_0 (by decide)).trans ((dg_uf_F e_574 0 45).trans (m_2.1 0 45 _ sM_0 (by decide)))))))).trans f_om), (by omega)⟩, (fun k9 hk9 hk0 => ⟨fun h9 => absurd h9 (by decide +kernel), fun _ => P0_1454⟩), (ZWM.keep (ZWM.keep (ZWM.keep (ZWM.keep (ZWM.keep (ZWM.keep (ZWM.keep ZW m_2 (by decide) (by decide) (by decide) (by decide)) (dg_sm.uf (WF := []) (WA := [24]) dg_sm.rf e_574 sM_24 (by decide)) (by decide) (by decide) (by decide) (by decide)) m_1362 (by decide) (by decide) (by decide) (by decide)) m_1366 (by decide) (by decide) (by decide) (by decide)) m_1415 (by decide) (by decide) (by decide) (by decide)) m_1440 (by decide) (by decide) (by decide) (by decide)) (dg_sm.uf (WF := []) (WA := [25]) dg_sm.rf e_1454 sM_25 (by decide)) (by decide) (by decide) (by decide) (by decide)), trivial⟩ dX12_operand_312
                refine lv_if_eq (tgt := 232) hx hb dX12_operand_224 (by decide) (fun c_1459 => ?_) (fun c_1459 => ?_)
                · have jc_1459 := dk_eqc (k := 0) (by decide +kernel) c_1459
                  clear w_1258_1
                  refine lv_aload_n hx hb dX12_operand_232 rfl (lv_at hl 2 rfl) ?_
                  refine lv_ldc2 hx hb hown (hts _ (bw_mem wB_1194)) dX12_operand_233 ?_
                  refine dg_calli hS hA1 hA (va_runV (As := [.long 7168376]) (rest := []) F (c_m_isWord l g D o S_574 7168376 sg (((dg_uf_F e_574 0 3).trans (m_2.1 0 3 _ sM_0 (by decide))).trans f_sg) (by omega) I_574 H.size) (cwV 1 hts (bw_V wB_1165 wB_1166 wB_1167 wB_881 wB_1164) rfl rfl rfl (by decide +kernel) ⟨Nat.le_of_ble_eq_true rfl, Nat.le_of_ble_eq_true rfl⟩) (dg_preV sM_0 rfl K ST hP hS hA1 hA) rfl rfl hl.1 rfl (lv_room (Nat.le_of_ble_eq_true rfl)) dX12_operand_236 ⟨Nat.le_of_ble_eq_true rfl, Nat.le_of_ble_eq_true rfl⟩) (fun x_1460 S_1461 hw_1461 H locs hP hS => ?_)
                  rw [hw_1461.1] at hP
                  obtain ⟨hq_1461, w_1461_0, w_1461_1, -⟩ := hw_1461
                  have w_1461_0 : 0 ≤ (x_1460).toInt ∧ (x_1460).toInt ≤ 1 := w_1461_0
                  have w_1461_1 : (x_1460).toInt = 1 → (sg).toInt = 1 := w_1461_1
                  refine lv_if_eq (tgt := 247) hx hb dX12_operand_239 (by decide) (fun c_1462 => ?_) (fun c_1462 => ?_)
                  · have jc_1462 := dk_eqc (k := 0) (by decide +kernel) c_1462
                    clear w_1461_1
                    refine lv_bipush (v := 44) hx hb dX12_operand_247 (by decide +kernel) ?_
                    have hz_1463 : (44 : Int32).toInt = 44 := by decide +kernel
                    have hz_1464 : (44 : Int32).toInt = 44 := by decide +kernel
                    exact J_1361 44 (by decide +kernel) (by omega) _ _ hP hS _ (lv_sub hl [0, 1, 2] rfl)
                  · have jc_1462 := dk_neqc (k := 0) (by decide +kernel) c_1462
                    have jbc_1462 : 1 ≤ (x_1460).toInt := by omega
                    clear jc_1462
                    have w_1461_1_r := w_1461_1 (by omega)
                    clear w_1461_1
                    have hlx_2r := hlx_2 (by omega)
                    clear hlx_2
                    refine lv_bipush (v := 37) hx hb dX12_operand_242 (by decide +kernel) ?_
                    refine lv_goto (tgt := 249) hx hb dX12_operand_244 (by decide) ?_
                    have hz_1465 : (37 : Int32).toInt = 37 := by decide +kernel
                    have hz_1466 : (37 : Int32).toInt = 37 := by decide +kernel
                    exact J_1361 37 (by decide +kernel) (by omega) _ _ hP hS _ (lv_sub hl [0, 1, 2] rfl)
                · have jc_1459 := dk_neqc (k := 0) (by decide +kernel) c_1459
                  have jbc_1459 : 1 ≤ (x_1257).toInt := by omega
                  clear jc_1459
                  have w_1258_1_r := w_1258_1 (by omega)
                  clear w_1258_1
                  have hlx_2r := hlx_2 (by omega)
                  clear hlx_2
                  refine lv_bipush (v := 36) hx hb dX12_operand_227 (by decide +kernel) ?_
                  refine lv_goto (tgt := 249) hx hb dX12_operand_229 (by decide) ?_
                  have hz_1467 : (36 : Int32).toInt = 36 := by decide +kernel
                  have hz_1468 : (36 : Int32).toInt = 36 := by decide +kernel
                  exact J_1361 36 (by decide +kernel) (by omega) _ _ hP hS _ (lv_sub hl [0, 1, 2] rfl)
              refine lv_if_ne (tgt := 217) hx hb dX12_operand_194 (by decide) (fun c_1469 => ?_) (fun c_1469 => ?_)
              · have jc_1469 := dk_neqc (k := 0) (by decide +kernel) c_1469
                have jbc_1469 : 1 ≤ (x_1062).toInt := by omega
                clear jc_1469
                have w_1063_1_r := w_1063_1 (by omega)
                clear w_1063_1
                have hlx_2r := hlx_2 (by omega)
                clear hlx_2
                exact J_1256 ()  (by omega) _ _ hP hS _ (lv_sub hl [0, 1, 2] rfl)
              · have jc_1469 := dk_eqc (k := 0) (by decide +kernel) c_1469
                clear w_1063_1
                refine lv_aload_n hx hb dX12_operand_197 rfl (lv_at hl 2 rfl) ?_
                refine lv_ldc2 hx hb hown (hts _ (bw_mem wB_1194)) dX12_operand_198 ?_
                refine dg_calli hS hA1 hA (va_runV (As := [.long 7168376]) (rest := []) F (c_m_isWord l g D o S_574 7168376 sg (((dg_uf_F e_574 0 3).trans (m_2.1 0 3 _ sM_0 (by decide))).trans f_sg) (by omega) I_574 H.size) (cwV 1 hts (bw_V wB_1165 wB_1166 wB_1167 wB_881 wB_1164) rfl rfl rfl (by decide +kernel) ⟨Nat.le_of_ble_eq_true rfl, Nat.le_of_ble_eq_true rfl⟩) (dg_preV sM_0 rfl K ST hP hS hA1 hA) rfl rfl hl.1 rfl (lv_room (Nat.le_of_ble_eq_true rfl)) dX12_operand_201 ⟨Nat.le_of_ble_eq_true rfl, Nat.le_of_ble_eq_true rfl⟩) (fun x_1470 S_1471 hw_1471 H locs hP hS => ?_)
                rw [hw_1471.1] at hP
                obtain ⟨hq_1471, w_1471_0, w_1471_1, -⟩ := hw_1471
                have w_1471_0 : 0 ≤ (x_1470).toInt ∧ (x_1470).toInt ≤ 1 := w_1471_0
                have w_1471_1 : (x_1470).toInt = 1 → (sg).toInt = 1 := w_1471_1
                refine lv_if_ne (tgt := 217) hx hb dX12_operand_204 (by decide) (fun c_1472 => ?_) (fun c_1472 => ?_)
                · have jc_1472 := dk_neqc (k := 0) (by decide +kernel) c_1472
                  have jbc_1472 : 1 ≤ (x_1470).toInt := by omega
                  clear jc_1472
                  have w_1471_1_r := w_1471_1 (by omega)
                  clear w_1471_1
                  have hlx_2r := hlx_2 (by omega)
                  clear hlx_2
                  exact J_1256 ()  (by omega) _ _ hP hS _ (lv_sub hl [0, 1, 2] rfl)
                · have jc_1472 := dk_eqc (k := 0) (by decide +kernel) c_1472
                  clear w_1471_1
                  refine lv_aload_n hx hb dX12_operand_207 rfl (lv_at hl 2 rfl) ?_
                  refine lv_ldc2 hx hb hown (hts _ (bw_mem wB_1188)) dX12_operand_208 ?_
                  refine dg_calli hS hA1 hA (va_runV (As := [.long 26982]) (rest := []) F (c_m_isWord l g D o S_574 26982 sg (((dg_uf_F e_574 0 3).trans (m_2.1 0 3 _ sM_0 (by decide))).trans f_sg) (by omega) I_574 H.size) (cwV 1 hts (bw_V wB_1165 wB_1166 wB_1167 wB_881 wB_1164) rfl rfl rfl (by decide +kernel) ⟨Nat.le_of_ble_eq_true rfl, Nat.le_of_ble_eq_true rfl⟩) (dg_preV sM_0 rfl K ST hP hS hA1 hA) rfl rfl hl.1 rfl (lv_room (Nat.le_of_ble_eq_true rfl)) dX12_operand_211 ⟨Nat.le_of_ble_eq_true rfl, Nat.le_of_ble_eq_true rfl⟩) (fun x_1473 S_1474 hw_1474 H locs hP hS => ?_)
                  rw [hw_1474.1] at hP
                  obtain ⟨hq_1474, w_1474_0, w_1474_1, -⟩ := hw_1474
                  have w_1474_0 : 0 ≤ (x_1473).toInt ∧ (x_1473).toInt ≤ 1 := w_1474_0
                  have w_1474_1 : (x_1473).toInt = 1 → (sg).toInt = 1 := w_1474_1
                  refine lv_if_eq (tgt := 313) hx hb dX12_operand_214 (by decide) (fun c_1475 => ?_) (fun c_1475 => ?_)
                  · have jc_1475 := dk_eqc (k := 0) (by decide +kernel) c_1475
                    clear w_1474_1
                    refine lv_aload_n hx hb dX12_operand_313 rfl (lv_at hl 2 rfl) ?_
                    refine dg_get (C := RX12) (T := TX12) (N := 77) hx hb hts (fun w h => bw_mem (wU_X12 w h)) hown K hP sM_0 rfl 3 (by decide) (hts _ (bw_mem wB_1140)) (fun _ h9 => h9) (v := .int sg) (((dg_uf_F e_574 0 3).trans (m_2.1 0 3 _ sM_0 (by decide))).trans f_sg) dX12_operand_314 ?_
                    refine lv_iconst (v := 2) hx hb dX12_operand_317 (by decide +kernel) ?_
                    have J_1557 : ∀ (x_1495 : Int32), ((-1) ≤ (x_1495).toInt ∧ (x_1495).toInt ≤ 6) → ((x_1495 : Int32).toInt ≠ -1 → (sg).toInt ≠ 0) → ∀ (H : Heap) (locs : List Loc), va_P D vwCl (dg_w g shM o rfM S_574) H → va_S A s.heap H locs → ∀ ls : Array Slot, lv_has ls 4 [(2, .int x_14), (1, .int x_5), (0, .ref (o + 0))] → W p l e ({ frames := 4, cells := 0, slots := 0, locals := 98 } : Room) s m args below meth c H locs 0 0 Q9 (F0 m 411 ls [.int x_1495]) := by
                      intro x_1495 b_x_1495 rel_0 H locs hP hS ls hl
                      refine lv_istore_n (lv' := [(3, .int x_1495), (2, .int x_14), (1, .int x_5), (0, .ref (o + 0))]) hx hb dX12_operand_411 rfl hl (by decide) rfl (fun ls hl => ?_)
                      refine lv_iload_n hx hb dX12_operand_412 rfl (lv_at hl 0 rfl) ?_
                      refine lv_iconst (v := 4) hx hb dX12_operand_413 (by decide +kernel) ?_
                      refine lv_icmp_lt (tgt := 444) hx hb dX12_operand_414 (by decide) (fun c_1558 => ?_) (fun c_1558 => ?_)
                      · have jc_1558 := dk_ltc (k := 4) (by decide +kernel) c_1558
                        refine lv_iload_n hx hb dX12_operand_444 rfl (lv_at hl 0 rfl) ?_
                        refine lv_iconst (v := (-1)) hx hb dX12_operand_445 (by decide +kernel) ?_
                        refine lv_icmp_ne (tgt := 458) hx hb dX12_operand_446 (by decide) (fun c_1559 => ?_) (fun c_1559 => ?_)
                        · have jc_1559 := dk_neqc (k := (-1)) (by decide +kernel) c_1559
                          have jbc_1559 : 0 ≤ (x_1495).toInt := by omega
                          clear jc_1559
                          have rel_0r := rel_0 (by omega)
                          clear rel_0
                          have rel_0rb : 1 ≤ (sg).toInt := by omega
                          clear rel_0r
                          have hlx_2r := hlx_2 (by omega)
                          clear hlx_2
                          refine lv_aload_n hx hb dX12_operand_458 rfl (lv_at hl 3 rfl) ?_
                          refine dg_get (C := RX12) (T := TX12) (N := 77) hx hb hts (fun w h => bw_mem (wU_X12 w h)) hown K hP sM_0 rfl 8 (by decide) (hts _ (bw_mem wB_1133)) (fun _ h9 => h9) (v := .int y_3) ((dg_uf_F e_574 0 8).trans f_y_3) dX12_operand_459 ?_
                          refine lv_if_le (tgt := 467) hx hb dX12_operand_462 (by decide) (fun _ => ?_) (fun c => absurd (dk_lep (k := 0) (by decide +kernel) (by omega)) c)
                          refine lv_aload_n hx hb dX12_operand_467 rfl (lv_at hl 3 rfl) ?_
                          refine lv_iload_n hx hb dX12_operand_468 rfl (lv_at hl 0 rfl) ?_
                          refine lv_aload_n hx hb dX12_operand_469 rfl (lv_at hl 3 rfl) ?_
                          refine dg_get (C := RX12) (T := TX12) (N := 77) hx hb hts (fun w h => bw_mem (wU_X12 w h)) hown K hP sM_0 rfl 6 (by decide) (hts _ (bw_mem wB_1141)) (fun _ h9 => h9) (v := .int va) (((dg_uf_F e_574 0 6).trans (m_2.1 0 6 _ sM_0 (by decide))).trans f_va) dX12_operand_470 ?_
                          refine dg_callv hS hA1 hA (va_runV (As := [.int x_1495, .int va]) (rest := []) F (c_m_add l g D o S_574 x_1495 (by omega) va cd (((dg_uf_F e_574 0 34).trans (m_2.1 0 34 _ sM_0 (by decide))).trans f_cd) (by omega) (ZWM.keep (ZWM.keep ZW m_2 (by decide) (by decide) (by decide) (by decide)) (dg_sm.uf (WF := []) (WA := [24]) dg_sm.rf e_574 sM_24 (by decide)) (by decide) (by decide) (by decide) (by decide)) (ZKM.keep (ZKM.keep ZK m_2 (by decide) (by decide)) (dg_sm.uf (WF := []) (WA := [24]) dg_sm.rf e_574 sM_24 (by decide)) (by decide) (by decide)) I_574 H.size) (cwV 2 hts (bw_V wB_1209 wB_1210 wB_1211 wB_881 wB_1208) rfl rfl rfl (by decide +kernel) ⟨Nat.le_of_ble_eq_true rfl, Nat.le_of_ble_eq_true rfl⟩) (dg_preV sM_0 rfl K ST hP hS hA1 hA) rfl rfl hl.1 rfl (lv_room (Nat.le_of_ble_eq_true rfl)) dX12_operand_473 ⟨Nat.le_of_ble_eq_true rfl, Nat.le_of_ble_eq_true rfl⟩) (fun S_1560 hw_1560 H locs hP hS => ?_)
                          obtain ⟨I_1560, m_1560, w_1560_0, w_1560_1, w_1560_2, -⟩ := hw_1560
                          have M_1560 := dg_sm.tr M_574 m_1560 (by decide) (by decide)
                          obtain ⟨y_1561, f_y_1561, w_1560_0⟩ := w_1560_0
                          have w_1560_0 : (y_1561).toInt = (cd).toInt + 1 := w_1560_0
                          have b_y_1561 : 0 ≤ (y_1561).toInt ∧ (y_1561).toInt ≤ 1600 := dg_I.intb (lo := 0) (hi := 1600) I_1560 sM_0 (by decide +kernel) f_y_1561
                          have w_1560_1 : ADM S_574 S_1560 x_1495 := w_1560_1
                          have P1_1560 : P1M S_1560 := PBM.leaf PB_574 (((dg_uf_F e_574 0 42).trans (m_2.1 0 42 _ sM_0 (by decide))).trans f_dp) (((dg_uf_F e_574 0 43).trans (m_2.1 0 43 _ sM_0 (by decide))).trans f_on) (((dg_uf_F e_574 0 45).trans (m_2.1 0 45 _ sM_0 (by decide))).trans f_om) m_1560 w_1560_1 (by omega)
                          refine lv_aload_n hx hb dX12_operand_476 rfl (lv_at hl 3 rfl) ?_
                          refine dg_callv hS hA1 hA (va_runV (As := []) (rest := []) F (c_m_ahead l g D o S_1560 se (((m_1560.1 0 5 _ sM_0 (by decide)).trans ((dg_uf_F e_574 0 5).trans (m_2.1 0 5 _ sM_0 (by decide)))).trans f_se) (by omega) sl (((m_1560.1 0 2 _ sM_0 (by decide)).trans ((dg_uf_F e_574 0 2).trans (m_2.1 0 2 _ sM_0 (by decide)))).trans f_sl) (by omega) (by omega) I_1560 H.size) (cwV 0 hts (bw_V wB_1161 wB_1162 wB_1163 wB_881 wB_1160) rfl rfl rfl (by decide +kernel) ⟨Nat.le_of_ble_eq_true rfl, Nat.le_of_ble_eq_true rfl⟩) (dg_preV sM_0 rfl K ST hP hS hA1 hA) rfl rfl hl.1 rfl (lv_room (Nat.le_of_ble_eq_true rfl)) dX12_operand_477 ⟨Nat.le_of_ble_eq_true rfl, Nat.le_of_ble_eq_true rfl⟩) (fun S_1562 hw_1562 H locs hP hS => ?_)
                          obtain ⟨I_1562, m_1562, w_1562_0, -⟩ := hw_1562
                          have M_1562 := dg_sm.tr M_1560 m_1562 (by decide) (by decide)
                          obtain ⟨y_1563, y_1564, y_1565, f_y_1563, f_y_1564, f_y_1565, w_1562_0⟩ := w_1562_0
                          have w_1562_0 : (se).toInt ≤ (y_1564).toInt ∧ (y_1564).toInt ≤ (y_1565).toInt ∧ (y_1565).toInt ≤ (sl).toInt ∧ ((y_1563).toInt ≠ 0 → (y_1564).toInt + 1 ≤ (y_1565).toInt) := w_1562_0
                          obtain ⟨w_1562_0_0, w_1562_0_1, w_1562_0_2, w_1562_0_3⟩ := w_1562_0
                          have b_y_1563 : 0 ≤ (y_1563).toInt ∧ (y_1563).toInt ≤ 3 := dg_I.intb (lo := 0) (hi := 3) I_1562 sM_0 (by decide +kernel) f_y_1563
                          have b_y_1564 : 0 ≤ (y_1564).toInt ∧ (y_1564).toInt ≤ 1600 := dg_I.intb (lo := 0) (hi := 1600) I_1562 sM_0 (by decide +kernel) f_y_1564
                          have b_y_1565 : 0 ≤ (y_1565).toInt ∧ (y_1565).toInt ≤ 1600 := dg_I.intb (lo := 0) (hi := 1600) I_1562 sM_0 (by decide +kernel) f_y_1565
                          refine lv_iconst (v := 1) hx hb dX12_operand_480 (by decide +kernel) ?_
                          have hz_1566 : (1 : Int32).toInt = 1 := by decide +kernel
                          have hz_1567 : (1 : Int32).toInt = 1 := by decide +kernel
                          have hz_1568 : (1 : Int32).toInt = 1 := by decide +kernel
                          have hz_1569 : (1 : Int32).toInt = 1 := by decide +kernel
                          refine W.widen (k := 0) (n := 0) (Nat.le_of_ble_eq_true rfl) (Nat.le_of_ble_eq_true rfl) ?_
                          rw [hQ9]
                          exact dg_iret hx hb hr hlocks (by decide +kernel) hP hS ⟨I_1562, M_1562, (by decide +kernel), ⟨y_1563, y_1564, y_1565, y_3, y_1561, dp, om, f_y_1563, f_y_1564, f_y_1565, (((m_1562.1 0 8 _ sM_0 (by decide)).trans ((m_1560.1 0 8 _ sM_0 (by decide)).trans (dg_uf_F e_574 0 8))).trans f_y_3), ((m_1562.1 0 34 _ sM_0 (by decide)).trans f_y_1561), (((m_1562.1 0 42 _ sM_0 (by decide)).trans ((m_1560.1 0 42 _ sM_0 (by decide)).trans ((dg_uf_F e_574 0 42).trans (m_2.1 0 42 _ sM_0 (by decide))))).trans f_dp), (((m_1562.1 0 45 _ sM_0 (by decide)).trans ((m_1560.1 0 45 _ sM_0 (by decide)).trans ((dg_uf_F e_574 0 45).trans (m_2.1 0 45 _ sM_0 (by decide))))).trans f_om), (by omega)⟩, (fun k9 hk9 hk0 => ⟨fun _ => (P1M.keep P1_1560 m_1562 (by decide) (by decide) (by decide) (by decide) (by decide) (by decide) (by decide) (by decide) (by decide) (by decide) (by decide) (by decide) (by decide) (by decide) (by decide)), fun h9 => absurd h9 (by decide +kernel)⟩), (ZWM.keep w_1560_2 m_1562 (by decide) (by decide) (by decide) (by decide)), trivial⟩ dX12_operand_481
                        · have jc_1559 := dk_eqc (k := (-1)) (by decide +kernel) c_1559
                          clear rel_0
                          refine lv_aload_n hx hb dX12_operand_449 rfl (lv_at hl 3 rfl) ?_
                          refine lv_iconst (v := 1) hx hb dX12_operand_450 (by decide +kernel) ?_
                          refine lv_aload_n hx hb dX12_operand_451 rfl (lv_at hl 3 rfl) ?_
                          refine dg_get (C := RX12) (T := TX12) (N := 77) hx hb hts (fun w h => bw_mem (wU_X12 w h)) hown K hP sM_0 rfl 4 (by decide) (hts _ (bw_mem wB_1145)) (fun _ h9 => h9) (v := .int sa) (((dg_uf_F e_574 0 4).trans (m_2.1 0 4 _ sM_0 (by decide))).trans f_sa) dX12_operand_452 ?_
                          have hz_1570 : (1 : Int32).toInt = 1 := by decide +kernel
                          refine dg_callv hS hA1 hA (va_runV (As := [.int 1, .int sa]) (rest := []) F (c_m_blame l g D o S_574 1 (by decide +kernel) sa y_3 ((dg_uf_F e_574 0 8).trans f_y_3) (by omega) I_574 H.size) (cwV 2 hts (bw_V wB_1137 wB_1138 wB_1139 wB_881 wB_1136) rfl rfl rfl (by decide +kernel) ⟨Nat.le_of_ble_eq_true rfl, Nat.le_of_ble_eq_true rfl⟩) (dg_preV sM_0 rfl K ST hP hS hA1 hA) rfl rfl hl.1 rfl (lv_room (Nat.le_of_ble_eq_true rfl)) dX12_operand_455 ⟨Nat.le_of_ble_eq_true rfl, Nat.le_of_ble_eq_true rfl⟩) (fun S_1571 hw_1571 H locs hP hS => ?_)
                          obtain ⟨I_1571, m_1571, w_1571_0, -⟩ := hw_1571
                          have M_1571 := dg_sm.tr M_574 m_1571 (by decide) (by decide)
                          have hz_1572 : (1 : Int32).toInt = 1 := by decide +kernel
                          obtain ⟨y_1573, f_y_1573, w_1571_0⟩ := w_1571_0
                          have w_1571_0 : ((y_3).toInt ≠ 0 → (y_1573).toInt = (y_3).toInt) ∧ ((y_3).toInt = 0 → (y_1573).toInt = ((1 : Int32)).toInt) := w_1571_0
                          obtain ⟨w_1571_0_0, w_1571_0_1⟩ := w_1571_0
                          clear w_1571_0_0
                          have w_1571_0_1r := w_1571_0_1 (by omega)
                          clear w_1571_0_1
                          have b_y_1573 : 0 ≤ (y_1573).toInt ∧ (y_1573).toInt ≤ 6 := dg_I.intb (lo := 0) (hi := 6) I_1571 sM_0 (by decide +kernel) f_y_1573
                          have hbl_y_1573 : 1 ≤ (y_1573).toInt := by omega
                          refine lv_aload_n hx hb dX12_operand_458 rfl (lv_at hl 3 rfl) ?_
                          refine dg_get (C := RX12) (T := TX12) (N := 77) hx hb hts (fun w h => bw_mem (wU_X12 w h)) hown K hP sM_0 rfl 8 (by decide) (hts _ (bw_mem wB_1133)) (fun _ h9 => h9) (v := .int y_1573) f_y_1573 dX12_operand_459 ?_
                          refine lv_if_le (tgt := 467) hx hb dX12_operand_462 (by decide) (fun c => absurd c (fun z => absurd (dk_lec (k := 0) (by decide +kernel) z) (by omega))) (fun _ => ?_)
                          refine lv_iconst (v := 1) hx hb dX12_operand_465 (by decide +kernel) ?_
                          have hz_1574 : (1 : Int32).toInt = 1 := by decide +kernel
                          have hz_1575 : (1 : Int32).toInt = 1 := by decide +kernel
                          have hz_1576 : (1 : Int32).toInt = 1 := by decide +kernel
                          have hz_1577 : (1 : Int32).toInt = 1 := by decide +kernel
                          refine W.widen (k := 0) (n := 0) (Nat.le_of_ble_eq_true rfl) (Nat.le_of_ble_eq_true rfl) ?_
                          rw [hQ9]
                          exact dg_iret hx hb hr hlocks (by decide +kernel) hP hS ⟨I_1571, M_1571, (by decide +kernel), ⟨sg, sa, se, y_1573, cd, dp, om, (((m_1571.1 0 3 _ sM_0 (by decide)).trans ((dg_uf_F e_574 0 3).trans (m_2.1 0 3 _ sM_0 (by decide)))).trans f_sg), (((m_1571.1 0 4 _ sM_0 (by decide)).trans ((dg_uf_F e_574 0 4).trans (m_2.1 0 4 _ sM_0 (by decide)))).trans f_sa), (((m_1571.1 0 5 _ sM_0 (by decide)).trans ((dg_uf_F e_574 0 5).trans (m_2.1 0 5 _ sM_0 (by decide)))).trans f_se), f_y_1573, (((m_1571.1 0 34 _ sM_0 (by decide)).trans ((dg_uf_F e_574 0 34).trans (m_2.1 0 34 _ sM_0 (by decide)))).trans f_cd), (((m_1571.1 0 42 _ sM_0 (by decide)).trans ((dg_uf_F e_574 0 42).trans (m_2.1 0 42 _ sM_0 (by decide)))).trans f_dp), (((m_1571.1 0 45 _ sM_0 (by decide)).trans ((dg_uf_F e_574 0 45).trans (m_2.1 0 45 _ sM_0 (by decide)))).trans f_om), (by omega)⟩, (fun k9 hk9 hk0 => by have q9 := (f_y_1573).symm.trans hk9; cases q9; omega), (ZWM.keep (ZWM.keep (ZWM.keep ZW m_2 (by decide) (by decide) (by decide) (by decide)) (dg_sm.uf (WF := []) (WA := [24]) dg_sm.rf e_574 sM_24 (by decide)) (by decide) (by decide) (by decide) (by decide)) m_1571 (by decide) (by decide) (by decide) (by decide)), trivial⟩ dX12_operand_466
                      · have jc_1558 := dk_nltc (k := 4) (by decide +kernel) c_1558
                        have rel_0r := rel_0 (by omega)
                        clear rel_0
                        have rel_0rb : 1 ≤ (sg).toInt := by omega
                        clear rel_0r
                        have hlx_2r := hlx_2 (by omega)
                        clear hlx_2
                        refine lv_iload_n hx hb dX12_operand_417 rfl (lv_at hl 0 rfl) ?_
                        refine lv_iconst (v := 4) hx hb dX12_operand_418 (by decide +kernel) ?_
                        refine lv_icmp_ne (tgt := 426) hx hb dX12_operand_419 (by decide) (fun c_1578 => ?_) (fun c_1578 => ?_)
                        · have jc_1578 := dk_neqc (k := 4) (by decide +kernel) c_1578
                          have jbc_1578 : 5 ≤ (x_1495).toInt := by omega
                          clear jc_1578
                          refine lv_iconst (v := 0) hx hb dX12_operand_426 (by decide +kernel) ?_
                          refine lv_aload_n hx hb dX12_operand_427 rfl (lv_at hl 3 rfl) ?_
                          obtain ⟨x_1579, f_x_1579, b_x_1579⟩ := dg_I.int (i := 0) (k := 36) (lo := 0) (hi := 2) I sM_0 (by decide +kernel)
                          refine dg_get (C := RX12) (T := TX12) (N := 77) hx hb hts (fun w h => bw_mem (wU_X12 w h)) hown K hP sM_0 rfl 36 (by decide) (hts _ (bw_mem wB_1231)) (fun _ h9 => h9) (v := .int x_1579) (((dg_uf_F e_574 0 36).trans (m_2.1 0 36 _ sM_0 (by decide))).trans f_x_1579) dX12_operand_428 ?_
                          refine lv_if_ne (tgt := 438) hx hb dX12_operand_431 (by decide) (fun c_1580 => ?_) (fun c_1580 => ?_)
                          · have jc_1580 := dk_neqc (k := 0) (by decide +kernel) c_1580
                            have jbc_1580 : 1 ≤ (x_1579).toInt := by omega
                            clear jc_1580
                            refine lv_iconst (v := 0) hx hb dX12_operand_438 (by decide +kernel) ?_
                            refine lv_icmp_eq (tgt := 444) hx hb dX12_operand_439 (by decide) (fun _ => ?_) (fun c => absurd (by decide +kernel) c)
                            refine lv_iload_n hx hb dX12_operand_444 rfl (lv_at hl 0 rfl) ?_
                            refine lv_iconst (v := (-1)) hx hb dX12_operand_445 (by decide +kernel) ?_
                            refine lv_icmp_ne (tgt := 458) hx hb dX12_operand_446 (by decide) (fun _ => ?_) (fun c => absurd c (fun z => absurd (dk_eqc (k := (-1)) (by decide +kernel) z) (by omega)))
                            refine lv_aload_n hx hb dX12_operand_458 rfl (lv_at hl 3 rfl) ?_
                            refine dg_get (C := RX12) (T := TX12) (N := 77) hx hb hts (fun w h => bw_mem (wU_X12 w h)) hown K hP sM_0 rfl 8 (by decide) (hts _ (bw_mem wB_1133)) (fun _ h9 => h9) (v := .int y_3) ((dg_uf_F e_574 0 8).trans f_y_3) dX12_operand_459 ?_
                            refine lv_if_le (tgt := 467) hx hb dX12_operand_462 (by decide) (fun _ => ?_) (fun c => absurd (dk_lep (k := 0) (by decide +kernel) (by omega)) c)
                            refine lv_aload_n hx hb dX12_operand_467 rfl (lv_at hl 3 rfl) ?_
                            refine lv_iload_n hx hb dX12_operand_468 rfl (lv_at hl 0 rfl) ?_
                            refine lv_aload_n hx hb dX12_operand_469 rfl (lv_at hl 3 rfl) ?_
                            refine dg_get (C := RX12) (T := TX12) (N := 77) hx hb hts (fun w h => bw_mem (wU_X12 w h)) hown K hP sM_0 rfl 6 (by decide) (hts _ (bw_mem wB_1141)) (fun _ h9 => h9) (v := .int va) (((dg_uf_F e_574 0 6).trans (m_2.1 0 6 _ sM_0 (by decide))).trans f_va) dX12_operand_470 ?_
                            refine dg_callv hS hA1 hA (va_runV (As := [.int x_1495, .int va]) (rest := []) F (c_m_add l g D o S_574 x_1495 (by omega) va cd (((dg_uf_F e_574 0 34).trans (m_2.1 0 34 _ sM_0 (by decide))).trans f_cd) (by omega) (ZWM.keep (ZWM.keep ZW m_2 (by decide) (by decide) (by decide) (by decide)) (dg_sm.uf (WF := []) (WA := [24]) dg_sm.rf e_574 sM_24 (by decide)) (by decide) (by decide) (by decide) (by decide)) (ZKM.keep (ZKM.keep ZK m_2 (by decide) (by decide)) (dg_sm.uf (WF := []) (WA := [24]) dg_sm.rf e_574 sM_24 (by decide)) (by decide) (by decide)) I_574 H.size) (cwV 2 hts (bw_V wB_1209 wB_1210 wB_1211 wB_881 wB_1208) rfl rfl rfl (by decide +kernel) ⟨Nat.le_of_ble_eq_true rfl, Nat.le_of_ble_eq_true rfl⟩) (dg_preV sM_0 rfl K ST hP hS hA1 hA) rfl rfl hl.1 rfl (lv_room (Nat.le_of_ble_eq_true rfl)) dX12_operand_473 ⟨Nat.le_of_ble_eq_true rfl, Nat.le_of_ble_eq_true rfl⟩) (fun S_1581 hw_1581 H locs hP hS => ?_)
                            obtain ⟨I_1581, m_1581, w_1581_0, w_1581_1, w_1581_2, -⟩ := hw_1581
                            have M_1581 := dg_sm.tr M_574 m_1581 (by decide) (by decide)
                            obtain ⟨y_1582, f_y_1582, w_1581_0⟩ := w_1581_0
                            have w_1581_0 : (y_1582).toInt = (cd).toInt + 1 := w_1581_0
                            have b_y_1582 : 0 ≤ (y_1582).toInt ∧ (y_1582).toInt ≤ 1600 := dg_I.intb (lo := 0) (hi := 1600) I_1581 sM_0 (by decide +kernel) f_y_1582
                            have w_1581_1 : ADM S_574 S_1581 x_1495 := w_1581_1
                            have P1_1581 : P1M S_1581 := PBM.leaf PB_574 (((dg_uf_F e_574 0 42).trans (m_2.1 0 42 _ sM_0 (by decide))).trans f_dp) (((dg_uf_F e_574 0 43).trans (m_2.1 0 43 _ sM_0 (by decide))).trans f_on) (((dg_uf_F e_574 0 45).trans (m_2.1 0 45 _ sM_0 (by decide))).trans f_om) m_1581 w_1581_1 (by omega)
                            refine lv_aload_n hx hb dX12_operand_476 rfl (lv_at hl 3 rfl) ?_
                            refine dg_callv hS hA1 hA (va_runV (As := []) (rest := []) F (c_m_ahead l g D o S_1581 se (((m_1581.1 0 5 _ sM_0 (by decide)).trans ((dg_uf_F e_574 0 5).trans (m_2.1 0 5 _ sM_0 (by decide)))).trans f_se) (by omega) sl (((m_1581.1 0 2 _ sM_0 (by decide)).trans ((dg_uf_F e_574 0 2).trans (m_2.1 0 2 _ sM_0 (by decide)))).trans f_sl) (by omega) (by omega) I_1581 H.size) (cwV 0 hts (bw_V wB_1161 wB_1162 wB_1163 wB_881 wB_1160) rfl rfl rfl (by decide +kernel) ⟨Nat.le_of_ble_eq_true rfl, Nat.le_of_ble_eq_true rfl⟩) (dg_preV sM_0 rfl K ST hP hS hA1 hA) rfl rfl hl.1 rfl (lv_room (Nat.le_of_ble_eq_true rfl)) dX12_operand_477 ⟨Nat.le_of_ble_eq_true rfl, Nat.le_of_ble_eq_true rfl⟩) (fun S_1583 hw_1583 H locs hP hS => ?_)
                            obtain ⟨I_1583, m_1583, w_1583_0, -⟩ := hw_1583
                            have M_1583 := dg_sm.tr M_1581 m_1583 (by decide) (by decide)
                            obtain ⟨y_1584, y_1585, y_1586, f_y_1584, f_y_1585, f_y_1586, w_1583_0⟩ := w_1583_0
                            have w_1583_0 : (se).toInt ≤ (y_1585).toInt ∧ (y_1585).toInt ≤ (y_1586).toInt ∧ (y_1586).toInt ≤ (sl).toInt ∧ ((y_1584).toInt ≠ 0 → (y_1585).toInt + 1 ≤ (y_1586).toInt) := w_1583_0
                            obtain ⟨w_1583_0_0, w_1583_0_1, w_1583_0_2, w_1583_0_3⟩ := w_1583_0
                            have b_y_1584 : 0 ≤ (y_1584).toInt ∧ (y_1584).toInt ≤ 3 := dg_I.intb (lo := 0) (hi := 3) I_1583 sM_0 (by decide +kernel) f_y_1584
                            have b_y_1585 : 0 ≤ (y_1585).toInt ∧ (y_1585).toInt ≤ 1600 := dg_I.intb (lo := 0) (hi := 1600) I_1583 sM_0 (by decide +kernel) f_y_1585
                            have b_y_1586 : 0 ≤ (y_1586).toInt ∧ (y_1586).toInt ≤ 1600 := dg_I.intb (lo := 0) (hi := 1600) I_1583 sM_0 (by decide +kernel) f_y_1586
                            refine lv_iconst (v := 1) hx hb dX12_operand_480 (by decide +kernel) ?_
                            have hz_1587 : (1 : Int32).toInt = 1 := by decide +kernel
                            have hz_1588 : (1 : Int32).toInt = 1 := by decide +kernel
                            have hz_1589 : (1 : Int32).toInt = 1 := by decide +kernel
                            have hz_1590 : (1 : Int32).toInt = 1 := by decide +kernel
                            refine W.widen (k := 0) (n := 0) (Nat.le_of_ble_eq_true rfl) (Nat.le_of_ble_eq_true rfl) ?_
                            rw [hQ9]
                            exact dg_iret hx hb hr hlocks (by decide +kernel) hP hS ⟨I_1583, M_1583, (by decide +kernel), ⟨y_1584, y_1585, y_1586, y_3, y_1582, dp, om, f_y_1584, f_y_1585, f_y_1586, (((m_1583.1 0 8 _ sM_0 (by decide)).trans ((m_1581.1 0 8 _ sM_0 (by decide)).trans (dg_uf_F e_574 0 8))).trans f_y_3), ((m_1583.1 0 34 _ sM_0 (by decide)).trans f_y_1582), (((m_1583.1 0 42 _ sM_0 (by decide)).trans ((m_1581.1 0 42 _ sM_0 (by decide)).trans ((dg_uf_F e_574 0 42).trans (m_2.1 0 42 _ sM_0 (by decide))))).trans f_dp), (((m_1583.1 0 45 _ sM_0 (by decide)).trans ((m_1581.1 0 45 _ sM_0 (by decide)).trans ((dg_uf_F e_574 0 45).trans (m_2.1 0 45 _ sM_0 (by decide))))).trans f_om), (by omega)⟩, (fun k9 hk9 hk0 => ⟨fun _ => (P1M.keep P1_1581 m_1583 (by decide) (by decide) (by decide) (by decide) (by decide) (by decide) (by decide) (by decide) (by decide) (by decide) (by decide) (by decide) (by decide) (by decide) (by decide)), fun h9 => absurd h9 (by decide +kernel)⟩), (ZWM.keep w_1581_2 m_1583 (by decide) (by decide) (by decide) (by decide)), trivial⟩ dX12_operand_481
                          · have jc_1580 := dk_eqc (k := 0) (by decide +kernel) c_1580
                            refine lv_iconst (v := 1) hx hb dX12_operand_434 (by decide +kernel) ?_
                            refine lv_goto (tgt := 439) hx hb dX12_operand_435 (by decide) ?_
                            refine lv_icmp_eq (tgt := 444) hx hb dX12_operand_439 (by decide) (fun c => absurd c (by decide +kernel)) (fun _ => ?_)
                            refine lv_iconst (v := (-1)) hx hb dX12_operand_442 (by decide +kernel) ?_
                            refine lv_istore_n (lv' := [(3, .int (-1)), (2, .int x_14), (1, .int x_5), (0, .ref (o + 0))]) hx hb dX12_operand_443 rfl hl (by decide) rfl (fun ls hl => ?_)
                            refine lv_iload_n hx hb dX12_operand_444 rfl (lv_at hl 0 rfl) ?_
                            refine lv_iconst (v := (-1)) hx hb dX12_operand_445 (by decide +kernel) ?_
                            refine lv_icmp_ne (tgt := 458) hx hb dX12_operand_446 (by decide) (fun c => absurd (by decide +kernel) c) (fun _ => ?_)
                            refine lv_aload_n hx hb dX12_operand_449 rfl (lv_at hl 3 rfl) ?_
                            refine lv_iconst (v := 1) hx hb dX12_operand_450 (by decide +kernel) ?_
                            refine lv_aload_n hx hb dX12_operand_451 rfl (lv_at hl 3 rfl) ?_
                            refine dg_get (C := RX12) (T := TX12) (N := 77) hx hb hts (fun w h => bw_mem (wU_X12 w h)) hown K hP sM_0 rfl 4 (by decide) (hts _ (bw_mem wB_1145)) (fun _ h9 => h9) (v := .int sa) (((dg_uf_F e_574 0 4).trans (m_2.1 0 4 _ sM_0 (by decide))).trans f_sa) dX12_operand_452 ?_
                            have hz_1591 : (1 : Int32).toInt = 1 := by decide +kernel
                            refine dg_callv hS hA1 hA (va_runV (As := [.int 1, .int sa]) (rest := []) F (c_m_blame l g D o S_574 1 (by decide +kernel) sa y_3 ((dg_uf_F e_574 0 8).trans f_y_3) (by omega) I_574 H.size) (cwV 2 hts (bw_V wB_1137 wB_1138 wB_1139 wB_881 wB_1136) rfl rfl rfl (by decide +kernel) ⟨Nat.le_of_ble_eq_true rfl, Nat.le_of_ble_eq_true rfl⟩) (dg_preV sM_0 rfl K ST hP hS hA1 hA) rfl rfl hl.1 rfl (lv_room (Nat.le_of_ble_eq_true rfl)) dX12_operand_455 ⟨Nat.le_of_ble_eq_true rfl, Nat.le_of_ble_eq_true rfl⟩) (fun S_1592 hw_1592 H locs hP hS => ?_)
                            obtain ⟨I_1592, m_1592, w_1592_0, -⟩ := hw_1592
                            have M_1592 := dg_sm.tr M_574 m_1592 (by decide) (by decide)
                            have hz_1593 : (1 : Int32).toInt = 1 := by decide +kernel
                            obtain ⟨y_1594, f_y_1594, w_1592_0⟩ := w_1592_0
                            have w_1592_0 : ((y_3).toInt ≠ 0 → (y_1594).toInt = (y_3).toInt) ∧ ((y_3).toInt = 0 → (y_1594).toInt = ((1 : Int32)).toInt) := w_1592_0
                            obtain ⟨w_1592_0_0, w_1592_0_1⟩ := w_1592_0
                            clear w_1592_0_0
                            have w_1592_0_1r := w_1592_0_1 (by omega)
                            clear w_1592_0_1
                            have b_y_1594 : 0 ≤ (y_1594).toInt ∧ (y_1594).toInt ≤ 6 := dg_I.intb (lo := 0) (hi := 6) I_1592 sM_0 (by decide +kernel) f_y_1594
                            have hbl_y_1594 : 1 ≤ (y_1594).toInt := by omega
                            refine lv_aload_n hx hb dX12_operand_458 rfl (lv_at hl 3 rfl) ?_
                            refine dg_get (C := RX12) (T := TX12) (N := 77) hx hb hts (fun w h => bw_mem (wU_X12 w h)) hown K hP sM_0 rfl 8 (by decide) (hts _ (bw_mem wB_1133)) (fun _ h9 => h9) (v := .int y_1594) f_y_1594 dX12_operand_459 ?_
                            refine lv_if_le (tgt := 467) hx hb dX12_operand_462 (by decide) (fun c => absurd c (fun z => absurd (dk_lec (k := 0) (by decide +kernel) z) (by omega))) (fun _ => ?_)
                            refine lv_iconst (v := 1) hx hb dX12_operand_465 (by decide +kernel) ?_
                            have hz_1595 : (1 : Int32).toInt = 1 := by decide +kernel
                            have hz_1596 : (1 : Int32).toInt = 1 := by decide +kernel
                            have hz_1597 : (1 : Int32).toInt = 1 := by decide +kernel
                            have hz_1598 : (1 : Int32).toInt = 1 := by decide +kernel
                            refine W.widen (k := 0) (n := 0) (Nat.le_of_ble_eq_true rfl) (Nat.le_of_ble_eq_true rfl) ?_
                            rw [hQ9]
                            exact dg_iret hx hb hr hlocks (by decide +kernel) hP hS ⟨I_1592, M_1592, (by decide +kernel), ⟨sg, sa, se, y_1594, cd, dp, om, (((m_1592.1 0 3 _ sM_0 (by decide)).trans ((dg_uf_F e_574 0 3).trans (m_2.1 0 3 _ sM_0 (by decide)))).trans f_sg), (((m_1592.1 0 4 _ sM_0 (by decide)).trans ((dg_uf_F e_574 0 4).trans (m_2.1 0 4 _ sM_0 (by decide)))).trans f_sa), (((m_1592.1 0 5 _ sM_0 (by decide)).trans ((dg_uf_F e_574 0 5).trans (m_2.1 0 5 _ sM_0 (by decide)))).trans f_se), f_y_1594, (((m_1592.1 0 34 _ sM_0 (by decide)).trans ((dg_uf_F e_574 0 34).trans (m_2.1 0 34 _ sM_0 (by decide)))).trans f_cd), (((m_1592.1 0 42 _ sM_0 (by decide)).trans ((dg_uf_F e_574 0 42).trans (m_2.1 0 42 _ sM_0 (by decide)))).trans f_dp), (((m_1592.1 0 45 _ sM_0 (by decide)).trans ((dg_uf_F e_574 0 45).trans (m_2.1 0 45 _ sM_0 (by decide)))).trans f_om), (by omega)⟩, (fun k9 hk9 hk0 => by have q9 := (f_y_1594).symm.trans hk9; cases q9; omega), (ZWM.keep (ZWM.keep (ZWM.keep ZW m_2 (by decide) (by decide) (by decide) (by decide)) (dg_sm.uf (WF := []) (WA := [24]) dg_sm.rf e_574 sM_24 (by decide)) (by decide) (by decide) (by decide) (by decide)) m_1592 (by decide) (by decide) (by decide) (by decide)), trivial⟩ dX12_operand_466
                        · have jc_1578 := dk_eqc (k := 4) (by decide +kernel) c_1578
                          refine lv_iconst (v := 1) hx hb dX12_operand_422 (by decide +kernel) ?_
                          refine lv_goto (tgt := 427) hx hb dX12_operand_423 (by decide) ?_
                          refine lv_aload_n hx hb dX12_operand_427 rfl (lv_at hl 3 rfl) ?_
                          obtain ⟨x_1599, f_x_1599, b_x_1599⟩ := dg_I.int (i := 0) (k := 36) (lo := 0) (hi := 2) I sM_0 (by decide +kernel)
                          refine dg_get (C := RX12) (T := TX12) (N := 77) hx hb hts (fun w h => bw_mem (wU_X12 w h)) hown K hP sM_0 rfl 36 (by decide) (hts _ (bw_mem wB_1231)) (fun _ h9 => h9) (v := .int x_1599) (((dg_uf_F e_574 0 36).trans (m_2.1 0 36 _ sM_0 (by decide))).trans f_x_1599) dX12_operand_428 ?_
                          refine lv_if_ne (tgt := 438) hx hb dX12_operand_431 (by decide) (fun c_1600 => ?_) (fun c_1600 => ?_)
                          · have jc_1600 := dk_neqc (k := 0) (by decide +kernel) c_1600
                            have jbc_1600 : 1 ≤ (x_1599).toInt := by omega
                            clear jc_1600
                            refine lv_iconst (v := 0) hx hb dX12_operand_438 (by decide +kernel) ?_
                            refine lv_icmp_eq (tgt := 444) hx hb dX12_operand_439 (by decide) (fun c => absurd c (by decide +kernel)) (fun _ => ?_)
                            refine lv_iconst (v := (-1)) hx hb dX12_operand_442 (by decide +kernel) ?_
                            refine lv_istore_n (lv' := [(3, .int (-1)), (2, .int x_14), (1, .int x_5), (0, .ref (o + 0))]) hx hb dX12_operand_443 rfl hl (by decide) rfl (fun ls hl => ?_)
                            refine lv_iload_n hx hb dX12_operand_444 rfl (lv_at hl 0 rfl) ?_
                            refine lv_iconst (v := (-1)) hx hb dX12_operand_445 (by decide +kernel) ?_
                            refine lv_icmp_ne (tgt := 458) hx hb dX12_operand_446 (by decide) (fun c => absurd (by decide +kernel) c) (fun _ => ?_)
                            refine lv_aload_n hx hb dX12_operand_449 rfl (lv_at hl 3 rfl) ?_
                            refine lv_iconst (v := 1) hx hb dX12_operand_450 (by decide +kernel) ?_
                            refine lv_aload_n hx hb dX12_operand_451 rfl (lv_at hl 3 rfl) ?_
                            refine dg_get (C := RX12) (T := TX12) (N := 77) hx hb hts (fun w h => bw_mem (wU_X12 w h)) hown K hP sM_0 rfl 4 (by decide) (hts _ (bw_mem wB_1145)) (fun _ h9 => h9) (v := .int sa) (((dg_uf_F e_574 0 4).trans (m_2.1 0 4 _ sM_0 (by decide))).trans f_sa) dX12_operand_452 ?_
                            have hz_1601 : (1 : Int32).toInt = 1 := by decide +kernel
                            refine dg_callv hS hA1 hA (va_runV (As := [.int 1, .int sa]) (rest := []) F (c_m_blame l g D o S_574 1 (by decide +kernel) sa y_3 ((dg_uf_F e_574 0 8).trans f_y_3) (by omega) I_574 H.size) (cwV 2 hts (bw_V wB_1137 wB_1138 wB_1139 wB_881 wB_1136) rfl rfl rfl (by decide +kernel) ⟨Nat.le_of_ble_eq_true rfl, Nat.le_of_ble_eq_true rfl⟩) (dg_preV sM_0 rfl K ST hP hS hA1 hA) rfl rfl hl.1 rfl (lv_room (Nat.le_of_ble_eq_true rfl)) dX12_operand_455 ⟨Nat.le_of_ble_eq_true rfl, Nat.le_of_ble_eq_true rfl⟩) (fun S_1602 hw_1602 H locs hP hS => ?_)
                            obtain ⟨I_1602, m_1602, w_1602_0, -⟩ := hw_1602
                            have M_1602 := dg_sm.tr M_574 m_1602 (by decide) (by decide)
                            have hz_1603 : (1 : Int32).toInt = 1 := by decide +kernel
                            obtain ⟨y_1604, f_y_1604, w_1602_0⟩ := w_1602_0
                            have w_1602_0 : ((y_3).toInt ≠ 0 → (y_1604).toInt = (y_3).toInt) ∧ ((y_3).toInt = 0 → (y_1604).toInt = ((1 : Int32)).toInt) := w_1602_0
                            obtain ⟨w_1602_0_0, w_1602_0_1⟩ := w_1602_0
                            clear w_1602_0_0
                            have w_1602_0_1r := w_1602_0_1 (by omega)
                            clear w_1602_0_1
                            have b_y_1604 : 0 ≤ (y_1604).toInt ∧ (y_1604).toInt ≤ 6 := dg_I.intb (lo := 0) (hi := 6) I_1602 sM_0 (by decide +kernel) f_y_1604
                            have hbl_y_1604 : 1 ≤ (y_1604).toInt := by omega
                            refine lv_aload_n hx hb dX12_operand_458 rfl (lv_at hl 3 rfl) ?_
                            refine dg_get (C := RX12) (T := TX12) (N := 77) hx hb hts (fun w h => bw_mem (wU_X12 w h)) hown K hP sM_0 rfl 8 (by decide) (hts _ (bw_mem wB_1133)) (fun _ h9 => h9) (v := .int y_1604) f_y_1604 dX12_operand_459 ?_
                            refine lv_if_le (tgt := 467) hx hb dX12_operand_462 (by decide) (fun c => absurd c (fun z => absurd (dk_lec (k := 0) (by decide +kernel) z) (by omega))) (fun _ => ?_)
                            refine lv_iconst (v := 1) hx hb dX12_operand_465 (by decide +kernel) ?_
                            have hz_1605 : (1 : Int32).toInt = 1 := by decide +kernel
                            have hz_1606 : (1 : Int32).toInt = 1 := by decide +kernel
                            have hz_1607 : (1 : Int32).toInt = 1 := by decide +kernel
                            have hz_1608 : (1 : Int32).toInt = 1 := by decide +kernel
                            refine W.widen (k := 0) (n := 0) (Nat.le_of_ble_eq_true rfl) (Nat.le_of_ble_eq_true rfl) ?_
                            rw [hQ9]
                            exact dg_iret hx hb hr hlocks (by decide +kernel) hP hS ⟨I_1602, M_1602, (by decide +kernel), ⟨sg, sa, se, y_1604, cd, dp, om, (((m_1602.1 0 3 _ sM_0 (by decide)).trans ((dg_uf_F e_574 0 3).trans (m_2.1 0 3 _ sM_0 (by decide)))).trans f_sg), (((m_1602.1 0 4 _ sM_0 (by decide)).trans ((dg_uf_F e_574 0 4).trans (m_2.1 0 4 _ sM_0 (by decide)))).trans f_sa), (((m_1602.1 0 5 _ sM_0 (by decide)).trans ((dg_uf_F e_574 0 5).trans (m_2.1 0 5 _ sM_0 (by decide)))).trans f_se), f_y_1604, (((m_1602.1 0 34 _ sM_0 (by decide)).trans ((dg_uf_F e_574 0 34).trans (m_2.1 0 34 _ sM_0 (by decide)))).trans f_cd), (((m_1602.1 0 42 _ sM_0 (by decide)).trans ((dg_uf_F e_574 0 42).trans (m_2.1 0 42 _ sM_0 (by decide)))).trans f_dp), (((m_1602.1 0 45 _ sM_0 (by decide)).trans ((dg_uf_F e_574 0 45).trans (m_2.1 0 45 _ sM_0 (by decide)))).trans f_om), (by omega)⟩, (fun k9 hk9 hk0 => by have q9 := (f_y_1604).symm.trans hk9; cases q9; omega), (ZWM.keep (ZWM.keep (ZWM.keep ZW m_2 (by decide) (by decide) (by decide) (by decide)) (dg_sm.uf (WF := []) (WA := [24]) dg_sm.rf e_574 sM_24 (by decide)) (by decide) (by decide) (by decide) (by decide)) m_1602 (by decide) (by decide) (by decide) (by decide)), trivial⟩ dX12_operand_466
                          · have jc_1600 := dk_eqc (k := 0) (by decide +kernel) c_1600
                            refine lv_iconst (v := 1) hx hb dX12_operand_434 (by decide +kernel) ?_
                            refine lv_goto (tgt := 439) hx hb dX12_operand_435 (by decide) ?_
                            refine lv_icmp_eq (tgt := 444) hx hb dX12_operand_439 (by decide) (fun _ => ?_) (fun c => absurd (by decide +kernel) c)
                            refine lv_iload_n hx hb dX12_operand_444 rfl (lv_at hl 0 rfl) ?_
                            refine lv_iconst (v := (-1)) hx hb dX12_operand_445 (by decide +kernel) ?_
                            refine lv_icmp_ne (tgt := 458) hx hb dX12_operand_446 (by decide) (fun _ => ?_) (fun c => absurd c (fun z => absurd (dk_eqc (k := (-1)) (by decide +kernel) z) (by omega)))
                            refine lv_aload_n hx hb dX12_operand_458 rfl (lv_at hl 3 rfl) ?_
                            refine dg_get (C := RX12) (T := TX12) (N := 77) hx hb hts (fun w h => bw_mem (wU_X12 w h)) hown K hP sM_0 rfl 8 (by decide) (hts _ (bw_mem wB_1133)) (fun _ h9 => h9) (v := .int y_3) ((dg_uf_F e_574 0 8).trans f_y_3) dX12_operand_459 ?_
                            refine lv_if_le (tgt := 467) hx hb dX12_operand_462 (by decide) (fun _ => ?_) (fun c => absurd (dk_lep (k := 0) (by decide +kernel) (by omega)) c)
                            refine lv_aload_n hx hb dX12_operand_467 rfl (lv_at hl 3 rfl) ?_
                            refine lv_iload_n hx hb dX12_operand_468 rfl (lv_at hl 0 rfl) ?_
                            refine lv_aload_n hx hb dX12_operand_469 rfl (lv_at hl 3 rfl) ?_
                            refine dg_get (C := RX12) (T := TX12) (N := 77) hx hb hts (fun w h => bw_mem (wU_X12 w h)) hown K hP sM_0 rfl 6 (by decide) (hts _ (bw_mem wB_1141)) (fun _ h9 => h9) (v := .int va) (((dg_uf_F e_574 0 6).trans (m_2.1 0 6 _ sM_0 (by decide))).trans f_va) dX12_operand_470 ?_
                            refine dg_callv hS hA1 hA (va_runV (As := [.int x_1495, .int va]) (rest := []) F (c_m_add l g D o S_574 x_1495 (by omega) va cd (((dg_uf_F e_574 0 34).trans (m_2.1 0 34 _ sM_0 (by decide))).trans f_cd) (by omega) (ZWM.keep (ZWM.keep ZW m_2 (by decide) (by decide) (by decide) (by decide)) (dg_sm.uf (WF := []) (WA := [24]) dg_sm.rf e_574 sM_24 (by decide)) (by decide) (by decide) (by decide) (by decide)) (ZKM.keep (ZKM.keep ZK m_2 (by decide) (by decide)) (dg_sm.uf (WF := []) (WA := [24]) dg_sm.rf e_574 sM_24 (by decide)) (by decide) (by decide)) I_574 H.size) (cwV 2 hts (bw_V wB_1209 wB_1210 wB_1211 wB_881 wB_1208) rfl rfl rfl (by decide +kernel) ⟨Nat.le_of_ble_eq_true rfl, Nat.le_of_ble_eq_true rfl⟩) (dg_preV sM_0 rfl K ST hP hS hA1 hA) rfl rfl hl.1 rfl (lv_room (Nat.le_of_ble_eq_true rfl)) dX12_operand_473 ⟨Nat.le_of_ble_eq_true rfl, Nat.le_of_ble_eq_true rfl⟩) (fun S_1609 hw_1609 H locs hP hS => ?_)
                            obtain ⟨I_1609, m_1609, w_1609_0, w_1609_1, w_1609_2, -⟩ := hw_1609
                            have M_1609 := dg_sm.tr M_574 m_1609 (by decide) (by decide)
                            obtain ⟨y_1610, f_y_1610, w_1609_0⟩ := w_1609_0
                            have w_1609_0 : (y_1610).toInt = (cd).toInt + 1 := w_1609_0
                            have b_y_1610 : 0 ≤ (y_1610).toInt ∧ (y_1610).toInt ≤ 1600 := dg_I.intb (lo := 0) (hi := 1600) I_1609 sM_0 (by decide +kernel) f_y_1610
                            have w_1609_1 : ADM S_574 S_1609 x_1495 := w_1609_1
                            have P1_1609 : P1M S_1609 := PBM.leaf PB_574 (((dg_uf_F e_574 0 42).trans (m_2.1 0 42 _ sM_0 (by decide))).trans f_dp) (((dg_uf_F e_574 0 43).trans (m_2.1 0 43 _ sM_0 (by decide))).trans f_on) (((dg_uf_F e_574 0 45).trans (m_2.1 0 45 _ sM_0 (by decide))).trans f_om) m_1609 w_1609_1 (by omega)
                            refine lv_aload_n hx hb dX12_operand_476 rfl (lv_at hl 3 rfl) ?_
                            refine dg_callv hS hA1 hA (va_runV (As := []) (rest := []) F (c_m_ahead l g D o S_1609 se (((m_1609.1 0 5 _ sM_0 (by decide)).trans ((dg_uf_F e_574 0 5).trans (m_2.1 0 5 _ sM_0 (by decide)))).trans f_se) (by omega) sl (((m_1609.1 0 2 _ sM_0 (by decide)).trans ((dg_uf_F e_574 0 2).trans (m_2.1 0 2 _ sM_0 (by decide)))).trans f_sl) (by omega) (by omega) I_1609 H.size) (cwV 0 hts (bw_V wB_1161 wB_1162 wB_1163 wB_881 wB_1160) rfl rfl rfl (by decide +kernel) ⟨Nat.le_of_ble_eq_true rfl, Nat.le_of_ble_eq_true rfl⟩) (dg_preV sM_0 rfl K ST hP hS hA1 hA) rfl rfl hl.1 rfl (lv_room (Nat.le_of_ble_eq_true rfl)) dX12_operand_477 ⟨Nat.le_of_ble_eq_true rfl, Nat.le_of_ble_eq_true rfl⟩) (fun S_1611 hw_1611 H locs hP hS => ?_)
                            obtain ⟨I_1611, m_1611, w_1611_0, -⟩ := hw_1611
                            have M_1611 := dg_sm.tr M_1609 m_1611 (by decide) (by decide)
                            obtain ⟨y_1612, y_1613, y_1614, f_y_1612, f_y_1613, f_y_1614, w_1611_0⟩ := w_1611_0
                            have w_1611_0 : (se).toInt ≤ (y_1613).toInt ∧ (y_1613).toInt ≤ (y_1614).toInt ∧ (y_1614).toInt ≤ (sl).toInt ∧ ((y_1612).toInt ≠ 0 → (y_1613).toInt + 1 ≤ (y_1614).toInt) := w_1611_0
                            obtain ⟨w_1611_0_0, w_1611_0_1, w_1611_0_2, w_1611_0_3⟩ := w_1611_0
                            have b_y_1612 : 0 ≤ (y_1612).toInt ∧ (y_1612).toInt ≤ 3 := dg_I.intb (lo := 0) (hi := 3) I_1611 sM_0 (by decide +kernel) f_y_1612
                            have b_y_1613 : 0 ≤ (y_1613).toInt ∧ (y_1613).toInt ≤ 1600 := dg_I.intb (lo := 0) (hi := 1600) I_1611 sM_0 (by decide +kernel) f_y_1613
                            have b_y_1614 : 0 ≤ (y_1614).toInt ∧ (y_1614).toInt ≤ 1600 := dg_I.intb (lo := 0) (hi := 1600) I_1611 sM_0 (by decide +kernel) f_y_1614
                            refine lv_iconst (v := 1) hx hb dX12_operand_480 (by decide +kernel) ?_
                            have hz_1615 : (1 : Int32).toInt = 1 := by decide +kernel
                            have hz_1616 : (1 : Int32).toInt = 1 := by decide +kernel
                            have hz_1617 : (1 : Int32).toInt = 1 := by decide +kernel
                            have hz_1618 : (1 : Int32).toInt = 1 := by decide +kernel
                            refine W.widen (k := 0) (n := 0) (Nat.le_of_ble_eq_true rfl) (Nat.le_of_ble_eq_true rfl) ?_
                            rw [hQ9]
                            exact dg_iret hx hb hr hlocks (by decide +kernel) hP hS ⟨I_1611, M_1611, (by decide +kernel), ⟨y_1612, y_1613, y_1614, y_3, y_1610, dp, om, f_y_1612, f_y_1613, f_y_1614, (((m_1611.1 0 8 _ sM_0 (by decide)).trans ((m_1609.1 0 8 _ sM_0 (by decide)).trans (dg_uf_F e_574 0 8))).trans f_y_3), ((m_1611.1 0 34 _ sM_0 (by decide)).trans f_y_1610), (((m_1611.1 0 42 _ sM_0 (by decide)).trans ((m_1609.1 0 42 _ sM_0 (by decide)).trans ((dg_uf_F e_574 0 42).trans (m_2.1 0 42 _ sM_0 (by decide))))).trans f_dp), (((m_1611.1 0 45 _ sM_0 (by decide)).trans ((m_1609.1 0 45 _ sM_0 (by decide)).trans ((dg_uf_F e_574 0 45).trans (m_2.1 0 45 _ sM_0 (by decide))))).trans f_om), (by omega)⟩, (fun k9 hk9 hk0 => ⟨fun _ => (P1M.keep P1_1609 m_1611 (by decide) (by decide) (by decide) (by decide) (by decide) (by decide) (by decide) (by decide) (by decide) (by decide) (by decide) (by decide) (by decide) (by decide) (by decide)), fun h9 => absurd h9 (by decide +kernel)⟩), (ZWM.keep w_1609_2 m_1611 (by decide) (by decide) (by decide) (by decide)), trivial⟩ dX12_operand_481
                    refine lv_icmp_ne (tgt := 325) hx hb dX12_operand_318 (by decide) (fun c_1619 => ?_) (fun c_1619 => ?_)
                    · have jc_1619 := dk_neqc (k := 2) (by decide +kernel) c_1619
                      clear jc_1619
                      refine lv_aload_n hx hb dX12_operand_325 rfl (lv_at hl 2 rfl) ?_
                      refine lv_ldc2 hx hb hown (hts _ (bw_mem wB_1173)) dX12_operand_326 ?_
                      refine dg_calli hS hA1 hA (va_runV (As := [.long 444300616805]) (rest := []) F (c_m_isWord l g D o S_574 444300616805 sg (((dg_uf_F e_574 0 3).trans (m_2.1 0 3 _ sM_0 (by decide))).trans f_sg) (by omega) I_574 H.size) (cwV 1 hts (bw_V wB_1165 wB_1166 wB_1167 wB_881 wB_1164) rfl rfl rfl (by decide +kernel) ⟨Nat.le_of_ble_eq_true rfl, Nat.le_of_ble_eq_true rfl⟩) (dg_preV sM_0 rfl K ST hP hS hA1 hA) rfl rfl hl.1 rfl (lv_room (Nat.le_of_ble_eq_true rfl)) dX12_operand_329 ⟨Nat.le_of_ble_eq_true rfl, Nat.le_of_ble_eq_true rfl⟩) (fun x_1620 S_1621 hw_1621 H locs hP hS => ?_)
                      rw [hw_1621.1] at hP
                      obtain ⟨hq_1621, w_1621_0, w_1621_1, -⟩ := hw_1621
                      have w_1621_0 : 0 ≤ (x_1620).toInt ∧ (x_1620).toInt ≤ 1 := w_1621_0
                      have w_1621_1 : (x_1620).toInt = 1 → (sg).toInt = 1 := w_1621_1
                      refine lv_if_eq (tgt := 339) hx hb dX12_operand_332 (by decide) (fun c_1622 => ?_) (fun c_1622 => ?_)
                      · have jc_1622 := dk_eqc (k := 0) (by decide +kernel) c_1622
                        clear w_1621_1
                        refine lv_aload_n hx hb dX12_operand_339 rfl (lv_at hl 2 rfl) ?_
                        refine lv_ldc2 hx hb hown (hts _ (bw_mem wB_1183)) dX12_operand_340 ?_
                        refine dg_calli hS hA1 hA (va_runV (As := [.long 431198598248]) (rest := []) F (c_m_isWord l g D o S_574 431198598248 sg (((dg_uf_F e_574 0 3).trans (m_2.1 0 3 _ sM_0 (by decide))).trans f_sg) (by omega) I_574 H.size) (cwV 1 hts (bw_V wB_1165 wB_1166 wB_1167 wB_881 wB_1164) rfl rfl rfl (by decide +kernel) ⟨Nat.le_of_ble_eq_true rfl, Nat.le_of_ble_eq_true rfl⟩) (dg_preV sM_0 rfl K ST hP hS hA1 hA) rfl rfl hl.1 rfl (lv_room (Nat.le_of_ble_eq_true rfl)) dX12_operand_343 ⟨Nat.le_of_ble_eq_true rfl, Nat.le_of_ble_eq_true rfl⟩) (fun x_1623 S_1624 hw_1624 H locs hP hS => ?_)
                        rw [hw_1624.1] at hP
                        obtain ⟨hq_1624, w_1624_0, w_1624_1, -⟩ := hw_1624
                        have w_1624_0 : 0 ≤ (x_1623).toInt ∧ (x_1623).toInt ≤ 1 := w_1624_0
                        have w_1624_1 : (x_1623).toInt = 1 → (sg).toInt = 1 := w_1624_1
                        refine lv_if_eq (tgt := 353) hx hb dX12_operand_346 (by decide) (fun c_1625 => ?_) (fun c_1625 => ?_)
                        · have jc_1625 := dk_eqc (k := 0) (by decide +kernel) c_1625
                          clear w_1624_1
                          refine lv_aload_n hx hb dX12_operand_353 rfl (lv_at hl 2 rfl) ?_
                          refine lv_ldc2 hx hb hown (hts _ (bw_mem wB_1184)) dX12_operand_354 ?_
                          refine dg_calli hS hA1 hA (va_runV (As := [.long 495672977012]) (rest := []) F (c_m_isWord l g D o S_574 495672977012 sg (((dg_uf_F e_574 0 3).trans (m_2.1 0 3 _ sM_0 (by decide))).trans f_sg) (by omega) I_574 H.size) (cwV 1 hts (bw_V wB_1165 wB_1166 wB_1167 wB_881 wB_1164) rfl rfl rfl (by decide +kernel) ⟨Nat.le_of_ble_eq_true rfl, Nat.le_of_ble_eq_true rfl⟩) (dg_preV sM_0 rfl K ST hP hS hA1 hA) rfl rfl hl.1 rfl (lv_room (Nat.le_of_ble_eq_true rfl)) dX12_operand_357 ⟨Nat.le_of_ble_eq_true rfl, Nat.le_of_ble_eq_true rfl⟩) (fun x_1626 S_1627 hw_1627 H locs hP hS => ?_)
                          rw [hw_1627.1] at hP
                          obtain ⟨hq_1627, w_1627_0, w_1627_1, -⟩ := hw_1627
                          have w_1627_0 : 0 ≤ (x_1626).toInt ∧ (x_1626).toInt ≤ 1 := w_1627_0
                          have w_1627_1 : (x_1626).toInt = 1 → (sg).toInt = 1 := w_1627_1
                          refine lv_if_eq (tgt := 367) hx hb dX12_operand_360 (by decide) (fun c_1628 => ?_) (fun c_1628 => ?_)
                          · have jc_1628 := dk_eqc (k := 0) (by decide +kernel) c_1628
                            clear w_1627_1
                            refine lv_aload_n hx hb dX12_operand_367 rfl (lv_at hl 2 rfl) ?_
                            refine lv_ldc2 hx hb hown (hts _ (bw_mem wB_1185)) dX12_operand_368 ?_
                            refine dg_calli hS hA1 hA (va_runV (As := [.long 6709618]) (rest := []) F (c_m_isWord l g D o S_574 6709618 sg (((dg_uf_F e_574 0 3).trans (m_2.1 0 3 _ sM_0 (by decide))).trans f_sg) (by omega) I_574 H.size) (cwV 1 hts (bw_V wB_1165 wB_1166 wB_1167 wB_881 wB_1164) rfl rfl rfl (by decide +kernel) ⟨Nat.le_of_ble_eq_true rfl, Nat.le_of_ble_eq_true rfl⟩) (dg_preV sM_0 rfl K ST hP hS hA1 hA) rfl rfl hl.1 rfl (lv_room (Nat.le_of_ble_eq_true rfl)) dX12_operand_371 ⟨Nat.le_of_ble_eq_true rfl, Nat.le_of_ble_eq_true rfl⟩) (fun x_1629 S_1630 hw_1630 H locs hP hS => ?_)
                            rw [hw_1630.1] at hP
                            obtain ⟨hq_1630, w_1630_0, w_1630_1, -⟩ := hw_1630
                            have w_1630_0 : 0 ≤ (x_1629).toInt ∧ (x_1629).toInt ≤ 1 := w_1630_0
                            have w_1630_1 : (x_1629).toInt = 1 → (sg).toInt = 1 := w_1630_1
                            refine lv_if_eq (tgt := 381) hx hb dX12_operand_374 (by decide) (fun c_1631 => ?_) (fun c_1631 => ?_)
                            · have jc_1631 := dk_eqc (k := 0) (by decide +kernel) c_1631
                              clear w_1630_1
                              refine lv_aload_n hx hb dX12_operand_381 rfl (lv_at hl 2 rfl) ?_
                              refine lv_ldc2 hx hb hown (hts _ (bw_mem wB_1186)) dX12_operand_382 ?_
                              refine dg_calli hS hA1 hA (va_runV (As := [.long 1869636974]) (rest := []) F (c_m_isWord l g D o S_574 1869636974 sg (((dg_uf_F e_574 0 3).trans (m_2.1 0 3 _ sM_0 (by decide))).trans f_sg) (by omega) I_574 H.size) (cwV 1 hts (bw_V wB_1165 wB_1166 wB_1167 wB_881 wB_1164) rfl rfl rfl (by decide +kernel) ⟨Nat.le_of_ble_eq_true rfl, Nat.le_of_ble_eq_true rfl⟩) (dg_preV sM_0 rfl K ST hP hS hA1 hA) rfl rfl hl.1 rfl (lv_room (Nat.le_of_ble_eq_true rfl)) dX12_operand_385 ⟨Nat.le_of_ble_eq_true rfl, Nat.le_of_ble_eq_true rfl⟩) (fun x_1632 S_1633 hw_1633 H locs hP hS => ?_)
                              rw [hw_1633.1] at hP
                              obtain ⟨hq_1633, w_1633_0, w_1633_1, -⟩ := hw_1633
                              have w_1633_0 : 0 ≤ (x_1632).toInt ∧ (x_1632).toInt ≤ 1 := w_1633_0
                              have w_1633_1 : (x_1632).toInt = 1 → (sg).toInt = 1 := w_1633_1
                              refine lv_if_eq (tgt := 395) hx hb dX12_operand_388 (by decide) (fun c_1634 => ?_) (fun c_1634 => ?_)
                              · have jc_1634 := dk_eqc (k := 0) (by decide +kernel) c_1634
                                clear w_1633_1
                                refine lv_aload_n hx hb dX12_operand_395 rfl (lv_at hl 2 rfl) ?_
                                refine lv_ldc2 hx hb hown (hts _ (bw_mem wB_1187)) dX12_operand_396 ?_
                                refine dg_calli hS hA1 hA (va_runV (As := [.long 7104884]) (rest := []) F (c_m_isWord l g D o S_574 7104884 sg (((dg_uf_F e_574 0 3).trans (m_2.1 0 3 _ sM_0 (by decide))).trans f_sg) (by omega) I_574 H.size) (cwV 1 hts (bw_V wB_1165 wB_1166 wB_1167 wB_881 wB_1164) rfl rfl rfl (by decide +kernel) ⟨Nat.le_of_ble_eq_true rfl, Nat.le_of_ble_eq_true rfl⟩) (dg_preV sM_0 rfl K ST hP hS hA1 hA) rfl rfl hl.1 rfl (lv_room (Nat.le_of_ble_eq_true rfl)) dX12_operand_399 ⟨Nat.le_of_ble_eq_true rfl, Nat.le_of_ble_eq_true rfl⟩) (fun x_1635 S_1636 hw_1636 H locs hP hS => ?_)
                                rw [hw_1636.1] at hP
                                obtain ⟨hq_1636, w_1636_0, w_1636_1, -⟩ := hw_1636
                                have w_1636_0 : 0 ≤ (x_1635).toInt ∧ (x_1635).toInt ≤ 1 := w_1636_0
                                have w_1636_1 : (x_1635).toInt = 1 → (sg).toInt = 1 := w_1636_1
                                refine lv_if_eq (tgt := 410) hx hb dX12_operand_402 (by decide) (fun c_1637 => ?_) (fun c_1637 => ?_)
                                · have jc_1637 := dk_eqc (k := 0) (by decide +kernel) c_1637
                                  clear w_1636_1
                                  refine lv_iconst (v := (-1)) hx hb dX12_operand_410 (by decide +kernel) ?_
                                  have hz_1638 : (-1 : Int32).toInt = (-1) := by decide +kernel
                                  have hz_1639 : (-1 : Int32).toInt = (-1) := by decide +kernel
                                  exact J_1557 (-1) (by decide +kernel) (by omega) _ _ hP hS _ (lv_sub hl [0, 1, 2] rfl)
                                · have jc_1637 := dk_neqc (k := 0) (by decide +kernel) c_1637
                                  have jbc_1637 : 1 ≤ (x_1635).toInt := by omega
                                  clear jc_1637
                                  have w_1636_1_r := w_1636_1 (by omega)
                                  clear w_1636_1
                                  have hlx_2r := hlx_2 (by omega)
                                  clear hlx_2
                                  refine lv_bipush (v := 6) hx hb dX12_operand_405 (by decide +kernel) ?_
                                  refine lv_goto (tgt := 411) hx hb dX12_operand_407 (by decide) ?_
                                  have hz_1640 : (6 : Int32).toInt = 6 := by decide +kernel
                                  have hz_1641 : (6 : Int32).toInt = 6 := by decide +kernel
                                  exact J_1557 6 (by decide +kernel) (by omega) _ _ hP hS _ (lv_sub hl [0, 1, 2] rfl)
                              · have jc_1634 := dk_neqc (k := 0) (by decide +kernel) c_1634
                                have jbc_1634 : 1 ≤ (x_1632).toInt := by omega
                                clear jc_1634
                                have w_1633_1_r := w_1633_1 (by omega)
                                clear w_1633_1
                                have hlx_2r := hlx_2 (by omega)
                                clear hlx_2
                                refine lv_iconst (v := 5) hx hb dX12_operand_391 (by decide +kernel) ?_
                                refine lv_goto (tgt := 411) hx hb dX12_operand_392 (by decide) ?_
                                have hz_1642 : (5 : Int32).toInt = 5 := by decide +kernel
                                have hz_1643 : (5 : Int32).toInt = 5 := by decide +kernel
                                exact J_1557 5 (by decide +kernel) (by omega) _ _ hP hS _ (lv_sub hl [0, 1, 2] rfl)
                            · have jc_1631 := dk_neqc (k := 0) (by decide +kernel) c_1631
                              have jbc_1631 : 1 ≤ (x_1629).toInt := by omega
                              clear jc_1631
                              have w_1630_1_r := w_1630_1 (by omega)
                              clear w_1630_1
                              have hlx_2r := hlx_2 (by omega)
                              clear hlx_2
                              refine lv_iconst (v := 4) hx hb dX12_operand_377 (by decide +kernel) ?_
                              refine lv_goto (tgt := 411) hx hb dX12_operand_378 (by decide) ?_
                              have hz_1644 : (4 : Int32).toInt = 4 := by decide +kernel
                              have hz_1645 : (4 : Int32).toInt = 4 := by decide +kernel
                              exact J_1557 4 (by decide +kernel) (by omega) _ _ hP hS _ (lv_sub hl [0, 1, 2] rfl)
                          · have jc_1628 := dk_neqc (k := 0) (by decide +kernel) c_1628
                            have jbc_1628 : 1 ≤ (x_1626).toInt := by omega
                            clear jc_1628
                            have w_1627_1_r := w_1627_1 (by omega)
                            clear w_1627_1
                            have hlx_2r := hlx_2 (by omega)
                            clear hlx_2
                            refine lv_iconst (v := 3) hx hb dX12_operand_363 (by decide +kernel) ?_
                            refine lv_goto (tgt := 411) hx hb dX12_operand_364 (by decide) ?_
                            have hz_1646 : (3 : Int32).toInt = 3 := by decide +kernel
                            have hz_1647 : (3 : Int32).toInt = 3 := by decide +kernel
                            exact J_1557 3 (by decide +kernel) (by omega) _ _ hP hS _ (lv_sub hl [0, 1, 2] rfl)
                        · have jc_1625 := dk_neqc (k := 0) (by decide +kernel) c_1625
                          have jbc_1625 : 1 ≤ (x_1623).toInt := by omega
                          clear jc_1625
                          have w_1624_1_r := w_1624_1 (by omega)
                          clear w_1624_1
                          have hlx_2r := hlx_2 (by omega)
                          clear hlx_2
                          refine lv_iconst (v := 2) hx hb dX12_operand_349 (by decide +kernel) ?_
                          refine lv_goto (tgt := 411) hx hb dX12_operand_350 (by decide) ?_
                          have hz_1648 : (2 : Int32).toInt = 2 := by decide +kernel
                          have hz_1649 : (2 : Int32).toInt = 2 := by decide +kernel
                          exact J_1557 2 (by decide +kernel) (by omega) _ _ hP hS _ (lv_sub hl [0, 1, 2] rfl)
                      · have jc_1622 := dk_neqc (k := 0) (by decide +kernel) c_1622
                        have jbc_1622 : 1 ≤ (x_1620).toInt := by omega
                        clear jc_1622
                        have w_1621_1_r := w_1621_1 (by omega)
                        clear w_1621_1
                        have hlx_2r := hlx_2 (by omega)
                        clear hlx_2
                        refine lv_iconst (v := 1) hx hb dX12_operand_335 (by decide +kernel) ?_
                        refine lv_goto (tgt := 411) hx hb dX12_operand_336 (by decide) ?_
                        have hz_1650 : (1 : Int32).toInt = 1 := by decide +kernel
                        have hz_1651 : (1 : Int32).toInt = 1 := by decide +kernel
                        exact J_1557 1 (by decide +kernel) (by omega) _ _ hP hS _ (lv_sub hl [0, 1, 2] rfl)
                    · have jc_1619 := dk_eqc (k := 2) (by decide +kernel) c_1619
                      have hlx_2r := hlx_2 (by omega)
                      clear hlx_2
                      refine lv_iconst (v := 0) hx hb dX12_operand_321 (by decide +kernel) ?_
                      refine lv_goto (tgt := 411) hx hb dX12_operand_322 (by decide) ?_
                      have hz_1652 : (0 : Int32).toInt = 0 := by decide +kernel
                      have hz_1653 : (0 : Int32).toInt = 0 := by decide +kernel
                      exact J_1557 0 (by decide +kernel) (by omega) _ _ hP hS _ (lv_sub hl [0, 1, 2] rfl)
                  · have jc_1475 := dk_neqc (k := 0) (by decide +kernel) c_1475
                    have jbc_1475 : 1 ≤ (x_1473).toInt := by omega
                    clear jc_1475
                    have w_1474_1_r := w_1474_1 (by omega)
                    clear w_1474_1
                    have hlx_2r := hlx_2 (by omega)
                    clear hlx_2
                    exact J_1256 ()  (by omega) _ _ hP hS _ (lv_sub hl [0, 1, 2] rfl)
            · have jc_1061 := dk_neqc (k := 0) (by decide +kernel) c_1061
              have jbc_1061 : 1 ≤ (x_1058).toInt := by omega
              clear jc_1061
              have w_1059_1_r := w_1059_1.mp (by omega)
              obtain ⟨w_1059_1_r1, w_1059_1_r2⟩ := w_1059_1_r
              clear w_1059_1
              have hlx_2r := hlx_2 (by omega)
              clear hlx_2
              refine lv_aload_n hx hb dX12_operand_180 rfl (lv_at hl 2 rfl) ?_
              refine lv_iconst (v := 2) hx hb dX12_operand_181 (by decide +kernel) ?_
              have hz_1654 : (2 : Int32).toInt = 2 := by decide +kernel
              refine dg_callv hS hA1 hA (va_runV (As := [.int 2]) (rest := []) F (c_m_frames l g D o S_574 2 (by decide +kernel) sg (((dg_uf_F e_574 0 3).trans (m_2.1 0 3 _ sM_0 (by decide))).trans f_sg) (by omega) sa (((dg_uf_F e_574 0 4).trans (m_2.1 0 4 _ sM_0 (by decide))).trans f_sa) (by omega) se (((dg_uf_F e_574 0 5).trans (m_2.1 0 5 _ sM_0 (by decide))).trans f_se) (by omega) sl (((dg_uf_F e_574 0 2).trans (m_2.1 0 2 _ sM_0 (by decide))).trans f_sl) (by omega) y_3 ((dg_uf_F e_574 0 8).trans f_y_3) (by omega) dp (((dg_uf_F e_574 0 42).trans (m_2.1 0 42 _ sM_0 (by decide))).trans f_dp) (by omega) om (((dg_uf_F e_574 0 45).trans (m_2.1 0 45 _ sM_0 (by decide))).trans f_om) (by omega) on (((dg_uf_F e_574 0 43).trans (m_2.1 0 43 _ sM_0 (by decide))).trans f_on) (by omega) (by omega) (by omega) I_574 H.size) (cwV 1 hts (bw_V wB_1228 wB_1229 wB_1230 wB_881 wB_1227) rfl rfl rfl (by decide +kernel) ⟨Nat.le_of_ble_eq_true rfl, Nat.le_of_ble_eq_true rfl⟩) (dg_preV sM_0 rfl K ST hP hS hA1 hA) rfl rfl hl.1 rfl (lv_room (Nat.le_of_ble_eq_true rfl)) dX12_operand_182 ⟨Nat.le_of_ble_eq_true rfl, Nat.le_of_ble_eq_true rfl⟩) (fun S_1655 hw_1655 H locs hP hS => ?_)
              obtain ⟨I_1655, m_1655, w_1655_0, w_1655_1, -⟩ := hw_1655
              have M_1655 := dg_sm.tr M_574 m_1655 (by decide) (by decide)
              have hz_1656 : (2 : Int32).toInt = 2 := by decide +kernel
              obtain ⟨y_1657, y_1658, y_1659, y_1660, y_1661, f_y_1657, f_y_1658, f_y_1659, f_y_1660, f_y_1661, w_1655_0⟩ := w_1655_0
              have w_1655_0 : ((y_1658).toInt ≤ (y_1659).toInt ∧ (y_1659).toInt ≤ (sl).toInt ∧ ((y_1657).toInt ≠ 0 → (y_1658).toInt + 1 ≤ (y_1659).toInt)) ∧ (sa).toInt ≤ (y_1658).toInt ∧ ((y_3).toInt ≠ 0 → (y_1660).toInt ≠ 0) ∧ (((y_1660).toInt = 0 → ((sa).toInt + 1 ≤ (y_1658).toInt ∧ (y_1661).toInt = (dp).toInt + 1))) := w_1655_0
              obtain ⟨⟨w_1655_0_0, w_1655_0_1, w_1655_0_2⟩, w_1655_0_3, w_1655_0_4, w_1655_0_5⟩ := w_1655_0
              clear w_1655_0_4
              have b_y_1657 : 0 ≤ (y_1657).toInt ∧ (y_1657).toInt ≤ 3 := dg_I.intb (lo := 0) (hi := 3) I_1655 sM_0 (by decide +kernel) f_y_1657
              have b_y_1658 : 0 ≤ (y_1658).toInt ∧ (y_1658).toInt ≤ 1600 := dg_I.intb (lo := 0) (hi := 1600) I_1655 sM_0 (by decide +kernel) f_y_1658
              have b_y_1659 : 0 ≤ (y_1659).toInt ∧ (y_1659).toInt ≤ 1600 := dg_I.intb (lo := 0) (hi := 1600) I_1655 sM_0 (by decide +kernel) f_y_1659
              have b_y_1660 : 0 ≤ (y_1660).toInt ∧ (y_1660).toInt ≤ 6 := dg_I.intb (lo := 0) (hi := 6) I_1655 sM_0 (by decide +kernel) f_y_1660
              have b_y_1661 : 0 ≤ (y_1661).toInt ∧ (y_1661).toInt ≤ 20 := dg_I.intb (lo := 0) (hi := 20) I_1655 sM_0 (by decide +kernel) f_y_1661
              have w_1655_1 : ∀ k9 : Int32, S_1655.1 0 8 = .int k9 → k9.toInt = 0 → FRM S_574 S_1655 (2 : Int32) := w_1655_1
              refine lv_iconst (v := 0) hx hb dX12_operand_185 (by decide +kernel) ?_
              have hz_1662 : (0 : Int32).toInt = 0 := by decide +kernel
              have hz_1663 : (0 : Int32).toInt = 0 := by decide +kernel
              have hz_1664 : (0 : Int32).toInt = 0 := by decide +kernel
              have hz_1665 : (0 : Int32).toInt = 0 := by decide +kernel
              refine W.widen (k := 0) (n := 0) (Nat.le_of_ble_eq_true rfl) (Nat.le_of_ble_eq_true rfl) ?_
              rw [hQ9]
              exact dg_iret hx hb hr hlocks (by decide +kernel) hP hS ⟨I_1655, M_1655, (by decide +kernel), ⟨y_1657, y_1658, y_1659, y_1660, cd, y_1661, om, f_y_1657, f_y_1658, f_y_1659, f_y_1660, (((m_1655.1 0 34 _ sM_0 (by decide)).trans ((dg_uf_F e_574 0 34).trans (m_2.1 0 34 _ sM_0 (by decide)))).trans f_cd), f_y_1661, (((m_1655.1 0 45 _ sM_0 (by decide)).trans ((dg_uf_F e_574 0 45).trans (m_2.1 0 45 _ sM_0 (by decide)))).trans f_om), (by omega)⟩, (fun k9 hk9 hk0 => ⟨fun h9 => absurd h9 (by decide +kernel), fun _ => by first | (exact PBM.opens PB_574 (((dg_uf_F e_574 0 42).trans (m_2.1 0 42 _ sM_0 (by decide))).trans f_dp) (((dg_uf_F e_574 0 43).trans (m_2.1 0 43 _ sM_0 (by decide))).trans f_on) (((dg_uf_F e_574 0 45).trans (m_2.1 0 45 _ sM_0 (by decide))).trans f_om) (w_1655_1 k9 hk9 hk0) m_1655 (by decide) (by decide) (by decide) (by decide) (by omega)) | (have q9 := (f_y_1660).symm.trans hk9; cases q9; omega)⟩), (ZWM.keep (ZWM.keep (ZWM.keep ZW m_2 (by decide) (by decide) (by decide) (by decide)) (dg_sm.uf (WF := []) (WA := [24]) dg_sm.rf e_574 sM_24 (by decide)) (by decide) (by decide) (by decide) (by decide)) m_1655 (by decide) (by decide) (by decide) (by decide)), trivial⟩ dX12_operand_186
          refine lv_if_eq (tgt := 171) hx hb dX12_operand_138 (by decide) (fun c_1666 => ?_) (fun c_1666 => ?_)
          · have jc_1666 := dk_eqc (k := 0) (by decide +kernel) c_1666
            exact J_1057   _ _ hP hS _ (lv_sub hl [0, 1, 2] rfl)
          · have jc_1666 := dk_neqc (k := 0) (by decide +kernel) c_1666
            have jbc_1666 : 1 ≤ (x_14).toInt := by omega
            clear jc_1666
            refine lv_aload_n hx hb dX12_operand_141 rfl (lv_at hl 2 rfl) ?_
            refine lv_ldc2 hx hb hown (hts _ (bw_mem wB_1192)) dX12_operand_142 ?_
            refine dg_calli hS hA1 hA (va_runV (As := [.long 6384748]) (rest := []) F (c_m_isWord l g D o S_574 6384748 sg (((dg_uf_F e_574 0 3).trans (m_2.1 0 3 _ sM_0 (by decide))).trans f_sg) (by omega) I_574 H.size) (cwV 1 hts (bw_V wB_1165 wB_1166 wB_1167 wB_881 wB_1164) rfl rfl rfl (by decide +kernel) ⟨Nat.le_of_ble_eq_true rfl, Nat.le_of_ble_eq_true rfl⟩) (dg_preV sM_0 rfl K ST hP hS hA1 hA) rfl rfl hl.1 rfl (lv_room (Nat.le_of_ble_eq_true rfl)) dX12_operand_145 ⟨Nat.le_of_ble_eq_true rfl, Nat.le_of_ble_eq_true rfl⟩) (fun x_1667 S_1668 hw_1668 H locs hP hS => ?_)
            rw [hw_1668.1] at hP
            obtain ⟨hq_1668, w_1668_0, w_1668_1, -⟩ := hw_1668
            have w_1668_0 : 0 ≤ (x_1667).toInt ∧ (x_1667).toInt ≤ 1 := w_1668_0
            have w_1668_1 : (x_1667).toInt = 1 → (sg).toInt = 1 := w_1668_1
            refine lv_if_eq (tgt := 171) hx hb dX12_operand_148 (by decide) (fun c_1669 => ?_) (fun c_1669 => ?_)
            · have jc_1669 := dk_eqc (k := 0) (by decide +kernel) c_1669
              clear w_1668_1
              exact J_1057   _ _ hP hS _ (lv_sub hl [0, 1, 2] rfl)
            · have jc_1669 := dk_neqc (k := 0) (by decide +kernel) c_1669
              have jbc_1669 : 1 ≤ (x_1667).toInt := by omega
              clear jc_1669
              have w_1668_1_r := w_1668_1 (by omega)
              clear w_1668_1
              have hlx_2r := hlx_2 (by omega)
              clear hlx_2
              refine lv_aload_n hx hb dX12_operand_151 rfl (lv_at hl 2 rfl) ?_
              refine lv_bipush (v := 30) hx hb dX12_operand_152 (by decide +kernel) ?_
              refine lv_iconst (v := 0) hx hb dX12_operand_154 (by decide +kernel) ?_
              have hz_1670 : (30 : Int32).toInt = 30 := by decide +kernel
              refine dg_callv hS hA1 hA (va_runV (As := [.int 30, .int 0]) (rest := []) F (c_m_add l g D o S_574 30 (by decide +kernel) 0 cd (((dg_uf_F e_574 0 34).trans (m_2.1 0 34 _ sM_0 (by decide))).trans f_cd) (by omega) (ZWM.keep (ZWM.keep ZW m_2 (by decide) (by decide) (by decide) (by decide)) (dg_sm.uf (WF := []) (WA := [24]) dg_sm.rf e_574 sM_24 (by decide)) (by decide) (by decide) (by decide) (by decide)) (ZKM.keep (ZKM.keep ZK m_2 (by decide) (by decide)) (dg_sm.uf (WF := []) (WA := [24]) dg_sm.rf e_574 sM_24 (by decide)) (by decide) (by decide)) I_574 H.size) (cwV 2 hts (bw_V wB_1209 wB_1210 wB_1211 wB_881 wB_1208) rfl rfl rfl (by decide +kernel) ⟨Nat.le_of_ble_eq_true rfl, Nat.le_of_ble_eq_true rfl⟩) (dg_preV sM_0 rfl K ST hP hS hA1 hA) rfl rfl hl.1 rfl (lv_room (Nat.le_of_ble_eq_true rfl)) dX12_operand_155 ⟨Nat.le_of_ble_eq_true rfl, Nat.le_of_ble_eq_true rfl⟩) (fun S_1671 hw_1671 H locs hP hS => ?_)
              obtain ⟨I_1671, m_1671, w_1671_0, w_1671_1, w_1671_2, -⟩ := hw_1671
              have M_1671 := dg_sm.tr M_574 m_1671 (by decide) (by decide)
              have hz_1672 : (30 : Int32).toInt = 30 := by decide +kernel
              have hz_1673 : (0 : Int32).toInt = 0 := by decide +kernel
              obtain ⟨y_1674, f_y_1674, w_1671_0⟩ := w_1671_0
              have w_1671_0 : (y_1674).toInt = (cd).toInt + 1 := w_1671_0
              have b_y_1674 : 0 ≤ (y_1674).toInt ∧ (y_1674).toInt ≤ 1600 := dg_I.intb (lo := 0) (hi := 1600) I_1671 sM_0 (by decide +kernel) f_y_1674
              have w_1671_1 : ADM S_574 S_1671 (30 : Int32) := w_1671_1
              have P1_1671 : P1M S_1671 := PBM.leaf PB_574 (((dg_uf_F e_574 0 42).trans (m_2.1 0 42 _ sM_0 (by decide))).trans f_dp) (((dg_uf_F e_574 0 43).trans (m_2.1 0 43 _ sM_0 (by decide))).trans f_on) (((dg_uf_F e_574 0 45).trans (m_2.1 0 45 _ sM_0 (by decide))).trans f_om) m_1671 w_1671_1 (by omega)
              refine lv_aload_n hx hb dX12_operand_158 rfl (lv_at hl 2 rfl) ?_
              refine dg_get (C := RX12) (T := TX12) (N := 77) hx hb hts (fun w h => bw_mem (wU_X12 w h)) hown K hP sM_0 rfl 38 (by decide) (hts _ (bw_mem wB_1214)) (fun _ h9 => h9) (v := .ref (o + 23)) (show S_1671.1 0 38 = .ref (o + 23) from dg_I.rel (d := 23) I_1671 sM_0 (by decide +kernel)) dX12_operand_159 ?_
              refine lv_iload_n hx hb dX12_operand_162 rfl (lv_at hl 1 rfl) ?_
              refine lv_iconst (v := 2) hx hb dX12_operand_163 (by decide +kernel) ?_
              have hin_1675 : vp_in x_5 20 := (dk_inv (by omega) (by omega))
              have hz_1677 : (2 : Int32).toInt = 2 := by decide +kernel
              refine dg_iast hx hb K hP hS hA1 sM_23 hin_1675 dX12_operand_164 (fun S_1676 e_1676 H locs hP hS => ?_)
              have I_1676 := dg_I.ufu (lo := 0) (hi := 2) I_1671 e_1676 sM_23 (by decide +kernel) (show 0 ≤ ((2 : Int32)).toInt ∧ ((2 : Int32)).toInt ≤ 2 from (by decide +kernel))
              have M_1676 := dg_sm.uf M_1671 e_1676 sM_23 (by decide)
              have hz_1678 : (2 : Int32).toInt = 2 := by decide +kernel
              have P1_1676 : P1M S_1676 := P1M.close5 P1_1671 (((m_1671.1 0 42 _ sM_0 (by decide)).trans ((dg_uf_F e_574 0 42).trans (m_2.1 0 42 _ sM_0 (by decide)))).trans f_dp) (by omega) (by omega) (by omega) e_1676
              refine lv_aload_n hx hb dX12_operand_165 rfl (lv_at hl 2 rfl) ?_
              refine dg_callv hS hA1 hA (va_runV (As := []) (rest := []) F (c_m_ahead l g D o S_1676 se (((dg_uf_F e_1676 0 5).trans ((m_1671.1 0 5 _ sM_0 (by decide)).trans ((dg_uf_F e_574 0 5).trans (m_2.1 0 5 _ sM_0 (by decide))))).trans f_se) (by omega) sl (((dg_uf_F e_1676 0 2).trans ((m_1671.1 0 2 _ sM_0 (by decide)).trans ((dg_uf_F e_574 0 2).trans (m_2.1 0 2 _ sM_0 (by decide))))).trans f_sl) (by omega) (by omega) I_1676 H.size) (cwV 0 hts (bw_V wB_1161 wB_1162 wB_1163 wB_881 wB_1160) rfl rfl rfl (by decide +kernel) ⟨Nat.le_of_ble_eq_true rfl, Nat.le_of_ble_eq_true rfl⟩) (dg_preV sM_0 rfl K ST hP hS hA1 hA) rfl rfl hl.1 rfl (lv_room (Nat.le_of_ble_eq_true rfl)) dX12_operand_166 ⟨Nat.le_of_ble_eq_true rfl, Nat.le_of_ble_eq_true rfl⟩) (fun S_1679 hw_1679 H locs hP hS => ?_)
              obtain ⟨I_1679, m_1679, w_1679_0, -⟩ := hw_1679
              have M_1679 := dg_sm.tr M_1676 m_1679 (by decide) (by decide)
              obtain ⟨y_1680, y_1681, y_1682, f_y_1680, f_y_1681, f_y_1682, w_1679_0⟩ := w_1679_0
              have w_1679_0 : (se).toInt ≤ (y_1681).toInt ∧ (y_1681).toInt ≤ (y_1682).toInt ∧ (y_1682).toInt ≤ (sl).toInt ∧ ((y_1680).toInt ≠ 0 → (y_1681).toInt + 1 ≤ (y_1682).toInt) := w_1679_0
              obtain ⟨w_1679_0_0, w_1679_0_1, w_1679_0_2, w_1679_0_3⟩ := w_1679_0
              have b_y_1680 : 0 ≤ (y_1680).toInt ∧ (y_1680).toInt ≤ 3 := dg_I.intb (lo := 0) (hi := 3) I_1679 sM_0 (by decide +kernel) f_y_1680
              have b_y_1681 : 0 ≤ (y_1681).toInt ∧ (y_1681).toInt ≤ 1600 := dg_I.intb (lo := 0) (hi := 1600) I_1679 sM_0 (by decide +kernel) f_y_1681
              have b_y_1682 : 0 ≤ (y_1682).toInt ∧ (y_1682).toInt ≤ 1600 := dg_I.intb (lo := 0) (hi := 1600) I_1679 sM_0 (by decide +kernel) f_y_1682
              refine lv_iconst (v := 1) hx hb dX12_operand_169 (by decide +kernel) ?_
              have hz_1683 : (1 : Int32).toInt = 1 := by decide +kernel
              have hz_1684 : (1 : Int32).toInt = 1 := by decide +kernel
              have hz_1685 : (1 : Int32).toInt = 1 := by decide +kernel
              have hz_1686 : (1 : Int32).toInt = 1 := by decide +kernel
              refine W.widen (k := 0) (n := 0) (Nat.le_of_ble_eq_true rfl) (Nat.le_of_ble_eq_true rfl) ?_
              rw [hQ9]
              exact dg_iret hx hb hr hlocks (by decide +kernel) hP hS ⟨I_1679, M_1679, (by decide +kernel), ⟨y_1680, y_1681, y_1682, y_3, y_1674, dp, om, f_y_1680, f_y_1681, f_y_1682, (((m_1679.1 0 8 _ sM_0 (by decide)).trans ((dg_uf_F e_1676 0 8).trans ((m_1671.1 0 8 _ sM_0 (by decide)).trans (dg_uf_F e_574 0 8)))).trans f_y_3), (((m_1679.1 0 34 _ sM_0 (by decide)).trans (dg_uf_F e_1676 0 34)).trans f_y_1674), (((m_1679.1 0 42 _ sM_0 (by decide)).trans ((dg_uf_F e_1676 0 42).trans ((m_1671.1 0 42 _ sM_0 (by decide)).trans ((dg_uf_F e_574 0 42).trans (m_2.1 0 42 _ sM_0 (by decide)))))).trans f_dp), (((m_1679.1 0 45 _ sM_0 (by decide)).trans ((dg_uf_F e_1676 0 45).trans ((m_1671.1 0 45 _ sM_0 (by decide)).trans ((dg_uf_F e_574 0 45).trans (m_2.1 0 45 _ sM_0 (by decide)))))).trans f_om), (by omega)⟩, (fun k9 hk9 hk0 => ⟨fun _ => (P1M.keep P1_1676 m_1679 (by decide) (by decide) (by decide) (by decide) (by decide) (by decide) (by decide) (by decide) (by decide) (by decide) (by decide) (by decide) (by decide) (by decide) (by decide)), fun h9 => absurd h9 (by decide +kernel)⟩), (ZWM.keep (ZWM.keep w_1671_2 (dg_sm.uf (WF := []) (WA := [23]) dg_sm.rf e_1676 sM_23 (by decide)) (by decide) (by decide) (by decide) (by decide)) m_1679 (by decide) (by decide) (by decide) (by decide)), trivial⟩ dX12_operand_170
        refine lv_if_eq (tgt := 137) hx hb dX12_operand_118 (by decide) (fun c_1687 => ?_) (fun c_1687 => ?_)
        · have jc_1687 := dk_eqc (k := 0) (by decide +kernel) c_1687
          exact J_825   _ _ hP hS _ (lv_sub hl [0, 1, 2] rfl)
        · have jc_1687 := dk_neqc (k := 0) (by decide +kernel) c_1687
          have jbc_1687 : 1 ≤ (x_14).toInt := by omega
          clear jc_1687
          refine lv_aload_n hx hb dX12_operand_121 rfl (lv_at hl 2 rfl) ?_
          refine lv_bipush (v := 91) hx hb dX12_operand_122 (by decide +kernel) ?_
          refine dg_calli hS hA1 hA (va_runV (As := [.int 91]) (rest := []) F (c_m_isSign l g D o S_574 91 sg (((dg_uf_F e_574 0 3).trans (m_2.1 0 3 _ sM_0 (by decide))).trans f_sg) (by omega) va (((dg_uf_F e_574 0 6).trans (m_2.1 0 6 _ sM_0 (by decide))).trans f_va) (by omega) I_574 H.size) (cwV 1 hts (bw_V wB_1157 wB_1158 wB_1159 wB_881 wB_1156) rfl rfl rfl (by decide +kernel) ⟨Nat.le_of_ble_eq_true rfl, Nat.le_of_ble_eq_true rfl⟩) (dg_preV sM_0 rfl K ST hP hS hA1 hA) rfl rfl hl.1 rfl (lv_room (Nat.le_of_ble_eq_true rfl)) dX12_operand_124 ⟨Nat.le_of_ble_eq_true rfl, Nat.le_of_ble_eq_true rfl⟩) (fun x_1688 S_1689 hw_1689 H locs hP hS => ?_)
          rw [hw_1689.1] at hP
          obtain ⟨hq_1689, w_1689_0, w_1689_1, -⟩ := hw_1689
          have hz_1690 : (91 : Int32).toInt = 91 := by decide +kernel
          have w_1689_0 : 0 ≤ (x_1688).toInt ∧ (x_1688).toInt ≤ 1 := w_1689_0
          have w_1689_1 : (x_1688).toInt = 1 ↔ ((sg).toInt = 3 ∧ (va).toInt = ((91 : Int32)).toInt) := w_1689_1
          refine lv_if_eq (tgt := 137) hx hb dX12_operand_127 (by decide) (fun c_1691 => ?_) (fun c_1691 => ?_)
          · have jc_1691 := dk_eqc (k := 0) (by decide +kernel) c_1691
            clear w_1689_1
            exact J_825   _ _ hP hS _ (lv_sub hl [0, 1, 2] rfl)
          · have jc_1691 := dk_neqc (k := 0) (by decide +kernel) c_1691
            have jbc_1691 : 1 ≤ (x_1688).toInt := by omega
            clear jc_1691
            have w_1689_1_r := w_1689_1.mp (by omega)
            obtain ⟨w_1689_1_r1, w_1689_1_r2⟩ := w_1689_1_r
            clear w_1689_1
            have hlx_2r := hlx_2 (by omega)
            clear hlx_2
            refine lv_aload_n hx hb dX12_operand_130 rfl (lv_at hl 2 rfl) ?_
            refine lv_iconst (v := 5) hx hb dX12_operand_131 (by decide +kernel) ?_
            have hz_1692 : (5 : Int32).toInt = 5 := by decide +kernel
            refine dg_callv hS hA1 hA (va_runV (As := [.int 5]) (rest := []) F (c_m_frames l g D o S_574 5 (by decide +kernel) sg (((dg_uf_F e_574 0 3).trans (m_2.1 0 3 _ sM_0 (by decide))).trans f_sg) (by omega) sa (((dg_uf_F e_574 0 4).trans (m_2.1 0 4 _ sM_0 (by decide))).trans f_sa) (by omega) se (((dg_uf_F e_574 0 5).trans (m_2.1 0 5 _ sM_0 (by decide))).trans f_se) (by omega) sl (((dg_uf_F e_574 0 2).trans (m_2.1 0 2 _ sM_0 (by decide))).trans f_sl) (by omega) y_3 ((dg_uf_F e_574 0 8).trans f_y_3) (by omega) dp (((dg_uf_F e_574 0 42).trans (m_2.1 0 42 _ sM_0 (by decide))).trans f_dp) (by omega) om (((dg_uf_F e_574 0 45).trans (m_2.1 0 45 _ sM_0 (by decide))).trans f_om) (by omega) on (((dg_uf_F e_574 0 43).trans (m_2.1 0 43 _ sM_0 (by decide))).trans f_on) (by omega) (by omega) (by omega) I_574 H.size) (cwV 1 hts (bw_V wB_1228 wB_1229 wB_1230 wB_881 wB_1227) rfl rfl rfl (by decide +kernel) ⟨Nat.le_of_ble_eq_true rfl, Nat.le_of_ble_eq_true rfl⟩) (dg_preV sM_0 rfl K ST hP hS hA1 hA) rfl rfl hl.1 rfl (lv_room (Nat.le_of_ble_eq_true rfl)) dX12_operand_132 ⟨Nat.le_of_ble_eq_true rfl, Nat.le_of_ble_eq_true rfl⟩) (fun S_1693 hw_1693 H locs hP hS => ?_)
            obtain ⟨I_1693, m_1693, w_1693_0, w_1693_1, -⟩ := hw_1693
            have M_1693 := dg_sm.tr M_574 m_1693 (by decide) (by decide)
            have hz_1694 : (5 : Int32).toInt = 5 := by decide +kernel
            obtain ⟨y_1695, y_1696, y_1697, y_1698, y_1699, f_y_1695, f_y_1696, f_y_1697, f_y_1698, f_y_1699, w_1693_0⟩ := w_1693_0
            have w_1693_0 : ((y_1696).toInt ≤ (y_1697).toInt ∧ (y_1697).toInt ≤ (sl).toInt ∧ ((y_1695).toInt ≠ 0 → (y_1696).toInt + 1 ≤ (y_1697).toInt)) ∧ (sa).toInt ≤ (y_1696).toInt ∧ ((y_3).toInt ≠ 0 → (y_1698).toInt ≠ 0) ∧ (((y_1698).toInt = 0 → ((sa).toInt + 1 ≤ (y_1696).toInt ∧ (y_1699).toInt = (dp).toInt + 1))) := w_1693_0
            obtain ⟨⟨w_1693_0_0, w_1693_0_1, w_1693_0_2⟩, w_1693_0_3, w_1693_0_4, w_1693_0_5⟩ := w_1693_0
            clear w_1693_0_4
            have b_y_1695 : 0 ≤ (y_1695).toInt ∧ (y_1695).toInt ≤ 3 := dg_I.intb (lo := 0) (hi := 3) I_1693 sM_0 (by decide +kernel) f_y_1695
            have b_y_1696 : 0 ≤ (y_1696).toInt ∧ (y_1696).toInt ≤ 1600 := dg_I.intb (lo := 0) (hi := 1600) I_1693 sM_0 (by decide +kernel) f_y_1696
            have b_y_1697 : 0 ≤ (y_1697).toInt ∧ (y_1697).toInt ≤ 1600 := dg_I.intb (lo := 0) (hi := 1600) I_1693 sM_0 (by decide +kernel) f_y_1697
            have b_y_1698 : 0 ≤ (y_1698).toInt ∧ (y_1698).toInt ≤ 6 := dg_I.intb (lo := 0) (hi := 6) I_1693 sM_0 (by decide +kernel) f_y_1698
            have b_y_1699 : 0 ≤ (y_1699).toInt ∧ (y_1699).toInt ≤ 20 := dg_I.intb (lo := 0) (hi := 20) I_1693 sM_0 (by decide +kernel) f_y_1699
            have w_1693_1 : ∀ k9 : Int32, S_1693.1 0 8 = .int k9 → k9.toInt = 0 → FRM S_574 S_1693 (5 : Int32) := w_1693_1
            refine lv_iconst (v := 0) hx hb dX12_operand_135 (by decide +kernel) ?_
            have hz_1700 : (0 : Int32).toInt = 0 := by decide +kernel
            have hz_1701 : (0 : Int32).toInt = 0 := by decide +kernel
            have hz_1702 : (0 : Int32).toInt = 0 := by decide +kernel
            have hz_1703 : (0 : Int32).toInt = 0 := by decide +kernel
            refine W.widen (k := 0) (n := 0) (Nat.le_of_ble_eq_true rfl) (Nat.le_of_ble_eq_true rfl) ?_
            rw [hQ9]
            exact dg_iret hx hb hr hlocks (by decide +kernel) hP hS ⟨I_1693, M_1693, (by decide +kernel), ⟨y_1695, y_1696, y_1697, y_1698, cd, y_1699, om, f_y_1695, f_y_1696, f_y_1697, f_y_1698, (((m_1693.1 0 34 _ sM_0 (by decide)).trans ((dg_uf_F e_574 0 34).trans (m_2.1 0 34 _ sM_0 (by decide)))).trans f_cd), f_y_1699, (((m_1693.1 0 45 _ sM_0 (by decide)).trans ((dg_uf_F e_574 0 45).trans (m_2.1 0 45 _ sM_0 (by decide)))).trans f_om), (by omega)⟩, (fun k9 hk9 hk0 => ⟨fun h9 => absurd h9 (by decide +kernel), fun _ => by first | (exact PBM.opens PB_574 (((dg_uf_F e_574 0 42).trans (m_2.1 0 42 _ sM_0 (by decide))).trans f_dp) (((dg_uf_F e_574 0 43).trans (m_2.1 0 43 _ sM_0 (by decide))).trans f_on) (((dg_uf_F e_574 0 45).trans (m_2.1 0 45 _ sM_0 (by decide))).trans f_om) (w_1693_1 k9 hk9 hk0) m_1693 (by decide) (by decide) (by decide) (by decide) (by omega)) | (have q9 := (f_y_1698).symm.trans hk9; cases q9; omega)⟩), (ZWM.keep (ZWM.keep (ZWM.keep ZW m_2 (by decide) (by decide) (by decide) (by decide)) (dg_sm.uf (WF := []) (WA := [24]) dg_sm.rf e_574 sM_24 (by decide)) (by decide) (by decide) (by decide) (by decide)) m_1693 (by decide) (by decide) (by decide) (by decide)), trivial⟩ dX12_operand_136
      refine lv_if_eq (tgt := 110) hx hb dX12_operand_48 (by decide) (fun c_1704 => ?_) (fun c_1704 => ?_)
      · have jc_1704 := dk_eqc (k := 0) (by decide +kernel) c_1704
        clear rel_0
        exact J_572   _ _ hP hS _ (lv_sub hl [0, 1, 2] rfl)
      · have jc_1704 := dk_neqc (k := 0) (by decide +kernel) c_1704
        have jbc_1704 : 1 ≤ (x_14).toInt := by omega
        clear jc_1704
        have rel_0r := rel_0 (by omega)
        clear rel_0
        obtain ⟨rel_0r_0, rel_0r_1⟩ := rel_0r
        refine lv_aload_n hx hb dX12_operand_51 rfl (lv_at hl 2 rfl) ?_
        refine lv_ldc2 hx hb hown (hts _ (bw_mem wB_1191)) dX12_operand_52 ?_
        refine dg_calli hS hA1 hA (va_runV (As := [.long 7237492]) (rest := []) F (c_m_isWord l g D o S_2 7237492 sg ((m_2.1 0 3 _ sM_0 (by decide)).trans f_sg) (by omega) I_2 H.size) (cwV 1 hts (bw_V wB_1165 wB_1166 wB_1167 wB_881 wB_1164) rfl rfl rfl (by decide +kernel) ⟨Nat.le_of_ble_eq_true rfl, Nat.le_of_ble_eq_true rfl⟩) (dg_preV sM_0 rfl K ST hP hS hA1 hA) rfl rfl hl.1 rfl (lv_room (Nat.le_of_ble_eq_true rfl)) dX12_operand_55 ⟨Nat.le_of_ble_eq_true rfl, Nat.le_of_ble_eq_true rfl⟩) (fun x_1705 S_1706 hw_1706 H locs hP hS => ?_)
        rw [hw_1706.1] at hP
        obtain ⟨hq_1706, w_1706_0, w_1706_1, -⟩ := hw_1706
        have w_1706_0 : 0 ≤ (x_1705).toInt ∧ (x_1705).toInt ≤ 1 := w_1706_0
        have w_1706_1 : (x_1705).toInt = 1 → (sg).toInt = 1 := w_1706_1
        refine lv_if_eq (tgt := 110) hx hb dX12_operand_58 (by decide) (fun c_1707 => ?_) (fun c_1707 => ?_)
        · have jc_1707 := dk_eqc (k := 0) (by decide +kernel) c_1707
          clear w_1706_1
          exact J_572   _ _ hP hS _ (lv_sub hl [0, 1, 2] rfl)
        · have jc_1707 := dk_neqc (k := 0) (by decide +kernel) c_1707
          have jbc_1707 : 1 ≤ (x_1705).toInt := by omega
          clear jc_1707
          have w_1706_1_r := w_1706_1 (by omega)
          clear w_1706_1
          have hlx_2r := hlx_2 (by omega)
          clear hlx_2
          refine lv_aload_n hx hb dX12_operand_61 rfl (lv_at hl 2 rfl) ?_
          refine dg_get (C := RX12) (T := TX12) (N := 77) hx hb hts (fun w h => bw_mem (wU_X12 w h)) hown K hP sM_0 rfl 43 (by decide) (hts _ (bw_mem wB_1212)) (fun _ h9 => h9) (v := .int on) ((m_2.1 0 43 _ sM_0 (by decide)).trans f_on) dX12_operand_62 ?_
          refine lv_bipush (v := 7) hx hb dX12_operand_65 (by decide +kernel) ?_
          refine lv_icmp_ne (tgt := 79) hx hb dX12_operand_67 (by decide) (fun c_1708 => ?_) (fun c_1708 => ?_)
          · have jc_1708 := dk_neqc (k := 7) (by decide +kernel) c_1708
            have jtc_1708 : (on).toInt ≤ 6 := by omega
            clear jc_1708
            refine lv_aload_n hx hb dX12_operand_79 rfl (lv_at hl 2 rfl) ?_
            refine dg_get (C := RX12) (T := TX12) (N := 77) hx hb hts (fun w h => bw_mem (wU_X12 w h)) hown K hP sM_0 rfl 8 (by decide) (hts _ (bw_mem wB_1133)) (fun _ h9 => h9) (v := .int y_3) f_y_3 dX12_operand_80 ?_
            refine lv_if_le (tgt := 88) hx hb dX12_operand_83 (by decide) (fun _ => ?_) (fun c => absurd (dk_lep (k := 0) (by decide +kernel) (by omega)) c)
            refine lv_aload_n hx hb dX12_operand_88 rfl (lv_at hl 2 rfl) ?_
            refine lv_dup hx hb dX12_operand_89 rfl ?_
            refine dg_get (C := RX12) (T := TX12) (N := 77) hx hb hts (fun w h => bw_mem (wU_X12 w h)) hown K hP sM_0 rfl 43 (by decide) (hts _ (bw_mem wB_1212)) (fun _ h9 => h9) (v := .int on) ((m_2.1 0 43 _ sM_0 (by decide)).trans f_on) dX12_operand_90 ?_
            refine lv_iconst (v := 1) hx hb dX12_operand_93 (by decide +kernel) ?_
            refine lv_iadd hx hb dX12_operand_94 ?_
            refine lv_topi (fun x_1709 ex_1709 => ?_)
            have jx_1709 : (x_1709).toInt = (on).toInt + 1 := by rw [ex_1709]; exact dk_addT rfl (by decide +kernel) (by omega) (by omega)
            refine dg_put (ci := 12) (v := .int x_1709) (ty := tyX12 43) (C := RX12) (T := TX12) (N := 77) hx hb hts (fun w h => bw_mem (wU_X12 w h)) tyX12 tyX12_ok nmX12 hown K hP hS hA1 sM_0 rfl 43 (by decide) (hts _ (bw_mem wB_1212)) (fun _ h9 => h9) rfl (by decide +kernel) rfl rfl dX12_operand_95 (fun S_1710 e_1710 H locs hP hS => ?_)
            have I_1710 := dg_I.uFi (lo := (-2147483648)) (hi := 2147483647) I_2 e_1710 sM_0 (by decide +kernel) (show (-2147483648) ≤ (x_1709).toInt ∧ (x_1709).toInt ≤ 2147483647 from (dk_full _))
            have M_1710 := dg_sm.uF M_2 e_1710 sM_0 (by decide)
            refine lv_aload_n hx hb dX12_operand_98 rfl (lv_at hl 2 rfl) ?_
            refine lv_bipush (v := 43) hx hb dX12_operand_99 (by decide +kernel) ?_
            refine dg_callv hS hA1 hA (va_runV (As := [.int 43]) (rest := []) F (c_m_holdsBack l g D o S_1710 43 om (((dg_uF_ne e_1710 (fun z => absurd z.2 (by decide))).trans (m_2.1 0 45 _ sM_0 (by decide))).trans f_om) (by omega) I_1710 H.size) (cwV 1 hts (bw_V wB_1224 wB_1225 wB_1226 wB_881 wB_1223) rfl rfl rfl (by decide +kernel) ⟨Nat.le_of_ble_eq_true rfl, Nat.le_of_ble_eq_true rfl⟩) (dg_preV sM_0 rfl K ST hP hS hA1 hA) rfl rfl hl.1 rfl (lv_room (Nat.le_of_ble_eq_true rfl)) dX12_operand_101 ⟨Nat.le_of_ble_eq_true rfl, Nat.le_of_ble_eq_true rfl⟩) (fun S_1711 hw_1711 H locs hP hS => ?_)
            obtain ⟨I_1711, m_1711, w_1711_0, w_1711_1, -⟩ := hw_1711
            have M_1711 := dg_sm.tr M_1710 m_1711 (by decide) (by decide)
            have hz_1712 : (43 : Int32).toInt = 43 := by decide +kernel
            obtain ⟨y_1713, f_y_1713, w_1711_0⟩ := w_1711_0
            have w_1711_0 : (y_1713).toInt = (om).toInt + 1 := w_1711_0
            have b_y_1713 : 0 ≤ (y_1713).toInt ∧ (y_1713).toInt ≤ 500 := dg_I.intb (lo := 0) (hi := 500) I_1711 sM_0 (by decide +kernel) f_y_1713
            have w_1711_1 : HBM S_1710 S_1711 (43 : Int32) := w_1711_1
            have P0_1711 : P0M S_1711 := P0M.not (P0M.keep P0 m_2 (by decide) (by decide) (by decide) (by decide) (by decide) (by decide) (by decide) (by decide) (by decide) (by decide) (by decide) (by decide) (by decide) (by decide) (by decide)) ((m_2.1 0 42 _ sM_0 (by decide)).trans f_dp) ((m_2.1 0 43 _ sM_0 (by decide)).trans f_on) ((m_2.1 0 45 _ sM_0 (by decide)).trans f_om) (fx := x_5) (by omega) ex_7.symm (by unfold dk_ts; omega) rel_0r_1 (by omega) e_1710 (by omega) m_1711 w_1711_1 (by omega)
            refine lv_aload_n hx hb dX12_operand_104 rfl (lv_at hl 2 rfl) ?_
            refine dg_callv hS hA1 hA (va_runV (As := []) (rest := []) F (c_m_ahead l g D o S_1711 se (((m_1711.1 0 5 _ sM_0 (by decide)).trans ((dg_uF_ne e_1710 (fun z => absurd z.2 (by decide))).trans (m_2.1 0 5 _ sM_0 (by decide)))).trans f_se) (by omega) sl (((m_1711.1 0 2 _ sM_0 (by decide)).trans ((dg_uF_ne e_1710 (fun z => absurd z.2 (by decide))).trans (m_2.1 0 2 _ sM_0 (by decide)))).trans f_sl) (by omega) (by omega) I_1711 H.size) (cwV 0 hts (bw_V wB_1161 wB_1162 wB_1163 wB_881 wB_1160) rfl rfl rfl (by decide +kernel) ⟨Nat.le_of_ble_eq_true rfl, Nat.le_of_ble_eq_true rfl⟩) (dg_preV sM_0 rfl K ST hP hS hA1 hA) rfl rfl hl.1 rfl (lv_room (Nat.le_of_ble_eq_true rfl)) dX12_operand_105 ⟨Nat.le_of_ble_eq_true rfl, Nat.le_of_ble_eq_true rfl⟩) (fun S_1714 hw_1714 H locs hP hS => ?_)
            obtain ⟨I_1714, m_1714, w_1714_0, -⟩ := hw_1714
            have M_1714 := dg_sm.tr M_1711 m_1714 (by decide) (by decide)
            obtain ⟨y_1715, y_1716, y_1717, f_y_1715, f_y_1716, f_y_1717, w_1714_0⟩ := w_1714_0
            have w_1714_0 : (se).toInt ≤ (y_1716).toInt ∧ (y_1716).toInt ≤ (y_1717).toInt ∧ (y_1717).toInt ≤ (sl).toInt ∧ ((y_1715).toInt ≠ 0 → (y_1716).toInt + 1 ≤ (y_1717).toInt) := w_1714_0
            obtain ⟨w_1714_0_0, w_1714_0_1, w_1714_0_2, w_1714_0_3⟩ := w_1714_0
            have b_y_1715 : 0 ≤ (y_1715).toInt ∧ (y_1715).toInt ≤ 3 := dg_I.intb (lo := 0) (hi := 3) I_1714 sM_0 (by decide +kernel) f_y_1715
            have b_y_1716 : 0 ≤ (y_1716).toInt ∧ (y_1716).toInt ≤ 1600 := dg_I.intb (lo := 0) (hi := 1600) I_1714 sM_0 (by decide +kernel) f_y_1716
            have b_y_1717 : 0 ≤ (y_1717).toInt ∧ (y_1717).toInt ≤ 1600 := dg_I.intb (lo := 0) (hi := 1600) I_1714 sM_0 (by decide +kernel) f_y_1717
            refine lv_iconst (v := 0) hx hb dX12_operand_108 (by decide +kernel) ?_
            have hz_1718 : (0 : Int32).toInt = 0 := by decide +kernel
            have hz_1719 : (0 : Int32).toInt = 0 := by decide +kernel
            have hz_1720 : (0 : Int32).toInt = 0 := by decide +kernel
            have hz_1721 : (0 : Int32).toInt = 0 := by decide +kernel
            refine W.widen (k := 0) (n := 0) (Nat.le_of_ble_eq_true rfl) (Nat.le_of_ble_eq_true rfl) ?_
            rw [hQ9]
            exact dg_iret hx hb hr hlocks (by decide +kernel) hP hS ⟨I_1714, M_1714, (by decide +kernel), ⟨y_1715, y_1716, y_1717, y_3, cd, dp, y_1713, f_y_1715, f_y_1716, f_y_1717, (((m_1714.1 0 8 _ sM_0 (by decide)).trans ((m_1711.1 0 8 _ sM_0 (by decide)).trans (dg_uF_ne e_1710 (fun z => absurd z.2 (by decide))))).trans f_y_3), (((m_1714.1 0 34 _ sM_0 (by decide)).trans ((m_1711.1 0 34 _ sM_0 (by decide)).trans ((dg_uF_ne e_1710 (fun z => absurd z.2 (by decide))).trans (m_2.1 0 34 _ sM_0 (by decide))))).trans f_cd), (((m_1714.1 0 42 _ sM_0 (by decide)).trans ((m_1711.1 0 42 _ sM_0 (by decide)).trans ((dg_uF_ne e_1710 (fun z => absurd z.2 (by decide))).trans (m_2.1 0 42 _ sM_0 (by decide))))).trans f_dp), ((m_1714.1 0 45 _ sM_0 (by decide)).trans f_y_1713), (by omega)⟩, (fun k9 hk9 hk0 => ⟨fun h9 => absurd h9 (by decide +kernel), fun _ => (P0M.keep P0_1711 m_1714 (by decide) (by decide) (by decide) (by decide) (by decide) (by decide) (by decide) (by decide) (by decide) (by decide) (by decide) (by decide) (by decide) (by decide) (by decide))⟩), (ZWM.keep (ZWM.keep (ZWM.keep (ZWM.keep ZW m_2 (by decide) (by decide) (by decide) (by decide)) (dg_sm.uF (WF := [(0, 43)]) (WA := []) dg_sm.rf e_1710 sM_0 (by decide)) (by decide) (by decide) (by decide) (by decide)) m_1711 (by decide) (by decide) (by decide) (by decide)) m_1714 (by decide) (by decide) (by decide) (by decide)), trivial⟩ dX12_operand_109
          · have jc_1708 := dk_eqc (k := 7) (by decide +kernel) c_1708
            refine lv_aload_n hx hb dX12_operand_70 rfl (lv_at hl 2 rfl) ?_
            refine lv_iconst (v := 5) hx hb dX12_operand_71 (by decide +kernel) ?_
            refine lv_aload_n hx hb dX12_operand_72 rfl (lv_at hl 2 rfl) ?_
            refine dg_get (C := RX12) (T := TX12) (N := 77) hx hb hts (fun w h => bw_mem (wU_X12 w h)) hown K hP sM_0 rfl 4 (by decide) (hts _ (bw_mem wB_1145)) (fun _ h9 => h9) (v := .int sa) ((m_2.1 0 4 _ sM_0 (by decide)).trans f_sa) dX12_operand_73 ?_
            have hz_1722 : (5 : Int32).toInt = 5 := by decide +kernel
            refine dg_callv hS hA1 hA (va_runV (As := [.int 5, .int sa]) (rest := []) F (c_m_blame l g D o S_2 5 (by decide +kernel) sa y_3 f_y_3 (by omega) I_2 H.size) (cwV 2 hts (bw_V wB_1137 wB_1138 wB_1139 wB_881 wB_1136) rfl rfl rfl (by decide +kernel) ⟨Nat.le_of_ble_eq_true rfl, Nat.le_of_ble_eq_true rfl⟩) (dg_preV sM_0 rfl K ST hP hS hA1 hA) rfl rfl hl.1 rfl (lv_room (Nat.le_of_ble_eq_true rfl)) dX12_operand_76 ⟨Nat.le_of_ble_eq_true rfl, Nat.le_of_ble_eq_true rfl⟩) (fun S_1723 hw_1723 H locs hP hS => ?_)
            obtain ⟨I_1723, m_1723, w_1723_0, -⟩ := hw_1723
            have M_1723 := dg_sm.tr M_2 m_1723 (by decide) (by decide)
            have hz_1724 : (5 : Int32).toInt = 5 := by decide +kernel
            obtain ⟨y_1725, f_y_1725, w_1723_0⟩ := w_1723_0
            have w_1723_0 : ((y_3).toInt ≠ 0 → (y_1725).toInt = (y_3).toInt) ∧ ((y_3).toInt = 0 → (y_1725).toInt = ((5 : Int32)).toInt) := w_1723_0
            obtain ⟨w_1723_0_0, w_1723_0_1⟩ := w_1723_0
            clear w_1723_0_0
            have w_1723_0_1r := w_1723_0_1 (by omega)
            clear w_1723_0_1
            have b_y_1725 : 0 ≤ (y_1725).toInt ∧ (y_1725).toInt ≤ 6 := dg_I.intb (lo := 0) (hi := 6) I_1723 sM_0 (by decide +kernel) f_y_1725
            have hbl_y_1725 : 1 ≤ (y_1725).toInt := by omega
            refine lv_aload_n hx hb dX12_operand_79 rfl (lv_at hl 2 rfl) ?_
            refine dg_get (C := RX12) (T := TX12) (N := 77) hx hb hts (fun w h => bw_mem (wU_X12 w h)) hown K hP sM_0 rfl 8 (by decide) (hts _ (bw_mem wB_1133)) (fun _ h9 => h9) (v := .int y_1725) f_y_1725 dX12_operand_80 ?_
            refine lv_if_le (tgt := 88) hx hb dX12_operand_83 (by decide) (fun c => absurd c (fun z => absurd (dk_lec (k := 0) (by decide +kernel) z) (by omega))) (fun _ => ?_)
            refine lv_iconst (v := 1) hx hb dX12_operand_86 (by decide +kernel) ?_
            have hz_1726 : (1 : Int32).toInt = 1 := by decide +kernel
            have hz_1727 : (1 : Int32).toInt = 1 := by decide +kernel
            have hz_1728 : (1 : Int32).toInt = 1 := by decide +kernel
            have hz_1729 : (1 : Int32).toInt = 1 := by decide +kernel
            refine W.widen (k := 0) (n := 0) (Nat.le_of_ble_eq_true rfl) (Nat.le_of_ble_eq_true rfl) ?_
            rw [hQ9]
            exact dg_iret hx hb hr hlocks (by decide +kernel) hP hS ⟨I_1723, M_1723, (by decide +kernel), ⟨sg, sa, se, y_1725, cd, dp, om, (((m_1723.1 0 3 _ sM_0 (by decide)).trans (m_2.1 0 3 _ sM_0 (by decide))).trans f_sg), (((m_1723.1 0 4 _ sM_0 (by decide)).trans (m_2.1 0 4 _ sM_0 (by decide))).trans f_sa), (((m_1723.1 0 5 _ sM_0 (by decide)).trans (m_2.1 0 5 _ sM_0 (by decide))).trans f_se), f_y_1725, (((m_1723.1 0 34 _ sM_0 (by decide)).trans (m_2.1 0 34 _ sM_0 (by decide))).trans f_cd), (((m_1723.1 0 42 _ sM_0 (by decide)).trans (m_2.1 0 42 _ sM_0 (by decide))).trans f_dp), (((m_1723.1 0 45 _ sM_0 (by decide)).trans (m_2.1 0 45 _ sM_0 (by decide))).trans f_om), (by omega)⟩, (fun k9 hk9 hk0 => by have q9 := (f_y_1725).symm.trans hk9; cases q9; omega), (ZWM.keep (ZWM.keep ZW m_2 (by decide) (by decide) (by decide) (by decide)) m_1723 (by decide) (by decide) (by decide) (by decide)), trivial⟩ dX12_operand_87
    refine lv_if_eq (tgt := 45) hx hb dX12_operand_29 (by decide) (fun c_1730 => ?_) (fun c_1730 => ?_)
    · have jc_1730 := dk_eqc (k := 0) (by decide +kernel) c_1730
      clear w_9_1
      refine lv_iconst (v := 0) hx hb dX12_operand_45 (by decide +kernel) ?_
      have hz_1731 : (0 : Int32).toInt = 0 := by decide +kernel
      have hz_1732 : (0 : Int32).toInt = 0 := by decide +kernel
      exact J_293 0 (by decide +kernel) (by omega) _ _ hP hS _ (lv_sub hl [0, 1] rfl)
    · have jc_1730 := dk_neqc (k := 0) (by decide +kernel) c_1730
      have jbc_1730 : 1 ≤ (x_8).toInt := by omega
      clear jc_1730
      have w_9_1_r := w_9_1.mp (by omega)
      clear w_9_1
      refine lv_aload_n hx hb dX12_operand_32 rfl (lv_at hl 1 rfl) ?_
      refine dg_get (C := RX12) (T := TX12) (N := 77) hx hb hts (fun w h => bw_mem (wU_X12 w h)) hown K hP sM_0 rfl 39 (by decide) (hts _ (bw_mem wB_1215)) (fun _ h9 => h9) (v := .ref (o + 24)) (show S_2.1 0 39 = .ref (o + 24) from dg_I.rel (d := 24) I_2 sM_0 (by decide +kernel)) dX12_operand_33 ?_
      refine lv_iload_n hx hb dX12_operand_36 rfl (lv_at hl 0 rfl) ?_
      have hin_1733 : vp_in x_5 20 := (dk_inv (by omega) (by omega))
      refine dg_zald hx hb K hP sM_24 hin_1733 dX12_operand_37 (fun x_1734 ex_1734 => ?_)
      have b_x_1734 := dk_all_at (dg_I.row (lo := 0) (hi := 1) I_2 sM_24 (by decide +kernel)) hin_1733 ex_1734
      have hb_x_1734 : (S_2.2.1 24 (x_5 : Int32).toNatClampNeg).toInt = (x_1734).toInt := by rw [ex_1734]
      refine lv_if_eq (tgt := 45) hx hb dX12_operand_38 (by decide) (fun c_1735 => ?_) (fun c_1735 => ?_)
      · have jc_1735 := dk_eqc (k := 0) (by decide +kernel) c_1735
        refine lv_iconst (v := 0) hx hb dX12_operand_45 (by decide +kernel) ?_
        have hz_1736 : (0 : Int32).toInt = 0 := by decide +kernel
        have hz_1737 : (0 : Int32).toInt = 0 := by decide +kernel
        exact J_293 0 (by decide +kernel) (by omega) _ _ hP hS _ (lv_sub hl [0, 1] rfl)
      · have jc_1735 := dk_neqc (k := 0) (by decide +kernel) c_1735
        have jbc_1735 : 1 ≤ (x_1734).toInt := by omega
        clear jc_1735
        refine lv_iconst (v := 1) hx hb dX12_operand_41 (by decide +kernel) ?_
        refine lv_goto (tgt := 46) hx hb dX12_operand_42 (by decide) ?_
        have hz_1738 : (1 : Int32).toInt = 1 := by decide +kernel
        have hz_1739 : (1 : Int32).toInt = 1 := by decide +kernel
        exact J_293 1 (by decide +kernel) (by omega) _ _ hP hS _ (lv_sub hl [0, 1] rfl)
  · have jc_4 := dk_nlec (k := 0) (by decide +kernel) c_4
    refine lv_iconst (v := 1) hx hb dX12_operand_11 (by decide +kernel) ?_
    have hz_1740 : (1 : Int32).toInt = 1 := by decide +kernel
    have hz_1741 : (1 : Int32).toInt = 1 := by decide +kernel
    have hz_1742 : (1 : Int32).toInt = 1 := by decide +kernel
    have hz_1743 : (1 : Int32).toInt = 1 := by decide +kernel
    refine W.widen (k := 0) (n := 0) (Nat.le_of_ble_eq_true rfl) (Nat.le_of_ble_eq_true rfl) ?_
    rw [hQ9]
    exact dg_iret hx hb hr hlocks (by decide +kernel) hP hS ⟨I_2, M_2, (by decide +kernel), ⟨sg, sa, se, y_3, cd, dp, om, ((m_2.1 0 3 _ sM_0 (by decide)).trans f_sg), ((m_2.1 0 4 _ sM_0 (by decide)).trans f_sa), ((m_2.1 0 5 _ sM_0 (by decide)).trans f_se), f_y_3, ((m_2.1 0 34 _ sM_0 (by decide)).trans f_cd), ((m_2.1 0 42 _ sM_0 (by decide)).trans f_dp), ((m_2.1 0 45 _ sM_0 (by decide)).trans f_om), (by omega)⟩, (fun k9 hk9 hk0 => by have q9 := (f_y_3).symm.trans hk9; cases q9; omega), (ZWM.keep ZW m_2 (by decide) (by decide) (by decide) (by decide)), trivial⟩ dX12_operand_12
