/-! 44.o.lean.txt -/
theorem dX12_operand_0 : decode cX12_operand 0 = .ok (.aload_n 0, 1) := by decide +kernel
theorem dX12_operand_1 : decode cX12_operand 1 = .ok (.invokevirtual 266, 3) := by decide +kernel
theorem dX12_operand_4 : decode cX12_operand 4 = .ok (.aload_n 0, 1) := by decide +kernel
theorem dX12_operand_5 : decode cX12_operand 5 = .ok (.getfield 36, 3) := by decide +kernel
theorem dX12_operand_8 : decode cX12_operand 8 = .ok (.ifCond .le 5, 3) := by decide +kernel
theorem dX12_operand_11 : decode cX12_operand 11 = .ok (.iconst 1, 1) := by decide +kernel
theorem dX12_operand_12 : decode cX12_operand 12 = .ok (.ireturn, 1) := by decide +kernel
theorem dX12_operand_13 : decode cX12_operand 13 = .ok (.aload_n 0, 1) := by decide +kernel
theorem dX12_operand_14 : decode cX12_operand 14 = .ok (.getfield 140, 3) := by decide +kernel
theorem dX12_operand_17 : decode cX12_operand 17 = .ok (.iconst 1, 1) := by decide +kernel
theorem dX12_operand_18 : decode cX12_operand 18 = .ok (.isub, 1) := by decide +kernel
theorem dX12_operand_19 : decode cX12_operand 19 = .ok (.istore_n 1, 1) := by decide +kernel
theorem dX12_operand_20 : decode cX12_operand 20 = .ok (.aload_n 0, 1) := by decide +kernel
theorem dX12_operand_21 : decode cX12_operand 21 = .ok (.getfield 124, 3) := by decide +kernel
theorem dX12_operand_24 : decode cX12_operand 24 = .ok (.iload_n 1, 1) := by decide +kernel
theorem dX12_operand_25 : decode cX12_operand 25 = .ok (.iaload, 1) := by decide +kernel
theorem dX12_operand_26 : decode cX12_operand 26 = .ok (.invokestatic 346, 3) := by decide +kernel
theorem dX12_operand_29 : decode cX12_operand 29 = .ok (.ifCond .eq 16, 3) := by decide +kernel
theorem dX12_operand_32 : decode cX12_operand 32 = .ok (.aload_n 0, 1) := by decide +kernel
theorem dX12_operand_33 : decode cX12_operand 33 = .ok (.getfield 130, 3) := by decide +kernel
theorem dX12_operand_36 : decode cX12_operand 36 = .ok (.iload_n 1, 1) := by decide +kernel
theorem dX12_operand_37 : decode cX12_operand 37 = .ok (.baload, 1) := by decide +kernel
theorem dX12_operand_38 : decode cX12_operand 38 = .ok (.ifCond .eq 7, 3) := by decide +kernel
theorem dX12_operand_41 : decode cX12_operand 41 = .ok (.iconst 1, 1) := by decide +kernel
theorem dX12_operand_42 : decode cX12_operand 42 = .ok (.goto 4, 3) := by decide +kernel
theorem dX12_operand_45 : decode cX12_operand 45 = .ok (.iconst 0, 1) := by decide +kernel
theorem dX12_operand_46 : decode cX12_operand 46 = .ok (.istore_n 2, 1) := by decide +kernel
theorem dX12_operand_47 : decode cX12_operand 47 = .ok (.iload_n 2, 1) := by decide +kernel
theorem dX12_operand_48 : decode cX12_operand 48 = .ok (.ifCond .eq 62, 3) := by decide +kernel
theorem dX12_operand_51 : decode cX12_operand 51 = .ok (.aload_n 0, 1) := by decide +kernel
theorem dX12_operand_52 : decode cX12_operand 52 = .ok (.ldc2_w 321, 3) := by decide +kernel
theorem dX12_operand_55 : decode cX12_operand 55 = .ok (.invokevirtual 349, 3) := by decide +kernel
theorem dX12_operand_58 : decode cX12_operand 58 = .ok (.ifCond .eq 52, 3) := by decide +kernel
theorem dX12_operand_61 : decode cX12_operand 61 = .ok (.aload_n 0, 1) := by decide +kernel
theorem dX12_operand_62 : decode cX12_operand 62 = .ok (.getfield 143, 3) := by decide +kernel
theorem dX12_operand_65 : decode cX12_operand 65 = .ok (.bipush 7, 2) := by decide +kernel
theorem dX12_operand_67 : decode cX12_operand 67 = .ok (.if_icmp .ne 12, 3) := by decide +kernel
theorem dX12_operand_70 : decode cX12_operand 70 = .ok (.aload_n 0, 1) := by decide +kernel
theorem dX12_operand_71 : decode cX12_operand 71 = .ok (.iconst 5, 1) := by decide +kernel
theorem dX12_operand_72 : decode cX12_operand 72 = .ok (.aload_n 0, 1) := by decide +kernel
theorem dX12_operand_73 : decode cX12_operand 73 = .ok (.getfield 23, 3) := by decide +kernel
theorem dX12_operand_76 : decode cX12_operand 76 = .ok (.invokevirtual 255, 3) := by decide +kernel
theorem dX12_operand_79 : decode cX12_operand 79 = .ok (.aload_n 0, 1) := by decide +kernel
theorem dX12_operand_80 : decode cX12_operand 80 = .ok (.getfield 36, 3) := by decide +kernel
theorem dX12_operand_83 : decode cX12_operand 83 = .ok (.ifCond .le 5, 3) := by decide +kernel
theorem dX12_operand_86 : decode cX12_operand 86 = .ok (.iconst 1, 1) := by decide +kernel
theorem dX12_operand_87 : decode cX12_operand 87 = .ok (.ireturn, 1) := by decide +kernel
theorem dX12_operand_88 : decode cX12_operand 88 = .ok (.aload_n 0, 1) := by decide +kernel
theorem dX12_operand_89 : decode cX12_operand 89 = .ok (.dup, 1) := by decide +kernel
theorem dX12_operand_90 : decode cX12_operand 90 = .ok (.getfield 143, 3) := by decide +kernel
theorem dX12_operand_93 : decode cX12_operand 93 = .ok (.iconst 1, 1) := by decide +kernel
theorem dX12_operand_94 : decode cX12_operand 94 = .ok (.iadd, 1) := by decide +kernel
theorem dX12_operand_95 : decode cX12_operand 95 = .ok (.putfield 143, 3) := by decide +kernel
theorem dX12_operand_98 : decode cX12_operand 98 = .ok (.aload_n 0, 1) := by decide +kernel
theorem dX12_operand_99 : decode cX12_operand 99 = .ok (.bipush 43, 2) := by decide +kernel
theorem dX12_operand_101 : decode cX12_operand 101 = .ok (.invokevirtual 353, 3) := by decide +kernel
theorem dX12_operand_104 : decode cX12_operand 104 = .ok (.aload_n 0, 1) := by decide +kernel
theorem dX12_operand_105 : decode cX12_operand 105 = .ok (.invokevirtual 272, 3) := by decide +kernel
theorem dX12_operand_108 : decode cX12_operand 108 = .ok (.iconst 0, 1) := by decide +kernel
theorem dX12_operand_109 : decode cX12_operand 109 = .ok (.ireturn, 1) := by decide +kernel
theorem dX12_operand_110 : decode cX12_operand 110 = .ok (.aload_n 0, 1) := by decide +kernel
theorem dX12_operand_111 : decode cX12_operand 111 = .ok (.getfield 130, 3) := by decide +kernel
theorem dX12_operand_114 : decode cX12_operand 114 = .ok (.iload_n 1, 1) := by decide +kernel
theorem dX12_operand_115 : decode cX12_operand 115 = .ok (.iconst 0, 1) := by decide +kernel
theorem dX12_operand_116 : decode cX12_operand 116 = .ok (.bastore, 1) := by decide +kernel
theorem dX12_operand_117 : decode cX12_operand 117 = .ok (.iload_n 2, 1) := by decide +kernel
theorem dX12_operand_118 : decode cX12_operand 118 = .ok (.ifCond .eq 19, 3) := by decide +kernel
theorem dX12_operand_121 : decode cX12_operand 121 = .ok (.aload_n 0, 1) := by decide +kernel
theorem dX12_operand_122 : decode cX12_operand 122 = .ok (.bipush 91, 2) := by decide +kernel
theorem dX12_operand_124 : decode cX12_operand 124 = .ok (.invokevirtual 269, 3) := by decide +kernel
theorem dX12_operand_127 : decode cX12_operand 127 = .ok (.ifCond .eq 10, 3) := by decide +kernel
theorem dX12_operand_130 : decode cX12_operand 130 = .ok (.aload_n 0, 1) := by decide +kernel
theorem dX12_operand_131 : decode cX12_operand 131 = .ok (.iconst 5, 1) := by decide +kernel
theorem dX12_operand_132 : decode cX12_operand 132 = .ok (.invokevirtual 356, 3) := by decide +kernel
theorem dX12_operand_135 : decode cX12_operand 135 = .ok (.iconst 0, 1) := by decide +kernel
theorem dX12_operand_136 : decode cX12_operand 136 = .ok (.ireturn, 1) := by decide +kernel
theorem dX12_operand_137 : decode cX12_operand 137 = .ok (.iload_n 2, 1) := by decide +kernel
theorem dX12_operand_138 : decode cX12_operand 138 = .ok (.ifCond .eq 33, 3) := by decide +kernel
theorem dX12_operand_141 : decode cX12_operand 141 = .ok (.aload_n 0, 1) := by decide +kernel
theorem dX12_operand_142 : decode cX12_operand 142 = .ok (.ldc2_w 323, 3) := by decide +kernel
theorem dX12_operand_145 : decode cX12_operand 145 = .ok (.invokevirtual 349, 3) := by decide +kernel
theorem dX12_operand_148 : decode cX12_operand 148 = .ok (.ifCond .eq 23, 3) := by decide +kernel
theorem dX12_operand_151 : decode cX12_operand 151 = .ok (.aload_n 0, 1) := by decide +kernel
theorem dX12_operand_152 : decode cX12_operand 152 = .ok (.bipush 30, 2) := by decide +kernel
theorem dX12_operand_154 : decode cX12_operand 154 = .ok (.iconst 0, 1) := by decide +kernel
theorem dX12_operand_155 : decode cX12_operand 155 = .ok (.invokevirtual 340, 3) := by decide +kernel
theorem dX12_operand_158 : decode cX12_operand 158 = .ok (.aload_n 0, 1) := by decide +kernel
theorem dX12_operand_159 : decode cX12_operand 159 = .ok (.getfield 127, 3) := by decide +kernel
theorem dX12_operand_162 : decode cX12_operand 162 = .ok (.iload_n 1, 1) := by decide +kernel
theorem dX12_operand_163 : decode cX12_operand 163 = .ok (.iconst 2, 1) := by decide +kernel
theorem dX12_operand_164 : decode cX12_operand 164 = .ok (.iastore, 1) := by decide +kernel
theorem dX12_operand_165 : decode cX12_operand 165 = .ok (.aload_n 0, 1) := by decide +kernel
theorem dX12_operand_166 : decode cX12_operand 166 = .ok (.invokevirtual 272, 3) := by decide +kernel
theorem dX12_operand_169 : decode cX12_operand 169 = .ok (.iconst 1, 1) := by decide +kernel
theorem dX12_operand_170 : decode cX12_operand 170 = .ok (.ireturn, 1) := by decide +kernel
theorem dX12_operand_171 : decode cX12_operand 171 = .ok (.aload_n 0, 1) := by decide +kernel
theorem dX12_operand_172 : decode cX12_operand 172 = .ok (.bipush 40, 2) := by decide +kernel
theorem dX12_operand_174 : decode cX12_operand 174 = .ok (.invokevirtual 269, 3) := by decide +kernel
theorem dX12_operand_177 : decode cX12_operand 177 = .ok (.ifCond .eq 10, 3) := by decide +kernel
theorem dX12_operand_180 : decode cX12_operand 180 = .ok (.aload_n 0, 1) := by decide +kernel
theorem dX12_operand_181 : decode cX12_operand 181 = .ok (.iconst 2, 1) := by decide +kernel
theorem dX12_operand_182 : decode cX12_operand 182 = .ok (.invokevirtual 356, 3) := by decide +kernel
theorem dX12_operand_185 : decode cX12_operand 185 = .ok (.iconst 0, 1) := by decide +kernel
theorem dX12_operand_186 : decode cX12_operand 186 = .ok (.ireturn, 1) := by decide +kernel
theorem dX12_operand_187 : decode cX12_operand 187 = .ok (.aload_n 0, 1) := by decide +kernel
theorem dX12_operand_188 : decode cX12_operand 188 = .ok (.ldc2_w 325, 3) := by decide +kernel
theorem dX12_operand_191 : decode cX12_operand 191 = .ok (.invokevirtual 349, 3) := by decide +kernel
theorem dX12_operand_194 : decode cX12_operand 194 = .ok (.ifCond .ne 23, 3) := by decide +kernel
theorem dX12_operand_197 : decode cX12_operand 197 = .ok (.aload_n 0, 1) := by decide +kernel
theorem dX12_operand_198 : decode cX12_operand 198 = .ok (.ldc2_w 327, 3) := by decide +kernel
theorem dX12_operand_201 : decode cX12_operand 201 = .ok (.invokevirtual 349, 3) := by decide +kernel
theorem dX12_operand_204 : decode cX12_operand 204 = .ok (.ifCond .ne 13, 3) := by decide +kernel
theorem dX12_operand_207 : decode cX12_operand 207 = .ok (.aload_n 0, 1) := by decide +kernel
theorem dX12_operand_208 : decode cX12_operand 208 = .ok (.ldc2_w 315, 3) := by decide +kernel
theorem dX12_operand_211 : decode cX12_operand 211 = .ok (.invokevirtual 349, 3) := by decide +kernel
theorem dX12_operand_214 : decode cX12_operand 214 = .ok (.ifCond .eq 99, 3) := by decide +kernel
theorem dX12_operand_217 : decode cX12_operand 217 = .ok (.aload_n 0, 1) := by decide +kernel
theorem dX12_operand_218 : decode cX12_operand 218 = .ok (.ldc2_w 325, 3) := by decide +kernel
theorem dX12_operand_221 : decode cX12_operand 221 = .ok (.invokevirtual 349, 3) := by decide +kernel
theorem dX12_operand_224 : decode cX12_operand 224 = .ok (.ifCond .eq 8, 3) := by decide +kernel
theorem dX12_operand_227 : decode cX12_operand 227 = .ok (.bipush 36, 2) := by decide +kernel
theorem dX12_operand_229 : decode cX12_operand 229 = .ok (.goto 20, 3) := by decide +kernel
theorem dX12_operand_232 : decode cX12_operand 232 = .ok (.aload_n 0, 1) := by decide +kernel
theorem dX12_operand_233 : decode cX12_operand 233 = .ok (.ldc2_w 327, 3) := by decide +kernel
theorem dX12_operand_236 : decode cX12_operand 236 = .ok (.invokevirtual 349, 3) := by decide +kernel
theorem dX12_operand_239 : decode cX12_operand 239 = .ok (.ifCond .eq 8, 3) := by decide +kernel
theorem dX12_operand_242 : decode cX12_operand 242 = .ok (.bipush 37, 2) := by decide +kernel
theorem dX12_operand_244 : decode cX12_operand 244 = .ok (.goto 5, 3) := by decide +kernel
theorem dX12_operand_247 : decode cX12_operand 247 = .ok (.bipush 44, 2) := by decide +kernel
theorem dX12_operand_249 : decode cX12_operand 249 = .ok (.istore_n 3, 1) := by decide +kernel
theorem dX12_operand_250 : decode cX12_operand 250 = .ok (.aload_n 0, 1) := by decide +kernel
theorem dX12_operand_251 : decode cX12_operand 251 = .ok (.invokevirtual 272, 3) := by decide +kernel
theorem dX12_operand_254 : decode cX12_operand 254 = .ok (.aload_n 0, 1) := by decide +kernel
theorem dX12_operand_255 : decode cX12_operand 255 = .ok (.invokevirtual 266, 3) := by decide +kernel
theorem dX12_operand_258 : decode cX12_operand 258 = .ok (.aload_n 0, 1) := by decide +kernel
theorem dX12_operand_259 : decode cX12_operand 259 = .ok (.bipush 40, 2) := by decide +kernel
theorem dX12_operand_261 : decode cX12_operand 261 = .ok (.invokevirtual 269, 3) := by decide +kernel
theorem dX12_operand_264 : decode cX12_operand 264 = .ok (.ifCond .ne 12, 3) := by decide +kernel
theorem dX12_operand_267 : decode cX12_operand 267 = .ok (.aload_n 0, 1) := by decide +kernel
theorem dX12_operand_268 : decode cX12_operand 268 = .ok (.iconst 1, 1) := by decide +kernel
theorem dX12_operand_269 : decode cX12_operand 269 = .ok (.aload_n 0, 1) := by decide +kernel
theorem dX12_operand_270 : decode cX12_operand 270 = .ok (.getfield 23, 3) := by decide +kernel
theorem dX12_operand_273 : decode cX12_operand 273 = .ok (.invokevirtual 255, 3) := by decide +kernel
theorem dX12_operand_276 : decode cX12_operand 276 = .ok (.aload_n 0, 1) := by decide +kernel
theorem dX12_operand_277 : decode cX12_operand 277 = .ok (.iload_n 3, 1) := by decide +kernel
theorem dX12_operand_278 : decode cX12_operand 278 = .ok (.bipush 44, 2) := by decide +kernel
theorem dX12_operand_280 : decode cX12_operand 280 = .ok (.if_icmp .ne 8, 3) := by decide +kernel
theorem dX12_operand_283 : decode cX12_operand 283 = .ok (.bipush 6, 2) := by decide +kernel
theorem dX12_operand_285 : decode cX12_operand 285 = .ok (.goto 4, 3) := by decide +kernel
theorem dX12_operand_288 : decode cX12_operand 288 = .ok (.iconst 3, 1) := by decide +kernel
theorem dX12_operand_289 : decode cX12_operand 289 = .ok (.invokevirtual 356, 3) := by decide +kernel
theorem dX12_operand_292 : decode cX12_operand 292 = .ok (.aload_n 0, 1) := by decide +kernel
theorem dX12_operand_293 : decode cX12_operand 293 = .ok (.getfield 36, 3) := by decide +kernel
theorem dX12_operand_296 : decode cX12_operand 296 = .ok (.ifCond .ne 15, 3) := by decide +kernel
theorem dX12_operand_299 : decode cX12_operand 299 = .ok (.aload_n 0, 1) := by decide +kernel
theorem dX12_operand_300 : decode cX12_operand 300 = .ok (.getfield 134, 3) := by decide +kernel
theorem dX12_operand_303 : decode cX12_operand 303 = .ok (.aload_n 0, 1) := by decide +kernel
theorem dX12_operand_304 : decode cX12_operand 304 = .ok (.getfield 140, 3) := by decide +kernel
theorem dX12_operand_307 : decode cX12_operand 307 = .ok (.iconst 1, 1) := by decide +kernel
theorem dX12_operand_308 : decode cX12_operand 308 = .ok (.isub, 1) := by decide +kernel
theorem dX12_operand_309 : decode cX12_operand 309 = .ok (.iload_n 3, 1) := by decide +kernel
theorem dX12_operand_310 : decode cX12_operand 310 = .ok (.iastore, 1) := by decide +kernel
theorem dX12_operand_311 : decode cX12_operand 311 = .ok (.iconst 0, 1) := by decide +kernel
theorem dX12_operand_312 : decode cX12_operand 312 = .ok (.ireturn, 1) := by decide +kernel
theorem dX12_operand_313 : decode cX12_operand 313 = .ok (.aload_n 0, 1) := by decide +kernel
theorem dX12_operand_314 : decode cX12_operand 314 = .ok (.getfield 20, 3) := by decide +kernel
theorem dX12_operand_317 : decode cX12_operand 317 = .ok (.iconst 2, 1) := by decide +kernel
theorem dX12_operand_318 : decode cX12_operand 318 = .ok (.if_icmp .ne 7, 3) := by decide +kernel
theorem dX12_operand_321 : decode cX12_operand 321 = .ok (.iconst 0, 1) := by decide +kernel
theorem dX12_operand_322 : decode cX12_operand 322 = .ok (.goto 89, 3) := by decide +kernel
theorem dX12_operand_325 : decode cX12_operand 325 = .ok (.aload_n 0, 1) := by decide +kernel
theorem dX12_operand_326 : decode cX12_operand 326 = .ok (.ldc2_w 285, 3) := by decide +kernel
theorem dX12_operand_329 : decode cX12_operand 329 = .ok (.invokevirtual 349, 3) := by decide +kernel
theorem dX12_operand_332 : decode cX12_operand 332 = .ok (.ifCond .eq 7, 3) := by decide +kernel
theorem dX12_operand_335 : decode cX12_operand 335 = .ok (.iconst 1, 1) := by decide +kernel
theorem dX12_operand_336 : decode cX12_operand 336 = .ok (.goto 75, 3) := by decide +kernel
theorem dX12_operand_339 : decode cX12_operand 339 = .ok (.aload_n 0, 1) := by decide +kernel
theorem dX12_operand_340 : decode cX12_operand 340 = .ok (.ldc2_w 305, 3) := by decide +kernel
theorem dX12_operand_343 : decode cX12_operand 343 = .ok (.invokevirtual 349, 3) := by decide +kernel
theorem dX12_operand_346 : decode cX12_operand 346 = .ok (.ifCond .eq 7, 3) := by decide +kernel
theorem dX12_operand_349 : decode cX12_operand 349 = .ok (.iconst 2, 1) := by decide +kernel
theorem dX12_operand_350 : decode cX12_operand 350 = .ok (.goto 61, 3) := by decide +kernel
theorem dX12_operand_353 : decode cX12_operand 353 = .ok (.aload_n 0, 1) := by decide +kernel
theorem dX12_operand_354 : decode cX12_operand 354 = .ok (.ldc2_w 307, 3) := by decide +kernel
theorem dX12_operand_357 : decode cX12_operand 357 = .ok (.invokevirtual 349, 3) := by decide +kernel
theorem dX12_operand_360 : decode cX12_operand 360 = .ok (.ifCond .eq 7, 3) := by decide +kernel
theorem dX12_operand_363 : decode cX12_operand 363 = .ok (.iconst 3, 1) := by decide +kernel
theorem dX12_operand_364 : decode cX12_operand 364 = .ok (.goto 47, 3) := by decide +kernel
theorem dX12_operand_367 : decode cX12_operand 367 = .ok (.aload_n 0, 1) := by decide +kernel
theorem dX12_operand_368 : decode cX12_operand 368 = .ok (.ldc2_w 309, 3) := by decide +kernel
theorem dX12_operand_371 : decode cX12_operand 371 = .ok (.invokevirtual 349, 3) := by decide +kernel
theorem dX12_operand_374 : decode cX12_operand 374 = .ok (.ifCond .eq 7, 3) := by decide +kernel
theorem dX12_operand_377 : decode cX12_operand 377 = .ok (.iconst 4, 1) := by decide +kernel
theorem dX12_operand_378 : decode cX12_operand 378 = .ok (.goto 33, 3) := by decide +kernel
theorem dX12_operand_381 : decode cX12_operand 381 = .ok (.aload_n 0, 1) := by decide +kernel
theorem dX12_operand_382 : decode cX12_operand 382 = .ok (.ldc2_w 311, 3) := by decide +kernel
theorem dX12_operand_385 : decode cX12_operand 385 = .ok (.invokevirtual 349, 3) := by decide +kernel
theorem dX12_operand_388 : decode cX12_operand 388 = .ok (.ifCond .eq 7, 3) := by decide +kernel
theorem dX12_operand_391 : decode cX12_operand 391 = .ok (.iconst 5, 1) := by decide +kernel
theorem dX12_operand_392 : decode cX12_operand 392 = .ok (.goto 19, 3) := by decide +kernel
theorem dX12_operand_395 : decode cX12_operand 395 = .ok (.aload_n 0, 1) := by decide +kernel
theorem dX12_operand_396 : decode cX12_operand 396 = .ok (.ldc2_w 313, 3) := by decide +kernel
theorem dX12_operand_399 : decode cX12_operand 399 = .ok (.invokevirtual 349, 3) := by decide +kernel
theorem dX12_operand_402 : decode cX12_operand 402 = .ok (.ifCond .eq 8, 3) := by decide +kernel
theorem dX12_operand_405 : decode cX12_operand 405 = .ok (.bipush 6, 2) := by decide +kernel
theorem dX12_operand_407 : decode cX12_operand 407 = .ok (.goto 4, 3) := by decide +kernel
theorem dX12_operand_410 : decode cX12_operand 410 = .ok (.iconst (-1), 1) := by decide +kernel
theorem dX12_operand_411 : decode cX12_operand 411 = .ok (.istore_n 3, 1) := by decide +kernel
theorem dX12_operand_412 : decode cX12_operand 412 = .ok (.iload_n 3, 1) := by decide +kernel
theorem dX12_operand_413 : decode cX12_operand 413 = .ok (.iconst 4, 1) := by decide +kernel
theorem dX12_operand_414 : decode cX12_operand 414 = .ok (.if_icmp .lt 30, 3) := by decide +kernel
theorem dX12_operand_417 : decode cX12_operand 417 = .ok (.iload_n 3, 1) := by decide +kernel
theorem dX12_operand_418 : decode cX12_operand 418 = .ok (.iconst 4, 1) := by decide +kernel
theorem dX12_operand_419 : decode cX12_operand 419 = .ok (.if_icmp .ne 7, 3) := by decide +kernel
theorem dX12_operand_422 : decode cX12_operand 422 = .ok (.iconst 1, 1) := by decide +kernel
theorem dX12_operand_423 : decode cX12_operand 423 = .ok (.goto 4, 3) := by decide +kernel
theorem dX12_operand_426 : decode cX12_operand 426 = .ok (.iconst 0, 1) := by decide +kernel
theorem dX12_operand_427 : decode cX12_operand 427 = .ok (.aload_n 0, 1) := by decide +kernel
theorem dX12_operand_428 : decode cX12_operand 428 = .ok (.getfield 121, 3) := by decide +kernel
theorem dX12_operand_431 : decode cX12_operand 431 = .ok (.ifCond .ne 7, 3) := by decide +kernel
theorem dX12_operand_434 : decode cX12_operand 434 = .ok (.iconst 1, 1) := by decide +kernel
theorem dX12_operand_435 : decode cX12_operand 435 = .ok (.goto 4, 3) := by decide +kernel
theorem dX12_operand_438 : decode cX12_operand 438 = .ok (.iconst 0, 1) := by decide +kernel
theorem dX12_operand_439 : decode cX12_operand 439 = .ok (.if_icmp .eq 5, 3) := by decide +kernel
theorem dX12_operand_442 : decode cX12_operand 442 = .ok (.iconst (-1), 1) := by decide +kernel
theorem dX12_operand_443 : decode cX12_operand 443 = .ok (.istore_n 3, 1) := by decide +kernel
theorem dX12_operand_444 : decode cX12_operand 444 = .ok (.iload_n 3, 1) := by decide +kernel
theorem dX12_operand_445 : decode cX12_operand 445 = .ok (.iconst (-1), 1) := by decide +kernel
theorem dX12_operand_446 : decode cX12_operand 446 = .ok (.if_icmp .ne 12, 3) := by decide +kernel
theorem dX12_operand_449 : decode cX12_operand 449 = .ok (.aload_n 0, 1) := by decide +kernel
theorem dX12_operand_450 : decode cX12_operand 450 = .ok (.iconst 1, 1) := by decide +kernel
theorem dX12_operand_451 : decode cX12_operand 451 = .ok (.aload_n 0, 1) := by decide +kernel
theorem dX12_operand_452 : decode cX12_operand 452 = .ok (.getfield 23, 3) := by decide +kernel
theorem dX12_operand_455 : decode cX12_operand 455 = .ok (.invokevirtual 255, 3) := by decide +kernel
theorem dX12_operand_458 : decode cX12_operand 458 = .ok (.aload_n 0, 1) := by decide +kernel
theorem dX12_operand_459 : decode cX12_operand 459 = .ok (.getfield 36, 3) := by decide +kernel
theorem dX12_operand_462 : decode cX12_operand 462 = .ok (.ifCond .le 5, 3) := by decide +kernel
theorem dX12_operand_465 : decode cX12_operand 465 = .ok (.iconst 1, 1) := by decide +kernel
theorem dX12_operand_466 : decode cX12_operand 466 = .ok (.ireturn, 1) := by decide +kernel
theorem dX12_operand_467 : decode cX12_operand 467 = .ok (.aload_n 0, 1) := by decide +kernel
theorem dX12_operand_468 : decode cX12_operand 468 = .ok (.iload_n 3, 1) := by decide +kernel
theorem dX12_operand_469 : decode cX12_operand 469 = .ok (.aload_n 0, 1) := by decide +kernel
theorem dX12_operand_470 : decode cX12_operand 470 = .ok (.getfield 29, 3) := by decide +kernel
theorem dX12_operand_473 : decode cX12_operand 473 = .ok (.invokevirtual 340, 3) := by decide +kernel
theorem dX12_operand_476 : decode cX12_operand 476 = .ok (.aload_n 0, 1) := by decide +kernel
theorem dX12_operand_477 : decode cX12_operand 477 = .ok (.invokevirtual 272, 3) := by decide +kernel
theorem dX12_operand_480 : decode cX12_operand 480 = .ok (.iconst 1, 1) := by decide +kernel
theorem dX12_operand_481 : decode cX12_operand 481 = .ok (.ireturn, 1) := by decide +kernel
theorem wB_1220 : Cond.code yX12_isTest cX12_isTest 1 (some .boolean) ∈ dgB := List.mem_filter.mpr ⟨tbl_8 _ (List.mem_of_getElem? (i := 79) rfl), rfl⟩
theorem wB_1221 : Cond.methodLink RX12 346 yX12_isTest ∈ dgB := List.mem_filter.mpr ⟨tbl_8 _ (List.mem_of_getElem? (i := 77) (by decide +kernel)), by decide +kernel⟩
theorem wB_1222 : Cond.static yX12_isTest ∈ dgB := List.mem_filter.mpr ⟨tbl_8 _ (List.mem_of_getElem? (i := 78) (by decide +kernel)), by decide +kernel⟩
theorem wB_1223 : Cond.code yX12_holdsBack cX12_holdsBack 2 none ∈ dgB := List.mem_filter.mpr ⟨tbl_8 _ (List.mem_of_getElem? (i := 83) rfl), rfl⟩
theorem wB_1224 : Cond.methodLink RX12 353 yX12_holdsBack ∈ dgB := List.mem_filter.mpr ⟨tbl_8 _ (List.mem_of_getElem? (i := 80) (by decide +kernel)), by decide +kernel⟩
theorem wB_1225 : Cond.instanceMethod yX12_holdsBack ∈ dgB := List.mem_filter.mpr ⟨tbl_8 _ (List.mem_of_getElem? (i := 82) (by decide +kernel)), by decide +kernel⟩
theorem wB_1226 : Cond.selects RX12 yX12_holdsBack yX12_holdsBack ∈ dgB := List.mem_filter.mpr ⟨List.mem_of_getElem? (i := 109) (by decide +kernel), by decide +kernel⟩
theorem wB_1227 : Cond.code yX12_frames cX12_frames 2 none ∈ dgB := List.mem_filter.mpr ⟨tbl_8 _ (List.mem_of_getElem? (i := 87) rfl), rfl⟩
theorem wB_1228 : Cond.methodLink RX12 356 yX12_frames ∈ dgB := List.mem_filter.mpr ⟨tbl_8 _ (List.mem_of_getElem? (i := 84) (by decide +kernel)), by decide +kernel⟩
theorem wB_1229 : Cond.instanceMethod yX12_frames ∈ dgB := List.mem_filter.mpr ⟨tbl_8 _ (List.mem_of_getElem? (i := 86) (by decide +kernel)), by decide +kernel⟩
theorem wB_1230 : Cond.selects RX12 yX12_frames yX12_frames ∈ dgB := List.mem_filter.mpr ⟨List.mem_of_getElem? (i := 110) (by decide +kernel), by decide +kernel⟩
theorem wB_1231 : Cond.fieldLink RX12 121 "DarkMineModel" "law" "I" ∈ dgB := List.mem_filter.mpr ⟨tbl_6 _ (List.mem_of_getElem? (i := 199) (by decide +kernel)), by decide +kernel⟩
theorem wB_1232 : Cond.fieldLink RX12 134 "DarkMineModel" "pair" "[I" ∈ dgB := List.mem_filter.mpr ⟨tbl_6 _ (List.mem_of_getElem? (i := 203) (by decide +kernel)), by decide +kernel⟩
set_option maxHeartbeats 8000000 in
set_option maxRecDepth 100000 in
theorem c_m_operand (l : Launch) (g : Nat → ClassId) (D : va_G) (o : Nat) (S : dg_S) (sg : Int32) (f_sg : S.1 0 3 = .int sg) (b_sg : 0 ≤ (sg).toInt ∧ (sg).toInt ≤ 3) (sa : Int32) (f_sa : S.1 0 4 = .int sa) (b_sa : 0 ≤ (sa).toInt ∧ (sa).toInt ≤ 1600) (se : Int32) (f_se : S.1 0 5 = .int se) (b_se : 0 ≤ (se).toInt ∧ (se).toInt ≤ 1600) (sl : Int32) (f_sl : S.1 0 2 = .int sl) (b_sl : 0 ≤ (sl).toInt ∧ (sl).toInt ≤ 1600) (va : Int32) (f_va : S.1 0 6 = .int va) (b_va : 0 ≤ (va).toInt ∧ (va).toInt ≤ 9999) (cd : Int32) (f_cd : S.1 0 34 = .int cd) (b_cd : 0 ≤ (cd).toInt ∧ (cd).toInt ≤ 1600) (dp : Int32) (f_dp : S.1 0 42 = .int dp) (b_dp : 0 ≤ (dp).toInt ∧ (dp).toInt ≤ 20) (on : Int32) (f_on : S.1 0 43 = .int on) (om : Int32) (f_om : S.1 0 45 = .int om) (b_om : 0 ≤ (om).toInt ∧ (om).toInt ≤ 500) (fk : Int32) (f_fk : S.1 0 8 = .int fk) (b_fk : 0 ≤ (fk).toInt ∧ (fk).toInt ≤ 6) (hlx : (sa).toInt ≤ (se).toInt ∧ (se).toInt ≤ (sl).toInt ∧ ((sg).toInt ≠ 0 → (sa).toInt + 1 ≤ (se).toInt)) (hro : (cd).toInt + (om).toInt + (dp).toInt ≤ (sa).toInt) (ZW : ZWM S) (ZK : ZKM S) (P0 : P0M S) (I : CM o S) (sz : Nat) : Met l yX12_operand (bw yX12_operand cX12_operand 4 (some .boolean)) ({ frames := 4, cells := 0, slots := 0, locals := 98 } : Room) (dk_Pc g D (dg_w g shM o rfM S) sz [.ref (o + 0)]) (va_Qi (fun (r : Int32) S' => CM o S' ∧ dg_sm shM [(0, 3), (0, 4), (0, 5), (0, 6), (0, 7), (0, 8), (0, 9), (0, 12), (0, 34), (0, 42), (0, 43), (0, 45)] [18, 19, 22, 23, 24, 25, 26, 27] S S' ∧ (0 ≤ (r).toInt ∧ (r).toInt ≤ 1) ∧ (∃ y9_3 y9_4 y9_5 y9_8 y9_34 y9_42 y9_45 : Int32, S'.1 0 3 = .int y9_3 ∧ S'.1 0 4 = .int y9_4 ∧ S'.1 0 5 = .int y9_5 ∧ S'.1 0 8 = .int y9_8 ∧ S'.1 0 34 = .int y9_34 ∧ S'.1 0 42 = .int y9_42 ∧ S'.1 0 45 = .int y9_45 ∧ (((y9_4).toInt ≤ (y9_5).toInt ∧ (y9_5).toInt ≤ (sl).toInt ∧ ((y9_3).toInt ≠ 0 → (y9_4).toInt + 1 ≤ (y9_5).toInt)) ∧ (sa).toInt ≤ (y9_4).toInt ∧ ((fk).toInt ≠ 0 → (y9_8).toInt ≠ 0) ∧ (((y9_8).toInt = 0 → (sa).toInt + 1 ≤ (y9_4).toInt) ∧ ((y9_8).toInt = 0 → (y9_34).toInt + (y9_45).toInt + (y9_42).toInt ≤ (y9_4).toInt)))) ∧ (∀ k9 : Int32, S'.1 0 8 = .int k9 → k9.toInt = 0 → ((r).toInt = 1 → P1M S') ∧ ((r).toInt = 0 → P0M S')) ∧ ZWM S' ∧ True) (dg_B g D shM o rfM) (dg_A o shM.length sz)) 0 0 (dg_A o shM.length sz) := by
  refine dg_met (cc := cX12_operand) (maxL := 4) (ret := (some .boolean)) (by decide) rfl (Nat.le_of_ble_eq_true rfl) ?_
  intro p e s m args below meth c A hAe harg hx hb hr hml hts hown hlocks hin hP K hS hA1 hA ST hsz ls hl
  rw [← hAe]
  have F : CallFix p m c cX12_operand 4 s args (bw yX12_operand cX12_operand 4 (some .boolean)) RX12 := ⟨hx, hb, hml, hown, hts⟩
  have hl : lv_has ls 4 [(0, .ref (o + 0))] := hl
  have M_0 : dg_sm shM [(0, 3), (0, 4), (0, 5), (0, 6), (0, 7), (0, 8), (0, 9), (0, 12), (0, 34), (0, 42), (0, 43), (0, 45)] [18, 19, 22, 23, 24, 25, 26, 27] S S := dg_sm.rf
  have hdm_0 := PSM.dims P0 f_dp f_on f_om
  refine lv_aload_n hx hb dX12_operand_0 rfl (lv_at hl 0 rfl) ?_
  refine dg_callv hS hA1 hA (va_runV (As := []) (rest := []) F (c_m_lex l g D o S fk f_fk (by omega) I s.heap.size) (cwV 0 hts (bw_V wB_1153 wB_1154 wB_1155 wB_881 wB_1152) rfl rfl rfl (by decide +kernel) ⟨Nat.le_of_ble_eq_true rfl, Nat.le_of_ble_eq_true rfl⟩) (dg_preV sM_0 rfl K ST hP hS hA1 hA) rfl rfl hl.1 rfl (lv_room (Nat.le_of_ble_eq_true rfl)) dX12_operand_1 ⟨Nat.le_of_ble_eq_true rfl, Nat.le_of_ble_eq_true rfl⟩) (fun S_2 hw_2 H locs hP hS => ?_)
  obtain ⟨I_2, m_2, w_2_0, -⟩ := hw_2
  have M_2 := dg_sm.tr M_0 m_2 (by decide) (by decide)
  obtain ⟨y_3, f_y_3, w_2_0⟩ := w_2_0
  have w_2_0 : (fk).toInt ≠ 0 → (y_3).toInt = (fk).toInt := w_2_0
  have b_y_3 : 0 ≤ (y_3).toInt ∧ (y_3).toInt ≤ 6 := dg_I.intb (lo := 0) (hi := 6) I_2 sM_0 (by decide +kernel) f_y_3
  refine lv_aload_n hx hb dX12_operand_4 rfl (lv_at hl 0 rfl) ?_
  refine dg_get (C := RX12) (T := TX12) (N := 77) hx hb hts (fun w h => bw_mem (wU_X12 w h)) hown K hP sM_0 rfl 8 (by decide) (hts _ (bw_mem wB_1133)) (fun _ h9 => h9) (v := .int y_3) f_y_3 dX12_operand_5 ?_
  refine lv_if_le (tgt := 13) hx hb dX12_operand_8 (by decide) (fun c_4 => ?_) (fun c_4 => ?_)
  · have jc_4 := dk_lec (k := 0) (by decide +kernel) c_4
    refine lv_aload_n hx hb dX12_operand_13 rfl (lv_at hl 0 rfl) ?_
    refine dg_get (C := RX12) (T := TX12) (N := 77) hx hb hts (fun w h => bw_mem (wU_X12 w h)) hown K hP sM_0 rfl 42 (by decide) (hts _ (bw_mem wB_1203)) (fun _ h9 => h9) (v := .int dp) ((m_2.1 0 42 _ sM_0 (by decide)).trans f_dp) dX12_operand_14 ?_
    refine lv_iconst (v := 1) hx hb dX12_operand_17 (by decide +kernel) ?_
    refine lv_isub hx hb dX12_operand_18 ?_
    refine lv_topi (fun x_5 ex_5 => ?_)
    have jx_5 : (x_5).toInt = (dp).toInt - 1 := by rw [ex_5]; exact dk_subT rfl (by decide +kernel) (by omega) (by omega)
    refine lv_istore_n (lv' := [(1, .int x_5), (0, .ref (o + 0))]) hx hb dX12_operand_19 rfl hl (by decide) rfl (fun ls hl => ?_)
    refine lv_aload_n hx hb dX12_operand_20 rfl (lv_at hl 1 rfl) ?_
    refine dg_get (C := RX12) (T := TX12) (N := 77) hx hb hts (fun w h => bw_mem (wU_X12 w h)) hown K hP sM_0 rfl 37 (by decide) (hts _ (bw_mem wB_1213)) (fun _ h9 => h9) (v := .ref (o + 22)) (show S_2.1 0 37 = .ref (o + 22) from dg_I.rel (d := 22) I_2 sM_0 (by decide +kernel)) dX12_operand_21 ?_
    refine lv_iload_n hx hb dX12_operand_24 rfl (lv_at hl 0 rfl) ?_
    have hin_6 : vp_in x_5 20 := (dk_inv (by omega) (by omega))
    refine dg_iald hx hb K hP sM_22 hin_6 dX12_operand_25 (fun x_7 ex_7 => ?_)
    have b_x_7 := dk_all_at (dg_I.row (lo := 0) (hi := 6) I_2 sM_22 (by decide +kernel)) hin_6 ex_7
    refine dg_calli hS hA1 hA (va_runS (As := [.int x_7]) (rest := []) F (c_m_isTest l g D o S_2 x_7 I_2 H.size) (va_cwS 1 hts (bw_S wB_1221 wB_1222 wB_881 wB_1220) rfl rfl rfl (by decide +kernel) ⟨Nat.le_of_ble_eq_true rfl, Nat.le_of_ble_eq_true rfl⟩) (dg_preS K ST hP hS hA1 hA) rfl rfl hl.1 rfl (lv_room (Nat.le_of_ble_eq_true rfl)) dX12_operand_26 ⟨Nat.le_of_ble_eq_true rfl, Nat.le_of_ble_eq_true rfl⟩) (fun x_8 S_9 hw_9 H locs hP hS => ?_)
    rw [hw_9.1] at hP
    obtain ⟨hq_9, w_9_0, w_9_1, -⟩ := hw_9
    have w_9_0 : 0 ≤ (x_8).toInt ∧ (x_8).toInt ≤ 1 := w_9_0
    have w_9_1 : (x_8).toInt = 1 ↔ ((x_7).toInt = 1 ∨ (x_7).toInt = 5 ∨ (x_7).toInt = 6) := w_9_1
    have J_366 : ∀ (x_14 : Int32), (0 ≤ (x_14).toInt ∧ (x_14).toInt ≤ 1) → ((x_14 : Int32).toInt = 1 → (((x_7).toInt = 1 ∨ (x_7).toInt = 5 ∨ (x_7).toInt = 6) ∧ (S_2.2.1 24 (x_5 : Int32).toNatClampNeg).toInt = 1)) → ∀ (H : Heap) (locs : List Loc), va_P D vwCl (dg_w g shM o rfM S_2) H → va_S A s.heap H locs → ∀ ls : Array Slot, lv_has ls 4 [(1, .int x_5), (0, .ref (o + 0))] → W p l e ({ frames := 4, cells := 0, slots := 0, locals := 98 } : Room) s m args below meth c H locs 0 0 (MQ below (va_Qi (fun (r : Int32) S' => CM o S' ∧ dg_sm shM [(0, 3), (0, 4), (0, 5), (0, 6), (0, 7), (0, 8), (0, 9), (0, 12), (0, 34), (0, 42), (0, 43), (0, 45)] [18, 19, 22, 23, 24, 25, 26, 27] S S' ∧ (0 ≤ (r).toInt ∧ (r).toInt ≤ 1) ∧ (∃ y9_3 y9_4 y9_5 y9_8 y9_34 y9_42 y9_45 : Int32, S'.1 0 3 = .int y9_3 ∧ S'.1 0 4 = .int y9_4 ∧ S'.1 0 5 = .int y9_5 ∧ S'.1 0 8 = .int y9_8 ∧ S'.1 0 34 = .int y9_34 ∧ S'.1 0 42 = .int y9_42 ∧ S'.1 0 45 = .int y9_45 ∧ (((y9_4).toInt ≤ (y9_5).toInt ∧ (y9_5).toInt ≤ (sl).toInt ∧ ((y9_3).toInt ≠ 0 → (y9_4).toInt + 1 ≤ (y9_5).toInt)) ∧ (sa).toInt ≤ (y9_4).toInt ∧ ((fk).toInt ≠ 0 → (y9_8).toInt ≠ 0) ∧ (((y9_8).toInt = 0 → (sa).toInt + 1 ≤ (y9_4).toInt) ∧ ((y9_8).toInt = 0 → (y9_34).toInt + (y9_45).toInt + (y9_42).toInt ≤ (y9_4).toInt)))) ∧ (∀ k9 : Int32, S'.1 0 8 = .int k9 → k9.toInt = 0 → ((r).toInt = 1 → P1M S') ∧ ((r).toInt = 0 → P0M S')) ∧ ZWM S' ∧ True) (dg_B g D shM o rfM) A) args s 0 0 A) (F0 m 46 ls [.int x_14]) := by
      intro x_14 b_x_14 rel_0 H locs hP hS ls hl
      refine lv_istore_n (lv' := [(2, .int x_14), (1, .int x_5), (0, .ref (o + 0))]) hx hb dX12_operand_46 rfl hl (by decide) rfl (fun ls hl => ?_)
      refine lv_iload_n hx hb dX12_operand_47 rfl (lv_at hl 0 rfl) ?_
      have J_718 : ∀ (H : Heap) (locs : List Loc), va_P D vwCl (dg_w g shM o rfM S_2) H → va_S A s.heap H locs → ∀ ls : Array Slot, lv_has ls 4 [(2, .int x_14), (1, .int x_5), (0, .ref (o + 0))] → W p l e ({ frames := 4, cells := 0, slots := 0, locals := 98 } : Room) s m args below meth c H locs 0 0 (MQ below (va_Qi (fun (r : Int32) S' => CM o S' ∧ dg_sm shM [(0, 3), (0, 4), (0, 5), (0, 6), (0, 7), (0, 8), (0, 9), (0, 12), (0, 34), (0, 42), (0, 43), (0, 45)] [18, 19, 22, 23, 24, 25, 26, 27] S S' ∧ (0 ≤ (r).toInt ∧ (r).toInt ≤ 1) ∧ (∃ y9_3 y9_4 y9_5 y9_8 y9_34 y9_42 y9_45 : Int32, S'.1 0 3 = .int y9_3 ∧ S'.1 0 4 = .int y9_4 ∧ S'.1 0 5 = .int y9_5 ∧ S'.1 0 8 = .int y9_8 ∧ S'.1 0 34 = .int y9_34 ∧ S'.1 0 42 = .int y9_42 ∧ S'.1 0 45 = .int y9_45 ∧ (((y9_4).toInt ≤ (y9_5).toInt ∧ (y9_5).toInt ≤ (sl).toInt ∧ ((y9_3).toInt ≠ 0 → (y9_4).toInt + 1 ≤ (y9_5).toInt)) ∧ (sa).toInt ≤ (y9_4).toInt ∧ ((fk).toInt ≠ 0 → (y9_8).toInt ≠ 0) ∧ (((y9_8).toInt = 0 → (sa).toInt + 1 ≤ (y9_4).toInt) ∧ ((y9_8).toInt = 0 → (y9_34).toInt + (y9_45).toInt + (y9_42).toInt ≤ (y9_4).toInt)))) ∧ (∀ k9 : Int32, S'.1 0 8 = .int k9 → k9.toInt = 0 → ((r).toInt = 1 → P1M S') ∧ ((r).toInt = 0 → P0M S')) ∧ ZWM S' ∧ True) (dg_B g D shM o rfM) A) args s 0 0 A) (F0 m 110 ls []) := by
        intro H locs hP hS ls hl
        refine lv_aload_n hx hb dX12_operand_110 rfl (lv_at hl 2 rfl) ?_
        refine dg_get (C := RX12) (T := TX12) (N := 77) hx hb hts (fun w h => bw_mem (wU_X12 w h)) hown K hP sM_0 rfl 39 (by decide) (hts _ (bw_mem wB_1215)) (fun _ h9 => h9) (v := .ref (o + 24)) (show S_2.1 0 39 = .ref (o + 24) from dg_I.rel (d := 24) I_2 sM_0 (by decide +kernel)) dX12_operand_111 ?_
        refine lv_iload_n hx hb dX12_operand_114 rfl (lv_at hl 1 rfl) ?_
        refine lv_iconst (v := 0) hx hb dX12_operand_115 (by decide +kernel) ?_
        have hin_719 : vp_in x_5 20 := (dk_inv (by omega) (by omega))
        have hz_721 : (0 : Int32).toInt = 0 := by decide +kernel
        refine dg_zast hx hb K hP hS hA1 sM_24 hin_719 (by decide +kernel) dX12_operand_116 (fun S_720 e_720 H locs hP hS => ?_)
        have I_720 := dg_I.ufu (lo := 0) (hi := 1) I_2 e_720 sM_24 (by decide +kernel) (show 0 ≤ ((0 : Int32)).toInt ∧ ((0 : Int32)).toInt ≤ 1 from (by decide +kernel))
        have M_720 := dg_sm.uf M_2 e_720 sM_24 (by decide)
        have hz_722 : (0 : Int32).toInt = 0 := by decide +kernel
        have PB_720 : PBM S_720 := P0M.bg0 (P0M.keep P0 m_2 (by decide) (by decide) (by decide) (by decide) (by decide) (by decide) (by decide) (by decide) (by decide) (by decide) (by decide) (by decide) (by decide) (by decide) (by decide)) ((m_2.1 0 42 _ sM_0 (by decide)).trans f_dp) (by omega) (by omega) (by omega) e_720
        refine lv_iload_n hx hb dX12_operand_117 rfl (lv_at hl 0 rfl) ?_
        have J_1024 : ∀ (H : Heap) (locs : List Loc), va_P D vwCl (dg_w g shM o rfM S_720) H → va_S A s.heap H locs → ∀ ls : Array Slot, lv_has ls 4 [(2, .int x_14), (1, .int x_5), (0, .ref (o + 0))] → W p l e ({ frames := 4, cells := 0, slots := 0, locals := 98 } : Room) s m args below meth c H locs 0 0 (MQ below (va_Qi (fun (r : Int32) S' => CM o S' ∧ dg_sm shM [(0, 3), (0, 4), (0, 5), (0, 6), (0, 7), (0, 8), (0, 9), (0, 12), (0, 34), (0, 42), (0, 43), (0, 45)] [18, 19, 22, 23, 24, 25, 26, 27] S S' ∧ (0 ≤ (r).toInt ∧ (r).toInt ≤ 1) ∧ (∃ y9_3 y9_4 y9_5 y9_8 y9_34 y9_42 y9_45 : Int32, S'.1 0 3 = .int y9_3 ∧ S'.1 0 4 = .int y9_4 ∧ S'.1 0 5 = .int y9_5 ∧ S'.1 0 8 = .int y9_8 ∧ S'.1 0 34 = .int y9_34 ∧ S'.1 0 42 = .int y9_42 ∧ S'.1 0 45 = .int y9_45 ∧ (((y9_4).toInt ≤ (y9_5).toInt ∧ (y9_5).toInt ≤ (sl).toInt ∧ ((y9_3).toInt ≠ 0 → (y9_4).toInt + 1 ≤ (y9_5).toInt)) ∧ (sa).toInt ≤ (y9_4).toInt ∧ ((fk).toInt ≠ 0 → (y9_8).toInt ≠ 0) ∧ (((y9_8).toInt = 0 → (sa).toInt + 1 ≤ (y9_4).toInt) ∧ ((y9_8).toInt = 0 → (y9_34).toInt + (y9_45).toInt + (y9_42).toInt ≤ (y9_4).toInt)))) ∧ (∀ k9 : Int32, S'.1 0 8 = .int k9 → k9.toInt = 0 → ((r).toInt = 1 → P1M S') ∧ ((r).toInt = 0 → P0M S')) ∧ ZWM S' ∧ True) (dg_B g D shM o rfM) A) args s 0 0 A) (F0 m 137 ls []) := by
          intro H locs hP hS ls hl
          refine lv_iload_n hx hb dX12_operand_137 rfl (lv_at hl 0 rfl) ?_
          have J_1307 : ∀ (H : Heap) (locs : List Loc), va_P D vwCl (dg_w g shM o rfM S_720) H → va_S A s.heap H locs → ∀ ls : Array Slot, lv_has ls 4 [(2, .int x_14), (1, .int x_5), (0, .ref (o + 0))] → W p l e ({ frames := 4, cells := 0, slots := 0, locals := 98 } : Room) s m args below meth c H locs 0 0 (MQ below (va_Qi (fun (r : Int32) S' => CM o S' ∧ dg_sm shM [(0, 3), (0, 4), (0, 5), (0, 6), (0, 7), (0, 8), (0, 9), (0, 12), (0, 34), (0, 42), (0, 43), (0, 45)] [18, 19, 22, 23, 24, 25, 26, 27] S S' ∧ (0 ≤ (r).toInt ∧ (r).toInt ≤ 1) ∧ (∃ y9_3 y9_4 y9_5 y9_8 y9_34 y9_42 y9_45 : Int32, S'.1 0 3 = .int y9_3 ∧ S'.1 0 4 = .int y9_4 ∧ S'.1 0 5 = .int y9_5 ∧ S'.1 0 8 = .int y9_8 ∧ S'.1 0 34 = .int y9_34 ∧ S'.1 0 42 = .int y9_42 ∧ S'.1 0 45 = .int y9_45 ∧ (((y9_4).toInt ≤ (y9_5).toInt ∧ (y9_5).toInt ≤ (sl).toInt ∧ ((y9_3).toInt ≠ 0 → (y9_4).toInt + 1 ≤ (y9_5).toInt)) ∧ (sa).toInt ≤ (y9_4).toInt ∧ ((fk).toInt ≠ 0 → (y9_8).toInt ≠ 0) ∧ (((y9_8).toInt = 0 → (sa).toInt + 1 ≤ (y9_4).toInt) ∧ ((y9_8).toInt = 0 → (y9_34).toInt + (y9_45).toInt + (y9_42).toInt ≤ (y9_4).toInt)))) ∧ (∀ k9 : Int32, S'.1 0 8 = .int k9 → k9.toInt = 0 → ((r).toInt = 1 → P1M S') ∧ ((r).toInt = 0 → P0M S')) ∧ ZWM S' ∧ True) (dg_B g D shM o rfM) A) args s 0 0 A) (F0 m 171 ls []) := by
            intro H locs hP hS ls hl
            refine lv_aload_n hx hb dX12_operand_171 rfl (lv_at hl 2 rfl) ?_
            refine lv_bipush (v := 40) hx hb dX12_operand_172 (by decide +kernel) ?_
            refine dg_calli hS hA1 hA (va_runV (As := [.int 40]) (rest := []) F (c_m_isSign l g D o S_720 40 sg (((dg_uf_F e_720 0 3).trans (m_2.1 0 3 _ sM_0 (by decide))).trans f_sg) (by omega) va (((dg_uf_F e_720 0 6).trans (m_2.1 0 6 _ sM_0 (by decide))).trans f_va) (by omega) I_720 H.size) (cwV 1 hts (bw_V wB_1157 wB_1158 wB_1159 wB_881 wB_1156) rfl rfl rfl (by decide +kernel) ⟨Nat.le_of_ble_eq_true rfl, Nat.le_of_ble_eq_true rfl⟩) (dg_preV sM_0 rfl K ST hP hS hA1 hA) rfl rfl hl.1 rfl (lv_room (Nat.le_of_ble_eq_true rfl)) dX12_operand_174 ⟨Nat.le_of_ble_eq_true rfl, Nat.le_of_ble_eq_true rfl⟩) (fun x_1308 S_1309 hw_1309 H locs hP hS => ?_)
            rw [hw_1309.1] at hP
            obtain ⟨hq_1309, w_1309_0, w_1309_1, -⟩ := hw_1309
            have hz_1310 : (40 : Int32).toInt = 40 := by decide +kernel
            have w_1309_0 : 0 ≤ (x_1308).toInt ∧ (x_1308).toInt ≤ 1 := w_1309_0
            have w_1309_1 : (x_1308).toInt = 1 ↔ ((sg).toInt = 3 ∧ (va).toInt = ((40 : Int32)).toInt) := w_1309_1
            refine lv_if_eq (tgt := 187) hx hb dX12_operand_177 (by decide) (fun c_1311 => ?_) (fun c_1311 => ?_)
            · have jc_1311 := dk_eqc (k := 0) (by decide +kernel) c_1311
              clear w_1309_1
              refine lv_aload_n hx hb dX12_operand_187 rfl (lv_at hl 2 rfl) ?_
              refine lv_ldc2 hx hb hown (hts _ (bw_mem wB_1193)) dX12_operand_188 ?_
              refine dg_calli hS hA1 hA (va_runV (As := [.long 7170414]) (rest := []) F (c_m_isWord l g D o S_720 7170414 sg (((dg_uf_F e_720 0 3).trans (m_2.1 0 3 _ sM_0 (by decide))).trans f_sg) (by omega) I_720 H.size) (cwV 1 hts (bw_V wB_1165 wB_1166 wB_1167 wB_881 wB_1164) rfl rfl rfl (by decide +kernel) ⟨Nat.le_of_ble_eq_true rfl, Nat.le_of_ble_eq_true rfl⟩) (dg_preV sM_0 rfl K ST hP hS hA1 hA) rfl rfl hl.1 rfl (lv_room (Nat.le_of_ble_eq_true rfl)) dX12_operand_191 ⟨Nat.le_of_ble_eq_true rfl, Nat.le_of_ble_eq_true rfl⟩) (fun x_1312 S_1313 hw_1313 H locs hP hS => ?_)
              rw [hw_1313.1] at hP
              obtain ⟨hq_1313, w_1313_0, w_1313_1, -⟩ := hw_1313
              have w_1313_0 : 0 ≤ (x_1312).toInt ∧ (x_1312).toInt ≤ 1 := w_1313_0
              have w_1313_1 : (x_1312).toInt = 1 → (sg).toInt = 1 := w_1313_1
              have J_1555 : ((sg).toInt = 1) → ∀ (H : Heap) (locs : List Loc), va_P D vwCl (dg_w g shM o rfM S_720) H → va_S A s.heap H locs → ∀ ls : Array Slot, lv_has ls 4 [(2, .int x_14), (1, .int x_5), (0, .ref (o + 0))] → W p l e ({ frames := 4, cells := 0, slots := 0, locals := 98 } : Room) s m args below meth c H locs 0 0 (MQ below (va_Qi (fun (r : Int32) S' => CM o S' ∧ dg_sm shM [(0, 3), (0, 4), (0, 5), (0, 6), (0, 7), (0, 8), (0, 9), (0, 12), (0, 34), (0, 42), (0, 43), (0, 45)] [18, 19, 22, 23, 24, 25, 26, 27] S S' ∧ (0 ≤ (r).toInt ∧ (r).toInt ≤ 1) ∧ (∃ y9_3 y9_4 y9_5 y9_8 y9_34 y9_42 y9_45 : Int32, S'.1 0 3 = .int y9_3 ∧ S'.1 0 4 = .int y9_4 ∧ S'.1 0 5 = .int y9_5 ∧ S'.1 0 8 = .int y9_8 ∧ S'.1 0 34 = .int y9_34 ∧ S'.1 0 42 = .int y9_42 ∧ S'.1 0 45 = .int y9_45 ∧ (((y9_4).toInt ≤ (y9_5).toInt ∧ (y9_5).toInt ≤ (sl).toInt ∧ ((y9_3).toInt ≠ 0 → (y9_4).toInt + 1 ≤ (y9_5).toInt)) ∧ (sa).toInt ≤ (y9_4).toInt ∧ ((fk).toInt ≠ 0 → (y9_8).toInt ≠ 0) ∧ (((y9_8).toInt = 0 → (sa).toInt + 1 ≤ (y9_4).toInt) ∧ ((y9_8).toInt = 0 → (y9_34).toInt + (y9_45).toInt + (y9_42).toInt ≤ (y9_4).toInt)))) ∧ (∀ k9 : Int32, S'.1 0 8 = .int k9 → k9.toInt = 0 → ((r).toInt = 1 → P1M S') ∧ ((r).toInt = 0 → P0M S')) ∧ ZWM S' ∧ True) (dg_B g D shM o rfM) A) args s 0 0 A) (F0 m 217 ls []) := by
                intro rel_0 H locs hP hS ls hl
                refine lv_aload_n hx hb dX12_operand_217 rfl (lv_at hl 2 rfl) ?_
                refine lv_ldc2 hx hb hown (hts _ (bw_mem wB_1193)) dX12_operand_218 ?_
                refine dg_calli hS hA1 hA (va_runV (As := [.long 7170414]) (rest := []) F (c_m_isWord l g D o S_720 7170414 sg (((dg_uf_F e_720 0 3).trans (m_2.1 0 3 _ sM_0 (by decide))).trans f_sg) (by omega) I_720 H.size) (cwV 1 hts (bw_V wB_1165 wB_1166 wB_1167 wB_881 wB_1164) rfl rfl rfl (by decide +kernel) ⟨Nat.le_of_ble_eq_true rfl, Nat.le_of_ble_eq_true rfl⟩) (dg_preV sM_0 rfl K ST hP hS hA1 hA) rfl rfl hl.1 rfl (lv_room (Nat.le_of_ble_eq_true rfl)) dX12_operand_221 ⟨Nat.le_of_ble_eq_true rfl, Nat.le_of_ble_eq_true rfl⟩) (fun x_1556 S_1557 hw_1557 H locs hP hS => ?_)
                rw [hw_1557.1] at hP
                obtain ⟨hq_1557, w_1557_0, w_1557_1, -⟩ := hw_1557
                have w_1557_0 : 0 ≤ (x_1556).toInt ∧ (x_1556).toInt ≤ 1 := w_1557_0
                have w_1557_1 : (x_1556).toInt = 1 → (sg).toInt = 1 := w_1557_1
                have J_1672 : ∀ (x_1562 : Int32), (36 ≤ (x_1562).toInt ∧ (x_1562).toInt ≤ 44) → ((x_1562 : Int32).toInt = 36 ∨ (x_1562 : Int32).toInt = 37 ∨ (x_1562 : Int32).toInt = 44) → ∀ (H : Heap) (locs : List Loc), va_P D vwCl (dg_w g shM o rfM S_720) H → va_S A s.heap H locs → ∀ ls : Array Slot, lv_has ls 4 [(2, .int x_14), (1, .int x_5), (0, .ref (o + 0))] → W p l e ({ frames := 4, cells := 0, slots := 0, locals := 98 } : Room) s m args below meth c H locs 0 0 (MQ below (va_Qi (fun (r : Int32) S' => CM o S' ∧ dg_sm shM [(0, 3), (0, 4), (0, 5), (0, 6), (0, 7), (0, 8), (0, 9), (0, 12), (0, 34), (0, 42), (0, 43), (0, 45)] [18, 19, 22, 23, 24, 25, 26, 27] S S' ∧ (0 ≤ (r).toInt ∧ (r).toInt ≤ 1) ∧ (∃ y9_3 y9_4 y9_5 y9_8 y9_34 y9_42 y9_45 : Int32, S'.1 0 3 = .int y9_3 ∧ S'.1 0 4 = .int y9_4 ∧ S'.1 0 5 = .int y9_5 ∧ S'.1 0 8 = .int y9_8 ∧ S'.1 0 34 = .int y9_34 ∧ S'.1 0 42 = .int y9_42 ∧ S'.1 0 45 = .int y9_45 ∧ (((y9_4).toInt ≤ (y9_5).toInt ∧ (y9_5).toInt ≤ (sl).toInt ∧ ((y9_3).toInt ≠ 0 → (y9_4).toInt + 1 ≤ (y9_5).toInt)) ∧ (sa).toInt ≤ (y9_4).toInt ∧ ((fk).toInt ≠ 0 → (y9_8).toInt ≠ 0) ∧ (((y9_8).toInt = 0 → (sa).toInt + 1 ≤ (y9_4).toInt) ∧ ((y9_8).toInt = 0 → (y9_34).toInt + (y9_45).toInt + (y9_42).toInt ≤ (y9_4).toInt)))) ∧ (∀ k9 : Int32, S'.1 0 8 = .int k9 → k9.toInt = 0 → ((r).toInt = 1 → P1M S') ∧ ((r).toInt = 0 → P0M S')) ∧ ZWM S' ∧ True) (dg_B g D shM o rfM) A) args s 0 0 A) (F0 m 249 ls [.int x_1562]) := by
                  intro x_1562 b_x_1562 rel_0 H locs hP hS ls hl
                  refine lv_istore_n (lv' := [(3, .int x_1562), (2, .int x_14), (1, .int x_5), (0, .ref (o + 0))]) hx hb dX12_operand_249 rfl hl (by decide) rfl (fun ls hl => ?_)
                  refine lv_aload_n hx hb dX12_operand_250 rfl (lv_at hl 3 rfl) ?_
                  refine dg_callv hS hA1 hA (va_runV (As := []) (rest := []) F (c_m_ahead l g D o S_720 se (((dg_uf_F e_720 0 5).trans (m_2.1 0 5 _ sM_0 (by decide))).trans f_se) (by omega) sl (((dg_uf_F e_720 0 2).trans (m_2.1 0 2 _ sM_0 (by decide))).trans f_sl) (by omega) (by omega) I_720 H.size) (cwV 0 hts (bw_V wB_1161 wB_1162 wB_1163 wB_881 wB_1160) rfl rfl rfl (by decide +kernel) ⟨Nat.le_of_ble_eq_true rfl, Nat.le_of_ble_eq_true rfl⟩) (dg_preV sM_0 rfl K ST hP hS hA1 hA) rfl rfl hl.1 rfl (lv_room (Nat.le_of_ble_eq_true rfl)) dX12_operand_251 ⟨Nat.le_of_ble_eq_true rfl, Nat.le_of_ble_eq_true rfl⟩) (fun S_1673 hw_1673 H locs hP hS => ?_)
                  obtain ⟨I_1673, m_1673, w_1673_0, -⟩ := hw_1673
                  have M_1673 := dg_sm.tr M_720 m_1673 (by decide) (by decide)
                  obtain ⟨y_1674, y_1675, y_1676, f_y_1674, f_y_1675, f_y_1676, w_1673_0⟩ := w_1673_0
                  have w_1673_0 : (se).toInt ≤ (y_1675).toInt ∧ (y_1675).toInt ≤ (y_1676).toInt ∧ (y_1676).toInt ≤ (sl).toInt ∧ ((y_1674).toInt ≠ 0 → (y_1675).toInt + 1 ≤ (y_1676).toInt) := w_1673_0
                  have b_y_1674 : 0 ≤ (y_1674).toInt ∧ (y_1674).toInt ≤ 3 := dg_I.intb (lo := 0) (hi := 3) I_1673 sM_0 (by decide +kernel) f_y_1674
                  have b_y_1675 : 0 ≤ (y_1675).toInt ∧ (y_1675).toInt ≤ 1600 := dg_I.intb (lo := 0) (hi := 1600) I_1673 sM_0 (by decide +kernel) f_y_1675
                  have b_y_1676 : 0 ≤ (y_1676).toInt ∧ (y_1676).toInt ≤ 1600 := dg_I.intb (lo := 0) (hi := 1600) I_1673 sM_0 (by decide +kernel) f_y_1676
                  refine lv_aload_n hx hb dX12_operand_254 rfl (lv_at hl 3 rfl) ?_
                  refine dg_callv hS hA1 hA (va_runV (As := []) (rest := []) F (c_m_lex l g D o S_1673 y_3 (((m_1673.1 0 8 _ sM_0 (by decide)).trans (dg_uf_F e_720 0 8)).trans f_y_3) (by omega) I_1673 H.size) (cwV 0 hts (bw_V wB_1153 wB_1154 wB_1155 wB_881 wB_1152) rfl rfl rfl (by decide +kernel) ⟨Nat.le_of_ble_eq_true rfl, Nat.le_of_ble_eq_true rfl⟩) (dg_preV sM_0 rfl K ST hP hS hA1 hA) rfl rfl hl.1 rfl (lv_room (Nat.le_of_ble_eq_true rfl)) dX12_operand_255 ⟨Nat.le_of_ble_eq_true rfl, Nat.le_of_ble_eq_true rfl⟩) (fun S_1677 hw_1677 H locs hP hS => ?_)
                  obtain ⟨I_1677, m_1677, w_1677_0, -⟩ := hw_1677
                  have M_1677 := dg_sm.tr M_1673 m_1677 (by decide) (by decide)
                  obtain ⟨y_1678, f_y_1678, w_1677_0⟩ := w_1677_0
                  have w_1677_0 : (y_3).toInt ≠ 0 → (y_1678).toInt = (y_3).toInt := w_1677_0
                  have b_y_1678 : 0 ≤ (y_1678).toInt ∧ (y_1678).toInt ≤ 6 := dg_I.intb (lo := 0) (hi := 6) I_1677 sM_0 (by decide +kernel) f_y_1678
                  refine lv_aload_n hx hb dX12_operand_258 rfl (lv_at hl 3 rfl) ?_
                  refine lv_bipush (v := 40) hx hb dX12_operand_259 (by decide +kernel) ?_
                  obtain ⟨x_1679, f_x_1679, b_x_1679⟩ := dg_I.int (i := 0) (k := 6) (lo := 0) (hi := 9999) I_1677 sM_0 (by decide +kernel)
                  refine dg_calli hS hA1 hA (va_runV (As := [.int 40]) (rest := []) F (c_m_isSign l g D o S_1677 40 y_1674 ((m_1677.1 0 3 _ sM_0 (by decide)).trans f_y_1674) (by omega) x_1679 f_x_1679 (by omega) I_1677 H.size) (cwV 1 hts (bw_V wB_1157 wB_1158 wB_1159 wB_881 wB_1156) rfl rfl rfl (by decide +kernel) ⟨Nat.le_of_ble_eq_true rfl, Nat.le_of_ble_eq_true rfl⟩) (dg_preV sM_0 rfl K ST hP hS hA1 hA) rfl rfl hl.1 rfl (lv_room (Nat.le_of_ble_eq_true rfl)) dX12_operand_261 ⟨Nat.le_of_ble_eq_true rfl, Nat.le_of_ble_eq_true rfl⟩) (fun x_1680 S_1681 hw_1681 H locs hP hS => ?_)
                  rw [hw_1681.1] at hP
                  obtain ⟨hq_1681, w_1681_0, w_1681_1, -⟩ := hw_1681
                  have hz_1682 : (40 : Int32).toInt = 40 := by decide +kernel
                  have w_1681_0 : 0 ≤ (x_1680).toInt ∧ (x_1680).toInt ≤ 1 := w_1681_0
                  have w_1681_1 : (x_1680).toInt = 1 ↔ ((y_1674).toInt = 3 ∧ (x_1679).toInt = ((40 : Int32)).toInt) := w_1681_1
                  refine lv_if_ne (tgt := 276) hx hb dX12_operand_264 (by decide) (fun c_1683 => ?_) (fun c_1683 => ?_)
                  · have jc_1683 := dk_neqc (k := 0) (by decide +kernel) c_1683
                    have w_1681_1_r := w_1681_1.mp (by omega)
                    clear w_1681_1
                    refine lv_aload_n hx hb dX12_operand_276 rfl (lv_at hl 3 rfl) ?_
                    refine lv_iload_n hx hb dX12_operand_277 rfl (lv_at hl 0 rfl) ?_
                    refine lv_bipush (v := 44) hx hb dX12_operand_278 (by decide +kernel) ?_
                    refine lv_icmp_ne (tgt := 288) hx hb dX12_operand_280 (by decide) (fun c_1684 => ?_) (fun c_1684 => ?_)
                    · have jc_1684 := dk_neqc (k := 44) (by decide +kernel) c_1684
                      refine lv_iconst (v := 3) hx hb dX12_operand_288 (by decide +kernel) ?_
                      have hz_1685 : (3 : Int32).toInt = 3 := by decide +kernel
                      refine dg_callv hS hA1 hA (va_runV (As := [.int 3]) (rest := []) F (c_m_frames l g D o S_1677 3 (by decide +kernel) y_1674 ((m_1677.1 0 3 _ sM_0 (by decide)).trans f_y_1674) (by omega) y_1675 ((m_1677.1 0 4 _ sM_0 (by decide)).trans f_y_1675) (by omega) y_1676 ((m_1677.1 0 5 _ sM_0 (by decide)).trans f_y_1676) (by omega) sl (((m_1677.1 0 2 _ sM_0 (by decide)).trans ((m_1673.1 0 2 _ sM_0 (by decide)).trans ((dg_uf_F e_720 0 2).trans (m_2.1 0 2 _ sM_0 (by decide))))).trans f_sl) (by omega) y_1678 f_y_1678 (by omega) dp (((m_1677.1 0 42 _ sM_0 (by decide)).trans ((m_1673.1 0 42 _ sM_0 (by decide)).trans ((dg_uf_F e_720 0 42).trans (m_2.1 0 42 _ sM_0 (by decide))))).trans f_dp) (by omega) om (((m_1677.1 0 45 _ sM_0 (by decide)).trans ((m_1673.1 0 45 _ sM_0 (by decide)).trans ((dg_uf_F e_720 0 45).trans (m_2.1 0 45 _ sM_0 (by decide))))).trans f_om) (by omega) on (((m_1677.1 0 43 _ sM_0 (by decide)).trans ((m_1673.1 0 43 _ sM_0 (by decide)).trans ((dg_uf_F e_720 0 43).trans (m_2.1 0 43 _ sM_0 (by decide))))).trans f_on) (by omega) (by omega) I_1677 H.size) (cwV 1 hts (bw_V wB_1228 wB_1229 wB_1230 wB_881 wB_1227) rfl rfl rfl (by decide +kernel) ⟨Nat.le_of_ble_eq_true rfl, Nat.le_of_ble_eq_true rfl⟩) (dg_preV sM_0 rfl K ST hP hS hA1 hA) rfl rfl hl.1 rfl (lv_room (Nat.le_of_ble_eq_true rfl)) dX12_operand_289 ⟨Nat.le_of_ble_eq_true rfl, Nat.le_of_ble_eq_true rfl⟩) (fun S_1686 hw_1686 H locs hP hS => ?_)
                      obtain ⟨I_1686, m_1686, w_1686_0, w_1686_1, -⟩ := hw_1686
                      have M_1686 := dg_sm.tr M_1677 m_1686 (by decide) (by decide)
                      have hz_1687 : (3 : Int32).toInt = 3 := by decide +kernel
                      obtain ⟨y_1688, y_1689, y_1690, y_1691, y_1692, f_y_1688, f_y_1689, f_y_1690, f_y_1691, f_y_1692, w_1686_0⟩ := w_1686_0
                      have w_1686_0 : ((y_1689).toInt ≤ (y_1690).toInt ∧ (y_1690).toInt ≤ (sl).toInt ∧ ((y_1688).toInt ≠ 0 → (y_1689).toInt + 1 ≤ (y_1690).toInt)) ∧ (y_1675).toInt ≤ (y_1689).toInt ∧ ((y_1678).toInt ≠ 0 → (y_1691).toInt ≠ 0) ∧ (((y_1691).toInt = 0 → ((y_1675).toInt + 1 ≤ (y_1689).toInt ∧ (y_1692).toInt = (dp).toInt + 1))) := w_1686_0
                      have b_y_1688 : 0 ≤ (y_1688).toInt ∧ (y_1688).toInt ≤ 3 := dg_I.intb (lo := 0) (hi := 3) I_1686 sM_0 (by decide +kernel) f_y_1688
                      have b_y_1689 : 0 ≤ (y_1689).toInt ∧ (y_1689).toInt ≤ 1600 := dg_I.intb (lo := 0) (hi := 1600) I_1686 sM_0 (by decide +kernel) f_y_1689
                      have b_y_1690 : 0 ≤ (y_1690).toInt ∧ (y_1690).toInt ≤ 1600 := dg_I.intb (lo := 0) (hi := 1600) I_1686 sM_0 (by decide +kernel) f_y_1690
                      have b_y_1691 : 0 ≤ (y_1691).toInt ∧ (y_1691).toInt ≤ 6 := dg_I.intb (lo := 0) (hi := 6) I_1686 sM_0 (by decide +kernel) f_y_1691
                      have b_y_1692 : 0 ≤ (y_1692).toInt ∧ (y_1692).toInt ≤ 20 := dg_I.intb (lo := 0) (hi := 20) I_1686 sM_0 (by decide +kernel) f_y_1692
                      have w_1686_1 : ∀ k9 : Int32, S_1686.1 0 8 = .int k9 → k9.toInt = 0 → FRM S_1677 S_1686 (3 : Int32) := w_1686_1
                      obtain ⟨x_1693, f_x_1693, b_x_1693⟩ := dg_I.int (i := 0) (k := 42) (lo := 0) (hi := 20) I_1677 sM_0 (by decide +kernel)
                      refine lv_aload_n hx hb dX12_operand_292 rfl (lv_at hl 3 rfl) ?_
                      refine dg_get (C := RX12) (T := TX12) (N := 77) hx hb hts (fun w h => bw_mem (wU_X12 w h)) hown K hP sM_0 rfl 8 (by decide) (hts _ (bw_mem wB_1133)) (fun _ h9 => h9) (v := .int y_1691) f_y_1691 dX12_operand_293 ?_
                      refine lv_if_ne (tgt := 311) hx hb dX12_operand_296 (by decide) (fun c_1694 => ?_) (fun c_1694 => ?_)
                      · have jc_1694 := dk_neqc (k := 0) (by decide +kernel) c_1694
                        refine lv_iconst (v := 0) hx hb dX12_operand_311 (by decide +kernel) ?_
                        have hz_1695 : (0 : Int32).toInt = 0 := by decide +kernel
                        have hz_1696 : (0 : Int32).toInt = 0 := by decide +kernel
                        obtain ⟨x_1697, f_x_1697, b_x_1697⟩ := dg_I.int (i := 0) (k := 42) (lo := 0) (hi := 20) I_1686 sM_0 (by decide +kernel)
                        have hz_1698 : (0 : Int32).toInt = 0 := by decide +kernel
                        have hz_1699 : (0 : Int32).toInt = 0 := by decide +kernel
                        refine W.widen (k := 0) (n := 0) (Nat.le_of_ble_eq_true rfl) (Nat.le_of_ble_eq_true rfl) ?_
                        exact dg_iret hx hb hr hlocks (by decide +kernel) hP hS ⟨I_1686, M_1686, (by decide +kernel), ⟨y_1688, y_1689, y_1690, y_1691, cd, x_1697, om, f_y_1688, f_y_1689, f_y_1690, f_y_1691, (((m_1686.1 0 34 _ sM_0 (by decide)).trans ((m_1677.1 0 34 _ sM_0 (by decide)).trans ((m_1673.1 0 34 _ sM_0 (by decide)).trans ((dg_uf_F e_720 0 34).trans (m_2.1 0 34 _ sM_0 (by decide)))))).trans f_cd), f_x_1697, (((m_1686.1 0 45 _ sM_0 (by decide)).trans ((m_1677.1 0 45 _ sM_0 (by decide)).trans ((m_1673.1 0 45 _ sM_0 (by decide)).trans ((dg_uf_F e_720 0 45).trans (m_2.1 0 45 _ sM_0 (by decide)))))).trans f_om), (by omega)⟩, (fun k9 hk9 hk0 => by have q9 := (f_y_1691).symm.trans hk9; cases q9; omega), (ZWM.keep (ZWM.keep (ZWM.keep (ZWM.keep (ZWM.keep ZW m_2 (by decide) (by decide) (by decide) (by decide)) (dg_sm.uf (WF := []) (WA := [24]) dg_sm.rf e_720 sM_24 (by decide)) (by decide) (by decide) (by decide) (by decide)) m_1673 (by decide) (by decide) (by decide) (by decide)) m_1677 (by decide) (by decide) (by decide) (by decide)) m_1686 (by decide) (by decide) (by decide) (by decide)), trivial⟩ dX12_operand_312
                      · have jc_1694 := dk_eqc (k := 0) (by decide +kernel) c_1694
                        refine lv_aload_n hx hb dX12_operand_299 rfl (lv_at hl 3 rfl) ?_
                        refine dg_get (C := RX12) (T := TX12) (N := 77) hx hb hts (fun w h => bw_mem (wU_X12 w h)) hown K hP sM_0 rfl 40 (by decide) (hts _ (bw_mem wB_1232)) (fun _ h9 => h9) (v := .ref (o + 25)) (show S_1686.1 0 40 = .ref (o + 25) from dg_I.rel (d := 25) I_1686 sM_0 (by decide +kernel)) dX12_operand_300 ?_
                        refine lv_aload_n hx hb dX12_operand_303 rfl (lv_at hl 3 rfl) ?_
                        obtain ⟨x_1700, f_x_1700, b_x_1700⟩ := dg_I.int (i := 0) (k := 42) (lo := 0) (hi := 20) I_1686 sM_0 (by decide +kernel)
                        refine dg_get (C := RX12) (T := TX12) (N := 77) hx hb hts (fun w h => bw_mem (wU_X12 w h)) hown K hP sM_0 rfl 42 (by decide) (hts _ (bw_mem wB_1203)) (fun _ h9 => h9) (v := .int x_1700) f_x_1700 dX12_operand_304 ?_
                        refine lv_iconst (v := 1) hx hb dX12_operand_307 (by decide +kernel) ?_
                        refine lv_isub hx hb dX12_operand_308 ?_
                        refine lv_topi (fun x_1701 ex_1701 => ?_)
                        have jx_1701 : (x_1701).toInt = (x_1700).toInt - 1 := by rw [ex_1701]; exact dk_subT rfl (by decide +kernel) (by omega) (by omega)
                        refine lv_iload_n hx hb dX12_operand_309 rfl (lv_at hl 0 rfl) ?_
                        have hin_1702 : vp_in x_1701 20 := (dk_inv (by omega) (by omega))
                        refine dg_iast hx hb K hP hS hA1 sM_25 hin_1702 dX12_operand_310 (fun S_1703 e_1703 H locs hP hS => ?_)
                        have I_1703 := dg_I.uf0 I_1686 e_1703 sM_25 (by decide +kernel)
                        have M_1703 := dg_sm.uf M_1686 e_1703 sM_25 (by decide)
                        have P0_1703 : P0M S_1703 := PBM.openp (PBM.keep (PBM.keep PB_720 m_1673 (by decide) (by decide) (by decide) (by decide) (by decide) (by decide) (by decide) (by decide) (by decide) (by decide) (by decide) (by decide) (by decide) (by decide) (by decide)) m_1677 (by decide) (by decide) (by decide) (by decide) (by decide) (by decide) (by decide) (by decide) (by decide) (by decide) (by decide) (by decide) (by decide) (by decide) (by decide)) f_x_1693 (((m_1677.1 0 43 _ sM_0 (by decide)).trans ((m_1673.1 0 43 _ sM_0 (by decide)).trans ((dg_uf_F e_720 0 43).trans (m_2.1 0 43 _ sM_0 (by decide))))).trans f_on) (((m_1677.1 0 45 _ sM_0 (by decide)).trans ((m_1673.1 0 45 _ sM_0 (by decide)).trans ((dg_uf_F e_720 0 45).trans (m_2.1 0 45 _ sM_0 (by decide))))).trans f_om) (w_1686_1 _ f_y_1691 (by omega)) m_1686 (by decide) (by decide) (by decide) (by decide) (by omega) f_x_1700 (by omega) e_1703
                        refine lv_iconst (v := 0) hx hb dX12_operand_311 (by decide +kernel) ?_
                        have hz_1704 : (0 : Int32).toInt = 0 := by decide +kernel
                        have hz_1705 : (0 : Int32).toInt = 0 := by decide +kernel
                        have hz_1706 : (0 : Int32).toInt = 0 := by decide +kernel
                        have hz_1707 : (0 : Int32).toInt = 0 := by decide +kernel
                        refine W.widen (k := 0) (n := 0) (Nat.le_of_ble_eq_true rfl) (Nat.le_of_ble_eq_true rfl) ?_
                        exact dg_iret hx hb hr hlocks (by decide +kernel) hP hS ⟨I_1703, M_1703, (by decide +kernel), ⟨y_1688, y_1689, y_1690, y_1691, cd, x_1700, om, ((dg_uf_F e_1703 0 3).trans f_y_1688), ((dg_uf_F e_1703 0 4).trans f_y_1689), ((dg_uf_F e_1703 0 5).trans f_y_1690), ((dg_uf_F e_1703 0 8).trans f_y_1691), (((dg_uf_F e_1703 0 34).trans ((m_1686.1 0 34 _ sM_0 (by decide)).trans ((m_1677.1 0 34 _ sM_0 (by decide)).trans ((m_1673.1 0 34 _ sM_0 (by decide)).trans ((dg_uf_F e_720 0 34).trans (m_2.1 0 34 _ sM_0 (by decide))))))).trans f_cd), ((dg_uf_F e_1703 0 42).trans f_x_1700), (((dg_uf_F e_1703 0 45).trans ((m_1686.1 0 45 _ sM_0 (by decide)).trans ((m_1677.1 0 45 _ sM_0 (by decide)).trans ((m_1673.1 0 45 _ sM_0 (by decide)).trans ((dg_uf_F e_720 0 45).trans (m_2.1 0 45 _ sM_0 (by decide))))))).trans f_om), (by omega)⟩, (fun k9 hk9 hk0 => ⟨fun h9 => absurd h9 (by decide +kernel), fun _ => P0_1703⟩), (ZWM.keep (ZWM.keep (ZWM.keep (ZWM.keep (ZWM.keep (ZWM.keep ZW m_2 (by decide) (by decide) (by decide) (by decide)) (dg_sm.uf (WF := []) (WA := [24]) dg_sm.rf e_720 sM_24 (by decide)) (by decide) (by decide) (by decide) (by decide)) m_1673 (by decide) (by decide) (by decide) (by decide)) m_1677 (by decide) (by decide) (by decide) (by decide)) m_1686 (by decide) (by decide) (by decide) (by decide)) (dg_sm.uf (WF := []) (WA := [25]) dg_sm.rf e_1703 sM_25 (by decide)) (by decide) (by decide) (by decide) (by decide)), trivial⟩ dX12_operand_312
                    · have jc_1684 := dk_eqc (k := 44) (by decide +kernel) c_1684
                      refine lv_bipush (v := 6) hx hb dX12_operand_283 (by decide +kernel) ?_
                      refine lv_goto (tgt := 289) hx hb dX12_operand_285 (by decide) ?_
                      have hz_1708 : (6 : Int32).toInt = 6 := by decide +kernel
                      refine dg_callv hS hA1 hA (va_runV (As := [.int 6]) (rest := []) F (c_m_frames l g D o S_1677 6 (by decide +kernel) y_1674 ((m_1677.1 0 3 _ sM_0 (by decide)).trans f_y_1674) (by omega) y_1675 ((m_1677.1 0 4 _ sM_0 (by decide)).trans f_y_1675) (by omega) y_1676 ((m_1677.1 0 5 _ sM_0 (by decide)).trans f_y_1676) (by omega) sl (((m_1677.1 0 2 _ sM_0 (by decide)).trans ((m_1673.1 0 2 _ sM_0 (by decide)).trans ((dg_uf_F e_720 0 2).trans (m_2.1 0 2 _ sM_0 (by decide))))).trans f_sl) (by omega) y_1678 f_y_1678 (by omega) dp (((m_1677.1 0 42 _ sM_0 (by decide)).trans ((m_1673.1 0 42 _ sM_0 (by decide)).trans ((dg_uf_F e_720 0 42).trans (m_2.1 0 42 _ sM_0 (by decide))))).trans f_dp) (by omega) om (((m_1677.1 0 45 _ sM_0 (by decide)).trans ((m_1673.1 0 45 _ sM_0 (by decide)).trans ((dg_uf_F e_720 0 45).trans (m_2.1 0 45 _ sM_0 (by decide))))).trans f_om) (by omega) on (((m_1677.1 0 43 _ sM_0 (by decide)).trans ((m_1673.1 0 43 _ sM_0 (by decide)).trans ((dg_uf_F e_720 0 43).trans (m_2.1 0 43 _ sM_0 (by decide))))).trans f_on) (by omega) (by omega) I_1677 H.size) (cwV 1 hts (bw_V wB_1228 wB_1229 wB_1230 wB_881 wB_1227) rfl rfl rfl (by decide +kernel) ⟨Nat.le_of_ble_eq_true rfl, Nat.le_of_ble_eq_true rfl⟩) (dg_preV sM_0 rfl K ST hP hS hA1 hA) rfl rfl hl.1 rfl (lv_room (Nat.le_of_ble_eq_true rfl)) dX12_operand_289 ⟨Nat.le_of_ble_eq_true rfl, Nat.le_of_ble_eq_true rfl⟩) (fun S_1709 hw_1709 H locs hP hS => ?_)
                      obtain ⟨I_1709, m_1709, w_1709_0, w_1709_1, -⟩ := hw_1709
                      have M_1709 := dg_sm.tr M_1677 m_1709 (by decide) (by decide)
                      have hz_1710 : (6 : Int32).toInt = 6 := by decide +kernel
                      obtain ⟨y_1711, y_1712, y_1713, y_1714, y_1715, f_y_1711, f_y_1712, f_y_1713, f_y_1714, f_y_1715, w_1709_0⟩ := w_1709_0
                      have w_1709_0 : ((y_1712).toInt ≤ (y_1713).toInt ∧ (y_1713).toInt ≤ (sl).toInt ∧ ((y_1711).toInt ≠ 0 → (y_1712).toInt + 1 ≤ (y_1713).toInt)) ∧ (y_1675).toInt ≤ (y_1712).toInt ∧ ((y_1678).toInt ≠ 0 → (y_1714).toInt ≠ 0) ∧ (((y_1714).toInt = 0 → ((y_1675).toInt + 1 ≤ (y_1712).toInt ∧ (y_1715).toInt = (dp).toInt + 1))) := w_1709_0
                      have b_y_1711 : 0 ≤ (y_1711).toInt ∧ (y_1711).toInt ≤ 3 := dg_I.intb (lo := 0) (hi := 3) I_1709 sM_0 (by decide +kernel) f_y_1711
                      have b_y_1712 : 0 ≤ (y_1712).toInt ∧ (y_1712).toInt ≤ 1600 := dg_I.intb (lo := 0) (hi := 1600) I_1709 sM_0 (by decide +kernel) f_y_1712
                      have b_y_1713 : 0 ≤ (y_1713).toInt ∧ (y_1713).toInt ≤ 1600 := dg_I.intb (lo := 0) (hi := 1600) I_1709 sM_0 (by decide +kernel) f_y_1713
                      have b_y_1714 : 0 ≤ (y_1714).toInt ∧ (y_1714).toInt ≤ 6 := dg_I.intb (lo := 0) (hi := 6) I_1709 sM_0 (by decide +kernel) f_y_1714
                      have b_y_1715 : 0 ≤ (y_1715).toInt ∧ (y_1715).toInt ≤ 20 := dg_I.intb (lo := 0) (hi := 20) I_1709 sM_0 (by decide +kernel) f_y_1715
                      have w_1709_1 : ∀ k9 : Int32, S_1709.1 0 8 = .int k9 → k9.toInt = 0 → FRM S_1677 S_1709 (6 : Int32) := w_1709_1
                      obtain ⟨x_1716, f_x_1716, b_x_1716⟩ := dg_I.int (i := 0) (k := 42) (lo := 0) (hi := 20) I_1677 sM_0 (by decide +kernel)
                      refine lv_aload_n hx hb dX12_operand_292 rfl (lv_at hl 3 rfl) ?_
                      refine dg_get (C := RX12) (T := TX12) (N := 77) hx hb hts (fun w h => bw_mem (wU_X12 w h)) hown K hP sM_0 rfl 8 (by decide) (hts _ (bw_mem wB_1133)) (fun _ h9 => h9) (v := .int y_1714) f_y_1714 dX12_operand_293 ?_
                      refine lv_if_ne (tgt := 311) hx hb dX12_operand_296 (by decide) (fun c_1717 => ?_) (fun c_1717 => ?_)
                      · have jc_1717 := dk_neqc (k := 0) (by decide +kernel) c_1717
                        refine lv_iconst (v := 0) hx hb dX12_operand_311 (by decide +kernel) ?_
                        have hz_1718 : (0 : Int32).toInt = 0 := by decide +kernel
                        have hz_1719 : (0 : Int32).toInt = 0 := by decide +kernel
                        obtain ⟨x_1720, f_x_1720, b_x_1720⟩ := dg_I.int (i := 0) (k := 42) (lo := 0) (hi := 20) I_1709 sM_0 (by decide +kernel)
                        have hz_1721 : (0 : Int32).toInt = 0 := by decide +kernel
                        have hz_1722 : (0 : Int32).toInt = 0 := by decide +kernel
                        refine W.widen (k := 0) (n := 0) (Nat.le_of_ble_eq_true rfl) (Nat.le_of_ble_eq_true rfl) ?_
                        exact dg_iret hx hb hr hlocks (by decide +kernel) hP hS ⟨I_1709, M_1709, (by decide +kernel), ⟨y_1711, y_1712, y_1713, y_1714, cd, x_1720, om, f_y_1711, f_y_1712, f_y_1713, f_y_1714, (((m_1709.1 0 34 _ sM_0 (by decide)).trans ((m_1677.1 0 34 _ sM_0 (by decide)).trans ((m_1673.1 0 34 _ sM_0 (by decide)).trans ((dg_uf_F e_720 0 34).trans (m_2.1 0 34 _ sM_0 (by decide)))))).trans f_cd), f_x_1720, (((m_1709.1 0 45 _ sM_0 (by decide)).trans ((m_1677.1 0 45 _ sM_0 (by decide)).trans ((m_1673.1 0 45 _ sM_0 (by decide)).trans ((dg_uf_F e_720 0 45).trans (m_2.1 0 45 _ sM_0 (by decide)))))).trans f_om), (by omega)⟩, (fun k9 hk9 hk0 => by have q9 := (f_y_1714).symm.trans hk9; cases q9; omega), (ZWM.keep (ZWM.keep (ZWM.keep (ZWM.keep (ZWM.keep ZW m_2 (by decide) (by decide) (by decide) (by decide)) (dg_sm.uf (WF := []) (WA := [24]) dg_sm.rf e_720 sM_24 (by decide)) (by decide) (by decide) (by decide) (by decide)) m_1673 (by decide) (by decide) (by decide) (by decide)) m_1677 (by decide) (by decide) (by decide) (by decide)) m_1709 (by decide) (by decide) (by decide) (by decide)), trivial⟩ dX12_operand_312
                      · have jc_1717 := dk_eqc (k := 0) (by decide +kernel) c_1717
                        refine lv_aload_n hx hb dX12_operand_299 rfl (lv_at hl 3 rfl) ?_
                        refine dg_get (C := RX12) (T := TX12) (N := 77) hx hb hts (fun w h => bw_mem (wU_X12 w h)) hown K hP sM_0 rfl 40 (by decide) (hts _ (bw_mem wB_1232)) (fun _ h9 => h9) (v := .ref (o + 25)) (show S_1709.1 0 40 = .ref (o + 25) from dg_I.rel (d := 25) I_1709 sM_0 (by decide +kernel)) dX12_operand_300 ?_
                        refine lv_aload_n hx hb dX12_operand_303 rfl (lv_at hl 3 rfl) ?_
                        obtain ⟨x_1723, f_x_1723, b_x_1723⟩ := dg_I.int (i := 0) (k := 42) (lo := 0) (hi := 20) I_1709 sM_0 (by decide +kernel)
                        refine dg_get (C := RX12) (T := TX12) (N := 77) hx hb hts (fun w h => bw_mem (wU_X12 w h)) hown K hP sM_0 rfl 42 (by decide) (hts _ (bw_mem wB_1203)) (fun _ h9 => h9) (v := .int x_1723) f_x_1723 dX12_operand_304 ?_
                        refine lv_iconst (v := 1) hx hb dX12_operand_307 (by decide +kernel) ?_
                        refine lv_isub hx hb dX12_operand_308 ?_
                        refine lv_topi (fun x_1724 ex_1724 => ?_)
                        have jx_1724 : (x_1724).toInt = (x_1723).toInt - 1 := by rw [ex_1724]; exact dk_subT rfl (by decide +kernel) (by omega) (by omega)
                        refine lv_iload_n hx hb dX12_operand_309 rfl (lv_at hl 0 rfl) ?_
                        have hin_1725 : vp_in x_1724 20 := (dk_inv (by omega) (by omega))
                        refine dg_iast hx hb K hP hS hA1 sM_25 hin_1725 dX12_operand_310 (fun S_1726 e_1726 H locs hP hS => ?_)
                        have I_1726 := dg_I.uf0 I_1709 e_1726 sM_25 (by decide +kernel)
                        have M_1726 := dg_sm.uf M_1709 e_1726 sM_25 (by decide)
                        have P0_1726 : P0M S_1726 := PBM.openp (PBM.keep (PBM.keep PB_720 m_1673 (by decide) (by decide) (by decide) (by decide) (by decide) (by decide) (by decide) (by decide) (by decide) (by decide) (by decide) (by decide) (by decide) (by decide) (by decide)) m_1677 (by decide) (by decide) (by decide) (by decide) (by decide) (by decide) (by decide) (by decide) (by decide) (by decide) (by decide) (by decide) (by decide) (by decide) (by decide)) f_x_1716 (((m_1677.1 0 43 _ sM_0 (by decide)).trans ((m_1673.1 0 43 _ sM_0 (by decide)).trans ((dg_uf_F e_720 0 43).trans (m_2.1 0 43 _ sM_0 (by decide))))).trans f_on) (((m_1677.1 0 45 _ sM_0 (by decide)).trans ((m_1673.1 0 45 _ sM_0 (by decide)).trans ((dg_uf_F e_720 0 45).trans (m_2.1 0 45 _ sM_0 (by decide))))).trans f_om) (w_1709_1 _ f_y_1714 (by omega)) m_1709 (by decide) (by decide) (by decide) (by decide) (by omega) f_x_1723 (by omega) e_1726
                        refine lv_iconst (v := 0) hx hb dX12_operand_311 (by decide +kernel) ?_
                        have hz_1727 : (0 : Int32).toInt = 0 := by decide +kernel
                        have hz_1728 : (0 : Int32).toInt = 0 := by decide +kernel
                        have hz_1729 : (0 : Int32).toInt = 0 := by decide +kernel
                        have hz_1730 : (0 : Int32).toInt = 0 := by decide +kernel
                        refine W.widen (k := 0) (n := 0) (Nat.le_of_ble_eq_true rfl) (Nat.le_of_ble_eq_true rfl) ?_
                        exact dg_iret hx hb hr hlocks (by decide +kernel) hP hS ⟨I_1726, M_1726, (by decide +kernel), ⟨y_1711, y_1712, y_1713, y_1714, cd, x_1723, om, ((dg_uf_F e_1726 0 3).trans f_y_1711), ((dg_uf_F e_1726 0 4).trans f_y_1712), ((dg_uf_F e_1726 0 5).trans f_y_1713), ((dg_uf_F e_1726 0 8).trans f_y_1714), (((dg_uf_F e_1726 0 34).trans ((m_1709.1 0 34 _ sM_0 (by decide)).trans ((m_1677.1 0 34 _ sM_0 (by decide)).trans ((m_1673.1 0 34 _ sM_0 (by decide)).trans ((dg_uf_F e_720 0 34).trans (m_2.1 0 34 _ sM_0 (by decide))))))).trans f_cd), ((dg_uf_F e_1726 0 42).trans f_x_1723), (((dg_uf_F e_1726 0 45).trans ((m_1709.1 0 45 _ sM_0 (by decide)).trans ((m_1677.1 0 45 _ sM_0 (by decide)).trans ((m_1673.1 0 45 _ sM_0 (by decide)).trans ((dg_uf_F e_720 0 45).trans (m_2.1 0 45 _ sM_0 (by decide))))))).trans f_om), (by omega)⟩, (fun k9 hk9 hk0 => ⟨fun h9 => absurd h9 (by decide +kernel), fun _ => P0_1726⟩), (ZWM.keep (ZWM.keep (ZWM.keep (ZWM.keep (ZWM.keep (ZWM.keep ZW m_2 (by decide) (by decide) (by decide) (by decide)) (dg_sm.uf (WF := []) (WA := [24]) dg_sm.rf e_720 sM_24 (by decide)) (by decide) (by decide) (by decide) (by decide)) m_1673 (by decide) (by decide) (by decide) (by decide)) m_1677 (by decide) (by decide) (by decide) (by decide)) m_1709 (by decide) (by decide) (by decide) (by decide)) (dg_sm.uf (WF := []) (WA := [25]) dg_sm.rf e_1726 sM_25 (by decide)) (by decide) (by decide) (by decide) (by decide)), trivial⟩ dX12_operand_312
                  · have jc_1683 := dk_eqc (k := 0) (by decide +kernel) c_1683
                    clear w_1681_1
                    refine lv_aload_n hx hb dX12_operand_267 rfl (lv_at hl 3 rfl) ?_
                    refine lv_iconst (v := 1) hx hb dX12_operand_268 (by decide +kernel) ?_
                    refine lv_aload_n hx hb dX12_operand_269 rfl (lv_at hl 3 rfl) ?_
                    refine dg_get (C := RX12) (T := TX12) (N := 77) hx hb hts (fun w h => bw_mem (wU_X12 w h)) hown K hP sM_0 rfl 4 (by decide) (hts _ (bw_mem wB_1145)) (fun _ h9 => h9) (v := .int y_1675) ((m_1677.1 0 4 _ sM_0 (by decide)).trans f_y_1675) dX12_operand_270 ?_
                    have hz_1731 : (1 : Int32).toInt = 1 := by decide +kernel
                    refine dg_callv hS hA1 hA (va_runV (As := [.int 1, .int y_1675]) (rest := []) F (c_m_blame l g D o S_1677 1 (by decide +kernel) y_1675 y_1678 f_y_1678 (by omega) I_1677 H.size) (cwV 2 hts (bw_V wB_1137 wB_1138 wB_1139 wB_881 wB_1136) rfl rfl rfl (by decide +kernel) ⟨Nat.le_of_ble_eq_true rfl, Nat.le_of_ble_eq_true rfl⟩) (dg_preV sM_0 rfl K ST hP hS hA1 hA) rfl rfl hl.1 rfl (lv_room (Nat.le_of_ble_eq_true rfl)) dX12_operand_273 ⟨Nat.le_of_ble_eq_true rfl, Nat.le_of_ble_eq_true rfl⟩) (fun S_1732 hw_1732 H locs hP hS => ?_)
                    obtain ⟨I_1732, m_1732, w_1732_0, -⟩ := hw_1732
                    have M_1732 := dg_sm.tr M_1677 m_1732 (by decide) (by decide)
                    have hz_1733 : (1 : Int32).toInt = 1 := by decide +kernel
                    obtain ⟨y_1734, f_y_1734, w_1732_0⟩ := w_1732_0
                    have w_1732_0 : ((y_1678).toInt ≠ 0 → (y_1734).toInt = (y_1678).toInt) ∧ ((y_1678).toInt = 0 → (y_1734).toInt = ((1 : Int32)).toInt) := w_1732_0
                    have b_y_1734 : 0 ≤ (y_1734).toInt ∧ (y_1734).toInt ≤ 6 := dg_I.intb (lo := 0) (hi := 6) I_1732 sM_0 (by decide +kernel) f_y_1734
                    refine lv_aload_n hx hb dX12_operand_276 rfl (lv_at hl 3 rfl) ?_
                    refine lv_iload_n hx hb dX12_operand_277 rfl (lv_at hl 0 rfl) ?_
                    refine lv_bipush (v := 44) hx hb dX12_operand_278 (by decide +kernel) ?_
                    refine lv_icmp_ne (tgt := 288) hx hb dX12_operand_280 (by decide) (fun c_1735 => ?_) (fun c_1735 => ?_)
                    · have jc_1735 := dk_neqc (k := 44) (by decide +kernel) c_1735
                      refine lv_iconst (v := 3) hx hb dX12_operand_288 (by decide +kernel) ?_
                      have hz_1736 : (3 : Int32).toInt = 3 := by decide +kernel
                      refine dg_callv hS hA1 hA (va_runV (As := [.int 3]) (rest := []) F (c_m_frames l g D o S_1732 3 (by decide +kernel) y_1674 (((m_1732.1 0 3 _ sM_0 (by decide)).trans (m_1677.1 0 3 _ sM_0 (by decide))).trans f_y_1674) (by omega) y_1675 (((m_1732.1 0 4 _ sM_0 (by decide)).trans (m_1677.1 0 4 _ sM_0 (by decide))).trans f_y_1675) (by omega) y_1676 (((m_1732.1 0 5 _ sM_0 (by decide)).trans (m_1677.1 0 5 _ sM_0 (by decide))).trans f_y_1676) (by omega) sl (((m_1732.1 0 2 _ sM_0 (by decide)).trans ((m_1677.1 0 2 _ sM_0 (by decide)).trans ((m_1673.1 0 2 _ sM_0 (by decide)).trans ((dg_uf_F e_720 0 2).trans (m_2.1 0 2 _ sM_0 (by decide)))))).trans f_sl) (by omega) y_1734 f_y_1734 (by omega) dp (((m_1732.1 0 42 _ sM_0 (by decide)).trans ((m_1677.1 0 42 _ sM_0 (by decide)).trans ((m_1673.1 0 42 _ sM_0 (by decide)).trans ((dg_uf_F e_720 0 42).trans (m_2.1 0 42 _ sM_0 (by decide)))))).trans f_dp) (by omega) om (((m_1732.1 0 45 _ sM_0 (by decide)).trans ((m_1677.1 0 45 _ sM_0 (by decide)).trans ((m_1673.1 0 45 _ sM_0 (by decide)).trans ((dg_uf_F e_720 0 45).trans (m_2.1 0 45 _ sM_0 (by decide)))))).trans f_om) (by omega) on (((m_1732.1 0 43 _ sM_0 (by decide)).trans ((m_1677.1 0 43 _ sM_0 (by decide)).trans ((m_1673.1 0 43 _ sM_0 (by decide)).trans ((dg_uf_F e_720 0 43).trans (m_2.1 0 43 _ sM_0 (by decide)))))).trans f_on) (by omega) (by omega) I_1732 H.size) (cwV 1 hts (bw_V wB_1228 wB_1229 wB_1230 wB_881 wB_1227) rfl rfl rfl (by decide +kernel) ⟨Nat.le_of_ble_eq_true rfl, Nat.le_of_ble_eq_true rfl⟩) (dg_preV sM_0 rfl K ST hP hS hA1 hA) rfl rfl hl.1 rfl (lv_room (Nat.le_of_ble_eq_true rfl)) dX12_operand_289 ⟨Nat.le_of_ble_eq_true rfl, Nat.le_of_ble_eq_true rfl⟩) (fun S_1737 hw_1737 H locs hP hS => ?_)
                      obtain ⟨I_1737, m_1737, w_1737_0, w_1737_1, -⟩ := hw_1737
                      have M_1737 := dg_sm.tr M_1732 m_1737 (by decide) (by decide)
                      have hz_1738 : (3 : Int32).toInt = 3 := by decide +kernel
                      obtain ⟨y_1739, y_1740, y_1741, y_1742, y_1743, f_y_1739, f_y_1740, f_y_1741, f_y_1742, f_y_1743, w_1737_0⟩ := w_1737_0
                      have w_1737_0 : ((y_1740).toInt ≤ (y_1741).toInt ∧ (y_1741).toInt ≤ (sl).toInt ∧ ((y_1739).toInt ≠ 0 → (y_1740).toInt + 1 ≤ (y_1741).toInt)) ∧ (y_1675).toInt ≤ (y_1740).toInt ∧ ((y_1734).toInt ≠ 0 → (y_1742).toInt ≠ 0) ∧ (((y_1742).toInt = 0 → ((y_1675).toInt + 1 ≤ (y_1740).toInt ∧ (y_1743).toInt = (dp).toInt + 1))) := w_1737_0
                      have b_y_1739 : 0 ≤ (y_1739).toInt ∧ (y_1739).toInt ≤ 3 := dg_I.intb (lo := 0) (hi := 3) I_1737 sM_0 (by decide +kernel) f_y_1739
                      have b_y_1740 : 0 ≤ (y_1740).toInt ∧ (y_1740).toInt ≤ 1600 := dg_I.intb (lo := 0) (hi := 1600) I_1737 sM_0 (by decide +kernel) f_y_1740
                      have b_y_1741 : 0 ≤ (y_1741).toInt ∧ (y_1741).toInt ≤ 1600 := dg_I.intb (lo := 0) (hi := 1600) I_1737 sM_0 (by decide +kernel) f_y_1741
                      have b_y_1742 : 0 ≤ (y_1742).toInt ∧ (y_1742).toInt ≤ 6 := dg_I.intb (lo := 0) (hi := 6) I_1737 sM_0 (by decide +kernel) f_y_1742
                      have b_y_1743 : 0 ≤ (y_1743).toInt ∧ (y_1743).toInt ≤ 20 := dg_I.intb (lo := 0) (hi := 20) I_1737 sM_0 (by decide +kernel) f_y_1743
                      have w_1737_1 : ∀ k9 : Int32, S_1737.1 0 8 = .int k9 → k9.toInt = 0 → FRM S_1732 S_1737 (3 : Int32) := w_1737_1
                      obtain ⟨x_1744, f_x_1744, b_x_1744⟩ := dg_I.int (i := 0) (k := 42) (lo := 0) (hi := 20) I_1732 sM_0 (by decide +kernel)
                      refine lv_aload_n hx hb dX12_operand_292 rfl (lv_at hl 3 rfl) ?_
                      refine dg_get (C := RX12) (T := TX12) (N := 77) hx hb hts (fun w h => bw_mem (wU_X12 w h)) hown K hP sM_0 rfl 8 (by decide) (hts _ (bw_mem wB_1133)) (fun _ h9 => h9) (v := .int y_1742) f_y_1742 dX12_operand_293 ?_
                      refine lv_if_ne (tgt := 311) hx hb dX12_operand_296 (by decide) (fun c_1745 => ?_) (fun c_1745 => ?_)
                      · have jc_1745 := dk_neqc (k := 0) (by decide +kernel) c_1745
                        refine lv_iconst (v := 0) hx hb dX12_operand_311 (by decide +kernel) ?_
                        have hz_1746 : (0 : Int32).toInt = 0 := by decide +kernel
                        have hz_1747 : (0 : Int32).toInt = 0 := by decide +kernel
                        obtain ⟨x_1748, f_x_1748, b_x_1748⟩ := dg_I.int (i := 0) (k := 42) (lo := 0) (hi := 20) I_1737 sM_0 (by decide +kernel)
                        have hz_1749 : (0 : Int32).toInt = 0 := by decide +kernel
                        have hz_1750 : (0 : Int32).toInt = 0 := by decide +kernel
                        refine W.widen (k := 0) (n := 0) (Nat.le_of_ble_eq_true rfl) (Nat.le_of_ble_eq_true rfl) ?_
                        exact dg_iret hx hb hr hlocks (by decide +kernel) hP hS ⟨I_1737, M_1737, (by decide +kernel), ⟨y_1739, y_1740, y_1741, y_1742, cd, x_1748, om, f_y_1739, f_y_1740, f_y_1741, f_y_1742, (((m_1737.1 0 34 _ sM_0 (by decide)).trans ((m_1732.1 0 34 _ sM_0 (by decide)).trans ((m_1677.1 0 34 _ sM_0 (by decide)).trans ((m_1673.1 0 34 _ sM_0 (by decide)).trans ((dg_uf_F e_720 0 34).trans (m_2.1 0 34 _ sM_0 (by decide))))))).trans f_cd), f_x_1748, (((m_1737.1 0 45 _ sM_0 (by decide)).trans ((m_1732.1 0 45 _ sM_0 (by decide)).trans ((m_1677.1 0 45 _ sM_0 (by decide)).trans ((m_1673.1 0 45 _ sM_0 (by decide)).trans ((dg_uf_F e_720 0 45).trans (m_2.1 0 45 _ sM_0 (by decide))))))).trans f_om), (by omega)⟩, (fun k9 hk9 hk0 => by have q9 := (f_y_1742).symm.trans hk9; cases q9; omega), (ZWM.keep (ZWM.keep (ZWM.keep (ZWM.keep (ZWM.keep (ZWM.keep ZW m_2 (by decide) (by decide) (by decide) (by decide)) (dg_sm.uf (WF := []) (WA := [24]) dg_sm.rf e_720 sM_24 (by decide)) (by decide) (by decide) (by decide) (by decide)) m_1673 (by decide) (by decide) (by decide) (by decide)) m_1677 (by decide) (by decide) (by decide) (by decide)) m_1732 (by decide) (by decide) (by decide) (by decide)) m_1737 (by decide) (by decide) (by decide) (by decide)), trivial⟩ dX12_operand_312
                      · have jc_1745 := dk_eqc (k := 0) (by decide +kernel) c_1745
                        refine lv_aload_n hx hb dX12_operand_299 rfl (lv_at hl 3 rfl) ?_
                        refine dg_get (C := RX12) (T := TX12) (N := 77) hx hb hts (fun w h => bw_mem (wU_X12 w h)) hown K hP sM_0 rfl 40 (by decide) (hts _ (bw_mem wB_1232)) (fun _ h9 => h9) (v := .ref (o + 25)) (show S_1737.1 0 40 = .ref (o + 25) from dg_I.rel (d := 25) I_1737 sM_0 (by decide +kernel)) dX12_operand_300 ?_
                        refine lv_aload_n hx hb dX12_operand_303 rfl (lv_at hl 3 rfl) ?_
                        obtain ⟨x_1751, f_x_1751, b_x_1751⟩ := dg_I.int (i := 0) (k := 42) (lo := 0) (hi := 20) I_1737 sM_0 (by decide +kernel)
                        refine dg_get (C := RX12) (T := TX12) (N := 77) hx hb hts (fun w h => bw_mem (wU_X12 w h)) hown K hP sM_0 rfl 42 (by decide) (hts _ (bw_mem wB_1203)) (fun _ h9 => h9) (v := .int x_1751) f_x_1751 dX12_operand_304 ?_
                        refine lv_iconst (v := 1) hx hb dX12_operand_307 (by decide +kernel) ?_
                        refine lv_isub hx hb dX12_operand_308 ?_
                        refine lv_topi (fun x_1752 ex_1752 => ?_)
                        have jx_1752 : (x_1752).toInt = (x_1751).toInt - 1 := by rw [ex_1752]; exact dk_subT rfl (by decide +kernel) (by omega) (by omega)
                        refine lv_iload_n hx hb dX12_operand_309 rfl (lv_at hl 0 rfl) ?_
                        have hin_1753 : vp_in x_1752 20 := (dk_inv (by omega) (by omega))
                        refine dg_iast hx hb K hP hS hA1 sM_25 hin_1753 dX12_operand_310 (fun S_1754 e_1754 H locs hP hS => ?_)
                        have I_1754 := dg_I.uf0 I_1737 e_1754 sM_25 (by decide +kernel)
                        have M_1754 := dg_sm.uf M_1737 e_1754 sM_25 (by decide)
                        have P0_1754 : P0M S_1754 := PBM.openp (PBM.keep (PBM.keep (PBM.keep PB_720 m_1673 (by decide) (by decide) (by decide) (by decide) (by decide) (by decide) (by decide) (by decide) (by decide) (by decide) (by decide) (by decide) (by decide) (by decide) (by decide)) m_1677 (by decide) (by decide) (by decide) (by decide) (by decide) (by decide) (by decide) (by decide) (by decide) (by decide) (by decide) (by decide) (by decide) (by decide) (by decide)) m_1732 (by decide) (by decide) (by decide) (by decide) (by decide) (by decide) (by decide) (by decide) (by decide) (by decide) (by decide) (by decide) (by decide) (by decide) (by decide)) f_x_1744 (((m_1732.1 0 43 _ sM_0 (by decide)).trans ((m_1677.1 0 43 _ sM_0 (by decide)).trans ((m_1673.1 0 43 _ sM_0 (by decide)).trans ((dg_uf_F e_720 0 43).trans (m_2.1 0 43 _ sM_0 (by decide)))))).trans f_on) (((m_1732.1 0 45 _ sM_0 (by decide)).trans ((m_1677.1 0 45 _ sM_0 (by decide)).trans ((m_1673.1 0 45 _ sM_0 (by decide)).trans ((dg_uf_F e_720 0 45).trans (m_2.1 0 45 _ sM_0 (by decide)))))).trans f_om) (w_1737_1 _ f_y_1742 (by omega)) m_1737 (by decide) (by decide) (by decide) (by decide) (by omega) f_x_1751 (by omega) e_1754
                        refine lv_iconst (v := 0) hx hb dX12_operand_311 (by decide +kernel) ?_
                        have hz_1755 : (0 : Int32).toInt = 0 := by decide +kernel
                        have hz_1756 : (0 : Int32).toInt = 0 := by decide +kernel
                        have hz_1757 : (0 : Int32).toInt = 0 := by decide +kernel
                        have hz_1758 : (0 : Int32).toInt = 0 := by decide +kernel
                        refine W.widen (k := 0) (n := 0) (Nat.le_of_ble_eq_true rfl) (Nat.le_of_ble_eq_true rfl) ?_
                        exact dg_iret hx hb hr hlocks (by decide +kernel) hP hS ⟨I_1754, M_1754, (by decide +kernel), ⟨y_1739, y_1740, y_1741, y_1742, cd, x_1751, om, ((dg_uf_F e_1754 0 3).trans f_y_1739), ((dg_uf_F e_1754 0 4).trans f_y_1740), ((dg_uf_F e_1754 0 5).trans f_y_1741), ((dg_uf_F e_1754 0 8).trans f_y_1742), (((dg_uf_F e_1754 0 34).trans ((m_1737.1 0 34 _ sM_0 (by decide)).trans ((m_1732.1 0 34 _ sM_0 (by decide)).trans ((m_1677.1 0 34 _ sM_0 (by decide)).trans ((m_1673.1 0 34 _ sM_0 (by decide)).trans ((dg_uf_F e_720 0 34).trans (m_2.1 0 34 _ sM_0 (by decide)))))))).trans f_cd), ((dg_uf_F e_1754 0 42).trans f_x_1751), (((dg_uf_F e_1754 0 45).trans ((m_1737.1 0 45 _ sM_0 (by decide)).trans ((m_1732.1 0 45 _ sM_0 (by decide)).trans ((m_1677.1 0 45 _ sM_0 (by decide)).trans ((m_1673.1 0 45 _ sM_0 (by decide)).trans ((dg_uf_F e_720 0 45).trans (m_2.1 0 45 _ sM_0 (by decide)))))))).trans f_om), (by omega)⟩, (fun k9 hk9 hk0 => ⟨fun h9 => absurd h9 (by decide +kernel), fun _ => P0_1754⟩), (ZWM.keep (ZWM.keep (ZWM.keep (ZWM.keep (ZWM.keep (ZWM.keep (ZWM.keep ZW m_2 (by decide) (by decide) (by decide) (by decide)) (dg_sm.uf (WF := []) (WA := [24]) dg_sm.rf e_720 sM_24 (by decide)) (by decide) (by decide) (by decide) (by decide)) m_1673 (by decide) (by decide) (by decide) (by decide)) m_1677 (by decide) (by decide) (by decide) (by decide)) m_1732 (by decide) (by decide) (by decide) (by decide)) m_1737 (by decide) (by decide) (by decide) (by decide)) (dg_sm.uf (WF := []) (WA := [25]) dg_sm.rf e_1754 sM_25 (by decide)) (by decide) (by decide) (by decide) (by decide)), trivial⟩ dX12_operand_312
                    · have jc_1735 := dk_eqc (k := 44) (by decide +kernel) c_1735
                      refine lv_bipush (v := 6) hx hb dX12_operand_283 (by decide +kernel) ?_
                      refine lv_goto (tgt := 289) hx hb dX12_operand_285 (by decide) ?_
                      have hz_1759 : (6 : Int32).toInt = 6 := by decide +kernel
                      refine dg_callv hS hA1 hA (va_runV (As := [.int 6]) (rest := []) F (c_m_frames l g D o S_1732 6 (by decide +kernel) y_1674 (((m_1732.1 0 3 _ sM_0 (by decide)).trans (m_1677.1 0 3 _ sM_0 (by decide))).trans f_y_1674) (by omega) y_1675 (((m_1732.1 0 4 _ sM_0 (by decide)).trans (m_1677.1 0 4 _ sM_0 (by decide))).trans f_y_1675) (by omega) y_1676 (((m_1732.1 0 5 _ sM_0 (by decide)).trans (m_1677.1 0 5 _ sM_0 (by decide))).trans f_y_1676) (by omega) sl (((m_1732.1 0 2 _ sM_0 (by decide)).trans ((m_1677.1 0 2 _ sM_0 (by decide)).trans ((m_1673.1 0 2 _ sM_0 (by decide)).trans ((dg_uf_F e_720 0 2).trans (m_2.1 0 2 _ sM_0 (by decide)))))).trans f_sl) (by omega) y_1734 f_y_1734 (by omega) dp (((m_1732.1 0 42 _ sM_0 (by decide)).trans ((m_1677.1 0 42 _ sM_0 (by decide)).trans ((m_1673.1 0 42 _ sM_0 (by decide)).trans ((dg_uf_F e_720 0 42).trans (m_2.1 0 42 _ sM_0 (by decide)))))).trans f_dp) (by omega) om (((m_1732.1 0 45 _ sM_0 (by decide)).trans ((m_1677.1 0 45 _ sM_0 (by decide)).trans ((m_1673.1 0 45 _ sM_0 (by decide)).trans ((dg_uf_F e_720 0 45).trans (m_2.1 0 45 _ sM_0 (by decide)))))).trans f_om) (by omega) on (((m_1732.1 0 43 _ sM_0 (by decide)).trans ((m_1677.1 0 43 _ sM_0 (by decide)).trans ((m_1673.1 0 43 _ sM_0 (by decide)).trans ((dg_uf_F e_720 0 43).trans (m_2.1 0 43 _ sM_0 (by decide)))))).trans f_on) (by omega) (by omega) I_1732 H.size) (cwV 1 hts (bw_V wB_1228 wB_1229 wB_1230 wB_881 wB_1227) rfl rfl rfl (by decide +kernel) ⟨Nat.le_of_ble_eq_true rfl, Nat.le_of_ble_eq_true rfl⟩) (dg_preV sM_0 rfl K ST hP hS hA1 hA) rfl rfl hl.1 rfl (lv_room (Nat.le_of_ble_eq_true rfl)) dX12_operand_289 ⟨Nat.le_of_ble_eq_true rfl, Nat.le_of_ble_eq_true rfl⟩) (fun S_1760 hw_1760 H locs hP hS => ?_)
                      obtain ⟨I_1760, m_1760, w_1760_0, w_1760_1, -⟩ := hw_1760
                      have M_1760 := dg_sm.tr M_1732 m_1760 (by decide) (by decide)
                      have hz_1761 : (6 : Int32).toInt = 6 := by decide +kernel
                      obtain ⟨y_1762, y_1763, y_1764, y_1765, y_1766, f_y_1762, f_y_1763, f_y_1764, f_y_1765, f_y_1766, w_1760_0⟩ := w_1760_0
                      have w_1760_0 : ((y_1763).toInt ≤ (y_1764).toInt ∧ (y_1764).toInt ≤ (sl).toInt ∧ ((y_1762).toInt ≠ 0 → (y_1763).toInt + 1 ≤ (y_1764).toInt)) ∧ (y_1675).toInt ≤ (y_1763).toInt ∧ ((y_1734).toInt ≠ 0 → (y_1765).toInt ≠ 0) ∧ (((y_1765).toInt = 0 → ((y_1675).toInt + 1 ≤ (y_1763).toInt ∧ (y_1766).toInt = (dp).toInt + 1))) := w_1760_0
                      have b_y_1762 : 0 ≤ (y_1762).toInt ∧ (y_1762).toInt ≤ 3 := dg_I.intb (lo := 0) (hi := 3) I_1760 sM_0 (by decide +kernel) f_y_1762
                      have b_y_1763 : 0 ≤ (y_1763).toInt ∧ (y_1763).toInt ≤ 1600 := dg_I.intb (lo := 0) (hi := 1600) I_1760 sM_0 (by decide +kernel) f_y_1763
                      have b_y_1764 : 0 ≤ (y_1764).toInt ∧ (y_1764).toInt ≤ 1600 := dg_I.intb (lo := 0) (hi := 1600) I_1760 sM_0 (by decide +kernel) f_y_1764
                      have b_y_1765 : 0 ≤ (y_1765).toInt ∧ (y_1765).toInt ≤ 6 := dg_I.intb (lo := 0) (hi := 6) I_1760 sM_0 (by decide +kernel) f_y_1765
                      have b_y_1766 : 0 ≤ (y_1766).toInt ∧ (y_1766).toInt ≤ 20 := dg_I.intb (lo := 0) (hi := 20) I_1760 sM_0 (by decide +kernel) f_y_1766
                      have w_1760_1 : ∀ k9 : Int32, S_1760.1 0 8 = .int k9 → k9.toInt = 0 → FRM S_1732 S_1760 (6 : Int32) := w_1760_1
                      obtain ⟨x_1767, f_x_1767, b_x_1767⟩ := dg_I.int (i := 0) (k := 42) (lo := 0) (hi := 20) I_1732 sM_0 (by decide +kernel)
                      refine lv_aload_n hx hb dX12_operand_292 rfl (lv_at hl 3 rfl) ?_
                      refine dg_get (C := RX12) (T := TX12) (N := 77) hx hb hts (fun w h => bw_mem (wU_X12 w h)) hown K hP sM_0 rfl 8 (by decide) (hts _ (bw_mem wB_1133)) (fun _ h9 => h9) (v := .int y_1765) f_y_1765 dX12_operand_293 ?_
                      refine lv_if_ne (tgt := 311) hx hb dX12_operand_296 (by decide) (fun c_1768 => ?_) (fun c_1768 => ?_)
                      · have jc_1768 := dk_neqc (k := 0) (by decide +kernel) c_1768
                        refine lv_iconst (v := 0) hx hb dX12_operand_311 (by decide +kernel) ?_
                        have hz_1769 : (0 : Int32).toInt = 0 := by decide +kernel
                        have hz_1770 : (0 : Int32).toInt = 0 := by decide +kernel
                        obtain ⟨x_1771, f_x_1771, b_x_1771⟩ := dg_I.int (i := 0) (k := 42) (lo := 0) (hi := 20) I_1760 sM_0 (by decide +kernel)
                        have hz_1772 : (0 : Int32).toInt = 0 := by decide +kernel
                        have hz_1773 : (0 : Int32).toInt = 0 := by decide +kernel
                        refine W.widen (k := 0) (n := 0) (Nat.le_of_ble_eq_true rfl) (Nat.le_of_ble_eq_true rfl) ?_
                        exact dg_iret hx hb hr hlocks (by decide +kernel) hP hS ⟨I_1760, M_1760, (by decide +kernel), ⟨y_1762, y_1763, y_1764, y_1765, cd, x_1771, om, f_y_1762, f_y_1763, f_y_1764, f_y_1765, (((m_1760.1 0 34 _ sM_0 (by decide)).trans ((m_1732.1 0 34 _ sM_0 (by decide)).trans ((m_1677.1 0 34 _ sM_0 (by decide)).trans ((m_1673.1 0 34 _ sM_0 (by decide)).trans ((dg_uf_F e_720 0 34).trans (m_2.1 0 34 _ sM_0 (by decide))))))).trans f_cd), f_x_1771, (((m_1760.1 0 45 _ sM_0 (by decide)).trans ((m_1732.1 0 45 _ sM_0 (by decide)).trans ((m_1677.1 0 45 _ sM_0 (by decide)).trans ((m_1673.1 0 45 _ sM_0 (by decide)).trans ((dg_uf_F e_720 0 45).trans (m_2.1 0 45 _ sM_0 (by decide))))))).trans f_om), (by omega)⟩, (fun k9 hk9 hk0 => by have q9 := (f_y_1765).symm.trans hk9; cases q9; omega), (ZWM.keep (ZWM.keep (ZWM.keep (ZWM.keep (ZWM.keep (ZWM.keep ZW m_2 (by decide) (by decide) (by decide) (by decide)) (dg_sm.uf (WF := []) (WA := [24]) dg_sm.rf e_720 sM_24 (by decide)) (by decide) (by decide) (by decide) (by decide)) m_1673 (by decide) (by decide) (by decide) (by decide)) m_1677 (by decide) (by decide) (by decide) (by decide)) m_1732 (by decide) (by decide) (by decide) (by decide)) m_1760 (by decide) (by decide) (by decide) (by decide)), trivial⟩ dX12_operand_312
                      · have jc_1768 := dk_eqc (k := 0) (by decide +kernel) c_1768
                        refine lv_aload_n hx hb dX12_operand_299 rfl (lv_at hl 3 rfl) ?_
                        refine dg_get (C := RX12) (T := TX12) (N := 77) hx hb hts (fun w h => bw_mem (wU_X12 w h)) hown K hP sM_0 rfl 40 (by decide) (hts _ (bw_mem wB_1232)) (fun _ h9 => h9) (v := .ref (o + 25)) (show S_1760.1 0 40 = .ref (o + 25) from dg_I.rel (d := 25) I_1760 sM_0 (by decide +kernel)) dX12_operand_300 ?_
                        refine lv_aload_n hx hb dX12_operand_303 rfl (lv_at hl 3 rfl) ?_
                        obtain ⟨x_1774, f_x_1774, b_x_1774⟩ := dg_I.int (i := 0) (k := 42) (lo := 0) (hi := 20) I_1760 sM_0 (by decide +kernel)
                        refine dg_get (C := RX12) (T := TX12) (N := 77) hx hb hts (fun w h => bw_mem (wU_X12 w h)) hown K hP sM_0 rfl 42 (by decide) (hts _ (bw_mem wB_1203)) (fun _ h9 => h9) (v := .int x_1774) f_x_1774 dX12_operand_304 ?_
                        refine lv_iconst (v := 1) hx hb dX12_operand_307 (by decide +kernel) ?_
                        refine lv_isub hx hb dX12_operand_308 ?_
                        refine lv_topi (fun x_1775 ex_1775 => ?_)
                        have jx_1775 : (x_1775).toInt = (x_1774).toInt - 1 := by rw [ex_1775]; exact dk_subT rfl (by decide +kernel) (by omega) (by omega)
                        refine lv_iload_n hx hb dX12_operand_309 rfl (lv_at hl 0 rfl) ?_
                        have hin_1776 : vp_in x_1775 20 := (dk_inv (by omega) (by omega))
                        refine dg_iast hx hb K hP hS hA1 sM_25 hin_1776 dX12_operand_310 (fun S_1777 e_1777 H locs hP hS => ?_)
                        have I_1777 := dg_I.uf0 I_1760 e_1777 sM_25 (by decide +kernel)
                        have M_1777 := dg_sm.uf M_1760 e_1777 sM_25 (by decide)
                        have P0_1777 : P0M S_1777 := PBM.openp (PBM.keep (PBM.keep (PBM.keep PB_720 m_1673 (by decide) (by decide) (by decide) (by decide) (by decide) (by decide) (by decide) (by decide) (by decide) (by decide) (by decide) (by decide) (by decide) (by decide) (by decide)) m_1677 (by decide) (by decide) (by decide) (by decide) (by decide) (by decide) (by decide) (by decide) (by decide) (by decide) (by decide) (by decide) (by decide) (by decide) (by decide)) m_1732 (by decide) (by decide) (by decide) (by decide) (by decide) (by decide) (by decide) (by decide) (by decide) (by decide) (by decide) (by decide) (by decide) (by decide) (by decide)) f_x_1767 (((m_1732.1 0 43 _ sM_0 (by decide)).trans ((m_1677.1 0 43 _ sM_0 (by decide)).trans ((m_1673.1 0 43 _ sM_0 (by decide)).trans ((dg_uf_F e_720 0 43).trans (m_2.1 0 43 _ sM_0 (by decide)))))).trans f_on) (((m_1732.1 0 45 _ sM_0 (by decide)).trans ((m_1677.1 0 45 _ sM_0 (by decide)).trans ((m_1673.1 0 45 _ sM_0 (by decide)).trans ((dg_uf_F e_720 0 45).trans (m_2.1 0 45 _ sM_0 (by decide)))))).trans f_om) (w_1760_1 _ f_y_1765 (by omega)) m_1760 (by decide) (by decide) (by decide) (by decide) (by omega) f_x_1774 (by omega) e_1777
                        refine lv_iconst (v := 0) hx hb dX12_operand_311 (by decide +kernel) ?_
                        have hz_1778 : (0 : Int32).toInt = 0 := by decide +kernel
                        have hz_1779 : (0 : Int32).toInt = 0 := by decide +kernel
                        have hz_1780 : (0 : Int32).toInt = 0 := by decide +kernel
                        have hz_1781 : (0 : Int32).toInt = 0 := by decide +kernel
                        refine W.widen (k := 0) (n := 0) (Nat.le_of_ble_eq_true rfl) (Nat.le_of_ble_eq_true rfl) ?_
                        exact dg_iret hx hb hr hlocks (by decide +kernel) hP hS ⟨I_1777, M_1777, (by decide +kernel), ⟨y_1762, y_1763, y_1764, y_1765, cd, x_1774, om, ((dg_uf_F e_1777 0 3).trans f_y_1762), ((dg_uf_F e_1777 0 4).trans f_y_1763), ((dg_uf_F e_1777 0 5).trans f_y_1764), ((dg_uf_F e_1777 0 8).trans f_y_1765), (((dg_uf_F e_1777 0 34).trans ((m_1760.1 0 34 _ sM_0 (by decide)).trans ((m_1732.1 0 34 _ sM_0 (by decide)).trans ((m_1677.1 0 34 _ sM_0 (by decide)).trans ((m_1673.1 0 34 _ sM_0 (by decide)).trans ((dg_uf_F e_720 0 34).trans (m_2.1 0 34 _ sM_0 (by decide)))))))).trans f_cd), ((dg_uf_F e_1777 0 42).trans f_x_1774), (((dg_uf_F e_1777 0 45).trans ((m_1760.1 0 45 _ sM_0 (by decide)).trans ((m_1732.1 0 45 _ sM_0 (by decide)).trans ((m_1677.1 0 45 _ sM_0 (by decide)).trans ((m_1673.1 0 45 _ sM_0 (by decide)).trans ((dg_uf_F e_720 0 45).trans (m_2.1 0 45 _ sM_0 (by decide)))))))).trans f_om), (by omega)⟩, (fun k9 hk9 hk0 => ⟨fun h9 => absurd h9 (by decide +kernel), fun _ => P0_1777⟩), (ZWM.keep (ZWM.keep (ZWM.keep (ZWM.keep (ZWM.keep (ZWM.keep (ZWM.keep ZW m_2 (by decide) (by decide) (by decide) (by decide)) (dg_sm.uf (WF := []) (WA := [24]) dg_sm.rf e_720 sM_24 (by decide)) (by decide) (by decide) (by decide) (by decide)) m_1673 (by decide) (by decide) (by decide) (by decide)) m_1677 (by decide) (by decide) (by decide) (by decide)) m_1732 (by decide) (by decide) (by decide) (by decide)) m_1760 (by decide) (by decide) (by decide) (by decide)) (dg_sm.uf (WF := []) (WA := [25]) dg_sm.rf e_1777 sM_25 (by decide)) (by decide) (by decide) (by decide) (by decide)), trivial⟩ dX12_operand_312
                refine lv_if_eq (tgt := 232) hx hb dX12_operand_224 (by decide) (fun c_1782 => ?_) (fun c_1782 => ?_)
                · have jc_1782 := dk_eqc (k := 0) (by decide +kernel) c_1782
                  clear w_1557_1
                  refine lv_aload_n hx hb dX12_operand_232 rfl (lv_at hl 2 rfl) ?_
                  refine lv_ldc2 hx hb hown (hts _ (bw_mem wB_1194)) dX12_operand_233 ?_
                  refine dg_calli hS hA1 hA (va_runV (As := [.long 7168376]) (rest := []) F (c_m_isWord l g D o S_720 7168376 sg (((dg_uf_F e_720 0 3).trans (m_2.1 0 3 _ sM_0 (by decide))).trans f_sg) (by omega) I_720 H.size) (cwV 1 hts (bw_V wB_1165 wB_1166 wB_1167 wB_881 wB_1164) rfl rfl rfl (by decide +kernel) ⟨Nat.le_of_ble_eq_true rfl, Nat.le_of_ble_eq_true rfl⟩) (dg_preV sM_0 rfl K ST hP hS hA1 hA) rfl rfl hl.1 rfl (lv_room (Nat.le_of_ble_eq_true rfl)) dX12_operand_236 ⟨Nat.le_of_ble_eq_true rfl, Nat.le_of_ble_eq_true rfl⟩) (fun x_1783 S_1784 hw_1784 H locs hP hS => ?_)
                  rw [hw_1784.1] at hP
                  obtain ⟨hq_1784, w_1784_0, w_1784_1, -⟩ := hw_1784
                  have w_1784_0 : 0 ≤ (x_1783).toInt ∧ (x_1783).toInt ≤ 1 := w_1784_0
                  have w_1784_1 : (x_1783).toInt = 1 → (sg).toInt = 1 := w_1784_1
                  refine lv_if_eq (tgt := 247) hx hb dX12_operand_239 (by decide) (fun c_1785 => ?_) (fun c_1785 => ?_)
                  · have jc_1785 := dk_eqc (k := 0) (by decide +kernel) c_1785
                    clear w_1784_1
                    refine lv_bipush (v := 44) hx hb dX12_operand_247 (by decide +kernel) ?_
                    have hz_1786 : (44 : Int32).toInt = 44 := by decide +kernel
                    have hz_1787 : (44 : Int32).toInt = 44 := by decide +kernel
                    exact J_1672 44 (by decide +kernel) (by omega) _ _ hP hS _ (lv_sub hl [0, 1, 2] rfl)
                  · have jc_1785 := dk_neqc (k := 0) (by decide +kernel) c_1785
                    have w_1784_1_r := w_1784_1 (by omega)
                    clear w_1784_1
                    refine lv_bipush (v := 37) hx hb dX12_operand_242 (by decide +kernel) ?_
                    refine lv_goto (tgt := 249) hx hb dX12_operand_244 (by decide) ?_
                    have hz_1788 : (37 : Int32).toInt = 37 := by decide +kernel
                    have hz_1789 : (37 : Int32).toInt = 37 := by decide +kernel
                    exact J_1672 37 (by decide +kernel) (by omega) _ _ hP hS _ (lv_sub hl [0, 1, 2] rfl)
                · have jc_1782 := dk_neqc (k := 0) (by decide +kernel) c_1782
                  have w_1557_1_r := w_1557_1 (by omega)
                  clear w_1557_1
                  refine lv_bipush (v := 36) hx hb dX12_operand_227 (by decide +kernel) ?_
                  refine lv_goto (tgt := 249) hx hb dX12_operand_229 (by decide) ?_
                  have hz_1790 : (36 : Int32).toInt = 36 := by decide +kernel
                  have hz_1791 : (36 : Int32).toInt = 36 := by decide +kernel
                  exact J_1672 36 (by decide +kernel) (by omega) _ _ hP hS _ (lv_sub hl [0, 1, 2] rfl)
              refine lv_if_ne (tgt := 217) hx hb dX12_operand_194 (by decide) (fun c_1792 => ?_) (fun c_1792 => ?_)
              · have jc_1792 := dk_neqc (k := 0) (by decide +kernel) c_1792
                have w_1313_1_r := w_1313_1 (by omega)
                clear w_1313_1
                exact J_1555  (by omega) _ _ hP hS _ (lv_sub hl [0, 1, 2] rfl)
              · have jc_1792 := dk_eqc (k := 0) (by decide +kernel) c_1792
                clear w_1313_1
                refine lv_aload_n hx hb dX12_operand_197 rfl (lv_at hl 2 rfl) ?_
                refine lv_ldc2 hx hb hown (hts _ (bw_mem wB_1194)) dX12_operand_198 ?_
                refine dg_calli hS hA1 hA (va_runV (As := [.long 7168376]) (rest := []) F (c_m_isWord l g D o S_720 7168376 sg (((dg_uf_F e_720 0 3).trans (m_2.1 0 3 _ sM_0 (by decide))).trans f_sg) (by omega) I_720 H.size) (cwV 1 hts (bw_V wB_1165 wB_1166 wB_1167 wB_881 wB_1164) rfl rfl rfl (by decide +kernel) ⟨Nat.le_of_ble_eq_true rfl, Nat.le_of_ble_eq_true rfl⟩) (dg_preV sM_0 rfl K ST hP hS hA1 hA) rfl rfl hl.1 rfl (lv_room (Nat.le_of_ble_eq_true rfl)) dX12_operand_201 ⟨Nat.le_of_ble_eq_true rfl, Nat.le_of_ble_eq_true rfl⟩) (fun x_1793 S_1794 hw_1794 H locs hP hS => ?_)
                rw [hw_1794.1] at hP
                obtain ⟨hq_1794, w_1794_0, w_1794_1, -⟩ := hw_1794
                have w_1794_0 : 0 ≤ (x_1793).toInt ∧ (x_1793).toInt ≤ 1 := w_1794_0
                have w_1794_1 : (x_1793).toInt = 1 → (sg).toInt = 1 := w_1794_1
                refine lv_if_ne (tgt := 217) hx hb dX12_operand_204 (by decide) (fun c_1795 => ?_) (fun c_1795 => ?_)
                · have jc_1795 := dk_neqc (k := 0) (by decide +kernel) c_1795
                  have w_1794_1_r := w_1794_1 (by omega)
                  clear w_1794_1
                  exact J_1555  (by omega) _ _ hP hS _ (lv_sub hl [0, 1, 2] rfl)
                · have jc_1795 := dk_eqc (k := 0) (by decide +kernel) c_1795
                  clear w_1794_1
                  refine lv_aload_n hx hb dX12_operand_207 rfl (lv_at hl 2 rfl) ?_
                  refine lv_ldc2 hx hb hown (hts _ (bw_mem wB_1188)) dX12_operand_208 ?_
                  refine dg_calli hS hA1 hA (va_runV (As := [.long 26982]) (rest := []) F (c_m_isWord l g D o S_720 26982 sg (((dg_uf_F e_720 0 3).trans (m_2.1 0 3 _ sM_0 (by decide))).trans f_sg) (by omega) I_720 H.size) (cwV 1 hts (bw_V wB_1165 wB_1166 wB_1167 wB_881 wB_1164) rfl rfl rfl (by decide +kernel) ⟨Nat.le_of_ble_eq_true rfl, Nat.le_of_ble_eq_true rfl⟩) (dg_preV sM_0 rfl K ST hP hS hA1 hA) rfl rfl hl.1 rfl (lv_room (Nat.le_of_ble_eq_true rfl)) dX12_operand_211 ⟨Nat.le_of_ble_eq_true rfl, Nat.le_of_ble_eq_true rfl⟩) (fun x_1796 S_1797 hw_1797 H locs hP hS => ?_)
                  rw [hw_1797.1] at hP
                  obtain ⟨hq_1797, w_1797_0, w_1797_1, -⟩ := hw_1797
                  have w_1797_0 : 0 ≤ (x_1796).toInt ∧ (x_1796).toInt ≤ 1 := w_1797_0
                  have w_1797_1 : (x_1796).toInt = 1 → (sg).toInt = 1 := w_1797_1
                  refine lv_if_eq (tgt := 313) hx hb dX12_operand_214 (by decide) (fun c_1798 => ?_) (fun c_1798 => ?_)
                  · have jc_1798 := dk_eqc (k := 0) (by decide +kernel) c_1798
                    clear w_1797_1
                    refine lv_aload_n hx hb dX12_operand_313 rfl (lv_at hl 2 rfl) ?_
                    refine dg_get (C := RX12) (T := TX12) (N := 77) hx hb hts (fun w h => bw_mem (wU_X12 w h)) hown K hP sM_0 rfl 3 (by decide) (hts _ (bw_mem wB_1140)) (fun _ h9 => h9) (v := .int sg) (((dg_uf_F e_720 0 3).trans (m_2.1 0 3 _ sM_0 (by decide))).trans f_sg) dX12_operand_314 ?_
                    refine lv_iconst (v := 2) hx hb dX12_operand_317 (by decide +kernel) ?_
                    have J_1917 : ∀ (x_1818 : Int32), ((-1) ≤ (x_1818).toInt ∧ (x_1818).toInt ≤ 6) → ((x_1818 : Int32).toInt ≠ -1 → (sg).toInt ≠ 0) → ∀ (H : Heap) (locs : List Loc), va_P D vwCl (dg_w g shM o rfM S_720) H → va_S A s.heap H locs → ∀ ls : Array Slot, lv_has ls 4 [(2, .int x_14), (1, .int x_5), (0, .ref (o + 0))] → W p l e ({ frames := 4, cells := 0, slots := 0, locals := 98 } : Room) s m args below meth c H locs 0 0 (MQ below (va_Qi (fun (r : Int32) S' => CM o S' ∧ dg_sm shM [(0, 3), (0, 4), (0, 5), (0, 6), (0, 7), (0, 8), (0, 9), (0, 12), (0, 34), (0, 42), (0, 43), (0, 45)] [18, 19, 22, 23, 24, 25, 26, 27] S S' ∧ (0 ≤ (r).toInt ∧ (r).toInt ≤ 1) ∧ (∃ y9_3 y9_4 y9_5 y9_8 y9_34 y9_42 y9_45 : Int32, S'.1 0 3 = .int y9_3 ∧ S'.1 0 4 = .int y9_4 ∧ S'.1 0 5 = .int y9_5 ∧ S'.1 0 8 = .int y9_8 ∧ S'.1 0 34 = .int y9_34 ∧ S'.1 0 42 = .int y9_42 ∧ S'.1 0 45 = .int y9_45 ∧ (((y9_4).toInt ≤ (y9_5).toInt ∧ (y9_5).toInt ≤ (sl).toInt ∧ ((y9_3).toInt ≠ 0 → (y9_4).toInt + 1 ≤ (y9_5).toInt)) ∧ (sa).toInt ≤ (y9_4).toInt ∧ ((fk).toInt ≠ 0 → (y9_8).toInt ≠ 0) ∧ (((y9_8).toInt = 0 → (sa).toInt + 1 ≤ (y9_4).toInt) ∧ ((y9_8).toInt = 0 → (y9_34).toInt + (y9_45).toInt + (y9_42).toInt ≤ (y9_4).toInt)))) ∧ (∀ k9 : Int32, S'.1 0 8 = .int k9 → k9.toInt = 0 → ((r).toInt = 1 → P1M S') ∧ ((r).toInt = 0 → P0M S')) ∧ ZWM S' ∧ True) (dg_B g D shM o rfM) A) args s 0 0 A) (F0 m 411 ls [.int x_1818]) := by
                      intro x_1818 b_x_1818 rel_0 H locs hP hS ls hl
                      refine lv_istore_n (lv' := [(3, .int x_1818), (2, .int x_14), (1, .int x_5), (0, .ref (o + 0))]) hx hb dX12_operand_411 rfl hl (by decide) rfl (fun ls hl => ?_)
                      refine lv_iload_n hx hb dX12_operand_412 rfl (lv_at hl 0 rfl) ?_
                      refine lv_iconst (v := 4) hx hb dX12_operand_413 (by decide +kernel) ?_
                      refine lv_icmp_lt (tgt := 444) hx hb dX12_operand_414 (by decide) (fun c_1918 => ?_) (fun c_1918 => ?_)
                      · have jc_1918 := dk_ltc (k := 4) (by decide +kernel) c_1918
                        refine lv_iload_n hx hb dX12_operand_444 rfl (lv_at hl 0 rfl) ?_
                        refine lv_iconst (v := (-1)) hx hb dX12_operand_445 (by decide +kernel) ?_
                        refine lv_icmp_ne (tgt := 458) hx hb dX12_operand_446 (by decide) (fun c_1919 => ?_) (fun c_1919 => ?_)
                        · have jc_1919 := dk_neqc (k := (-1)) (by decide +kernel) c_1919
                          refine lv_aload_n hx hb dX12_operand_458 rfl (lv_at hl 3 rfl) ?_
                          refine dg_get (C := RX12) (T := TX12) (N := 77) hx hb hts (fun w h => bw_mem (wU_X12 w h)) hown K hP sM_0 rfl 8 (by decide) (hts _ (bw_mem wB_1133)) (fun _ h9 => h9) (v := .int y_3) ((dg_uf_F e_720 0 8).trans f_y_3) dX12_operand_459 ?_
                          refine lv_if_le (tgt := 467) hx hb dX12_operand_462 (by decide) (fun _ => ?_) (fun c => absurd (dk_lep (k := 0) (by decide +kernel) (by omega)) c)
                          refine lv_aload_n hx hb dX12_operand_467 rfl (lv_at hl 3 rfl) ?_
                          refine lv_iload_n hx hb dX12_operand_468 rfl (lv_at hl 0 rfl) ?_
                          refine lv_aload_n hx hb dX12_operand_469 rfl (lv_at hl 3 rfl) ?_
                          refine dg_get (C := RX12) (T := TX12) (N := 77) hx hb hts (fun w h => bw_mem (wU_X12 w h)) hown K hP sM_0 rfl 6 (by decide) (hts _ (bw_mem wB_1141)) (fun _ h9 => h9) (v := .int va) (((dg_uf_F e_720 0 6).trans (m_2.1 0 6 _ sM_0 (by decide))).trans f_va) dX12_operand_470 ?_
                          refine dg_callv hS hA1 hA (va_runV (As := [.int x_1818, .int va]) (rest := []) F (c_m_add l g D o S_720 x_1818 (by omega) va cd (((dg_uf_F e_720 0 34).trans (m_2.1 0 34 _ sM_0 (by decide))).trans f_cd) (by omega) (ZWM.keep (ZWM.keep ZW m_2 (by decide) (by decide) (by decide) (by decide)) (dg_sm.uf (WF := []) (WA := [24]) dg_sm.rf e_720 sM_24 (by decide)) (by decide) (by decide) (by decide) (by decide)) (ZKM.keep (ZKM.keep ZK m_2 (by decide) (by decide)) (dg_sm.uf (WF := []) (WA := [24]) dg_sm.rf e_720 sM_24 (by decide)) (by decide) (by decide)) I_720 H.size) (cwV 2 hts (bw_V wB_1209 wB_1210 wB_1211 wB_881 wB_1208) rfl rfl rfl (by decide +kernel) ⟨Nat.le_of_ble_eq_true rfl, Nat.le_of_ble_eq_true rfl⟩) (dg_preV sM_0 rfl K ST hP hS hA1 hA) rfl rfl hl.1 rfl (lv_room (Nat.le_of_ble_eq_true rfl)) dX12_operand_473 ⟨Nat.le_of_ble_eq_true rfl, Nat.le_of_ble_eq_true rfl⟩) (fun S_1920 hw_1920 H locs hP hS => ?_)
                          obtain ⟨I_1920, m_1920, w_1920_0, w_1920_1, w_1920_2, -⟩ := hw_1920
                          have M_1920 := dg_sm.tr M_720 m_1920 (by decide) (by decide)
                          obtain ⟨y_1921, f_y_1921, w_1920_0⟩ := w_1920_0
                          have w_1920_0 : (y_1921).toInt = (cd).toInt + 1 := w_1920_0
                          have b_y_1921 : 0 ≤ (y_1921).toInt ∧ (y_1921).toInt ≤ 1600 := dg_I.intb (lo := 0) (hi := 1600) I_1920 sM_0 (by decide +kernel) f_y_1921
                          have w_1920_1 : ADM S_720 S_1920 x_1818 := w_1920_1
                          have P1_1920 : P1M S_1920 := PBM.leaf PB_720 (((dg_uf_F e_720 0 42).trans (m_2.1 0 42 _ sM_0 (by decide))).trans f_dp) (((dg_uf_F e_720 0 43).trans (m_2.1 0 43 _ sM_0 (by decide))).trans f_on) (((dg_uf_F e_720 0 45).trans (m_2.1 0 45 _ sM_0 (by decide))).trans f_om) m_1920 w_1920_1 (by omega)
                          refine lv_aload_n hx hb dX12_operand_476 rfl (lv_at hl 3 rfl) ?_
                          refine dg_callv hS hA1 hA (va_runV (As := []) (rest := []) F (c_m_ahead l g D o S_1920 se (((m_1920.1 0 5 _ sM_0 (by decide)).trans ((dg_uf_F e_720 0 5).trans (m_2.1 0 5 _ sM_0 (by decide)))).trans f_se) (by omega) sl (((m_1920.1 0 2 _ sM_0 (by decide)).trans ((dg_uf_F e_720 0 2).trans (m_2.1 0 2 _ sM_0 (by decide)))).trans f_sl) (by omega) (by omega) I_1920 H.size) (cwV 0 hts (bw_V wB_1161 wB_1162 wB_1163 wB_881 wB_1160) rfl rfl rfl (by decide +kernel) ⟨Nat.le_of_ble_eq_true rfl, Nat.le_of_ble_eq_true rfl⟩) (dg_preV sM_0 rfl K ST hP hS hA1 hA) rfl rfl hl.1 rfl (lv_room (Nat.le_of_ble_eq_true rfl)) dX12_operand_477 ⟨Nat.le_of_ble_eq_true rfl, Nat.le_of_ble_eq_true rfl⟩) (fun S_1922 hw_1922 H locs hP hS => ?_)
                          obtain ⟨I_1922, m_1922, w_1922_0, -⟩ := hw_1922
                          have M_1922 := dg_sm.tr M_1920 m_1922 (by decide) (by decide)
                          obtain ⟨y_1923, y_1924, y_1925, f_y_1923, f_y_1924, f_y_1925, w_1922_0⟩ := w_1922_0
                          have w_1922_0 : (se).toInt ≤ (y_1924).toInt ∧ (y_1924).toInt ≤ (y_1925).toInt ∧ (y_1925).toInt ≤ (sl).toInt ∧ ((y_1923).toInt ≠ 0 → (y_1924).toInt + 1 ≤ (y_1925).toInt) := w_1922_0
                          have b_y_1923 : 0 ≤ (y_1923).toInt ∧ (y_1923).toInt ≤ 3 := dg_I.intb (lo := 0) (hi := 3) I_1922 sM_0 (by decide +kernel) f_y_1923
                          have b_y_1924 : 0 ≤ (y_1924).toInt ∧ (y_1924).toInt ≤ 1600 := dg_I.intb (lo := 0) (hi := 1600) I_1922 sM_0 (by decide +kernel) f_y_1924
                          have b_y_1925 : 0 ≤ (y_1925).toInt ∧ (y_1925).toInt ≤ 1600 := dg_I.intb (lo := 0) (hi := 1600) I_1922 sM_0 (by decide +kernel) f_y_1925
                          refine lv_iconst (v := 1) hx hb dX12_operand_480 (by decide +kernel) ?_
                          have hz_1926 : (1 : Int32).toInt = 1 := by decide +kernel
                          have hz_1927 : (1 : Int32).toInt = 1 := by decide +kernel
                          have hz_1928 : (1 : Int32).toInt = 1 := by decide +kernel
                          have hz_1929 : (1 : Int32).toInt = 1 := by decide +kernel
                          refine W.widen (k := 0) (n := 0) (Nat.le_of_ble_eq_true rfl) (Nat.le_of_ble_eq_true rfl) ?_
                          exact dg_iret hx hb hr hlocks (by decide +kernel) hP hS ⟨I_1922, M_1922, (by decide +kernel), ⟨y_1923, y_1924, y_1925, y_3, y_1921, dp, om, f_y_1923, f_y_1924, f_y_1925, (((m_1922.1 0 8 _ sM_0 (by decide)).trans ((m_1920.1 0 8 _ sM_0 (by decide)).trans (dg_uf_F e_720 0 8))).trans f_y_3), ((m_1922.1 0 34 _ sM_0 (by decide)).trans f_y_1921), (((m_1922.1 0 42 _ sM_0 (by decide)).trans ((m_1920.1 0 42 _ sM_0 (by decide)).trans ((dg_uf_F e_720 0 42).trans (m_2.1 0 42 _ sM_0 (by decide))))).trans f_dp), (((m_1922.1 0 45 _ sM_0 (by decide)).trans ((m_1920.1 0 45 _ sM_0 (by decide)).trans ((dg_uf_F e_720 0 45).trans (m_2.1 0 45 _ sM_0 (by decide))))).trans f_om), (by omega)⟩, (fun k9 hk9 hk0 => ⟨fun _ => (P1M.keep P1_1920 m_1922 (by decide) (by decide) (by decide) (by decide) (by decide) (by decide) (by decide) (by decide) (by decide) (by decide) (by decide) (by decide) (by decide) (by decide) (by decide)), fun h9 => absurd h9 (by decide +kernel)⟩), (ZWM.keep w_1920_2 m_1922 (by decide) (by decide) (by decide) (by decide)), trivial⟩ dX12_operand_481
                        · have jc_1919 := dk_eqc (k := (-1)) (by decide +kernel) c_1919
                          refine lv_aload_n hx hb dX12_operand_449 rfl (lv_at hl 3 rfl) ?_
                          refine lv_iconst (v := 1) hx hb dX12_operand_450 (by decide +kernel) ?_
                          refine lv_aload_n hx hb dX12_operand_451 rfl (lv_at hl 3 rfl) ?_
                          refine dg_get (C := RX12) (T := TX12) (N := 77) hx hb hts (fun w h => bw_mem (wU_X12 w h)) hown K hP sM_0 rfl 4 (by decide) (hts _ (bw_mem wB_1145)) (fun _ h9 => h9) (v := .int sa) (((dg_uf_F e_720 0 4).trans (m_2.1 0 4 _ sM_0 (by decide))).trans f_sa) dX12_operand_452 ?_
                          have hz_1930 : (1 : Int32).toInt = 1 := by decide +kernel
                          refine dg_callv hS hA1 hA (va_runV (As := [.int 1, .int sa]) (rest := []) F (c_m_blame l g D o S_720 1 (by decide +kernel) sa y_3 ((dg_uf_F e_720 0 8).trans f_y_3) (by omega) I_720 H.size) (cwV 2 hts (bw_V wB_1137 wB_1138 wB_1139 wB_881 wB_1136) rfl rfl rfl (by decide +kernel) ⟨Nat.le_of_ble_eq_true rfl, Nat.le_of_ble_eq_true rfl⟩) (dg_preV sM_0 rfl K ST hP hS hA1 hA) rfl rfl hl.1 rfl (lv_room (Nat.le_of_ble_eq_true rfl)) dX12_operand_455 ⟨Nat.le_of_ble_eq_true rfl, Nat.le_of_ble_eq_true rfl⟩) (fun S_1931 hw_1931 H locs hP hS => ?_)
                          obtain ⟨I_1931, m_1931, w_1931_0, -⟩ := hw_1931
                          have M_1931 := dg_sm.tr M_720 m_1931 (by decide) (by decide)
                          have hz_1932 : (1 : Int32).toInt = 1 := by decide +kernel
                          obtain ⟨y_1933, f_y_1933, w_1931_0⟩ := w_1931_0
                          have w_1931_0 : ((y_3).toInt ≠ 0 → (y_1933).toInt = (y_3).toInt) ∧ ((y_3).toInt = 0 → (y_1933).toInt = ((1 : Int32)).toInt) := w_1931_0
                          have b_y_1933 : 0 ≤ (y_1933).toInt ∧ (y_1933).toInt ≤ 6 := dg_I.intb (lo := 0) (hi := 6) I_1931 sM_0 (by decide +kernel) f_y_1933
                          refine lv_aload_n hx hb dX12_operand_458 rfl (lv_at hl 3 rfl) ?_
                          refine dg_get (C := RX12) (T := TX12) (N := 77) hx hb hts (fun w h => bw_mem (wU_X12 w h)) hown K hP sM_0 rfl 8 (by decide) (hts _ (bw_mem wB_1133)) (fun _ h9 => h9) (v := .int y_1933) f_y_1933 dX12_operand_459 ?_
                          refine lv_if_le (tgt := 467) hx hb dX12_operand_462 (by decide) (fun c_1934 => ?_) (fun c_1934 => ?_)
                          · have jc_1934 := dk_lec (k := 0) (by decide +kernel) c_1934
                            refine lv_aload_n hx hb dX12_operand_467 rfl (lv_at hl 3 rfl) ?_
                            refine lv_iload_n hx hb dX12_operand_468 rfl (lv_at hl 0 rfl) ?_
                            refine lv_aload_n hx hb dX12_operand_469 rfl (lv_at hl 3 rfl) ?_
                            refine dg_get (C := RX12) (T := TX12) (N := 77) hx hb hts (fun w h => bw_mem (wU_X12 w h)) hown K hP sM_0 rfl 6 (by decide) (hts _ (bw_mem wB_1141)) (fun _ h9 => h9) (v := .int va) (((m_1931.1 0 6 _ sM_0 (by decide)).trans ((dg_uf_F e_720 0 6).trans (m_2.1 0 6 _ sM_0 (by decide)))).trans f_va) dX12_operand_470 ?_
                            refine dg_callv hS hA1 hA (va_runV (As := [.int x_1818, .int va]) (rest := []) F (c_m_add l g D o S_1931 x_1818 (by omega) va cd (((m_1931.1 0 34 _ sM_0 (by decide)).trans ((dg_uf_F e_720 0 34).trans (m_2.1 0 34 _ sM_0 (by decide)))).trans f_cd) (by omega) (ZWM.keep (ZWM.keep (ZWM.keep ZW m_2 (by decide) (by decide) (by decide) (by decide)) (dg_sm.uf (WF := []) (WA := [24]) dg_sm.rf e_720 sM_24 (by decide)) (by decide) (by decide) (by decide) (by decide)) m_1931 (by decide) (by decide) (by decide) (by decide)) (ZKM.keep (ZKM.keep (ZKM.keep ZK m_2 (by decide) (by decide)) (dg_sm.uf (WF := []) (WA := [24]) dg_sm.rf e_720 sM_24 (by decide)) (by decide) (by decide)) m_1931 (by decide) (by decide)) I_1931 H.size) (cwV 2 hts (bw_V wB_1209 wB_1210 wB_1211 wB_881 wB_1208) rfl rfl rfl (by decide +kernel) ⟨Nat.le_of_ble_eq_true rfl, Nat.le_of_ble_eq_true rfl⟩) (dg_preV sM_0 rfl K ST hP hS hA1 hA) rfl rfl hl.1 rfl (lv_room (Nat.le_of_ble_eq_true rfl)) dX12_operand_473 ⟨Nat.le_of_ble_eq_true rfl, Nat.le_of_ble_eq_true rfl⟩) (fun S_1935 hw_1935 H locs hP hS => ?_)
                            obtain ⟨I_1935, m_1935, w_1935_0, w_1935_1, w_1935_2, -⟩ := hw_1935
                            have M_1935 := dg_sm.tr M_1931 m_1935 (by decide) (by decide)
                            obtain ⟨y_1936, f_y_1936, w_1935_0⟩ := w_1935_0
                            have w_1935_0 : (y_1936).toInt = (cd).toInt + 1 := w_1935_0
                            have b_y_1936 : 0 ≤ (y_1936).toInt ∧ (y_1936).toInt ≤ 1600 := dg_I.intb (lo := 0) (hi := 1600) I_1935 sM_0 (by decide +kernel) f_y_1936
                            have w_1935_1 : ADM S_1931 S_1935 x_1818 := w_1935_1
                            have P1_1935 : P1M S_1935 := PBM.leaf (PBM.keep PB_720 m_1931 (by decide) (by decide) (by decide) (by decide) (by decide) (by decide) (by decide) (by decide) (by decide) (by decide) (by decide) (by decide) (by decide) (by decide) (by decide)) (((m_1931.1 0 42 _ sM_0 (by decide)).trans ((dg_uf_F e_720 0 42).trans (m_2.1 0 42 _ sM_0 (by decide)))).trans f_dp) (((m_1931.1 0 43 _ sM_0 (by decide)).trans ((dg_uf_F e_720 0 43).trans (m_2.1 0 43 _ sM_0 (by decide)))).trans f_on) (((m_1931.1 0 45 _ sM_0 (by decide)).trans ((dg_uf_F e_720 0 45).trans (m_2.1 0 45 _ sM_0 (by decide)))).trans f_om) m_1935 w_1935_1 (by omega)
                            refine lv_aload_n hx hb dX12_operand_476 rfl (lv_at hl 3 rfl) ?_
                            refine dg_callv hS hA1 hA (va_runV (As := []) (rest := []) F (c_m_ahead l g D o S_1935 se (((m_1935.1 0 5 _ sM_0 (by decide)).trans ((m_1931.1 0 5 _ sM_0 (by decide)).trans ((dg_uf_F e_720 0 5).trans (m_2.1 0 5 _ sM_0 (by decide))))).trans f_se) (by omega) sl (((m_1935.1 0 2 _ sM_0 (by decide)).trans ((m_1931.1 0 2 _ sM_0 (by decide)).trans ((dg_uf_F e_720 0 2).trans (m_2.1 0 2 _ sM_0 (by decide))))).trans f_sl) (by omega) (by omega) I_1935 H.size) (cwV 0 hts (bw_V wB_1161 wB_1162 wB_1163 wB_881 wB_1160) rfl rfl rfl (by decide +kernel) ⟨Nat.le_of_ble_eq_true rfl, Nat.le_of_ble_eq_true rfl⟩) (dg_preV sM_0 rfl K ST hP hS hA1 hA) rfl rfl hl.1 rfl (lv_room (Nat.le_of_ble_eq_true rfl)) dX12_operand_477 ⟨Nat.le_of_ble_eq_true rfl, Nat.le_of_ble_eq_true rfl⟩) (fun S_1937 hw_1937 H locs hP hS => ?_)
                            obtain ⟨I_1937, m_1937, w_1937_0, -⟩ := hw_1937
                            have M_1937 := dg_sm.tr M_1935 m_1937 (by decide) (by decide)
                            obtain ⟨y_1938, y_1939, y_1940, f_y_1938, f_y_1939, f_y_1940, w_1937_0⟩ := w_1937_0
                            have w_1937_0 : (se).toInt ≤ (y_1939).toInt ∧ (y_1939).toInt ≤ (y_1940).toInt ∧ (y_1940).toInt ≤ (sl).toInt ∧ ((y_1938).toInt ≠ 0 → (y_1939).toInt + 1 ≤ (y_1940).toInt) := w_1937_0
                            have b_y_1938 : 0 ≤ (y_1938).toInt ∧ (y_1938).toInt ≤ 3 := dg_I.intb (lo := 0) (hi := 3) I_1937 sM_0 (by decide +kernel) f_y_1938
                            have b_y_1939 : 0 ≤ (y_1939).toInt ∧ (y_1939).toInt ≤ 1600 := dg_I.intb (lo := 0) (hi := 1600) I_1937 sM_0 (by decide +kernel) f_y_1939
                            have b_y_1940 : 0 ≤ (y_1940).toInt ∧ (y_1940).toInt ≤ 1600 := dg_I.intb (lo := 0) (hi := 1600) I_1937 sM_0 (by decide +kernel) f_y_1940
                            refine lv_iconst (v := 1) hx hb dX12_operand_480 (by decide +kernel) ?_
                            have hz_1941 : (1 : Int32).toInt = 1 := by decide +kernel
                            have hz_1942 : (1 : Int32).toInt = 1 := by decide +kernel
                            have hz_1943 : (1 : Int32).toInt = 1 := by decide +kernel
                            have hz_1944 : (1 : Int32).toInt = 1 := by decide +kernel
                            refine W.widen (k := 0) (n := 0) (Nat.le_of_ble_eq_true rfl) (Nat.le_of_ble_eq_true rfl) ?_
                            exact dg_iret hx hb hr hlocks (by decide +kernel) hP hS ⟨I_1937, M_1937, (by decide +kernel), ⟨y_1938, y_1939, y_1940, y_1933, y_1936, dp, om, f_y_1938, f_y_1939, f_y_1940, (((m_1937.1 0 8 _ sM_0 (by decide)).trans (m_1935.1 0 8 _ sM_0 (by decide))).trans f_y_1933), ((m_1937.1 0 34 _ sM_0 (by decide)).trans f_y_1936), (((m_1937.1 0 42 _ sM_0 (by decide)).trans ((m_1935.1 0 42 _ sM_0 (by decide)).trans ((m_1931.1 0 42 _ sM_0 (by decide)).trans ((dg_uf_F e_720 0 42).trans (m_2.1 0 42 _ sM_0 (by decide)))))).trans f_dp), (((m_1937.1 0 45 _ sM_0 (by decide)).trans ((m_1935.1 0 45 _ sM_0 (by decide)).trans ((m_1931.1 0 45 _ sM_0 (by decide)).trans ((dg_uf_F e_720 0 45).trans (m_2.1 0 45 _ sM_0 (by decide)))))).trans f_om), (by omega)⟩, (fun k9 hk9 hk0 => ⟨fun _ => (P1M.keep P1_1935 m_1937 (by decide) (by decide) (by decide) (by decide) (by decide) (by decide) (by decide) (by decide) (by decide) (by decide) (by decide) (by decide) (by decide) (by decide) (by decide)), fun h9 => absurd h9 (by decide +kernel)⟩), (ZWM.keep w_1935_2 m_1937 (by decide) (by decide) (by decide) (by decide)), trivial⟩ dX12_operand_481
                          · have jc_1934 := dk_nlec (k := 0) (by decide +kernel) c_1934
                            refine lv_iconst (v := 1) hx hb dX12_operand_465 (by decide +kernel) ?_
                            have hz_1945 : (1 : Int32).toInt = 1 := by decide +kernel
                            have hz_1946 : (1 : Int32).toInt = 1 := by decide +kernel
                            have hz_1947 : (1 : Int32).toInt = 1 := by decide +kernel
                            have hz_1948 : (1 : Int32).toInt = 1 := by decide +kernel
                            refine W.widen (k := 0) (n := 0) (Nat.le_of_ble_eq_true rfl) (Nat.le_of_ble_eq_true rfl) ?_
                            exact dg_iret hx hb hr hlocks (by decide +kernel) hP hS ⟨I_1931, M_1931, (by decide +kernel), ⟨sg, sa, se, y_1933, cd, dp, om, (((m_1931.1 0 3 _ sM_0 (by decide)).trans ((dg_uf_F e_720 0 3).trans (m_2.1 0 3 _ sM_0 (by decide)))).trans f_sg), (((m_1931.1 0 4 _ sM_0 (by decide)).trans ((dg_uf_F e_720 0 4).trans (m_2.1 0 4 _ sM_0 (by decide)))).trans f_sa), (((m_1931.1 0 5 _ sM_0 (by decide)).trans ((dg_uf_F e_720 0 5).trans (m_2.1 0 5 _ sM_0 (by decide)))).trans f_se), f_y_1933, (((m_1931.1 0 34 _ sM_0 (by decide)).trans ((dg_uf_F e_720 0 34).trans (m_2.1 0 34 _ sM_0 (by decide)))).trans f_cd), (((m_1931.1 0 42 _ sM_0 (by decide)).trans ((dg_uf_F e_720 0 42).trans (m_2.1 0 42 _ sM_0 (by decide)))).trans f_dp), (((m_1931.1 0 45 _ sM_0 (by decide)).trans ((dg_uf_F e_720 0 45).trans (m_2.1 0 45 _ sM_0 (by decide)))).trans f_om), (by omega)⟩, (fun k9 hk9 hk0 => by have q9 := (f_y_1933).symm.trans hk9; cases q9; omega), (ZWM.keep (ZWM.keep (ZWM.keep ZW m_2 (by decide) (by decide) (by decide) (by decide)) (dg_sm.uf (WF := []) (WA := [24]) dg_sm.rf e_720 sM_24 (by decide)) (by decide) (by decide) (by decide) (by decide)) m_1931 (by decide) (by decide) (by decide) (by decide)), trivial⟩ dX12_operand_466
                      · have jc_1918 := dk_nltc (k := 4) (by decide +kernel) c_1918
                        refine lv_iload_n hx hb dX12_operand_417 rfl (lv_at hl 0 rfl) ?_
                        refine lv_iconst (v := 4) hx hb dX12_operand_418 (by decide +kernel) ?_
                        refine lv_icmp_ne (tgt := 426) hx hb dX12_operand_419 (by decide) (fun c_1949 => ?_) (fun c_1949 => ?_)
                        · have jc_1949 := dk_neqc (k := 4) (by decide +kernel) c_1949
                          refine lv_iconst (v := 0) hx hb dX12_operand_426 (by decide +kernel) ?_
                          refine lv_aload_n hx hb dX12_operand_427 rfl (lv_at hl 3 rfl) ?_
                          obtain ⟨x_1950, f_x_1950, b_x_1950⟩ := dg_I.int (i := 0) (k := 36) (lo := 0) (hi := 2) I sM_0 (by decide +kernel)
                          refine dg_get (C := RX12) (T := TX12) (N := 77) hx hb hts (fun w h => bw_mem (wU_X12 w h)) hown K hP sM_0 rfl 36 (by decide) (hts _ (bw_mem wB_1231)) (fun _ h9 => h9) (v := .int x_1950) (((dg_uf_F e_720 0 36).trans (m_2.1 0 36 _ sM_0 (by decide))).trans f_x_1950) dX12_operand_428 ?_
                          refine lv_if_ne (tgt := 438) hx hb dX12_operand_431 (by decide) (fun c_1951 => ?_) (fun c_1951 => ?_)
                          · have jc_1951 := dk_neqc (k := 0) (by decide +kernel) c_1951
                            refine lv_iconst (v := 0) hx hb dX12_operand_438 (by decide +kernel) ?_
                            refine lv_icmp_eq (tgt := 444) hx hb dX12_operand_439 (by decide) (fun _ => ?_) (fun c => absurd (by decide +kernel) c)
                            refine lv_iload_n hx hb dX12_operand_444 rfl (lv_at hl 0 rfl) ?_
                            refine lv_iconst (v := (-1)) hx hb dX12_operand_445 (by decide +kernel) ?_
                            refine lv_icmp_ne (tgt := 458) hx hb dX12_operand_446 (by decide) (fun _ => ?_) (fun c => absurd c (fun z => absurd (dk_eqc (k := (-1)) (by decide +kernel) z) (by omega)))
                            refine lv_aload_n hx hb dX12_operand_458 rfl (lv_at hl 3 rfl) ?_
                            refine dg_get (C := RX12) (T := TX12) (N := 77) hx hb hts (fun w h => bw_mem (wU_X12 w h)) hown K hP sM_0 rfl 8 (by decide) (hts _ (bw_mem wB_1133)) (fun _ h9 => h9) (v := .int y_3) ((dg_uf_F e_720 0 8).trans f_y_3) dX12_operand_459 ?_
                            refine lv_if_le (tgt := 467) hx hb dX12_operand_462 (by decide) (fun _ => ?_) (fun c => absurd (dk_lep (k := 0) (by decide +kernel) (by omega)) c)
                            refine lv_aload_n hx hb dX12_operand_467 rfl (lv_at hl 3 rfl) ?_
                            refine lv_iload_n hx hb dX12_operand_468 rfl (lv_at hl 0 rfl) ?_
                            refine lv_aload_n hx hb dX12_operand_469 rfl (lv_at hl 3 rfl) ?_
                            refine dg_get (C := RX12) (T := TX12) (N := 77) hx hb hts (fun w h => bw_mem (wU_X12 w h)) hown K hP sM_0 rfl 6 (by decide) (hts _ (bw_mem wB_1141)) (fun _ h9 => h9) (v := .int va) (((dg_uf_F e_720 0 6).trans (m_2.1 0 6 _ sM_0 (by decide))).trans f_va) dX12_operand_470 ?_
                            refine dg_callv hS hA1 hA (va_runV (As := [.int x_1818, .int va]) (rest := []) F (c_m_add l g D o S_720 x_1818 (by omega) va cd (((dg_uf_F e_720 0 34).trans (m_2.1 0 34 _ sM_0 (by decide))).trans f_cd) (by omega) (ZWM.keep (ZWM.keep ZW m_2 (by decide) (by decide) (by decide) (by decide)) (dg_sm.uf (WF := []) (WA := [24]) dg_sm.rf e_720 sM_24 (by decide)) (by decide) (by decide) (by decide) (by decide)) (ZKM.keep (ZKM.keep ZK m_2 (by decide) (by decide)) (dg_sm.uf (WF := []) (WA := [24]) dg_sm.rf e_720 sM_24 (by decide)) (by decide) (by decide)) I_720 H.size) (cwV 2 hts (bw_V wB_1209 wB_1210 wB_1211 wB_881 wB_1208) rfl rfl rfl (by decide +kernel) ⟨Nat.le_of_ble_eq_true rfl, Nat.le_of_ble_eq_true rfl⟩) (dg_preV sM_0 rfl K ST hP hS hA1 hA) rfl rfl hl.1 rfl (lv_room (Nat.le_of_ble_eq_true rfl)) dX12_operand_473 ⟨Nat.le_of_ble_eq_true rfl, Nat.le_of_ble_eq_true rfl⟩) (fun S_1952 hw_1952 H locs hP hS => ?_)
                            obtain ⟨I_1952, m_1952, w_1952_0, w_1952_1, w_1952_2, -⟩ := hw_1952
                            have M_1952 := dg_sm.tr M_720 m_1952 (by decide) (by decide)
                            obtain ⟨y_1953, f_y_1953, w_1952_0⟩ := w_1952_0
                            have w_1952_0 : (y_1953).toInt = (cd).toInt + 1 := w_1952_0
                            have b_y_1953 : 0 ≤ (y_1953).toInt ∧ (y_1953).toInt ≤ 1600 := dg_I.intb (lo := 0) (hi := 1600) I_1952 sM_0 (by decide +kernel) f_y_1953
                            have w_1952_1 : ADM S_720 S_1952 x_1818 := w_1952_1
                            have P1_1952 : P1M S_1952 := PBM.leaf PB_720 (((dg_uf_F e_720 0 42).trans (m_2.1 0 42 _ sM_0 (by decide))).trans f_dp) (((dg_uf_F e_720 0 43).trans (m_2.1 0 43 _ sM_0 (by decide))).trans f_on) (((dg_uf_F e_720 0 45).trans (m_2.1 0 45 _ sM_0 (by decide))).trans f_om) m_1952 w_1952_1 (by omega)
                            refine lv_aload_n hx hb dX12_operand_476 rfl (lv_at hl 3 rfl) ?_
                            refine dg_callv hS hA1 hA (va_runV (As := []) (rest := []) F (c_m_ahead l g D o S_1952 se (((m_1952.1 0 5 _ sM_0 (by decide)).trans ((dg_uf_F e_720 0 5).trans (m_2.1 0 5 _ sM_0 (by decide)))).trans f_se) (by omega) sl (((m_1952.1 0 2 _ sM_0 (by decide)).trans ((dg_uf_F e_720 0 2).trans (m_2.1 0 2 _ sM_0 (by decide)))).trans f_sl) (by omega) (by omega) I_1952 H.size) (cwV 0 hts (bw_V wB_1161 wB_1162 wB_1163 wB_881 wB_1160) rfl rfl rfl (by decide +kernel) ⟨Nat.le_of_ble_eq_true rfl, Nat.le_of_ble_eq_true rfl⟩) (dg_preV sM_0 rfl K ST hP hS hA1 hA) rfl rfl hl.1 rfl (lv_room (Nat.le_of_ble_eq_true rfl)) dX12_operand_477 ⟨Nat.le_of_ble_eq_true rfl, Nat.le_of_ble_eq_true rfl⟩) (fun S_1954 hw_1954 H locs hP hS => ?_)
                            obtain ⟨I_1954, m_1954, w_1954_0, -⟩ := hw_1954
                            have M_1954 := dg_sm.tr M_1952 m_1954 (by decide) (by decide)
                            obtain ⟨y_1955, y_1956, y_1957, f_y_1955, f_y_1956, f_y_1957, w_1954_0⟩ := w_1954_0
                            have w_1954_0 : (se).toInt ≤ (y_1956).toInt ∧ (y_1956).toInt ≤ (y_1957).toInt ∧ (y_1957).toInt ≤ (sl).toInt ∧ ((y_1955).toInt ≠ 0 → (y_1956).toInt + 1 ≤ (y_1957).toInt) := w_1954_0
                            have b_y_1955 : 0 ≤ (y_1955).toInt ∧ (y_1955).toInt ≤ 3 := dg_I.intb (lo := 0) (hi := 3) I_1954 sM_0 (by decide +kernel) f_y_1955
                            have b_y_1956 : 0 ≤ (y_1956).toInt ∧ (y_1956).toInt ≤ 1600 := dg_I.intb (lo := 0) (hi := 1600) I_1954 sM_0 (by decide +kernel) f_y_1956
                            have b_y_1957 : 0 ≤ (y_1957).toInt ∧ (y_1957).toInt ≤ 1600 := dg_I.intb (lo := 0) (hi := 1600) I_1954 sM_0 (by decide +kernel) f_y_1957
                            refine lv_iconst (v := 1) hx hb dX12_operand_480 (by decide +kernel) ?_
                            have hz_1958 : (1 : Int32).toInt = 1 := by decide +kernel
                            have hz_1959 : (1 : Int32).toInt = 1 := by decide +kernel
                            have hz_1960 : (1 : Int32).toInt = 1 := by decide +kernel
                            have hz_1961 : (1 : Int32).toInt = 1 := by decide +kernel
                            refine W.widen (k := 0) (n := 0) (Nat.le_of_ble_eq_true rfl) (Nat.le_of_ble_eq_true rfl) ?_
                            exact dg_iret hx hb hr hlocks (by decide +kernel) hP hS ⟨I_1954, M_1954, (by decide +kernel), ⟨y_1955, y_1956, y_1957, y_3, y_1953, dp, om, f_y_1955, f_y_1956, f_y_1957, (((m_1954.1 0 8 _ sM_0 (by decide)).trans ((m_1952.1 0 8 _ sM_0 (by decide)).trans (dg_uf_F e_720 0 8))).trans f_y_3), ((m_1954.1 0 34 _ sM_0 (by decide)).trans f_y_1953), (((m_1954.1 0 42 _ sM_0 (by decide)).trans ((m_1952.1 0 42 _ sM_0 (by decide)).trans ((dg_uf_F e_720 0 42).trans (m_2.1 0 42 _ sM_0 (by decide))))).trans f_dp), (((m_1954.1 0 45 _ sM_0 (by decide)).trans ((m_1952.1 0 45 _ sM_0 (by decide)).trans ((dg_uf_F e_720 0 45).trans (m_2.1 0 45 _ sM_0 (by decide))))).trans f_om), (by omega)⟩, (fun k9 hk9 hk0 => ⟨fun _ => (P1M.keep P1_1952 m_1954 (by decide) (by decide) (by decide) (by decide) (by decide) (by decide) (by decide) (by decide) (by decide) (by decide) (by decide) (by decide) (by decide) (by decide) (by decide)), fun h9 => absurd h9 (by decide +kernel)⟩), (ZWM.keep w_1952_2 m_1954 (by decide) (by decide) (by decide) (by decide)), trivial⟩ dX12_operand_481
                          · have jc_1951 := dk_eqc (k := 0) (by decide +kernel) c_1951
                            refine lv_iconst (v := 1) hx hb dX12_operand_434 (by decide +kernel) ?_
                            refine lv_goto (tgt := 439) hx hb dX12_operand_435 (by decide) ?_
                            refine lv_icmp_eq (tgt := 444) hx hb dX12_operand_439 (by decide) (fun c => absurd c (by decide +kernel)) (fun _ => ?_)
                            refine lv_iconst (v := (-1)) hx hb dX12_operand_442 (by decide +kernel) ?_
                            refine lv_istore_n (lv' := [(3, .int (-1)), (2, .int x_14), (1, .int x_5), (0, .ref (o + 0))]) hx hb dX12_operand_443 rfl hl (by decide) rfl (fun ls hl => ?_)
                            refine lv_iload_n hx hb dX12_operand_444 rfl (lv_at hl 0 rfl) ?_
                            refine lv_iconst (v := (-1)) hx hb dX12_operand_445 (by decide +kernel) ?_
                            refine lv_icmp_ne (tgt := 458) hx hb dX12_operand_446 (by decide) (fun c => absurd (by decide +kernel) c) (fun _ => ?_)
                            refine lv_aload_n hx hb dX12_operand_449 rfl (lv_at hl 3 rfl) ?_
                            refine lv_iconst (v := 1) hx hb dX12_operand_450 (by decide +kernel) ?_
                            refine lv_aload_n hx hb dX12_operand_451 rfl (lv_at hl 3 rfl) ?_
                            refine dg_get (C := RX12) (T := TX12) (N := 77) hx hb hts (fun w h => bw_mem (wU_X12 w h)) hown K hP sM_0 rfl 4 (by decide) (hts _ (bw_mem wB_1145)) (fun _ h9 => h9) (v := .int sa) (((dg_uf_F e_720 0 4).trans (m_2.1 0 4 _ sM_0 (by decide))).trans f_sa) dX12_operand_452 ?_
                            have hz_1962 : (1 : Int32).toInt = 1 := by decide +kernel
                            refine dg_callv hS hA1 hA (va_runV (As := [.int 1, .int sa]) (rest := []) F (c_m_blame l g D o S_720 1 (by decide +kernel) sa y_3 ((dg_uf_F e_720 0 8).trans f_y_3) (by omega) I_720 H.size) (cwV 2 hts (bw_V wB_1137 wB_1138 wB_1139 wB_881 wB_1136) rfl rfl rfl (by decide +kernel) ⟨Nat.le_of_ble_eq_true rfl, Nat.le_of_ble_eq_true rfl⟩) (dg_preV sM_0 rfl K ST hP hS hA1 hA) rfl rfl hl.1 rfl (lv_room (Nat.le_of_ble_eq_true rfl)) dX12_operand_455 ⟨Nat.le_of_ble_eq_true rfl, Nat.le_of_ble_eq_true rfl⟩) (fun S_1963 hw_1963 H locs hP hS => ?_)
                            obtain ⟨I_1963, m_1963, w_1963_0, -⟩ := hw_1963
                            have M_1963 := dg_sm.tr M_720 m_1963 (by decide) (by decide)
                            have hz_1964 : (1 : Int32).toInt = 1 := by decide +kernel
                            obtain ⟨y_1965, f_y_1965, w_1963_0⟩ := w_1963_0
                            have w_1963_0 : ((y_3).toInt ≠ 0 → (y_1965).toInt = (y_3).toInt) ∧ ((y_3).toInt = 0 → (y_1965).toInt = ((1 : Int32)).toInt) := w_1963_0
                            have b_y_1965 : 0 ≤ (y_1965).toInt ∧ (y_1965).toInt ≤ 6 := dg_I.intb (lo := 0) (hi := 6) I_1963 sM_0 (by decide +kernel) f_y_1965
                            refine lv_aload_n hx hb dX12_operand_458 rfl (lv_at hl 3 rfl) ?_
                            refine dg_get (C := RX12) (T := TX12) (N := 77) hx hb hts (fun w h => bw_mem (wU_X12 w h)) hown K hP sM_0 rfl 8 (by decide) (hts _ (bw_mem wB_1133)) (fun _ h9 => h9) (v := .int y_1965) f_y_1965 dX12_operand_459 ?_
                            refine lv_if_le (tgt := 467) hx hb dX12_operand_462 (by decide) (fun c_1966 => ?_) (fun c_1966 => ?_)
                            · have jc_1966 := dk_lec (k := 0) (by decide +kernel) c_1966
                              refine lv_aload_n hx hb dX12_operand_467 rfl (lv_at hl 3 rfl) ?_
                              refine lv_iload_n hx hb dX12_operand_468 rfl (lv_at hl 0 rfl) ?_
                              refine lv_aload_n hx hb dX12_operand_469 rfl (lv_at hl 3 rfl) ?_
                              refine dg_get (C := RX12) (T := TX12) (N := 77) hx hb hts (fun w h => bw_mem (wU_X12 w h)) hown K hP sM_0 rfl 6 (by decide) (hts _ (bw_mem wB_1141)) (fun _ h9 => h9) (v := .int va) (((m_1963.1 0 6 _ sM_0 (by decide)).trans ((dg_uf_F e_720 0 6).trans (m_2.1 0 6 _ sM_0 (by decide)))).trans f_va) dX12_operand_470 ?_
                              have hz_1967 : (-1 : Int32).toInt = (-1) := by decide +kernel
                              refine dg_callv hS hA1 hA (va_runV (As := [.int (-1), .int va]) (rest := []) F (c_m_add l g D o S_1963 (-1) (by decide +kernel) va cd (((m_1963.1 0 34 _ sM_0 (by decide)).trans ((dg_uf_F e_720 0 34).trans (m_2.1 0 34 _ sM_0 (by decide)))).trans f_cd) (by omega) (ZWM.keep (ZWM.keep (ZWM.keep ZW m_2 (by decide) (by decide) (by decide) (by decide)) (dg_sm.uf (WF := []) (WA := [24]) dg_sm.rf e_720 sM_24 (by decide)) (by decide) (by decide) (by decide) (by decide)) m_1963 (by decide) (by decide) (by decide) (by decide)) (ZKM.keep (ZKM.keep (ZKM.keep ZK m_2 (by decide) (by decide)) (dg_sm.uf (WF := []) (WA := [24]) dg_sm.rf e_720 sM_24 (by decide)) (by decide) (by decide)) m_1963 (by decide) (by decide)) I_1963 H.size) (cwV 2 hts (bw_V wB_1209 wB_1210 wB_1211 wB_881 wB_1208) rfl rfl rfl (by decide +kernel) ⟨Nat.le_of_ble_eq_true rfl, Nat.le_of_ble_eq_true rfl⟩) (dg_preV sM_0 rfl K ST hP hS hA1 hA) rfl rfl hl.1 rfl (lv_room (Nat.le_of_ble_eq_true rfl)) dX12_operand_473 ⟨Nat.le_of_ble_eq_true rfl, Nat.le_of_ble_eq_true rfl⟩) (fun S_1968 hw_1968 H locs hP hS => ?_)
                              obtain ⟨I_1968, m_1968, w_1968_0, w_1968_1, w_1968_2, -⟩ := hw_1968
                              have M_1968 := dg_sm.tr M_1963 m_1968 (by decide) (by decide)
                              have hz_1969 : (-1 : Int32).toInt = (-1) := by decide +kernel
                              obtain ⟨y_1970, f_y_1970, w_1968_0⟩ := w_1968_0
                              have w_1968_0 : (y_1970).toInt = (cd).toInt + 1 := w_1968_0
                              have b_y_1970 : 0 ≤ (y_1970).toInt ∧ (y_1970).toInt ≤ 1600 := dg_I.intb (lo := 0) (hi := 1600) I_1968 sM_0 (by decide +kernel) f_y_1970
                              have w_1968_1 : ADM S_1963 S_1968 (-1 : Int32) := w_1968_1
                              have P1_1968 : P1M S_1968 := PBM.leaf (PBM.keep PB_720 m_1963 (by decide) (by decide) (by decide) (by decide) (by decide) (by decide) (by decide) (by decide) (by decide) (by decide) (by decide) (by decide) (by decide) (by decide) (by decide)) (((m_1963.1 0 42 _ sM_0 (by decide)).trans ((dg_uf_F e_720 0 42).trans (m_2.1 0 42 _ sM_0 (by decide)))).trans f_dp) (((m_1963.1 0 43 _ sM_0 (by decide)).trans ((dg_uf_F e_720 0 43).trans (m_2.1 0 43 _ sM_0 (by decide)))).trans f_on) (((m_1963.1 0 45 _ sM_0 (by decide)).trans ((dg_uf_F e_720 0 45).trans (m_2.1 0 45 _ sM_0 (by decide)))).trans f_om) m_1968 w_1968_1 (by omega)
                              refine lv_aload_n hx hb dX12_operand_476 rfl (lv_at hl 3 rfl) ?_
                              refine dg_callv hS hA1 hA (va_runV (As := []) (rest := []) F (c_m_ahead l g D o S_1968 se (((m_1968.1 0 5 _ sM_0 (by decide)).trans ((m_1963.1 0 5 _ sM_0 (by decide)).trans ((dg_uf_F e_720 0 5).trans (m_2.1 0 5 _ sM_0 (by decide))))).trans f_se) (by omega) sl (((m_1968.1 0 2 _ sM_0 (by decide)).trans ((m_1963.1 0 2 _ sM_0 (by decide)).trans ((dg_uf_F e_720 0 2).trans (m_2.1 0 2 _ sM_0 (by decide))))).trans f_sl) (by omega) (by omega) I_1968 H.size) (cwV 0 hts (bw_V wB_1161 wB_1162 wB_1163 wB_881 wB_1160) rfl rfl rfl (by decide +kernel) ⟨Nat.le_of_ble_eq_true rfl, Nat.le_of_ble_eq_true rfl⟩) (dg_preV sM_0 rfl K ST hP hS hA1 hA) rfl rfl hl.1 rfl (lv_room (Nat.le_of_ble_eq_true rfl)) dX12_operand_477 ⟨Nat.le_of_ble_eq_true rfl, Nat.le_of_ble_eq_true rfl⟩) (fun S_1971 hw_1971 H locs hP hS => ?_)
                              obtain ⟨I_1971, m_1971, w_1971_0, -⟩ := hw_1971
                              have M_1971 := dg_sm.tr M_1968 m_1971 (by decide) (by decide)
                              obtain ⟨y_1972, y_1973, y_1974, f_y_1972, f_y_1973, f_y_1974, w_1971_0⟩ := w_1971_0
                              have w_1971_0 : (se).toInt ≤ (y_1973).toInt ∧ (y_1973).toInt ≤ (y_1974).toInt ∧ (y_1974).toInt ≤ (sl).toInt ∧ ((y_1972).toInt ≠ 0 → (y_1973).toInt + 1 ≤ (y_1974).toInt) := w_1971_0
                              have b_y_1972 : 0 ≤ (y_1972).toInt ∧ (y_1972).toInt ≤ 3 := dg_I.intb (lo := 0) (hi := 3) I_1971 sM_0 (by decide +kernel) f_y_1972
                              have b_y_1973 : 0 ≤ (y_1973).toInt ∧ (y_1973).toInt ≤ 1600 := dg_I.intb (lo := 0) (hi := 1600) I_1971 sM_0 (by decide +kernel) f_y_1973
                              have b_y_1974 : 0 ≤ (y_1974).toInt ∧ (y_1974).toInt ≤ 1600 := dg_I.intb (lo := 0) (hi := 1600) I_1971 sM_0 (by decide +kernel) f_y_1974
                              refine lv_iconst (v := 1) hx hb dX12_operand_480 (by decide +kernel) ?_
                              have hz_1975 : (1 : Int32).toInt = 1 := by decide +kernel
                              have hz_1976 : (1 : Int32).toInt = 1 := by decide +kernel
                              have hz_1977 : (1 : Int32).toInt = 1 := by decide +kernel
                              have hz_1978 : (1 : Int32).toInt = 1 := by decide +kernel
                              refine W.widen (k := 0) (n := 0) (Nat.le_of_ble_eq_true rfl) (Nat.le_of_ble_eq_true rfl) ?_
                              exact dg_iret hx hb hr hlocks (by decide +kernel) hP hS ⟨I_1971, M_1971, (by decide +kernel), ⟨y_1972, y_1973, y_1974, y_1965, y_1970, dp, om, f_y_1972, f_y_1973, f_y_1974, (((m_1971.1 0 8 _ sM_0 (by decide)).trans (m_1968.1 0 8 _ sM_0 (by decide))).trans f_y_1965), ((m_1971.1 0 34 _ sM_0 (by decide)).trans f_y_1970), (((m_1971.1 0 42 _ sM_0 (by decide)).trans ((m_1968.1 0 42 _ sM_0 (by decide)).trans ((m_1963.1 0 42 _ sM_0 (by decide)).trans ((dg_uf_F e_720 0 42).trans (m_2.1 0 42 _ sM_0 (by decide)))))).trans f_dp), (((m_1971.1 0 45 _ sM_0 (by decide)).trans ((m_1968.1 0 45 _ sM_0 (by decide)).trans ((m_1963.1 0 45 _ sM_0 (by decide)).trans ((dg_uf_F e_720 0 45).trans (m_2.1 0 45 _ sM_0 (by decide)))))).trans f_om), (by omega)⟩, (fun k9 hk9 hk0 => ⟨fun _ => (P1M.keep P1_1968 m_1971 (by decide) (by decide) (by decide) (by decide) (by decide) (by decide) (by decide) (by decide) (by decide) (by decide) (by decide) (by decide) (by decide) (by decide) (by decide)), fun h9 => absurd h9 (by decide +kernel)⟩), (ZWM.keep w_1968_2 m_1971 (by decide) (by decide) (by decide) (by decide)), trivial⟩ dX12_operand_481
                            · have jc_1966 := dk_nlec (k := 0) (by decide +kernel) c_1966
                              refine lv_iconst (v := 1) hx hb dX12_operand_465 (by decide +kernel) ?_
                              have hz_1979 : (1 : Int32).toInt = 1 := by decide +kernel
                              have hz_1980 : (1 : Int32).toInt = 1 := by decide +kernel
                              have hz_1981 : (1 : Int32).toInt = 1 := by decide +kernel
                              have hz_1982 : (1 : Int32).toInt = 1 := by decide +kernel
                              refine W.widen (k := 0) (n := 0) (Nat.le_of_ble_eq_true rfl) (Nat.le_of_ble_eq_true rfl) ?_
                              exact dg_iret hx hb hr hlocks (by decide +kernel) hP hS ⟨I_1963, M_1963, (by decide +kernel), ⟨sg, sa, se, y_1965, cd, dp, om, (((m_1963.1 0 3 _ sM_0 (by decide)).trans ((dg_uf_F e_720 0 3).trans (m_2.1 0 3 _ sM_0 (by decide)))).trans f_sg), (((m_1963.1 0 4 _ sM_0 (by decide)).trans ((dg_uf_F e_720 0 4).trans (m_2.1 0 4 _ sM_0 (by decide)))).trans f_sa), (((m_1963.1 0 5 _ sM_0 (by decide)).trans ((dg_uf_F e_720 0 5).trans (m_2.1 0 5 _ sM_0 (by decide)))).trans f_se), f_y_1965, (((m_1963.1 0 34 _ sM_0 (by decide)).trans ((dg_uf_F e_720 0 34).trans (m_2.1 0 34 _ sM_0 (by decide)))).trans f_cd), (((m_1963.1 0 42 _ sM_0 (by decide)).trans ((dg_uf_F e_720 0 42).trans (m_2.1 0 42 _ sM_0 (by decide)))).trans f_dp), (((m_1963.1 0 45 _ sM_0 (by decide)).trans ((dg_uf_F e_720 0 45).trans (m_2.1 0 45 _ sM_0 (by decide)))).trans f_om), (by omega)⟩, (fun k9 hk9 hk0 => by have q9 := (f_y_1965).symm.trans hk9; cases q9; omega), (ZWM.keep (ZWM.keep (ZWM.keep ZW m_2 (by decide) (by decide) (by decide) (by decide)) (dg_sm.uf (WF := []) (WA := [24]) dg_sm.rf e_720 sM_24 (by decide)) (by decide) (by decide) (by decide) (by decide)) m_1963 (by decide) (by decide) (by decide) (by decide)), trivial⟩ dX12_operand_466
                        · have jc_1949 := dk_eqc (k := 4) (by decide +kernel) c_1949
                          refine lv_iconst (v := 1) hx hb dX12_operand_422 (by decide +kernel) ?_
                          refine lv_goto (tgt := 427) hx hb dX12_operand_423 (by decide) ?_
                          refine lv_aload_n hx hb dX12_operand_427 rfl (lv_at hl 3 rfl) ?_
                          obtain ⟨x_1983, f_x_1983, b_x_1983⟩ := dg_I.int (i := 0) (k := 36) (lo := 0) (hi := 2) I sM_0 (by decide +kernel)
                          refine dg_get (C := RX12) (T := TX12) (N := 77) hx hb hts (fun w h => bw_mem (wU_X12 w h)) hown K hP sM_0 rfl 36 (by decide) (hts _ (bw_mem wB_1231)) (fun _ h9 => h9) (v := .int x_1983) (((dg_uf_F e_720 0 36).trans (m_2.1 0 36 _ sM_0 (by decide))).trans f_x_1983) dX12_operand_428 ?_
                          refine lv_if_ne (tgt := 438) hx hb dX12_operand_431 (by decide) (fun c_1984 => ?_) (fun c_1984 => ?_)
                          · have jc_1984 := dk_neqc (k := 0) (by decide +kernel) c_1984
                            refine lv_iconst (v := 0) hx hb dX12_operand_438 (by decide +kernel) ?_
                            refine lv_icmp_eq (tgt := 444) hx hb dX12_operand_439 (by decide) (fun c => absurd c (by decide +kernel)) (fun _ => ?_)
                            refine lv_iconst (v := (-1)) hx hb dX12_operand_442 (by decide +kernel) ?_
                            refine lv_istore_n (lv' := [(3, .int (-1)), (2, .int x_14), (1, .int x_5), (0, .ref (o + 0))]) hx hb dX12_operand_443 rfl hl (by decide) rfl (fun ls hl => ?_)
                            refine lv_iload_n hx hb dX12_operand_444 rfl (lv_at hl 0 rfl) ?_
                            refine lv_iconst (v := (-1)) hx hb dX12_operand_445 (by decide +kernel) ?_
                            refine lv_icmp_ne (tgt := 458) hx hb dX12_operand_446 (by decide) (fun c => absurd (by decide +kernel) c) (fun _ => ?_)
                            refine lv_aload_n hx hb dX12_operand_449 rfl (lv_at hl 3 rfl) ?_
                            refine lv_iconst (v := 1) hx hb dX12_operand_450 (by decide +kernel) ?_
                            refine lv_aload_n hx hb dX12_operand_451 rfl (lv_at hl 3 rfl) ?_
                            refine dg_get (C := RX12) (T := TX12) (N := 77) hx hb hts (fun w h => bw_mem (wU_X12 w h)) hown K hP sM_0 rfl 4 (by decide) (hts _ (bw_mem wB_1145)) (fun _ h9 => h9) (v := .int sa) (((dg_uf_F e_720 0 4).trans (m_2.1 0 4 _ sM_0 (by decide))).trans f_sa) dX12_operand_452 ?_
                            have hz_1985 : (1 : Int32).toInt = 1 := by decide +kernel
                            refine dg_callv hS hA1 hA (va_runV (As := [.int 1, .int sa]) (rest := []) F (c_m_blame l g D o S_720 1 (by decide +kernel) sa y_3 ((dg_uf_F e_720 0 8).trans f_y_3) (by omega) I_720 H.size) (cwV 2 hts (bw_V wB_1137 wB_1138 wB_1139 wB_881 wB_1136) rfl rfl rfl (by decide +kernel) ⟨Nat.le_of_ble_eq_true rfl, Nat.le_of_ble_eq_true rfl⟩) (dg_preV sM_0 rfl K ST hP hS hA1 hA) rfl rfl hl.1 rfl (lv_room (Nat.le_of_ble_eq_true rfl)) dX12_operand_455 ⟨Nat.le_of_ble_eq_true rfl, Nat.le_of_ble_eq_true rfl⟩) (fun S_1986 hw_1986 H locs hP hS => ?_)
                            obtain ⟨I_1986, m_1986, w_1986_0, -⟩ := hw_1986
                            have M_1986 := dg_sm.tr M_720 m_1986 (by decide) (by decide)
                            have hz_1987 : (1 : Int32).toInt = 1 := by decide +kernel
                            obtain ⟨y_1988, f_y_1988, w_1986_0⟩ := w_1986_0
                            have w_1986_0 : ((y_3).toInt ≠ 0 → (y_1988).toInt = (y_3).toInt) ∧ ((y_3).toInt = 0 → (y_1988).toInt = ((1 : Int32)).toInt) := w_1986_0
                            have b_y_1988 : 0 ≤ (y_1988).toInt ∧ (y_1988).toInt ≤ 6 := dg_I.intb (lo := 0) (hi := 6) I_1986 sM_0 (by decide +kernel) f_y_1988
                            refine lv_aload_n hx hb dX12_operand_458 rfl (lv_at hl 3 rfl) ?_
                            refine dg_get (C := RX12) (T := TX12) (N := 77) hx hb hts (fun w h => bw_mem (wU_X12 w h)) hown K hP sM_0 rfl 8 (by decide) (hts _ (bw_mem wB_1133)) (fun _ h9 => h9) (v := .int y_1988) f_y_1988 dX12_operand_459 ?_
                            refine lv_if_le (tgt := 467) hx hb dX12_operand_462 (by decide) (fun c_1989 => ?_) (fun c_1989 => ?_)
                            · have jc_1989 := dk_lec (k := 0) (by decide +kernel) c_1989
                              refine lv_aload_n hx hb dX12_operand_467 rfl (lv_at hl 3 rfl) ?_
                              refine lv_iload_n hx hb dX12_operand_468 rfl (lv_at hl 0 rfl) ?_
                              refine lv_aload_n hx hb dX12_operand_469 rfl (lv_at hl 3 rfl) ?_
                              refine dg_get (C := RX12) (T := TX12) (N := 77) hx hb hts (fun w h => bw_mem (wU_X12 w h)) hown K hP sM_0 rfl 6 (by decide) (hts _ (bw_mem wB_1141)) (fun _ h9 => h9) (v := .int va) (((m_1986.1 0 6 _ sM_0 (by decide)).trans ((dg_uf_F e_720 0 6).trans (m_2.1 0 6 _ sM_0 (by decide)))).trans f_va) dX12_operand_470 ?_
                              have hz_1990 : (-1 : Int32).toInt = (-1) := by decide +kernel
                              refine dg_callv hS hA1 hA (va_runV (As := [.int (-1), .int va]) (rest := []) F (c_m_add l g D o S_1986 (-1) (by decide +kernel) va cd (((m_1986.1 0 34 _ sM_0 (by decide)).trans ((dg_uf_F e_720 0 34).trans (m_2.1 0 34 _ sM_0 (by decide)))).trans f_cd) (by omega) (ZWM.keep (ZWM.keep (ZWM.keep ZW m_2 (by decide) (by decide) (by decide) (by decide)) (dg_sm.uf (WF := []) (WA := [24]) dg_sm.rf e_720 sM_24 (by decide)) (by decide) (by decide) (by decide) (by decide)) m_1986 (by decide) (by decide) (by decide) (by decide)) (ZKM.keep (ZKM.keep (ZKM.keep ZK m_2 (by decide) (by decide)) (dg_sm.uf (WF := []) (WA := [24]) dg_sm.rf e_720 sM_24 (by decide)) (by decide) (by decide)) m_1986 (by decide) (by decide)) I_1986 H.size) (cwV 2 hts (bw_V wB_1209 wB_1210 wB_1211 wB_881 wB_1208) rfl rfl rfl (by decide +kernel) ⟨Nat.le_of_ble_eq_true rfl, Nat.le_of_ble_eq_true rfl⟩) (dg_preV sM_0 rfl K ST hP hS hA1 hA) rfl rfl hl.1 rfl (lv_room (Nat.le_of_ble_eq_true rfl)) dX12_operand_473 ⟨Nat.le_of_ble_eq_true rfl, Nat.le_of_ble_eq_true rfl⟩) (fun S_1991 hw_1991 H locs hP hS => ?_)
                              obtain ⟨I_1991, m_1991, w_1991_0, w_1991_1, w_1991_2, -⟩ := hw_1991
                              have M_1991 := dg_sm.tr M_1986 m_1991 (by decide) (by decide)
                              have hz_1992 : (-1 : Int32).toInt = (-1) := by decide +kernel
                              obtain ⟨y_1993, f_y_1993, w_1991_0⟩ := w_1991_0
                              have w_1991_0 : (y_1993).toInt = (cd).toInt + 1 := w_1991_0
                              have b_y_1993 : 0 ≤ (y_1993).toInt ∧ (y_1993).toInt ≤ 1600 := dg_I.intb (lo := 0) (hi := 1600) I_1991 sM_0 (by decide +kernel) f_y_1993
                              have w_1991_1 : ADM S_1986 S_1991 (-1 : Int32) := w_1991_1
                              have P1_1991 : P1M S_1991 := PBM.leaf (PBM.keep PB_720 m_1986 (by decide) (by decide) (by decide) (by decide) (by decide) (by decide) (by decide) (by decide) (by decide) (by decide) (by decide) (by decide) (by decide) (by decide) (by decide)) (((m_1986.1 0 42 _ sM_0 (by decide)).trans ((dg_uf_F e_720 0 42).trans (m_2.1 0 42 _ sM_0 (by decide)))).trans f_dp) (((m_1986.1 0 43 _ sM_0 (by decide)).trans ((dg_uf_F e_720 0 43).trans (m_2.1 0 43 _ sM_0 (by decide)))).trans f_on) (((m_1986.1 0 45 _ sM_0 (by decide)).trans ((dg_uf_F e_720 0 45).trans (m_2.1 0 45 _ sM_0 (by decide)))).trans f_om) m_1991 w_1991_1 (by omega)
                              refine lv_aload_n hx hb dX12_operand_476 rfl (lv_at hl 3 rfl) ?_
                              refine dg_callv hS hA1 hA (va_runV (As := []) (rest := []) F (c_m_ahead l g D o S_1991 se (((m_1991.1 0 5 _ sM_0 (by decide)).trans ((m_1986.1 0 5 _ sM_0 (by decide)).trans ((dg_uf_F e_720 0 5).trans (m_2.1 0 5 _ sM_0 (by decide))))).trans f_se) (by omega) sl (((m_1991.1 0 2 _ sM_0 (by decide)).trans ((m_1986.1 0 2 _ sM_0 (by decide)).trans ((dg_uf_F e_720 0 2).trans (m_2.1 0 2 _ sM_0 (by decide))))).trans f_sl) (by omega) (by omega) I_1991 H.size) (cwV 0 hts (bw_V wB_1161 wB_1162 wB_1163 wB_881 wB_1160) rfl rfl rfl (by decide +kernel) ⟨Nat.le_of_ble_eq_true rfl, Nat.le_of_ble_eq_true rfl⟩) (dg_preV sM_0 rfl K ST hP hS hA1 hA) rfl rfl hl.1 rfl (lv_room (Nat.le_of_ble_eq_true rfl)) dX12_operand_477 ⟨Nat.le_of_ble_eq_true rfl, Nat.le_of_ble_eq_true rfl⟩) (fun S_1994 hw_1994 H locs hP hS => ?_)
                              obtain ⟨I_1994, m_1994, w_1994_0, -⟩ := hw_1994
                              have M_1994 := dg_sm.tr M_1991 m_1994 (by decide) (by decide)
                              obtain ⟨y_1995, y_1996, y_1997, f_y_1995, f_y_1996, f_y_1997, w_1994_0⟩ := w_1994_0
                              have w_1994_0 : (se).toInt ≤ (y_1996).toInt ∧ (y_1996).toInt ≤ (y_1997).toInt ∧ (y_1997).toInt ≤ (sl).toInt ∧ ((y_1995).toInt ≠ 0 → (y_1996).toInt + 1 ≤ (y_1997).toInt) := w_1994_0
                              have b_y_1995 : 0 ≤ (y_1995).toInt ∧ (y_1995).toInt ≤ 3 := dg_I.intb (lo := 0) (hi := 3) I_1994 sM_0 (by decide +kernel) f_y_1995
                              have b_y_1996 : 0 ≤ (y_1996).toInt ∧ (y_1996).toInt ≤ 1600 := dg_I.intb (lo := 0) (hi := 1600) I_1994 sM_0 (by decide +kernel) f_y_1996
                              have b_y_1997 : 0 ≤ (y_1997).toInt ∧ (y_1997).toInt ≤ 1600 := dg_I.intb (lo := 0) (hi := 1600) I_1994 sM_0 (by decide +kernel) f_y_1997
                              refine lv_iconst (v := 1) hx hb dX12_operand_480 (by decide +kernel) ?_
                              have hz_1998 : (1 : Int32).toInt = 1 := by decide +kernel
                              have hz_1999 : (1 : Int32).toInt = 1 := by decide +kernel
                              have hz_2000 : (1 : Int32).toInt = 1 := by decide +kernel
                              have hz_2001 : (1 : Int32).toInt = 1 := by decide +kernel
                              refine W.widen (k := 0) (n := 0) (Nat.le_of_ble_eq_true rfl) (Nat.le_of_ble_eq_true rfl) ?_
                              exact dg_iret hx hb hr hlocks (by decide +kernel) hP hS ⟨I_1994, M_1994, (by decide +kernel), ⟨y_1995, y_1996, y_1997, y_1988, y_1993, dp, om, f_y_1995, f_y_1996, f_y_1997, (((m_1994.1 0 8 _ sM_0 (by decide)).trans (m_1991.1 0 8 _ sM_0 (by decide))).trans f_y_1988), ((m_1994.1 0 34 _ sM_0 (by decide)).trans f_y_1993), (((m_1994.1 0 42 _ sM_0 (by decide)).trans ((m_1991.1 0 42 _ sM_0 (by decide)).trans ((m_1986.1 0 42 _ sM_0 (by decide)).trans ((dg_uf_F e_720 0 42).trans (m_2.1 0 42 _ sM_0 (by decide)))))).trans f_dp), (((m_1994.1 0 45 _ sM_0 (by decide)).trans ((m_1991.1 0 45 _ sM_0 (by decide)).trans ((m_1986.1 0 45 _ sM_0 (by decide)).trans ((dg_uf_F e_720 0 45).trans (m_2.1 0 45 _ sM_0 (by decide)))))).trans f_om), (by omega)⟩, (fun k9 hk9 hk0 => ⟨fun _ => (P1M.keep P1_1991 m_1994 (by decide) (by decide) (by decide) (by decide) (by decide) (by decide) (by decide) (by decide) (by decide) (by decide) (by decide) (by decide) (by decide) (by decide) (by decide)), fun h9 => absurd h9 (by decide +kernel)⟩), (ZWM.keep w_1991_2 m_1994 (by decide) (by decide) (by decide) (by decide)), trivial⟩ dX12_operand_481
                            · have jc_1989 := dk_nlec (k := 0) (by decide +kernel) c_1989
                              refine lv_iconst (v := 1) hx hb dX12_operand_465 (by decide +kernel) ?_
                              have hz_2002 : (1 : Int32).toInt = 1 := by decide +kernel
                              have hz_2003 : (1 : Int32).toInt = 1 := by decide +kernel
                              have hz_2004 : (1 : Int32).toInt = 1 := by decide +kernel
                              have hz_2005 : (1 : Int32).toInt = 1 := by decide +kernel
                              refine W.widen (k := 0) (n := 0) (Nat.le_of_ble_eq_true rfl) (Nat.le_of_ble_eq_true rfl) ?_
                              exact dg_iret hx hb hr hlocks (by decide +kernel) hP hS ⟨I_1986, M_1986, (by decide +kernel), ⟨sg, sa, se, y_1988, cd, dp, om, (((m_1986.1 0 3 _ sM_0 (by decide)).trans ((dg_uf_F e_720 0 3).trans (m_2.1 0 3 _ sM_0 (by decide)))).trans f_sg), (((m_1986.1 0 4 _ sM_0 (by decide)).trans ((dg_uf_F e_720 0 4).trans (m_2.1 0 4 _ sM_0 (by decide)))).trans f_sa), (((m_1986.1 0 5 _ sM_0 (by decide)).trans ((dg_uf_F e_720 0 5).trans (m_2.1 0 5 _ sM_0 (by decide)))).trans f_se), f_y_1988, (((m_1986.1 0 34 _ sM_0 (by decide)).trans ((dg_uf_F e_720 0 34).trans (m_2.1 0 34 _ sM_0 (by decide)))).trans f_cd), (((m_1986.1 0 42 _ sM_0 (by decide)).trans ((dg_uf_F e_720 0 42).trans (m_2.1 0 42 _ sM_0 (by decide)))).trans f_dp), (((m_1986.1 0 45 _ sM_0 (by decide)).trans ((dg_uf_F e_720 0 45).trans (m_2.1 0 45 _ sM_0 (by decide)))).trans f_om), (by omega)⟩, (fun k9 hk9 hk0 => by have q9 := (f_y_1988).symm.trans hk9; cases q9; omega), (ZWM.keep (ZWM.keep (ZWM.keep ZW m_2 (by decide) (by decide) (by decide) (by decide)) (dg_sm.uf (WF := []) (WA := [24]) dg_sm.rf e_720 sM_24 (by decide)) (by decide) (by decide) (by decide) (by decide)) m_1986 (by decide) (by decide) (by decide) (by decide)), trivial⟩ dX12_operand_466
                          · have jc_1984 := dk_eqc (k := 0) (by decide +kernel) c_1984
                            refine lv_iconst (v := 1) hx hb dX12_operand_434 (by decide +kernel) ?_
                            refine lv_goto (tgt := 439) hx hb dX12_operand_435 (by decide) ?_
                            refine lv_icmp_eq (tgt := 444) hx hb dX12_operand_439 (by decide) (fun _ => ?_) (fun c => absurd (by decide +kernel) c)
                            refine lv_iload_n hx hb dX12_operand_444 rfl (lv_at hl 0 rfl) ?_
                            refine lv_iconst (v := (-1)) hx hb dX12_operand_445 (by decide +kernel) ?_
                            refine lv_icmp_ne (tgt := 458) hx hb dX12_operand_446 (by decide) (fun _ => ?_) (fun c => absurd c (fun z => absurd (dk_eqc (k := (-1)) (by decide +kernel) z) (by omega)))
                            refine lv_aload_n hx hb dX12_operand_458 rfl (lv_at hl 3 rfl) ?_
                            refine dg_get (C := RX12) (T := TX12) (N := 77) hx hb hts (fun w h => bw_mem (wU_X12 w h)) hown K hP sM_0 rfl 8 (by decide) (hts _ (bw_mem wB_1133)) (fun _ h9 => h9) (v := .int y_3) ((dg_uf_F e_720 0 8).trans f_y_3) dX12_operand_459 ?_
                            refine lv_if_le (tgt := 467) hx hb dX12_operand_462 (by decide) (fun _ => ?_) (fun c => absurd (dk_lep (k := 0) (by decide +kernel) (by omega)) c)
                            refine lv_aload_n hx hb dX12_operand_467 rfl (lv_at hl 3 rfl) ?_
                            refine lv_iload_n hx hb dX12_operand_468 rfl (lv_at hl 0 rfl) ?_
                            refine lv_aload_n hx hb dX12_operand_469 rfl (lv_at hl 3 rfl) ?_
                            refine dg_get (C := RX12) (T := TX12) (N := 77) hx hb hts (fun w h => bw_mem (wU_X12 w h)) hown K hP sM_0 rfl 6 (by decide) (hts _ (bw_mem wB_1141)) (fun _ h9 => h9) (v := .int va) (((dg_uf_F e_720 0 6).trans (m_2.1 0 6 _ sM_0 (by decide))).trans f_va) dX12_operand_470 ?_
                            refine dg_callv hS hA1 hA (va_runV (As := [.int x_1818, .int va]) (rest := []) F (c_m_add l g D o S_720 x_1818 (by omega) va cd (((dg_uf_F e_720 0 34).trans (m_2.1 0 34 _ sM_0 (by decide))).trans f_cd) (by omega) (ZWM.keep (ZWM.keep ZW m_2 (by decide) (by decide) (by decide) (by decide)) (dg_sm.uf (WF := []) (WA := [24]) dg_sm.rf e_720 sM_24 (by decide)) (by decide) (by decide) (by decide) (by decide)) (ZKM.keep (ZKM.keep ZK m_2 (by decide) (by decide)) (dg_sm.uf (WF := []) (WA := [24]) dg_sm.rf e_720 sM_24 (by decide)) (by decide) (by decide)) I_720 H.size) (cwV 2 hts (bw_V wB_1209 wB_1210 wB_1211 wB_881 wB_1208) rfl rfl rfl (by decide +kernel) ⟨Nat.le_of_ble_eq_true rfl, Nat.le_of_ble_eq_true rfl⟩) (dg_preV sM_0 rfl K ST hP hS hA1 hA) rfl rfl hl.1 rfl (lv_room (Nat.le_of_ble_eq_true rfl)) dX12_operand_473 ⟨Nat.le_of_ble_eq_true rfl, Nat.le_of_ble_eq_true rfl⟩) (fun S_2006 hw_2006 H locs hP hS => ?_)
                            obtain ⟨I_2006, m_2006, w_2006_0, w_2006_1, w_2006_2, -⟩ := hw_2006
                            have M_2006 := dg_sm.tr M_720 m_2006 (by decide) (by decide)
                            obtain ⟨y_2007, f_y_2007, w_2006_0⟩ := w_2006_0
                            have w_2006_0 : (y_2007).toInt = (cd).toInt + 1 := w_2006_0
                            have b_y_2007 : 0 ≤ (y_2007).toInt ∧ (y_2007).toInt ≤ 1600 := dg_I.intb (lo := 0) (hi := 1600) I_2006 sM_0 (by decide +kernel) f_y_2007
                            have w_2006_1 : ADM S_720 S_2006 x_1818 := w_2006_1
                            have P1_2006 : P1M S_2006 := PBM.leaf PB_720 (((dg_uf_F e_720 0 42).trans (m_2.1 0 42 _ sM_0 (by decide))).trans f_dp) (((dg_uf_F e_720 0 43).trans (m_2.1 0 43 _ sM_0 (by decide))).trans f_on) (((dg_uf_F e_720 0 45).trans (m_2.1 0 45 _ sM_0 (by decide))).trans f_om) m_2006 w_2006_1 (by omega)
                            refine lv_aload_n hx hb dX12_operand_476 rfl (lv_at hl 3 rfl) ?_
                            refine dg_callv hS hA1 hA (va_runV (As := []) (rest := []) F (c_m_ahead l g D o S_2006 se (((m_2006.1 0 5 _ sM_0 (by decide)).trans ((dg_uf_F e_720 0 5).trans (m_2.1 0 5 _ sM_0 (by decide)))).trans f_se) (by omega) sl (((m_2006.1 0 2 _ sM_0 (by decide)).trans ((dg_uf_F e_720 0 2).trans (m_2.1 0 2 _ sM_0 (by decide)))).trans f_sl) (by omega) (by omega) I_2006 H.size) (cwV 0 hts (bw_V wB_1161 wB_1162 wB_1163 wB_881 wB_1160) rfl rfl rfl (by decide +kernel) ⟨Nat.le_of_ble_eq_true rfl, Nat.le_of_ble_eq_true rfl⟩) (dg_preV sM_0 rfl K ST hP hS hA1 hA) rfl rfl hl.1 rfl (lv_room (Nat.le_of_ble_eq_true rfl)) dX12_operand_477 ⟨Nat.le_of_ble_eq_true rfl, Nat.le_of_ble_eq_true rfl⟩) (fun S_2008 hw_2008 H locs hP hS => ?_)
                            obtain ⟨I_2008, m_2008, w_2008_0, -⟩ := hw_2008
                            have M_2008 := dg_sm.tr M_2006 m_2008 (by decide) (by decide)
                            obtain ⟨y_2009, y_2010, y_2011, f_y_2009, f_y_2010, f_y_2011, w_2008_0⟩ := w_2008_0
                            have w_2008_0 : (se).toInt ≤ (y_2010).toInt ∧ (y_2010).toInt ≤ (y_2011).toInt ∧ (y_2011).toInt ≤ (sl).toInt ∧ ((y_2009).toInt ≠ 0 → (y_2010).toInt + 1 ≤ (y_2011).toInt) := w_2008_0
                            have b_y_2009 : 0 ≤ (y_2009).toInt ∧ (y_2009).toInt ≤ 3 := dg_I.intb (lo := 0) (hi := 3) I_2008 sM_0 (by decide +kernel) f_y_2009
                            have b_y_2010 : 0 ≤ (y_2010).toInt ∧ (y_2010).toInt ≤ 1600 := dg_I.intb (lo := 0) (hi := 1600) I_2008 sM_0 (by decide +kernel) f_y_2010
                            have b_y_2011 : 0 ≤ (y_2011).toInt ∧ (y_2011).toInt ≤ 1600 := dg_I.intb (lo := 0) (hi := 1600) I_2008 sM_0 (by decide +kernel) f_y_2011
                            refine lv_iconst (v := 1) hx hb dX12_operand_480 (by decide +kernel) ?_
                            have hz_2012 : (1 : Int32).toInt = 1 := by decide +kernel
                            have hz_2013 : (1 : Int32).toInt = 1 := by decide +kernel
                            have hz_2014 : (1 : Int32).toInt = 1 := by decide +kernel
                            have hz_2015 : (1 : Int32).toInt = 1 := by decide +kernel
                            refine W.widen (k := 0) (n := 0) (Nat.le_of_ble_eq_true rfl) (Nat.le_of_ble_eq_true rfl) ?_
                            exact dg_iret hx hb hr hlocks (by decide +kernel) hP hS ⟨I_2008, M_2008, (by decide +kernel), ⟨y_2009, y_2010, y_2011, y_3, y_2007, dp, om, f_y_2009, f_y_2010, f_y_2011, (((m_2008.1 0 8 _ sM_0 (by decide)).trans ((m_2006.1 0 8 _ sM_0 (by decide)).trans (dg_uf_F e_720 0 8))).trans f_y_3), ((m_2008.1 0 34 _ sM_0 (by decide)).trans f_y_2007), (((m_2008.1 0 42 _ sM_0 (by decide)).trans ((m_2006.1 0 42 _ sM_0 (by decide)).trans ((dg_uf_F e_720 0 42).trans (m_2.1 0 42 _ sM_0 (by decide))))).trans f_dp), (((m_2008.1 0 45 _ sM_0 (by decide)).trans ((m_2006.1 0 45 _ sM_0 (by decide)).trans ((dg_uf_F e_720 0 45).trans (m_2.1 0 45 _ sM_0 (by decide))))).trans f_om), (by omega)⟩, (fun k9 hk9 hk0 => ⟨fun _ => (P1M.keep P1_2006 m_2008 (by decide) (by decide) (by decide) (by decide) (by decide) (by decide) (by decide) (by decide) (by decide) (by decide) (by decide) (by decide) (by decide) (by decide) (by decide)), fun h9 => absurd h9 (by decide +kernel)⟩), (ZWM.keep w_2006_2 m_2008 (by decide) (by decide) (by decide) (by decide)), trivial⟩ dX12_operand_481
                    refine lv_icmp_ne (tgt := 325) hx hb dX12_operand_318 (by decide) (fun c_2016 => ?_) (fun c_2016 => ?_)
                    · have jc_2016 := dk_neqc (k := 2) (by decide +kernel) c_2016
                      refine lv_aload_n hx hb dX12_operand_325 rfl (lv_at hl 2 rfl) ?_
                      refine lv_ldc2 hx hb hown (hts _ (bw_mem wB_1173)) dX12_operand_326 ?_
                      refine dg_calli hS hA1 hA (va_runV (As := [.long 444300616805]) (rest := []) F (c_m_isWord l g D o S_720 444300616805 sg (((dg_uf_F e_720 0 3).trans (m_2.1 0 3 _ sM_0 (by decide))).trans f_sg) (by omega) I_720 H.size) (cwV 1 hts (bw_V wB_1165 wB_1166 wB_1167 wB_881 wB_1164) rfl rfl rfl (by decide +kernel) ⟨Nat.le_of_ble_eq_true rfl, Nat.le_of_ble_eq_true rfl⟩) (dg_preV sM_0 rfl K ST hP hS hA1 hA) rfl rfl hl.1 rfl (lv_room (Nat.le_of_ble_eq_true rfl)) dX12_operand_329 ⟨Nat.le_of_ble_eq_true rfl, Nat.le_of_ble_eq_true rfl⟩) (fun x_2017 S_2018 hw_2018 H locs hP hS => ?_)
                      rw [hw_2018.1] at hP
                      obtain ⟨hq_2018, w_2018_0, w_2018_1, -⟩ := hw_2018
                      have w_2018_0 : 0 ≤ (x_2017).toInt ∧ (x_2017).toInt ≤ 1 := w_2018_0
                      have w_2018_1 : (x_2017).toInt = 1 → (sg).toInt = 1 := w_2018_1
                      refine lv_if_eq (tgt := 339) hx hb dX12_operand_332 (by decide) (fun c_2019 => ?_) (fun c_2019 => ?_)
                      · have jc_2019 := dk_eqc (k := 0) (by decide +kernel) c_2019
                        clear w_2018_1
                        refine lv_aload_n hx hb dX12_operand_339 rfl (lv_at hl 2 rfl) ?_
                        refine lv_ldc2 hx hb hown (hts _ (bw_mem wB_1183)) dX12_operand_340 ?_
                        refine dg_calli hS hA1 hA (va_runV (As := [.long 431198598248]) (rest := []) F (c_m_isWord l g D o S_720 431198598248 sg (((dg_uf_F e_720 0 3).trans (m_2.1 0 3 _ sM_0 (by decide))).trans f_sg) (by omega) I_720 H.size) (cwV 1 hts (bw_V wB_1165 wB_1166 wB_1167 wB_881 wB_1164) rfl rfl rfl (by decide +kernel) ⟨Nat.le_of_ble_eq_true rfl, Nat.le_of_ble_eq_true rfl⟩) (dg_preV sM_0 rfl K ST hP hS hA1 hA) rfl rfl hl.1 rfl (lv_room (Nat.le_of_ble_eq_true rfl)) dX12_operand_343 ⟨Nat.le_of_ble_eq_true rfl, Nat.le_of_ble_eq_true rfl⟩) (fun x_2020 S_2021 hw_2021 H locs hP hS => ?_)
                        rw [hw_2021.1] at hP
                        obtain ⟨hq_2021, w_2021_0, w_2021_1, -⟩ := hw_2021
                        have w_2021_0 : 0 ≤ (x_2020).toInt ∧ (x_2020).toInt ≤ 1 := w_2021_0
                        have w_2021_1 : (x_2020).toInt = 1 → (sg).toInt = 1 := w_2021_1
                        refine lv_if_eq (tgt := 353) hx hb dX12_operand_346 (by decide) (fun c_2022 => ?_) (fun c_2022 => ?_)
                        · have jc_2022 := dk_eqc (k := 0) (by decide +kernel) c_2022
                          clear w_2021_1
                          refine lv_aload_n hx hb dX12_operand_353 rfl (lv_at hl 2 rfl) ?_
                          refine lv_ldc2 hx hb hown (hts _ (bw_mem wB_1184)) dX12_operand_354 ?_
                          refine dg_calli hS hA1 hA (va_runV (As := [.long 495672977012]) (rest := []) F (c_m_isWord l g D o S_720 495672977012 sg (((dg_uf_F e_720 0 3).trans (m_2.1 0 3 _ sM_0 (by decide))).trans f_sg) (by omega) I_720 H.size) (cwV 1 hts (bw_V wB_1165 wB_1166 wB_1167 wB_881 wB_1164) rfl rfl rfl (by decide +kernel) ⟨Nat.le_of_ble_eq_true rfl, Nat.le_of_ble_eq_true rfl⟩) (dg_preV sM_0 rfl K ST hP hS hA1 hA) rfl rfl hl.1 rfl (lv_room (Nat.le_of_ble_eq_true rfl)) dX12_operand_357 ⟨Nat.le_of_ble_eq_true rfl, Nat.le_of_ble_eq_true rfl⟩) (fun x_2023 S_2024 hw_2024 H locs hP hS => ?_)
                          rw [hw_2024.1] at hP
                          obtain ⟨hq_2024, w_2024_0, w_2024_1, -⟩ := hw_2024
                          have w_2024_0 : 0 ≤ (x_2023).toInt ∧ (x_2023).toInt ≤ 1 := w_2024_0
                          have w_2024_1 : (x_2023).toInt = 1 → (sg).toInt = 1 := w_2024_1
                          refine lv_if_eq (tgt := 367) hx hb dX12_operand_360 (by decide) (fun c_2025 => ?_) (fun c_2025 => ?_)
                          · have jc_2025 := dk_eqc (k := 0) (by decide +kernel) c_2025
                            clear w_2024_1
                            refine lv_aload_n hx hb dX12_operand_367 rfl (lv_at hl 2 rfl) ?_
                            refine lv_ldc2 hx hb hown (hts _ (bw_mem wB_1185)) dX12_operand_368 ?_
                            refine dg_calli hS hA1 hA (va_runV (As := [.long 6709618]) (rest := []) F (c_m_isWord l g D o S_720 6709618 sg (((dg_uf_F e_720 0 3).trans (m_2.1 0 3 _ sM_0 (by decide))).trans f_sg) (by omega) I_720 H.size) (cwV 1 hts (bw_V wB_1165 wB_1166 wB_1167 wB_881 wB_1164) rfl rfl rfl (by decide +kernel) ⟨Nat.le_of_ble_eq_true rfl, Nat.le_of_ble_eq_true rfl⟩) (dg_preV sM_0 rfl K ST hP hS hA1 hA) rfl rfl hl.1 rfl (lv_room (Nat.le_of_ble_eq_true rfl)) dX12_operand_371 ⟨Nat.le_of_ble_eq_true rfl, Nat.le_of_ble_eq_true rfl⟩) (fun x_2026 S_2027 hw_2027 H locs hP hS => ?_)
                            rw [hw_2027.1] at hP
                            obtain ⟨hq_2027, w_2027_0, w_2027_1, -⟩ := hw_2027
                            have w_2027_0 : 0 ≤ (x_2026).toInt ∧ (x_2026).toInt ≤ 1 := w_2027_0
                            have w_2027_1 : (x_2026).toInt = 1 → (sg).toInt = 1 := w_2027_1
                            refine lv_if_eq (tgt := 381) hx hb dX12_operand_374 (by decide) (fun c_2028 => ?_) (fun c_2028 => ?_)
                            · have jc_2028 := dk_eqc (k := 0) (by decide +kernel) c_2028
                              clear w_2027_1
                              refine lv_aload_n hx hb dX12_operand_381 rfl (lv_at hl 2 rfl) ?_
                              refine lv_ldc2 hx hb hown (hts _ (bw_mem wB_1186)) dX12_operand_382 ?_
                              refine dg_calli hS hA1 hA (va_runV (As := [.long 1869636974]) (rest := []) F (c_m_isWord l g D o S_720 1869636974 sg (((dg_uf_F e_720 0 3).trans (m_2.1 0 3 _ sM_0 (by decide))).trans f_sg) (by omega) I_720 H.size) (cwV 1 hts (bw_V wB_1165 wB_1166 wB_1167 wB_881 wB_1164) rfl rfl rfl (by decide +kernel) ⟨Nat.le_of_ble_eq_true rfl, Nat.le_of_ble_eq_true rfl⟩) (dg_preV sM_0 rfl K ST hP hS hA1 hA) rfl rfl hl.1 rfl (lv_room (Nat.le_of_ble_eq_true rfl)) dX12_operand_385 ⟨Nat.le_of_ble_eq_true rfl, Nat.le_of_ble_eq_true rfl⟩) (fun x_2029 S_2030 hw_2030 H locs hP hS => ?_)
                              rw [hw_2030.1] at hP
                              obtain ⟨hq_2030, w_2030_0, w_2030_1, -⟩ := hw_2030
                              have w_2030_0 : 0 ≤ (x_2029).toInt ∧ (x_2029).toInt ≤ 1 := w_2030_0
                              have w_2030_1 : (x_2029).toInt = 1 → (sg).toInt = 1 := w_2030_1
                              refine lv_if_eq (tgt := 395) hx hb dX12_operand_388 (by decide) (fun c_2031 => ?_) (fun c_2031 => ?_)
                              · have jc_2031 := dk_eqc (k := 0) (by decide +kernel) c_2031
                                clear w_2030_1
                                refine lv_aload_n hx hb dX12_operand_395 rfl (lv_at hl 2 rfl) ?_
                                refine lv_ldc2 hx hb hown (hts _ (bw_mem wB_1187)) dX12_operand_396 ?_
                                refine dg_calli hS hA1 hA (va_runV (As := [.long 7104884]) (rest := []) F (c_m_isWord l g D o S_720 7104884 sg (((dg_uf_F e_720 0 3).trans (m_2.1 0 3 _ sM_0 (by decide))).trans f_sg) (by omega) I_720 H.size) (cwV 1 hts (bw_V wB_1165 wB_1166 wB_1167 wB_881 wB_1164) rfl rfl rfl (by decide +kernel) ⟨Nat.le_of_ble_eq_true rfl, Nat.le_of_ble_eq_true rfl⟩) (dg_preV sM_0 rfl K ST hP hS hA1 hA) rfl rfl hl.1 rfl (lv_room (Nat.le_of_ble_eq_true rfl)) dX12_operand_399 ⟨Nat.le_of_ble_eq_true rfl, Nat.le_of_ble_eq_true rfl⟩) (fun x_2032 S_2033 hw_2033 H locs hP hS => ?_)
                                rw [hw_2033.1] at hP
                                obtain ⟨hq_2033, w_2033_0, w_2033_1, -⟩ := hw_2033
                                have w_2033_0 : 0 ≤ (x_2032).toInt ∧ (x_2032).toInt ≤ 1 := w_2033_0
                                have w_2033_1 : (x_2032).toInt = 1 → (sg).toInt = 1 := w_2033_1
                                refine lv_if_eq (tgt := 410) hx hb dX12_operand_402 (by decide) (fun c_2034 => ?_) (fun c_2034 => ?_)
                                · have jc_2034 := dk_eqc (k := 0) (by decide +kernel) c_2034
                                  clear w_2033_1
                                  refine lv_iconst (v := (-1)) hx hb dX12_operand_410 (by decide +kernel) ?_
                                  have hz_2035 : (-1 : Int32).toInt = (-1) := by decide +kernel
                                  have hz_2036 : (-1 : Int32).toInt = (-1) := by decide +kernel
                                  exact J_1917 (-1) (by decide +kernel) (by omega) _ _ hP hS _ (lv_sub hl [0, 1, 2] rfl)
                                · have jc_2034 := dk_neqc (k := 0) (by decide +kernel) c_2034
                                  have w_2033_1_r := w_2033_1 (by omega)
                                  clear w_2033_1
                                  refine lv_bipush (v := 6) hx hb dX12_operand_405 (by decide +kernel) ?_
                                  refine lv_goto (tgt := 411) hx hb dX12_operand_407 (by decide) ?_
                                  have hz_2037 : (6 : Int32).toInt = 6 := by decide +kernel
                                  have hz_2038 : (6 : Int32).toInt = 6 := by decide +kernel
                                  exact J_1917 6 (by decide +kernel) (by omega) _ _ hP hS _ (lv_sub hl [0, 1, 2] rfl)
                              · have jc_2031 := dk_neqc (k := 0) (by decide +kernel) c_2031
                                have w_2030_1_r := w_2030_1 (by omega)
                                clear w_2030_1
                                refine lv_iconst (v := 5) hx hb dX12_operand_391 (by decide +kernel) ?_
                                refine lv_goto (tgt := 411) hx hb dX12_operand_392 (by decide) ?_
                                have hz_2039 : (5 : Int32).toInt = 5 := by decide +kernel
                                have hz_2040 : (5 : Int32).toInt = 5 := by decide +kernel
                                exact J_1917 5 (by decide +kernel) (by omega) _ _ hP hS _ (lv_sub hl [0, 1, 2] rfl)
                            · have jc_2028 := dk_neqc (k := 0) (by decide +kernel) c_2028
                              have w_2027_1_r := w_2027_1 (by omega)
                              clear w_2027_1
                              refine lv_iconst (v := 4) hx hb dX12_operand_377 (by decide +kernel) ?_
                              refine lv_goto (tgt := 411) hx hb dX12_operand_378 (by decide) ?_
                              have hz_2041 : (4 : Int32).toInt = 4 := by decide +kernel
                              have hz_2042 : (4 : Int32).toInt = 4 := by decide +kernel
                              exact J_1917 4 (by decide +kernel) (by omega) _ _ hP hS _ (lv_sub hl [0, 1, 2] rfl)
                          · have jc_2025 := dk_neqc (k := 0) (by decide +kernel) c_2025
                            have w_2024_1_r := w_2024_1 (by omega)
                            clear w_2024_1
                            refine lv_iconst (v := 3) hx hb dX12_operand_363 (by decide +kernel) ?_
                            refine lv_goto (tgt := 411) hx hb dX12_operand_364 (by decide) ?_
                            have hz_2043 : (3 : Int32).toInt = 3 := by decide +kernel
                            have hz_2044 : (3 : Int32).toInt = 3 := by decide +kernel
                            exact J_1917 3 (by decide +kernel) (by omega) _ _ hP hS _ (lv_sub hl [0, 1, 2] rfl)
                        · have jc_2022 := dk_neqc (k := 0) (by decide +kernel) c_2022
                          have w_2021_1_r := w_2021_1 (by omega)
                          clear w_2021_1
                          refine lv_iconst (v := 2) hx hb dX12_operand_349 (by decide +kernel) ?_
                          refine lv_goto (tgt := 411) hx hb dX12_operand_350 (by decide) ?_
                          have hz_2045 : (2 : Int32).toInt = 2 := by decide +kernel
                          have hz_2046 : (2 : Int32).toInt = 2 := by decide +kernel
                          exact J_1917 2 (by decide +kernel) (by omega) _ _ hP hS _ (lv_sub hl [0, 1, 2] rfl)
                      · have jc_2019 := dk_neqc (k := 0) (by decide +kernel) c_2019
                        have w_2018_1_r := w_2018_1 (by omega)
                        clear w_2018_1
                        refine lv_iconst (v := 1) hx hb dX12_operand_335 (by decide +kernel) ?_
                        refine lv_goto (tgt := 411) hx hb dX12_operand_336 (by decide) ?_
                        have hz_2047 : (1 : Int32).toInt = 1 := by decide +kernel
                        have hz_2048 : (1 : Int32).toInt = 1 := by decide +kernel
                        exact J_1917 1 (by decide +kernel) (by omega) _ _ hP hS _ (lv_sub hl [0, 1, 2] rfl)
                    · have jc_2016 := dk_eqc (k := 2) (by decide +kernel) c_2016
                      refine lv_iconst (v := 0) hx hb dX12_operand_321 (by decide +kernel) ?_
                      refine lv_goto (tgt := 411) hx hb dX12_operand_322 (by decide) ?_
                      have hz_2049 : (0 : Int32).toInt = 0 := by decide +kernel
                      have hz_2050 : (0 : Int32).toInt = 0 := by decide +kernel
                      exact J_1917 0 (by decide +kernel) (by omega) _ _ hP hS _ (lv_sub hl [0, 1, 2] rfl)
                  · have jc_1798 := dk_neqc (k := 0) (by decide +kernel) c_1798
                    have w_1797_1_r := w_1797_1 (by omega)
                    clear w_1797_1
                    exact J_1555  (by omega) _ _ hP hS _ (lv_sub hl [0, 1, 2] rfl)
            · have jc_1311 := dk_neqc (k := 0) (by decide +kernel) c_1311
              have w_1309_1_r := w_1309_1.mp (by omega)
              clear w_1309_1
              refine lv_aload_n hx hb dX12_operand_180 rfl (lv_at hl 2 rfl) ?_
              refine lv_iconst (v := 2) hx hb dX12_operand_181 (by decide +kernel) ?_
              have hz_2051 : (2 : Int32).toInt = 2 := by decide +kernel
              refine dg_callv hS hA1 hA (va_runV (As := [.int 2]) (rest := []) F (c_m_frames l g D o S_720 2 (by decide +kernel) sg (((dg_uf_F e_720 0 3).trans (m_2.1 0 3 _ sM_0 (by decide))).trans f_sg) (by omega) sa (((dg_uf_F e_720 0 4).trans (m_2.1 0 4 _ sM_0 (by decide))).trans f_sa) (by omega) se (((dg_uf_F e_720 0 5).trans (m_2.1 0 5 _ sM_0 (by decide))).trans f_se) (by omega) sl (((dg_uf_F e_720 0 2).trans (m_2.1 0 2 _ sM_0 (by decide))).trans f_sl) (by omega) y_3 ((dg_uf_F e_720 0 8).trans f_y_3) (by omega) dp (((dg_uf_F e_720 0 42).trans (m_2.1 0 42 _ sM_0 (by decide))).trans f_dp) (by omega) om (((dg_uf_F e_720 0 45).trans (m_2.1 0 45 _ sM_0 (by decide))).trans f_om) (by omega) on (((dg_uf_F e_720 0 43).trans (m_2.1 0 43 _ sM_0 (by decide))).trans f_on) (by omega) (by omega) I_720 H.size) (cwV 1 hts (bw_V wB_1228 wB_1229 wB_1230 wB_881 wB_1227) rfl rfl rfl (by decide +kernel) ⟨Nat.le_of_ble_eq_true rfl, Nat.le_of_ble_eq_true rfl⟩) (dg_preV sM_0 rfl K ST hP hS hA1 hA) rfl rfl hl.1 rfl (lv_room (Nat.le_of_ble_eq_true rfl)) dX12_operand_182 ⟨Nat.le_of_ble_eq_true rfl, Nat.le_of_ble_eq_true rfl⟩) (fun S_2052 hw_2052 H locs hP hS => ?_)
              obtain ⟨I_2052, m_2052, w_2052_0, w_2052_1, -⟩ := hw_2052
              have M_2052 := dg_sm.tr M_720 m_2052 (by decide) (by decide)
              have hz_2053 : (2 : Int32).toInt = 2 := by decide +kernel
              obtain ⟨y_2054, y_2055, y_2056, y_2057, y_2058, f_y_2054, f_y_2055, f_y_2056, f_y_2057, f_y_2058, w_2052_0⟩ := w_2052_0
              have w_2052_0 : ((y_2055).toInt ≤ (y_2056).toInt ∧ (y_2056).toInt ≤ (sl).toInt ∧ ((y_2054).toInt ≠ 0 → (y_2055).toInt + 1 ≤ (y_2056).toInt)) ∧ (sa).toInt ≤ (y_2055).toInt ∧ ((y_3).toInt ≠ 0 → (y_2057).toInt ≠ 0) ∧ (((y_2057).toInt = 0 → ((sa).toInt + 1 ≤ (y_2055).toInt ∧ (y_2058).toInt = (dp).toInt + 1))) := w_2052_0
              have b_y_2054 : 0 ≤ (y_2054).toInt ∧ (y_2054).toInt ≤ 3 := dg_I.intb (lo := 0) (hi := 3) I_2052 sM_0 (by decide +kernel) f_y_2054
              have b_y_2055 : 0 ≤ (y_2055).toInt ∧ (y_2055).toInt ≤ 1600 := dg_I.intb (lo := 0) (hi := 1600) I_2052 sM_0 (by decide +kernel) f_y_2055
              have b_y_2056 : 0 ≤ (y_2056).toInt ∧ (y_2056).toInt ≤ 1600 := dg_I.intb (lo := 0) (hi := 1600) I_2052 sM_0 (by decide +kernel) f_y_2056
              have b_y_2057 : 0 ≤ (y_2057).toInt ∧ (y_2057).toInt ≤ 6 := dg_I.intb (lo := 0) (hi := 6) I_2052 sM_0 (by decide +kernel) f_y_2057
              have b_y_2058 : 0 ≤ (y_2058).toInt ∧ (y_2058).toInt ≤ 20 := dg_I.intb (lo := 0) (hi := 20) I_2052 sM_0 (by decide +kernel) f_y_2058
              have w_2052_1 : ∀ k9 : Int32, S_2052.1 0 8 = .int k9 → k9.toInt = 0 → FRM S_720 S_2052 (2 : Int32) := w_2052_1
              obtain ⟨x_2059, f_x_2059, b_x_2059⟩ := dg_I.int (i := 0) (k := 42) (lo := 0) (hi := 20) I_720 sM_0 (by decide +kernel)
              refine lv_iconst (v := 0) hx hb dX12_operand_185 (by decide +kernel) ?_
              have hz_2060 : (0 : Int32).toInt = 0 := by decide +kernel
              have hz_2061 : (0 : Int32).toInt = 0 := by decide +kernel
              obtain ⟨x_2062, f_x_2062, b_x_2062⟩ := dg_I.int (i := 0) (k := 42) (lo := 0) (hi := 20) I_2052 sM_0 (by decide +kernel)
              have hz_2063 : (0 : Int32).toInt = 0 := by decide +kernel
              have hz_2064 : (0 : Int32).toInt = 0 := by decide +kernel
              refine W.widen (k := 0) (n := 0) (Nat.le_of_ble_eq_true rfl) (Nat.le_of_ble_eq_true rfl) ?_
              exact dg_iret hx hb hr hlocks (by decide +kernel) hP hS ⟨I_2052, M_2052, (by decide +kernel), ⟨y_2054, y_2055, y_2056, y_2057, cd, x_2062, om, f_y_2054, f_y_2055, f_y_2056, f_y_2057, (((m_2052.1 0 34 _ sM_0 (by decide)).trans ((dg_uf_F e_720 0 34).trans (m_2.1 0 34 _ sM_0 (by decide)))).trans f_cd), f_x_2062, (((m_2052.1 0 45 _ sM_0 (by decide)).trans ((dg_uf_F e_720 0 45).trans (m_2.1 0 45 _ sM_0 (by decide)))).trans f_om), (by omega)⟩, (fun k9 hk9 hk0 => ⟨fun h9 => absurd h9 (by decide +kernel), fun _ => by first | (exact PBM.opens PB_720 f_x_2059 (((dg_uf_F e_720 0 43).trans (m_2.1 0 43 _ sM_0 (by decide))).trans f_on) (((dg_uf_F e_720 0 45).trans (m_2.1 0 45 _ sM_0 (by decide))).trans f_om) (w_2052_1 k9 hk9 hk0) m_2052 (by decide) (by decide) (by decide) (by decide) (by omega)) | (have q9 := (f_y_2057).symm.trans hk9; cases q9; omega)⟩), (ZWM.keep (ZWM.keep (ZWM.keep ZW m_2 (by decide) (by decide) (by decide) (by decide)) (dg_sm.uf (WF := []) (WA := [24]) dg_sm.rf e_720 sM_24 (by decide)) (by decide) (by decide) (by decide) (by decide)) m_2052 (by decide) (by decide) (by decide) (by decide)), trivial⟩ dX12_operand_186
          refine lv_if_eq (tgt := 171) hx hb dX12_operand_138 (by decide) (fun c_2065 => ?_) (fun c_2065 => ?_)
          · have jc_2065 := dk_eqc (k := 0) (by decide +kernel) c_2065
            exact J_1307   _ _ hP hS _ (lv_sub hl [0, 1, 2] rfl)
          · have jc_2065 := dk_neqc (k := 0) (by decide +kernel) c_2065
            refine lv_aload_n hx hb dX12_operand_141 rfl (lv_at hl 2 rfl) ?_
            refine lv_ldc2 hx hb hown (hts _ (bw_mem wB_1192)) dX12_operand_142 ?_
            refine dg_calli hS hA1 hA (va_runV (As := [.long 6384748]) (rest := []) F (c_m_isWord l g D o S_720 6384748 sg (((dg_uf_F e_720 0 3).trans (m_2.1 0 3 _ sM_0 (by decide))).trans f_sg) (by omega) I_720 H.size) (cwV 1 hts (bw_V wB_1165 wB_1166 wB_1167 wB_881 wB_1164) rfl rfl rfl (by decide +kernel) ⟨Nat.le_of_ble_eq_true rfl, Nat.le_of_ble_eq_true rfl⟩) (dg_preV sM_0 rfl K ST hP hS hA1 hA) rfl rfl hl.1 rfl (lv_room (Nat.le_of_ble_eq_true rfl)) dX12_operand_145 ⟨Nat.le_of_ble_eq_true rfl, Nat.le_of_ble_eq_true rfl⟩) (fun x_2066 S_2067 hw_2067 H locs hP hS => ?_)
            rw [hw_2067.1] at hP
            obtain ⟨hq_2067, w_2067_0, w_2067_1, -⟩ := hw_2067
            have w_2067_0 : 0 ≤ (x_2066).toInt ∧ (x_2066).toInt ≤ 1 := w_2067_0
            have w_2067_1 : (x_2066).toInt = 1 → (sg).toInt = 1 := w_2067_1
            refine lv_if_eq (tgt := 171) hx hb dX12_operand_148 (by decide) (fun c_2068 => ?_) (fun c_2068 => ?_)
            · have jc_2068 := dk_eqc (k := 0) (by decide +kernel) c_2068
              clear w_2067_1
              exact J_1307   _ _ hP hS _ (lv_sub hl [0, 1, 2] rfl)
            · have jc_2068 := dk_neqc (k := 0) (by decide +kernel) c_2068
              have w_2067_1_r := w_2067_1 (by omega)
              clear w_2067_1
              refine lv_aload_n hx hb dX12_operand_151 rfl (lv_at hl 2 rfl) ?_
              refine lv_bipush (v := 30) hx hb dX12_operand_152 (by decide +kernel) ?_
              refine lv_iconst (v := 0) hx hb dX12_operand_154 (by decide +kernel) ?_
              have hz_2069 : (30 : Int32).toInt = 30 := by decide +kernel
              refine dg_callv hS hA1 hA (va_runV (As := [.int 30, .int 0]) (rest := []) F (c_m_add l g D o S_720 30 (by decide +kernel) 0 cd (((dg_uf_F e_720 0 34).trans (m_2.1 0 34 _ sM_0 (by decide))).trans f_cd) (by omega) (ZWM.keep (ZWM.keep ZW m_2 (by decide) (by decide) (by decide) (by decide)) (dg_sm.uf (WF := []) (WA := [24]) dg_sm.rf e_720 sM_24 (by decide)) (by decide) (by decide) (by decide) (by decide)) (ZKM.keep (ZKM.keep ZK m_2 (by decide) (by decide)) (dg_sm.uf (WF := []) (WA := [24]) dg_sm.rf e_720 sM_24 (by decide)) (by decide) (by decide)) I_720 H.size) (cwV 2 hts (bw_V wB_1209 wB_1210 wB_1211 wB_881 wB_1208) rfl rfl rfl (by decide +kernel) ⟨Nat.le_of_ble_eq_true rfl, Nat.le_of_ble_eq_true rfl⟩) (dg_preV sM_0 rfl K ST hP hS hA1 hA) rfl rfl hl.1 rfl (lv_room (Nat.le_of_ble_eq_true rfl)) dX12_operand_155 ⟨Nat.le_of_ble_eq_true rfl, Nat.le_of_ble_eq_true rfl⟩) (fun S_2070 hw_2070 H locs hP hS => ?_)
              obtain ⟨I_2070, m_2070, w_2070_0, w_2070_1, w_2070_2, -⟩ := hw_2070
              have M_2070 := dg_sm.tr M_720 m_2070 (by decide) (by decide)
              have hz_2071 : (30 : Int32).toInt = 30 := by decide +kernel
              have hz_2072 : (0 : Int32).toInt = 0 := by decide +kernel
              obtain ⟨y_2073, f_y_2073, w_2070_0⟩ := w_2070_0
              have w_2070_0 : (y_2073).toInt = (cd).toInt + 1 := w_2070_0
              have b_y_2073 : 0 ≤ (y_2073).toInt ∧ (y_2073).toInt ≤ 1600 := dg_I.intb (lo := 0) (hi := 1600) I_2070 sM_0 (by decide +kernel) f_y_2073
              have w_2070_1 : ADM S_720 S_2070 (30 : Int32) := w_2070_1
              have P1_2070 : P1M S_2070 := PBM.leaf PB_720 (((dg_uf_F e_720 0 42).trans (m_2.1 0 42 _ sM_0 (by decide))).trans f_dp) (((dg_uf_F e_720 0 43).trans (m_2.1 0 43 _ sM_0 (by decide))).trans f_on) (((dg_uf_F e_720 0 45).trans (m_2.1 0 45 _ sM_0 (by decide))).trans f_om) m_2070 w_2070_1 (by omega)
              refine lv_aload_n hx hb dX12_operand_158 rfl (lv_at hl 2 rfl) ?_
              refine dg_get (C := RX12) (T := TX12) (N := 77) hx hb hts (fun w h => bw_mem (wU_X12 w h)) hown K hP sM_0 rfl 38 (by decide) (hts _ (bw_mem wB_1214)) (fun _ h9 => h9) (v := .ref (o + 23)) (show S_2070.1 0 38 = .ref (o + 23) from dg_I.rel (d := 23) I_2070 sM_0 (by decide +kernel)) dX12_operand_159 ?_
              refine lv_iload_n hx hb dX12_operand_162 rfl (lv_at hl 1 rfl) ?_
              refine lv_iconst (v := 2) hx hb dX12_operand_163 (by decide +kernel) ?_
              have hin_2074 : vp_in x_5 20 := (dk_inv (by omega) (by omega))
              have hz_2076 : (2 : Int32).toInt = 2 := by decide +kernel
              refine dg_iast hx hb K hP hS hA1 sM_23 hin_2074 dX12_operand_164 (fun S_2075 e_2075 H locs hP hS => ?_)
              have I_2075 := dg_I.ufu (lo := 0) (hi := 2) I_2070 e_2075 sM_23 (by decide +kernel) (show 0 ≤ ((2 : Int32)).toInt ∧ ((2 : Int32)).toInt ≤ 2 from (by decide +kernel))
              have M_2075 := dg_sm.uf M_2070 e_2075 sM_23 (by decide)
              have hz_2077 : (2 : Int32).toInt = 2 := by decide +kernel
              have P1_2075 : P1M S_2075 := P1M.close5 P1_2070 (((m_2070.1 0 42 _ sM_0 (by decide)).trans ((dg_uf_F e_720 0 42).trans (m_2.1 0 42 _ sM_0 (by decide)))).trans f_dp) (by omega) (by omega) (by omega) e_2075
              refine lv_aload_n hx hb dX12_operand_165 rfl (lv_at hl 2 rfl) ?_
              refine dg_callv hS hA1 hA (va_runV (As := []) (rest := []) F (c_m_ahead l g D o S_2075 se (((dg_uf_F e_2075 0 5).trans ((m_2070.1 0 5 _ sM_0 (by decide)).trans ((dg_uf_F e_720 0 5).trans (m_2.1 0 5 _ sM_0 (by decide))))).trans f_se) (by omega) sl (((dg_uf_F e_2075 0 2).trans ((m_2070.1 0 2 _ sM_0 (by decide)).trans ((dg_uf_F e_720 0 2).trans (m_2.1 0 2 _ sM_0 (by decide))))).trans f_sl) (by omega) (by omega) I_2075 H.size) (cwV 0 hts (bw_V wB_1161 wB_1162 wB_1163 wB_881 wB_1160) rfl rfl rfl (by decide +kernel) ⟨Nat.le_of_ble_eq_true rfl, Nat.le_of_ble_eq_true rfl⟩) (dg_preV sM_0 rfl K ST hP hS hA1 hA) rfl rfl hl.1 rfl (lv_room (Nat.le_of_ble_eq_true rfl)) dX12_operand_166 ⟨Nat.le_of_ble_eq_true rfl, Nat.le_of_ble_eq_true rfl⟩) (fun S_2078 hw_2078 H locs hP hS => ?_)
              obtain ⟨I_2078, m_2078, w_2078_0, -⟩ := hw_2078
              have M_2078 := dg_sm.tr M_2075 m_2078 (by decide) (by decide)
              obtain ⟨y_2079, y_2080, y_2081, f_y_2079, f_y_2080, f_y_2081, w_2078_0⟩ := w_2078_0
              have w_2078_0 : (se).toInt ≤ (y_2080).toInt ∧ (y_2080).toInt ≤ (y_2081).toInt ∧ (y_2081).toInt ≤ (sl).toInt ∧ ((y_2079).toInt ≠ 0 → (y_2080).toInt + 1 ≤ (y_2081).toInt) := w_2078_0
              have b_y_2079 : 0 ≤ (y_2079).toInt ∧ (y_2079).toInt ≤ 3 := dg_I.intb (lo := 0) (hi := 3) I_2078 sM_0 (by decide +kernel) f_y_2079
              have b_y_2080 : 0 ≤ (y_2080).toInt ∧ (y_2080).toInt ≤ 1600 := dg_I.intb (lo := 0) (hi := 1600) I_2078 sM_0 (by decide +kernel) f_y_2080
              have b_y_2081 : 0 ≤ (y_2081).toInt ∧ (y_2081).toInt ≤ 1600 := dg_I.intb (lo := 0) (hi := 1600) I_2078 sM_0 (by decide +kernel) f_y_2081
              refine lv_iconst (v := 1) hx hb dX12_operand_169 (by decide +kernel) ?_
              have hz_2082 : (1 : Int32).toInt = 1 := by decide +kernel
              have hz_2083 : (1 : Int32).toInt = 1 := by decide +kernel
              have hz_2084 : (1 : Int32).toInt = 1 := by decide +kernel
              have hz_2085 : (1 : Int32).toInt = 1 := by decide +kernel
              refine W.widen (k := 0) (n := 0) (Nat.le_of_ble_eq_true rfl) (Nat.le_of_ble_eq_true rfl) ?_
              exact dg_iret hx hb hr hlocks (by decide +kernel) hP hS ⟨I_2078, M_2078, (by decide +kernel), ⟨y_2079, y_2080, y_2081, y_3, y_2073, dp, om, f_y_2079, f_y_2080, f_y_2081, (((m_2078.1 0 8 _ sM_0 (by decide)).trans ((dg_uf_F e_2075 0 8).trans ((m_2070.1 0 8 _ sM_0 (by decide)).trans (dg_uf_F e_720 0 8)))).trans f_y_3), (((m_2078.1 0 34 _ sM_0 (by decide)).trans (dg_uf_F e_2075 0 34)).trans f_y_2073), (((m_2078.1 0 42 _ sM_0 (by decide)).trans ((dg_uf_F e_2075 0 42).trans ((m_2070.1 0 42 _ sM_0 (by decide)).trans ((dg_uf_F e_720 0 42).trans (m_2.1 0 42 _ sM_0 (by decide)))))).trans f_dp), (((m_2078.1 0 45 _ sM_0 (by decide)).trans ((dg_uf_F e_2075 0 45).trans ((m_2070.1 0 45 _ sM_0 (by decide)).trans ((dg_uf_F e_720 0 45).trans (m_2.1 0 45 _ sM_0 (by decide)))))).trans f_om), (by omega)⟩, (fun k9 hk9 hk0 => ⟨fun _ => (P1M.keep P1_2075 m_2078 (by decide) (by decide) (by decide) (by decide) (by decide) (by decide) (by decide) (by decide) (by decide) (by decide) (by decide) (by decide) (by decide) (by decide) (by decide)), fun h9 => absurd h9 (by decide +kernel)⟩), (ZWM.keep (ZWM.keep w_2070_2 (dg_sm.uf (WF := []) (WA := [23]) dg_sm.rf e_2075 sM_23 (by decide)) (by decide) (by decide) (by decide) (by decide)) m_2078 (by decide) (by decide) (by decide) (by decide)), trivial⟩ dX12_operand_170
        refine lv_if_eq (tgt := 137) hx hb dX12_operand_118 (by decide) (fun c_2086 => ?_) (fun c_2086 => ?_)
        · have jc_2086 := dk_eqc (k := 0) (by decide +kernel) c_2086
          exact J_1024   _ _ hP hS _ (lv_sub hl [0, 1, 2] rfl)
        · have jc_2086 := dk_neqc (k := 0) (by decide +kernel) c_2086
          refine lv_aload_n hx hb dX12_operand_121 rfl (lv_at hl 2 rfl) ?_
          refine lv_bipush (v := 91) hx hb dX12_operand_122 (by decide +kernel) ?_
          refine dg_calli hS hA1 hA (va_runV (As := [.int 91]) (rest := []) F (c_m_isSign l g D o S_720 91 sg (((dg_uf_F e_720 0 3).trans (m_2.1 0 3 _ sM_0 (by decide))).trans f_sg) (by omega) va (((dg_uf_F e_720 0 6).trans (m_2.1 0 6 _ sM_0 (by decide))).trans f_va) (by omega) I_720 H.size) (cwV 1 hts (bw_V wB_1157 wB_1158 wB_1159 wB_881 wB_1156) rfl rfl rfl (by decide +kernel) ⟨Nat.le_of_ble_eq_true rfl, Nat.le_of_ble_eq_true rfl⟩) (dg_preV sM_0 rfl K ST hP hS hA1 hA) rfl rfl hl.1 rfl (lv_room (Nat.le_of_ble_eq_true rfl)) dX12_operand_124 ⟨Nat.le_of_ble_eq_true rfl, Nat.le_of_ble_eq_true rfl⟩) (fun x_2087 S_2088 hw_2088 H locs hP hS => ?_)
          rw [hw_2088.1] at hP
          obtain ⟨hq_2088, w_2088_0, w_2088_1, -⟩ := hw_2088
          have hz_2089 : (91 : Int32).toInt = 91 := by decide +kernel
          have w_2088_0 : 0 ≤ (x_2087).toInt ∧ (x_2087).toInt ≤ 1 := w_2088_0
          have w_2088_1 : (x_2087).toInt = 1 ↔ ((sg).toInt = 3 ∧ (va).toInt = ((91 : Int32)).toInt) := w_2088_1
          refine lv_if_eq (tgt := 137) hx hb dX12_operand_127 (by decide) (fun c_2090 => ?_) (fun c_2090 => ?_)
          · have jc_2090 := dk_eqc (k := 0) (by decide +kernel) c_2090
            clear w_2088_1
            exact J_1024   _ _ hP hS _ (lv_sub hl [0, 1, 2] rfl)
          · have jc_2090 := dk_neqc (k := 0) (by decide +kernel) c_2090
            have w_2088_1_r := w_2088_1.mp (by omega)
            clear w_2088_1
            refine lv_aload_n hx hb dX12_operand_130 rfl (lv_at hl 2 rfl) ?_
            refine lv_iconst (v := 5) hx hb dX12_operand_131 (by decide +kernel) ?_
            have hz_2091 : (5 : Int32).toInt = 5 := by decide +kernel
            refine dg_callv hS hA1 hA (va_runV (As := [.int 5]) (rest := []) F (c_m_frames l g D o S_720 5 (by decide +kernel) sg (((dg_uf_F e_720 0 3).trans (m_2.1 0 3 _ sM_0 (by decide))).trans f_sg) (by omega) sa (((dg_uf_F e_720 0 4).trans (m_2.1 0 4 _ sM_0 (by decide))).trans f_sa) (by omega) se (((dg_uf_F e_720 0 5).trans (m_2.1 0 5 _ sM_0 (by decide))).trans f_se) (by omega) sl (((dg_uf_F e_720 0 2).trans (m_2.1 0 2 _ sM_0 (by decide))).trans f_sl) (by omega) y_3 ((dg_uf_F e_720 0 8).trans f_y_3) (by omega) dp (((dg_uf_F e_720 0 42).trans (m_2.1 0 42 _ sM_0 (by decide))).trans f_dp) (by omega) om (((dg_uf_F e_720 0 45).trans (m_2.1 0 45 _ sM_0 (by decide))).trans f_om) (by omega) on (((dg_uf_F e_720 0 43).trans (m_2.1 0 43 _ sM_0 (by decide))).trans f_on) (by omega) (by omega) I_720 H.size) (cwV 1 hts (bw_V wB_1228 wB_1229 wB_1230 wB_881 wB_1227) rfl rfl rfl (by decide +kernel) ⟨Nat.le_of_ble_eq_true rfl, Nat.le_of_ble_eq_true rfl⟩) (dg_preV sM_0 rfl K ST hP hS hA1 hA) rfl rfl hl.1 rfl (lv_room (Nat.le_of_ble_eq_true rfl)) dX12_operand_132 ⟨Nat.le_of_ble_eq_true rfl, Nat.le_of_ble_eq_true rfl⟩) (fun S_2092 hw_2092 H locs hP hS => ?_)
            obtain ⟨I_2092, m_2092, w_2092_0, w_2092_1, -⟩ := hw_2092
            have M_2092 := dg_sm.tr M_720 m_2092 (by decide) (by decide)
            have hz_2093 : (5 : Int32).toInt = 5 := by decide +kernel
            obtain ⟨y_2094, y_2095, y_2096, y_2097, y_2098, f_y_2094, f_y_2095, f_y_2096, f_y_2097, f_y_2098, w_2092_0⟩ := w_2092_0
            have w_2092_0 : ((y_2095).toInt ≤ (y_2096).toInt ∧ (y_2096).toInt ≤ (sl).toInt ∧ ((y_2094).toInt ≠ 0 → (y_2095).toInt + 1 ≤ (y_2096).toInt)) ∧ (sa).toInt ≤ (y_2095).toInt ∧ ((y_3).toInt ≠ 0 → (y_2097).toInt ≠ 0) ∧ (((y_2097).toInt = 0 → ((sa).toInt + 1 ≤ (y_2095).toInt ∧ (y_2098).toInt = (dp).toInt + 1))) := w_2092_0
            have b_y_2094 : 0 ≤ (y_2094).toInt ∧ (y_2094).toInt ≤ 3 := dg_I.intb (lo := 0) (hi := 3) I_2092 sM_0 (by decide +kernel) f_y_2094
            have b_y_2095 : 0 ≤ (y_2095).toInt ∧ (y_2095).toInt ≤ 1600 := dg_I.intb (lo := 0) (hi := 1600) I_2092 sM_0 (by decide +kernel) f_y_2095
            have b_y_2096 : 0 ≤ (y_2096).toInt ∧ (y_2096).toInt ≤ 1600 := dg_I.intb (lo := 0) (hi := 1600) I_2092 sM_0 (by decide +kernel) f_y_2096
            have b_y_2097 : 0 ≤ (y_2097).toInt ∧ (y_2097).toInt ≤ 6 := dg_I.intb (lo := 0) (hi := 6) I_2092 sM_0 (by decide +kernel) f_y_2097
            have b_y_2098 : 0 ≤ (y_2098).toInt ∧ (y_2098).toInt ≤ 20 := dg_I.intb (lo := 0) (hi := 20) I_2092 sM_0 (by decide +kernel) f_y_2098
            have w_2092_1 : ∀ k9 : Int32, S_2092.1 0 8 = .int k9 → k9.toInt = 0 → FRM S_720 S_2092 (5 : Int32) := w_2092_1
            obtain ⟨x_2099, f_x_2099, b_x_2099⟩ := dg_I.int (i := 0) (k := 42) (lo := 0) (hi := 20) I_720 sM_0 (by decide +kernel)
            refine lv_iconst (v := 0) hx hb dX12_operand_135 (by decide +kernel) ?_
            have hz_2100 : (0 : Int32).toInt = 0 := by decide +kernel
            have hz_2101 : (0 : Int32).toInt = 0 := by decide +kernel
            obtain ⟨x_2102, f_x_2102, b_x_2102⟩ := dg_I.int (i := 0) (k := 42) (lo := 0) (hi := 20) I_2092 sM_0 (by decide +kernel)
            have hz_2103 : (0 : Int32).toInt = 0 := by decide +kernel
            have hz_2104 : (0 : Int32).toInt = 0 := by decide +kernel
            refine W.widen (k := 0) (n := 0) (Nat.le_of_ble_eq_true rfl) (Nat.le_of_ble_eq_true rfl) ?_
            exact dg_iret hx hb hr hlocks (by decide +kernel) hP hS ⟨I_2092, M_2092, (by decide +kernel), ⟨y_2094, y_2095, y_2096, y_2097, cd, x_2102, om, f_y_2094, f_y_2095, f_y_2096, f_y_2097, (((m_2092.1 0 34 _ sM_0 (by decide)).trans ((dg_uf_F e_720 0 34).trans (m_2.1 0 34 _ sM_0 (by decide)))).trans f_cd), f_x_2102, (((m_2092.1 0 45 _ sM_0 (by decide)).trans ((dg_uf_F e_720 0 45).trans (m_2.1 0 45 _ sM_0 (by decide)))).trans f_om), (by omega)⟩, (fun k9 hk9 hk0 => ⟨fun h9 => absurd h9 (by decide +kernel), fun _ => by first | (exact PBM.opens PB_720 f_x_2099 (((dg_uf_F e_720 0 43).trans (m_2.1 0 43 _ sM_0 (by decide))).trans f_on) (((dg_uf_F e_720 0 45).trans (m_2.1 0 45 _ sM_0 (by decide))).trans f_om) (w_2092_1 k9 hk9 hk0) m_2092 (by decide) (by decide) (by decide) (by decide) (by omega)) | (have q9 := (f_y_2097).symm.trans hk9; cases q9; omega)⟩), (ZWM.keep (ZWM.keep (ZWM.keep ZW m_2 (by decide) (by decide) (by decide) (by decide)) (dg_sm.uf (WF := []) (WA := [24]) dg_sm.rf e_720 sM_24 (by decide)) (by decide) (by decide) (by decide) (by decide)) m_2092 (by decide) (by decide) (by decide) (by decide)), trivial⟩ dX12_operand_136
      refine lv_if_eq (tgt := 110) hx hb dX12_operand_48 (by decide) (fun c_2105 => ?_) (fun c_2105 => ?_)
      · have jc_2105 := dk_eqc (k := 0) (by decide +kernel) c_2105
        exact J_718   _ _ hP hS _ (lv_sub hl [0, 1, 2] rfl)
      · have jc_2105 := dk_neqc (k := 0) (by decide +kernel) c_2105
        obtain ⟨hts, hbg⟩ := rel_0 (by omega)
        refine lv_aload_n hx hb dX12_operand_51 rfl (lv_at hl 2 rfl) ?_
        refine lv_ldc2 hx hb hown (hts _ (bw_mem wB_1191)) dX12_operand_52 ?_
        refine dg_calli hS hA1 hA (va_runV (As := [.long 7237492]) (rest := []) F (c_m_isWord l g D o S_2 7237492 sg ((m_2.1 0 3 _ sM_0 (by decide)).trans f_sg) (by omega) I_2 H.size) (cwV 1 hts (bw_V wB_1165 wB_1166 wB_1167 wB_881 wB_1164) rfl rfl rfl (by decide +kernel) ⟨Nat.le_of_ble_eq_true rfl, Nat.le_of_ble_eq_true rfl⟩) (dg_preV sM_0 rfl K ST hP hS hA1 hA) rfl rfl hl.1 rfl (lv_room (Nat.le_of_ble_eq_true rfl)) dX12_operand_55 ⟨Nat.le_of_ble_eq_true rfl, Nat.le_of_ble_eq_true rfl⟩) (fun x_2106 S_2107 hw_2107 H locs hP hS => ?_)
        rw [hw_2107.1] at hP
        obtain ⟨hq_2107, w_2107_0, w_2107_1, -⟩ := hw_2107
        have w_2107_0 : 0 ≤ (x_2106).toInt ∧ (x_2106).toInt ≤ 1 := w_2107_0
        have w_2107_1 : (x_2106).toInt = 1 → (sg).toInt = 1 := w_2107_1
        refine lv_if_eq (tgt := 110) hx hb dX12_operand_58 (by decide) (fun c_2108 => ?_) (fun c_2108 => ?_)
        · have jc_2108 := dk_eqc (k := 0) (by decide +kernel) c_2108
          clear w_2107_1
          exact J_718   _ _ hP hS _ (lv_sub hl [0, 1, 2] rfl)
        · have jc_2108 := dk_neqc (k := 0) (by decide +kernel) c_2108
          have w_2107_1_r := w_2107_1 (by omega)
          clear w_2107_1
          refine lv_aload_n hx hb dX12_operand_61 rfl (lv_at hl 2 rfl) ?_
          refine dg_get (C := RX12) (T := TX12) (N := 77) hx hb hts (fun w h => bw_mem (wU_X12 w h)) hown K hP sM_0 rfl 43 (by decide) (hts _ (bw_mem wB_1212)) (fun _ h9 => h9) (v := .int on) ((m_2.1 0 43 _ sM_0 (by decide)).trans f_on) dX12_operand_62 ?_
          refine lv_bipush (v := 7) hx hb dX12_operand_65 (by decide +kernel) ?_
          refine lv_icmp_ne (tgt := 79) hx hb dX12_operand_67 (by decide) (fun c_2109 => ?_) (fun c_2109 => ?_)
          · have jc_2109 := dk_neqc (k := 7) (by decide +kernel) c_2109
            refine lv_aload_n hx hb dX12_operand_79 rfl (lv_at hl 2 rfl) ?_
            refine dg_get (C := RX12) (T := TX12) (N := 77) hx hb hts (fun w h => bw_mem (wU_X12 w h)) hown K hP sM_0 rfl 8 (by decide) (hts _ (bw_mem wB_1133)) (fun _ h9 => h9) (v := .int y_3) f_y_3 dX12_operand_80 ?_
            refine lv_if_le (tgt := 88) hx hb dX12_operand_83 (by decide) (fun _ => ?_) (fun c => absurd (dk_lep (k := 0) (by decide +kernel) (by omega)) c)
            refine lv_aload_n hx hb dX12_operand_88 rfl (lv_at hl 2 rfl) ?_
            refine lv_dup hx hb dX12_operand_89 rfl ?_
            refine dg_get (C := RX12) (T := TX12) (N := 77) hx hb hts (fun w h => bw_mem (wU_X12 w h)) hown K hP sM_0 rfl 43 (by decide) (hts _ (bw_mem wB_1212)) (fun _ h9 => h9) (v := .int on) ((m_2.1 0 43 _ sM_0 (by decide)).trans f_on) dX12_operand_90 ?_
            refine lv_iconst (v := 1) hx hb dX12_operand_93 (by decide +kernel) ?_
            refine lv_iadd hx hb dX12_operand_94 ?_
            refine lv_topi (fun x_2110 ex_2110 => ?_)
            refine dg_put (ci := 12) (v := .int x_2110) (ty := tyX12 43) (C := RX12) (T := TX12) (N := 77) hx hb hts (fun w h => bw_mem (wU_X12 w h)) tyX12 tyX12_ok nmX12 hown K hP hS hA1 sM_0 rfl 43 (by decide) (hts _ (bw_mem wB_1212)) (fun _ h9 => h9) rfl (by decide +kernel) rfl rfl dX12_operand_95 (fun S_2111 e_2111 H locs hP hS => ?_)
            have I_2111 := dg_I.uFi (lo := (-2147483648)) (hi := 2147483647) I_2 e_2111 sM_0 (by decide +kernel) (show (-2147483648) ≤ (x_2110).toInt ∧ (x_2110).toInt ≤ 2147483647 from (dk_full _))
            have M_2111 := dg_sm.uF M_2 e_2111 sM_0 (by decide)
            refine lv_aload_n hx hb dX12_operand_98 rfl (lv_at hl 2 rfl) ?_
            refine lv_bipush (v := 43) hx hb dX12_operand_99 (by decide +kernel) ?_
            refine dg_callv hS hA1 hA (va_runV (As := [.int 43]) (rest := []) F (c_m_holdsBack l g D o S_2111 43 om (((dg_uF_ne e_2111 (fun z => absurd z.2 (by decide))).trans (m_2.1 0 45 _ sM_0 (by decide))).trans f_om) (by omega) I_2111 H.size) (cwV 1 hts (bw_V wB_1224 wB_1225 wB_1226 wB_881 wB_1223) rfl rfl rfl (by decide +kernel) ⟨Nat.le_of_ble_eq_true rfl, Nat.le_of_ble_eq_true rfl⟩) (dg_preV sM_0 rfl K ST hP hS hA1 hA) rfl rfl hl.1 rfl (lv_room (Nat.le_of_ble_eq_true rfl)) dX12_operand_101 ⟨Nat.le_of_ble_eq_true rfl, Nat.le_of_ble_eq_true rfl⟩) (fun S_2112 hw_2112 H locs hP hS => ?_)
            obtain ⟨I_2112, m_2112, w_2112_0, w_2112_1, -⟩ := hw_2112
            have M_2112 := dg_sm.tr M_2111 m_2112 (by decide) (by decide)
            have hz_2113 : (43 : Int32).toInt = 43 := by decide +kernel
            obtain ⟨y_2114, f_y_2114, w_2112_0⟩ := w_2112_0
            have w_2112_0 : (y_2114).toInt = (om).toInt + 1 := w_2112_0
            have b_y_2114 : 0 ≤ (y_2114).toInt ∧ (y_2114).toInt ≤ 500 := dg_I.intb (lo := 0) (hi := 500) I_2112 sM_0 (by decide +kernel) f_y_2114
            have w_2112_1 : HBM S_2111 S_2112 (43 : Int32) := w_2112_1
            obtain ⟨x_2115, f_x_2115, b_x_2115⟩ := dg_I.int (i := 0) (k := 43) (lo := (-2147483648)) (hi := 2147483647) I_2 sM_0 (by decide +kernel)
            obtain ⟨x_2116, f_x_2116, b_x_2116⟩ := dg_I.int (i := 0) (k := 45) (lo := 0) (hi := 500) I_2 sM_0 (by decide +kernel)
            have P0_2112 : P0M S_2112 := P0M.not (P0M.keep P0 m_2 (by decide) (by decide) (by decide) (by decide) (by decide) (by decide) (by decide) (by decide) (by decide) (by decide) (by decide) (by decide) (by decide) (by decide) (by decide)) ((m_2.1 0 42 _ sM_0 (by decide)).trans f_dp) f_x_2115 f_x_2116 (fx := x_5) (by omega) ex_7.symm (by unfold dk_ts; omega) hbg (by omega) e_2111 (by omega) m_2112 w_2112_1 (by omega)
            refine lv_aload_n hx hb dX12_operand_104 rfl (lv_at hl 2 rfl) ?_
            refine dg_callv hS hA1 hA (va_runV (As := []) (rest := []) F (c_m_ahead l g D o S_2112 se (((m_2112.1 0 5 _ sM_0 (by decide)).trans ((dg_uF_ne e_2111 (fun z => absurd z.2 (by decide))).trans (m_2.1 0 5 _ sM_0 (by decide)))).trans f_se) (by omega) sl (((m_2112.1 0 2 _ sM_0 (by decide)).trans ((dg_uF_ne e_2111 (fun z => absurd z.2 (by decide))).trans (m_2.1 0 2 _ sM_0 (by decide)))).trans f_sl) (by omega) (by omega) I_2112 H.size) (cwV 0 hts (bw_V wB_1161 wB_1162 wB_1163 wB_881 wB_1160) rfl rfl rfl (by decide +kernel) ⟨Nat.le_of_ble_eq_true rfl, Nat.le_of_ble_eq_true rfl⟩) (dg_preV sM_0 rfl K ST hP hS hA1 hA) rfl rfl hl.1 rfl (lv_room (Nat.le_of_ble_eq_true rfl)) dX12_operand_105 ⟨Nat.le_of_ble_eq_true rfl, Nat.le_of_ble_eq_true rfl⟩) (fun S_2117 hw_2117 H locs hP hS => ?_)
            obtain ⟨I_2117, m_2117, w_2117_0, -⟩ := hw_2117
            have M_2117 := dg_sm.tr M_2112 m_2117 (by decide) (by decide)
            obtain ⟨y_2118, y_2119, y_2120, f_y_2118, f_y_2119, f_y_2120, w_2117_0⟩ := w_2117_0
            have w_2117_0 : (se).toInt ≤ (y_2119).toInt ∧ (y_2119).toInt ≤ (y_2120).toInt ∧ (y_2120).toInt ≤ (sl).toInt ∧ ((y_2118).toInt ≠ 0 → (y_2119).toInt + 1 ≤ (y_2120).toInt) := w_2117_0
            have b_y_2118 : 0 ≤ (y_2118).toInt ∧ (y_2118).toInt ≤ 3 := dg_I.intb (lo := 0) (hi := 3) I_2117 sM_0 (by decide +kernel) f_y_2118
            have b_y_2119 : 0 ≤ (y_2119).toInt ∧ (y_2119).toInt ≤ 1600 := dg_I.intb (lo := 0) (hi := 1600) I_2117 sM_0 (by decide +kernel) f_y_2119
            have b_y_2120 : 0 ≤ (y_2120).toInt ∧ (y_2120).toInt ≤ 1600 := dg_I.intb (lo := 0) (hi := 1600) I_2117 sM_0 (by decide +kernel) f_y_2120
            refine lv_iconst (v := 0) hx hb dX12_operand_108 (by decide +kernel) ?_
            have hz_2121 : (0 : Int32).toInt = 0 := by decide +kernel
            have hz_2122 : (0 : Int32).toInt = 0 := by decide +kernel
            obtain ⟨x_2123, f_x_2123, b_x_2123⟩ := dg_I.int (i := 0) (k := 45) (lo := 0) (hi := 500) I_2117 sM_0 (by decide +kernel)
            have hz_2124 : (0 : Int32).toInt = 0 := by decide +kernel
            have hz_2125 : (0 : Int32).toInt = 0 := by decide +kernel
            refine W.widen (k := 0) (n := 0) (Nat.le_of_ble_eq_true rfl) (Nat.le_of_ble_eq_true rfl) ?_
            exact dg_iret hx hb hr hlocks (by decide +kernel) hP hS ⟨I_2117, M_2117, (by decide +kernel), ⟨y_2118, y_2119, y_2120, y_3, cd, dp, x_2123, f_y_2118, f_y_2119, f_y_2120, (((m_2117.1 0 8 _ sM_0 (by decide)).trans ((m_2112.1 0 8 _ sM_0 (by decide)).trans (dg_uF_ne e_2111 (fun z => absurd z.2 (by decide))))).trans f_y_3), (((m_2117.1 0 34 _ sM_0 (by decide)).trans ((m_2112.1 0 34 _ sM_0 (by decide)).trans ((dg_uF_ne e_2111 (fun z => absurd z.2 (by decide))).trans (m_2.1 0 34 _ sM_0 (by decide))))).trans f_cd), (((m_2117.1 0 42 _ sM_0 (by decide)).trans ((m_2112.1 0 42 _ sM_0 (by decide)).trans ((dg_uF_ne e_2111 (fun z => absurd z.2 (by decide))).trans (m_2.1 0 42 _ sM_0 (by decide))))).trans f_dp), f_x_2123, (by omega)⟩, (fun k9 hk9 hk0 => ⟨fun h9 => absurd h9 (by decide +kernel), fun _ => (P0M.keep P0_2112 m_2117 (by decide) (by decide) (by decide) (by decide) (by decide) (by decide) (by decide) (by decide) (by decide) (by decide) (by decide) (by decide) (by decide) (by decide) (by decide))⟩), (ZWM.keep (ZWM.keep (ZWM.keep (ZWM.keep ZW m_2 (by decide) (by decide) (by decide) (by decide)) (dg_sm.uF (WF := [(0, 43)]) (WA := []) dg_sm.rf e_2111 sM_0 (by decide)) (by decide) (by decide) (by decide) (by decide)) m_2112 (by decide) (by decide) (by decide) (by decide)) m_2117 (by decide) (by decide) (by decide) (by decide)), trivial⟩ dX12_operand_109
          · have jc_2109 := dk_eqc (k := 7) (by decide +kernel) c_2109
            refine lv_aload_n hx hb dX12_operand_70 rfl (lv_at hl 2 rfl) ?_
            refine lv_iconst (v := 5) hx hb dX12_operand_71 (by decide +kernel) ?_
            refine lv_aload_n hx hb dX12_operand_72 rfl (lv_at hl 2 rfl) ?_
            refine dg_get (C := RX12) (T := TX12) (N := 77) hx hb hts (fun w h => bw_mem (wU_X12 w h)) hown K hP sM_0 rfl 4 (by decide) (hts _ (bw_mem wB_1145)) (fun _ h9 => h9) (v := .int sa) ((m_2.1 0 4 _ sM_0 (by decide)).trans f_sa) dX12_operand_73 ?_
            have hz_2126 : (5 : Int32).toInt = 5 := by decide +kernel
            refine dg_callv hS hA1 hA (va_runV (As := [.int 5, .int sa]) (rest := []) F (c_m_blame l g D o S_2 5 (by decide +kernel) sa y_3 f_y_3 (by omega) I_2 H.size) (cwV 2 hts (bw_V wB_1137 wB_1138 wB_1139 wB_881 wB_1136) rfl rfl rfl (by decide +kernel) ⟨Nat.le_of_ble_eq_true rfl, Nat.le_of_ble_eq_true rfl⟩) (dg_preV sM_0 rfl K ST hP hS hA1 hA) rfl rfl hl.1 rfl (lv_room (Nat.le_of_ble_eq_true rfl)) dX12_operand_76 ⟨Nat.le_of_ble_eq_true rfl, Nat.le_of_ble_eq_true rfl⟩) (fun S_2127 hw_2127 H locs hP hS => ?_)
            obtain ⟨I_2127, m_2127, w_2127_0, -⟩ := hw_2127
            have M_2127 := dg_sm.tr M_2 m_2127 (by decide) (by decide)
            have hz_2128 : (5 : Int32).toInt = 5 := by decide +kernel
            obtain ⟨y_2129, f_y_2129, w_2127_0⟩ := w_2127_0
            have w_2127_0 : ((y_3).toInt ≠ 0 → (y_2129).toInt = (y_3).toInt) ∧ ((y_3).toInt = 0 → (y_2129).toInt = ((5 : Int32)).toInt) := w_2127_0
            have b_y_2129 : 0 ≤ (y_2129).toInt ∧ (y_2129).toInt ≤ 6 := dg_I.intb (lo := 0) (hi := 6) I_2127 sM_0 (by decide +kernel) f_y_2129
            refine lv_aload_n hx hb dX12_operand_79 rfl (lv_at hl 2 rfl) ?_
            refine dg_get (C := RX12) (T := TX12) (N := 77) hx hb hts (fun w h => bw_mem (wU_X12 w h)) hown K hP sM_0 rfl 8 (by decide) (hts _ (bw_mem wB_1133)) (fun _ h9 => h9) (v := .int y_2129) f_y_2129 dX12_operand_80 ?_
            refine lv_if_le (tgt := 88) hx hb dX12_operand_83 (by decide) (fun c_2130 => ?_) (fun c_2130 => ?_)
            · have jc_2130 := dk_lec (k := 0) (by decide +kernel) c_2130
              refine lv_aload_n hx hb dX12_operand_88 rfl (lv_at hl 2 rfl) ?_
              refine lv_dup hx hb dX12_operand_89 rfl ?_
              refine dg_get (C := RX12) (T := TX12) (N := 77) hx hb hts (fun w h => bw_mem (wU_X12 w h)) hown K hP sM_0 rfl 43 (by decide) (hts _ (bw_mem wB_1212)) (fun _ h9 => h9) (v := .int on) (((m_2127.1 0 43 _ sM_0 (by decide)).trans (m_2.1 0 43 _ sM_0 (by decide))).trans f_on) dX12_operand_90 ?_
              refine lv_iconst (v := 1) hx hb dX12_operand_93 (by decide +kernel) ?_
              refine lv_iadd hx hb dX12_operand_94 ?_
              refine lv_topi (fun x_2131 ex_2131 => ?_)
              have jx_2131 : (x_2131).toInt = (on).toInt + 1 := by rw [ex_2131]; exact dk_addT rfl (by decide +kernel) (by omega) (by omega)
              refine dg_put (ci := 12) (v := .int x_2131) (ty := tyX12 43) (C := RX12) (T := TX12) (N := 77) hx hb hts (fun w h => bw_mem (wU_X12 w h)) tyX12 tyX12_ok nmX12 hown K hP hS hA1 sM_0 rfl 43 (by decide) (hts _ (bw_mem wB_1212)) (fun _ h9 => h9) rfl (by decide +kernel) rfl rfl dX12_operand_95 (fun S_2132 e_2132 H locs hP hS => ?_)
              have I_2132 := dg_I.uFi (lo := (-2147483648)) (hi := 2147483647) I_2127 e_2132 sM_0 (by decide +kernel) (show (-2147483648) ≤ (x_2131).toInt ∧ (x_2131).toInt ≤ 2147483647 from (dk_full _))
              have M_2132 := dg_sm.uF M_2127 e_2132 sM_0 (by decide)
              refine lv_aload_n hx hb dX12_operand_98 rfl (lv_at hl 2 rfl) ?_
              refine lv_bipush (v := 43) hx hb dX12_operand_99 (by decide +kernel) ?_
              refine dg_callv hS hA1 hA (va_runV (As := [.int 43]) (rest := []) F (c_m_holdsBack l g D o S_2132 43 om (((dg_uF_ne e_2132 (fun z => absurd z.2 (by decide))).trans ((m_2127.1 0 45 _ sM_0 (by decide)).trans (m_2.1 0 45 _ sM_0 (by decide)))).trans f_om) (by omega) I_2132 H.size) (cwV 1 hts (bw_V wB_1224 wB_1225 wB_1226 wB_881 wB_1223) rfl rfl rfl (by decide +kernel) ⟨Nat.le_of_ble_eq_true rfl, Nat.le_of_ble_eq_true rfl⟩) (dg_preV sM_0 rfl K ST hP hS hA1 hA) rfl rfl hl.1 rfl (lv_room (Nat.le_of_ble_eq_true rfl)) dX12_operand_101 ⟨Nat.le_of_ble_eq_true rfl, Nat.le_of_ble_eq_true rfl⟩) (fun S_2133 hw_2133 H locs hP hS => ?_)
              obtain ⟨I_2133, m_2133, w_2133_0, w_2133_1, -⟩ := hw_2133
              have M_2133 := dg_sm.tr M_2132 m_2133 (by decide) (by decide)
              have hz_2134 : (43 : Int32).toInt = 43 := by decide +kernel
              obtain ⟨y_2135, f_y_2135, w_2133_0⟩ := w_2133_0
              have w_2133_0 : (y_2135).toInt = (om).toInt + 1 := w_2133_0
              have b_y_2135 : 0 ≤ (y_2135).toInt ∧ (y_2135).toInt ≤ 500 := dg_I.intb (lo := 0) (hi := 500) I_2133 sM_0 (by decide +kernel) f_y_2135
              have w_2133_1 : HBM S_2132 S_2133 (43 : Int32) := w_2133_1
              obtain ⟨x_2136, f_x_2136, b_x_2136⟩ := dg_I.int (i := 0) (k := 43) (lo := (-2147483648)) (hi := 2147483647) I_2127 sM_0 (by decide +kernel)
              obtain ⟨x_2137, f_x_2137, b_x_2137⟩ := dg_I.int (i := 0) (k := 45) (lo := 0) (hi := 500) I_2127 sM_0 (by decide +kernel)
              have P0_2133 : P0M S_2133 := P0M.not (P0M.keep (P0M.keep P0 m_2 (by decide) (by decide) (by decide) (by decide) (by decide) (by decide) (by decide) (by decide) (by decide) (by decide) (by decide) (by decide) (by decide) (by decide) (by decide)) m_2127 (by decide) (by decide) (by decide) (by decide) (by decide) (by decide) (by decide) (by decide) (by decide) (by decide) (by decide) (by decide) (by decide) (by decide) (by decide)) (((m_2127.1 0 42 _ sM_0 (by decide)).trans (m_2.1 0 42 _ sM_0 (by decide))).trans f_dp) f_x_2136 f_x_2137 (fx := x_5) (by omega) ((congrFun (m_2127.2 22 _ sM_22 (by decide)).1 _).trans ex_7.symm) (by unfold dk_ts; omega) hbg (by omega) e_2132 (by omega) m_2133 w_2133_1 (by omega)
              refine lv_aload_n hx hb dX12_operand_104 rfl (lv_at hl 2 rfl) ?_
              refine dg_callv hS hA1 hA (va_runV (As := []) (rest := []) F (c_m_ahead l g D o S_2133 se (((m_2133.1 0 5 _ sM_0 (by decide)).trans ((dg_uF_ne e_2132 (fun z => absurd z.2 (by decide))).trans ((m_2127.1 0 5 _ sM_0 (by decide)).trans (m_2.1 0 5 _ sM_0 (by decide))))).trans f_se) (by omega) sl (((m_2133.1 0 2 _ sM_0 (by decide)).trans ((dg_uF_ne e_2132 (fun z => absurd z.2 (by decide))).trans ((m_2127.1 0 2 _ sM_0 (by decide)).trans (m_2.1 0 2 _ sM_0 (by decide))))).trans f_sl) (by omega) (by omega) I_2133 H.size) (cwV 0 hts (bw_V wB_1161 wB_1162 wB_1163 wB_881 wB_1160) rfl rfl rfl (by decide +kernel) ⟨Nat.le_of_ble_eq_true rfl, Nat.le_of_ble_eq_true rfl⟩) (dg_preV sM_0 rfl K ST hP hS hA1 hA) rfl rfl hl.1 rfl (lv_room (Nat.le_of_ble_eq_true rfl)) dX12_operand_105 ⟨Nat.le_of_ble_eq_true rfl, Nat.le_of_ble_eq_true rfl⟩) (fun S_2138 hw_2138 H locs hP hS => ?_)
              obtain ⟨I_2138, m_2138, w_2138_0, -⟩ := hw_2138
              have M_2138 := dg_sm.tr M_2133 m_2138 (by decide) (by decide)
              obtain ⟨y_2139, y_2140, y_2141, f_y_2139, f_y_2140, f_y_2141, w_2138_0⟩ := w_2138_0
              have w_2138_0 : (se).toInt ≤ (y_2140).toInt ∧ (y_2140).toInt ≤ (y_2141).toInt ∧ (y_2141).toInt ≤ (sl).toInt ∧ ((y_2139).toInt ≠ 0 → (y_2140).toInt + 1 ≤ (y_2141).toInt) := w_2138_0
              have b_y_2139 : 0 ≤ (y_2139).toInt ∧ (y_2139).toInt ≤ 3 := dg_I.intb (lo := 0) (hi := 3) I_2138 sM_0 (by decide +kernel) f_y_2139
              have b_y_2140 : 0 ≤ (y_2140).toInt ∧ (y_2140).toInt ≤ 1600 := dg_I.intb (lo := 0) (hi := 1600) I_2138 sM_0 (by decide +kernel) f_y_2140
              have b_y_2141 : 0 ≤ (y_2141).toInt ∧ (y_2141).toInt ≤ 1600 := dg_I.intb (lo := 0) (hi := 1600) I_2138 sM_0 (by decide +kernel) f_y_2141
              refine lv_iconst (v := 0) hx hb dX12_operand_108 (by decide +kernel) ?_
              have hz_2142 : (0 : Int32).toInt = 0 := by decide +kernel
              have hz_2143 : (0 : Int32).toInt = 0 := by decide +kernel
              obtain ⟨x_2144, f_x_2144, b_x_2144⟩ := dg_I.int (i := 0) (k := 45) (lo := 0) (hi := 500) I_2138 sM_0 (by decide +kernel)
              have hz_2145 : (0 : Int32).toInt = 0 := by decide +kernel
              have hz_2146 : (0 : Int32).toInt = 0 := by decide +kernel
              refine W.widen (k := 0) (n := 0) (Nat.le_of_ble_eq_true rfl) (Nat.le_of_ble_eq_true rfl) ?_
              exact dg_iret hx hb hr hlocks (by decide +kernel) hP hS ⟨I_2138, M_2138, (by decide +kernel), ⟨y_2139, y_2140, y_2141, y_2129, cd, dp, x_2144, f_y_2139, f_y_2140, f_y_2141, (((m_2138.1 0 8 _ sM_0 (by decide)).trans ((m_2133.1 0 8 _ sM_0 (by decide)).trans (dg_uF_ne e_2132 (fun z => absurd z.2 (by decide))))).trans f_y_2129), (((m_2138.1 0 34 _ sM_0 (by decide)).trans ((m_2133.1 0 34 _ sM_0 (by decide)).trans ((dg_uF_ne e_2132 (fun z => absurd z.2 (by decide))).trans ((m_2127.1 0 34 _ sM_0 (by decide)).trans (m_2.1 0 34 _ sM_0 (by decide)))))).trans f_cd), (((m_2138.1 0 42 _ sM_0 (by decide)).trans ((m_2133.1 0 42 _ sM_0 (by decide)).trans ((dg_uF_ne e_2132 (fun z => absurd z.2 (by decide))).trans ((m_2127.1 0 42 _ sM_0 (by decide)).trans (m_2.1 0 42 _ sM_0 (by decide)))))).trans f_dp), f_x_2144, (by omega)⟩, (fun k9 hk9 hk0 => ⟨fun h9 => absurd h9 (by decide +kernel), fun _ => (P0M.keep P0_2133 m_2138 (by decide) (by decide) (by decide) (by decide) (by decide) (by decide) (by decide) (by decide) (by decide) (by decide) (by decide) (by decide) (by decide) (by decide) (by decide))⟩), (ZWM.keep (ZWM.keep (ZWM.keep (ZWM.keep (ZWM.keep ZW m_2 (by decide) (by decide) (by decide) (by decide)) m_2127 (by decide) (by decide) (by decide) (by decide)) (dg_sm.uF (WF := [(0, 43)]) (WA := []) dg_sm.rf e_2132 sM_0 (by decide)) (by decide) (by decide) (by decide) (by decide)) m_2133 (by decide) (by decide) (by decide) (by decide)) m_2138 (by decide) (by decide) (by decide) (by decide)), trivial⟩ dX12_operand_109
            · have jc_2130 := dk_nlec (k := 0) (by decide +kernel) c_2130
              refine lv_iconst (v := 1) hx hb dX12_operand_86 (by decide +kernel) ?_
              have hz_2147 : (1 : Int32).toInt = 1 := by decide +kernel
              have hz_2148 : (1 : Int32).toInt = 1 := by decide +kernel
              have hz_2149 : (1 : Int32).toInt = 1 := by decide +kernel
              have hz_2150 : (1 : Int32).toInt = 1 := by decide +kernel
              refine W.widen (k := 0) (n := 0) (Nat.le_of_ble_eq_true rfl) (Nat.le_of_ble_eq_true rfl) ?_
              exact dg_iret hx hb hr hlocks (by decide +kernel) hP hS ⟨I_2127, M_2127, (by decide +kernel), ⟨sg, sa, se, y_2129, cd, dp, om, (((m_2127.1 0 3 _ sM_0 (by decide)).trans (m_2.1 0 3 _ sM_0 (by decide))).trans f_sg), (((m_2127.1 0 4 _ sM_0 (by decide)).trans (m_2.1 0 4 _ sM_0 (by decide))).trans f_sa), (((m_2127.1 0 5 _ sM_0 (by decide)).trans (m_2.1 0 5 _ sM_0 (by decide))).trans f_se), f_y_2129, (((m_2127.1 0 34 _ sM_0 (by decide)).trans (m_2.1 0 34 _ sM_0 (by decide))).trans f_cd), (((m_2127.1 0 42 _ sM_0 (by decide)).trans (m_2.1 0 42 _ sM_0 (by decide))).trans f_dp), (((m_2127.1 0 45 _ sM_0 (by decide)).trans (m_2.1 0 45 _ sM_0 (by decide))).trans f_om), (by omega)⟩, (fun k9 hk9 hk0 => by have q9 := (f_y_2129).symm.trans hk9; cases q9; omega), (ZWM.keep (ZWM.keep ZW m_2 (by decide) (by decide) (by decide) (by decide)) m_2127 (by decide) (by decide) (by decide) (by decide)), trivial⟩ dX12_operand_87
    refine lv_if_eq (tgt := 45) hx hb dX12_operand_29 (by decide) (fun c_2151 => ?_) (fun c_2151 => ?_)
    · have jc_2151 := dk_eqc (k := 0) (by decide +kernel) c_2151
      refine lv_iconst (v := 0) hx hb dX12_operand_45 (by decide +kernel) ?_
      have hz_2152 : (0 : Int32).toInt = 0 := by decide +kernel
      have hz_2153 : (0 : Int32).toInt = 0 := by decide +kernel
      exact J_366 0 (by decide +kernel) (by omega) _ _ hP hS _ (lv_sub hl [0, 1] rfl)
    · have jc_2151 := dk_neqc (k := 0) (by decide +kernel) c_2151
      refine lv_aload_n hx hb dX12_operand_32 rfl (lv_at hl 1 rfl) ?_
      refine dg_get (C := RX12) (T := TX12) (N := 77) hx hb hts (fun w h => bw_mem (wU_X12 w h)) hown K hP sM_0 rfl 39 (by decide) (hts _ (bw_mem wB_1215)) (fun _ h9 => h9) (v := .ref (o + 24)) (show S_2.1 0 39 = .ref (o + 24) from dg_I.rel (d := 24) I_2 sM_0 (by decide +kernel)) dX12_operand_33 ?_
      refine lv_iload_n hx hb dX12_operand_36 rfl (lv_at hl 0 rfl) ?_
      have hin_2154 : vp_in x_5 20 := (dk_inv (by omega) (by omega))
      refine dg_zald hx hb K hP sM_24 hin_2154 dX12_operand_37 (fun x_2155 ex_2155 => ?_)
      have b_x_2155 := dk_all_at (dg_I.row (lo := 0) (hi := 1) I_2 sM_24 (by decide +kernel)) hin_2154 ex_2155
      have hb_x_2155 : (S_2.2.1 24 (x_5 : Int32).toNatClampNeg).toInt = (x_2155).toInt := by rw [ex_2155]
      refine lv_if_eq (tgt := 45) hx hb dX12_operand_38 (by decide) (fun c_2156 => ?_) (fun c_2156 => ?_)
      · have jc_2156 := dk_eqc (k := 0) (by decide +kernel) c_2156
        refine lv_iconst (v := 0) hx hb dX12_operand_45 (by decide +kernel) ?_
        have hz_2157 : (0 : Int32).toInt = 0 := by decide +kernel
        have hz_2158 : (0 : Int32).toInt = 0 := by decide +kernel
        exact J_366 0 (by decide +kernel) (by omega) _ _ hP hS _ (lv_sub hl [0, 1] rfl)
      · have jc_2156 := dk_neqc (k := 0) (by decide +kernel) c_2156
        refine lv_iconst (v := 1) hx hb dX12_operand_41 (by decide +kernel) ?_
        refine lv_goto (tgt := 46) hx hb dX12_operand_42 (by decide) ?_
        have hz_2159 : (1 : Int32).toInt = 1 := by decide +kernel
        have hz_2160 : (1 : Int32).toInt = 1 := by decide +kernel
        exact J_366 1 (by decide +kernel) (by omega) _ _ hP hS _ (lv_sub hl [0, 1] rfl)
  · have jc_4 := dk_nlec (k := 0) (by decide +kernel) c_4
    refine lv_iconst (v := 1) hx hb dX12_operand_11 (by decide +kernel) ?_
    have hz_2161 : (1 : Int32).toInt = 1 := by decide +kernel
    have hz_2162 : (1 : Int32).toInt = 1 := by decide +kernel
    have hz_2163 : (1 : Int32).toInt = 1 := by decide +kernel
    have hz_2164 : (1 : Int32).toInt = 1 := by decide +kernel
    refine W.widen (k := 0) (n := 0) (Nat.le_of_ble_eq_true rfl) (Nat.le_of_ble_eq_true rfl) ?_
    exact dg_iret hx hb hr hlocks (by decide +kernel) hP hS ⟨I_2, M_2, (by decide +kernel), ⟨sg, sa, se, y_3, cd, dp, om, ((m_2.1 0 3 _ sM_0 (by decide)).trans f_sg), ((m_2.1 0 4 _ sM_0 (by decide)).trans f_sa), ((m_2.1 0 5 _ sM_0 (by decide)).trans f_se), f_y_3, ((m_2.1 0 34 _ sM_0 (by decide)).trans f_cd), ((m_2.1 0 42 _ sM_0 (by decide)).trans f_dp), ((m_2.1 0 45 _ sM_0 (by decide)).trans f_om), (by omega)⟩, (fun k9 hk9 hk0 => by have q9 := (f_y_3).symm.trans hk9; cases q9; omega), (ZWM.keep ZW m_2 (by decide) (by decide) (by decide) (by decide)), trivial⟩ dX12_operand_12
