/-! 44.o.lean.txt -/
theorem dX12_operand_0 : decode cX12_operand 0 = .ok (.aload_n 0, 1) := by decide +kernel
theorem dX12_operand_1 : decode cX12_operand 1 = .ok (.invokevirtual 266, 3) := by decide +kernel
theorem dX12_operand_4 : decode cX12_operand 4 = .ok (.aload_n 0, 1) := by decide +kernel
theorem dX12_operand_5 : decode cX12_operand 5 = .ok (.getfield 36, 3) := by decide +kernel
theorem dX12_operand_8 : decode cX12_operand 8 = .ok (.ifCond .le 5, 3) := by decide +kernel
theorem dX12_operand_11 : decode cX12_operand 11 = .ok (.iconst 1, 1) := by decide +kernel
theorem dX12_operand_12 : decode cX12_operand 12 = .ok (.ireturn, 1) := by decide +kernel
theorem dX12_operand_13 : decode cX12_operand 13 = .ok (.aload_n 0, 1) := by decide +kernel
theorem dX12_operand_14 : decode cX12_operand 14 = .ok (.getfield 140, 3) := by decide +kernel
theorem dX12_operand_17 : decode cX12_operand 17 = .ok (.iconst 1, 1) := by decide +kernel
theorem dX12_operand_18 : decode cX12_operand 18 = .ok (.isub, 1) := by decide +kernel
theorem dX12_operand_19 : decode cX12_operand 19 = .ok (.istore_n 1, 1) := by decide +kernel
theorem dX12_operand_20 : decode cX12_operand 20 = .ok (.aload_n 0, 1) := by decide +kernel
theorem dX12_operand_21 : decode cX12_operand 21 = .ok (.getfield 124, 3) := by decide +kernel
theorem dX12_operand_24 : decode cX12_operand 24 = .ok (.iload_n 1, 1) := by decide +kernel
theorem dX12_operand_25 : decode cX12_operand 25 = .ok (.iaload, 1) := by decide +kernel
theorem dX12_operand_26 : decode cX12_operand 26 = .ok (.invokestatic 346, 3) := by decide +kernel
theorem dX12_operand_29 : decode cX12_operand 29 = .ok (.ifCond .eq 16, 3) := by decide +kernel
theorem dX12_operand_32 : decode cX12_operand 32 = .ok (.aload_n 0, 1) := by decide +kernel
theorem dX12_operand_33 : decode cX12_operand 33 = .ok (.getfield 130, 3) := by decide +kernel
theorem dX12_operand_36 : decode cX12_operand 36 = .ok (.iload_n 1, 1) := by decide +kernel
theorem dX12_operand_37 : decode cX12_operand 37 = .ok (.baload, 1) := by decide +kernel
theorem dX12_operand_38 : decode cX12_operand 38 = .ok (.ifCond .eq 7, 3) := by decide +kernel
theorem dX12_operand_41 : decode cX12_operand 41 = .ok (.iconst 1, 1) := by decide +kernel
theorem dX12_operand_42 : decode cX12_operand 42 = .ok (.goto 4, 3) := by decide +kernel
theorem dX12_operand_45 : decode cX12_operand 45 = .ok (.iconst 0, 1) := by decide +kernel
theorem dX12_operand_46 : decode cX12_operand 46 = .ok (.istore_n 2, 1) := by decide +kernel
theorem dX12_operand_47 : decode cX12_operand 47 = .ok (.iload_n 2, 1) := by decide +kernel
theorem dX12_operand_48 : decode cX12_operand 48 = .ok (.ifCond .eq 62, 3) := by decide +kernel
theorem dX12_operand_51 : decode cX12_operand 51 = .ok (.aload_n 0, 1) := by decide +kernel
theorem dX12_operand_52 : decode cX12_operand 52 = .ok (.ldc2_w 321, 3) := by decide +kernel
theorem dX12_operand_55 : decode cX12_operand 55 = .ok (.invokevirtual 349, 3) := by decide +kernel
theorem dX12_operand_58 : decode cX12_operand 58 = .ok (.ifCond .eq 52, 3) := by decide +kernel
theorem dX12_operand_61 : decode cX12_operand 61 = .ok (.aload_n 0, 1) := by decide +kernel
theorem dX12_operand_62 : decode cX12_operand 62 = .ok (.getfield 143, 3) := by decide +kernel
theorem dX12_operand_65 : decode cX12_operand 65 = .ok (.bipush 7, 2) := by decide +kernel
theorem dX12_operand_67 : decode cX12_operand 67 = .ok (.if_icmp .ne 12, 3) := by decide +kernel
theorem dX12_operand_70 : decode cX12_operand 70 = .ok (.aload_n 0, 1) := by decide +kernel
theorem dX12_operand_71 : decode cX12_operand 71 = .ok (.iconst 5, 1) := by decide +kernel
theorem dX12_operand_72 : decode cX12_operand 72 = .ok (.aload_n 0, 1) := by decide +kernel
theorem dX12_operand_73 : decode cX12_operand 73 = .ok (.getfield 23, 3) := by decide +kernel
theorem dX12_operand_76 : decode cX12_operand 76 = .ok (.invokevirtual 255, 3) := by decide +kernel
theorem dX12_operand_79 : decode cX12_operand 79 = .ok (.aload_n 0, 1) := by decide +kernel
theorem dX12_operand_80 : decode cX12_operand 80 = .ok (.getfield 36, 3) := by decide +kernel
theorem dX12_operand_83 : decode cX12_operand 83 = .ok (.ifCond .le 5, 3) := by decide +kernel
theorem dX12_operand_86 : decode cX12_operand 86 = .ok (.iconst 1, 1) := by decide +kernel
theorem dX12_operand_87 : decode cX12_operand 87 = .ok (.ireturn, 1) := by decide +kernel
theorem dX12_operand_88 : decode cX12_operand 88 = .ok (.aload_n 0, 1) := by decide +kernel
theorem dX12_operand_89 : decode cX12_operand 89 = .ok (.dup, 1) := by decide +kernel
theorem dX12_operand_90 : decode cX12_operand 90 = .ok (.getfield 143, 3) := by decide +kernel
theorem dX12_operand_93 : decode cX12_operand 93 = .ok (.iconst 1, 1) := by decide +kernel
theorem dX12_operand_94 : decode cX12_operand 94 = .ok (.iadd, 1) := by decide +kernel
theorem dX12_operand_95 : decode cX12_operand 95 = .ok (.putfield 143, 3) := by decide +kernel
theorem dX12_operand_98 : decode cX12_operand 98 = .ok (.aload_n 0, 1) := by decide +kernel
theorem dX12_operand_99 : decode cX12_operand 99 = .ok (.bipush 43, 2) := by decide +kernel
theorem dX12_operand_101 : decode cX12_operand 101 = .ok (.invokevirtual 353, 3) := by decide +kernel
theorem dX12_operand_104 : decode cX12_operand 104 = .ok (.aload_n 0, 1) := by decide +kernel
theorem dX12_operand_105 : decode cX12_operand 105 = .ok (.invokevirtual 272, 3) := by decide +kernel
theorem dX12_operand_108 : decode cX12_operand 108 = .ok (.iconst 0, 1) := by decide +kernel
theorem dX12_operand_109 : decode cX12_operand 109 = .ok (.ireturn, 1) := by decide +kernel
theorem dX12_operand_110 : decode cX12_operand 110 = .ok (.aload_n 0, 1) := by decide +kernel
theorem dX12_operand_111 : decode cX12_operand 111 = .ok (.getfield 130, 3) := by decide +kernel
theorem dX12_operand_114 : decode cX12_operand 114 = .ok (.iload_n 1, 1) := by decide +kernel
theorem dX12_operand_115 : decode cX12_operand 115 = .ok (.iconst 0, 1) := by decide +kernel
theorem dX12_operand_116 : decode cX12_operand 116 = .ok (.bastore, 1) := by decide +kernel
theorem dX12_operand_117 : decode cX12_operand 117 = .ok (.iload_n 2, 1) := by decide +kernel
theorem dX12_operand_118 : decode cX12_operand 118 = .ok (.ifCond .eq 19, 3) := by decide +kernel
theorem dX12_operand_121 : decode cX12_operand 121 = .ok (.aload_n 0, 1) := by decide +kernel
theorem dX12_operand_122 : decode cX12_operand 122 = .ok (.bipush 91, 2) := by decide +kernel
theorem dX12_operand_124 : decode cX12_operand 124 = .ok (.invokevirtual 269, 3) := by decide +kernel
theorem dX12_operand_127 : decode cX12_operand 127 = .ok (.ifCond .eq 10, 3) := by decide +kernel
theorem dX12_operand_130 : decode cX12_operand 130 = .ok (.aload_n 0, 1) := by decide +kernel
theorem dX12_operand_131 : decode cX12_operand 131 = .ok (.iconst 5, 1) := by decide +kernel
theorem dX12_operand_132 : decode cX12_operand 132 = .ok (.invokevirtual 356, 3) := by decide +kernel
theorem dX12_operand_135 : decode cX12_operand 135 = .ok (.iconst 0, 1) := by decide +kernel
theorem dX12_operand_136 : decode cX12_operand 136 = .ok (.ireturn, 1) := by decide +kernel
theorem dX12_operand_137 : decode cX12_operand 137 = .ok (.iload_n 2, 1) := by decide +kernel
theorem dX12_operand_138 : decode cX12_operand 138 = .ok (.ifCond .eq 33, 3) := by decide +kernel
theorem dX12_operand_141 : decode cX12_operand 141 = .ok (.aload_n 0, 1) := by decide +kernel
theorem dX12_operand_142 : decode cX12_operand 142 = .ok (.ldc2_w 323, 3) := by decide +kernel
theorem dX12_operand_145 : decode cX12_operand 145 = .ok (.invokevirtual 349, 3) := by decide +kernel
theorem dX12_operand_148 : decode cX12_operand 148 = .ok (.ifCond .eq 23, 3) := by decide +kernel
theorem dX12_operand_151 : decode cX12_operand 151 = .ok (.aload_n 0, 1) := by decide +kernel
theorem dX12_operand_152 : decode cX12_operand 152 = .ok (.bipush 30, 2) := by decide +kernel
theorem dX12_operand_154 : decode cX12_operand 154 = .ok (.iconst 0, 1) := by decide +kernel
theorem dX12_operand_155 : decode cX12_operand 155 = .ok (.invokevirtual 340, 3) := by decide +kernel
theorem dX12_operand_158 : decode cX12_operand 158 = .ok (.aload_n 0, 1) := by decide +kernel
theorem dX12_operand_159 : decode cX12_operand 159 = .ok (.getfield 127, 3) := by decide +kernel
theorem dX12_operand_162 : decode cX12_operand 162 = .ok (.iload_n 1, 1) := by decide +kernel
theorem dX12_operand_163 : decode cX12_operand 163 = .ok (.iconst 2, 1) := by decide +kernel
theorem dX12_operand_164 : decode cX12_operand 164 = .ok (.iastore, 1) := by decide +kernel
theorem dX12_operand_165 : decode cX12_operand 165 = .ok (.aload_n 0, 1) := by decide +kernel
theorem dX12_operand_166 : decode cX12_operand 166 = .ok (.invokevirtual 272, 3) := by decide +kernel
theorem dX12_operand_169 : decode cX12_operand 169 = .ok (.iconst 1, 1) := by decide +kernel
theorem dX12_operand_170 : decode cX12_operand 170 = .ok (.ireturn, 1) := by decide +kernel
theorem dX12_operand_171 : decode cX12_operand 171 = .ok (.aload_n 0, 1) := by decide +kernel
theorem dX12_operand_172 : decode cX12_operand 172 = .ok (.bipush 40, 2) := by decide +kernel
theorem dX12_operand_174 : decode cX12_operand 174 = .ok (.invokevirtual 269, 3) := by decide +kernel
theorem dX12_operand_177 : decode cX12_operand 177 = .ok (.ifCond .eq 10, 3) := by decide +kernel
theorem dX12_operand_180 : decode cX12_operand 180 = .ok (.aload_n 0, 1) := by decide +kernel
theorem dX12_operand_181 : decode cX12_operand 181 = .ok (.iconst 2, 1) := by decide +kernel
theorem dX12_operand_182 : decode cX12_operand 182 = .ok (.invokevirtual 356, 3) := by decide +kernel
theorem dX12_operand_185 : decode cX12_operand 185 = .ok (.iconst 0, 1) := by decide +kernel
theorem dX12_operand_186 : decode cX12_operand 186 = .ok (.ireturn, 1) := by decide +kernel
theorem dX12_operand_187 : decode cX12_operand 187 = .ok (.aload_n 0, 1) := by decide +kernel
theorem dX12_operand_188 : decode cX12_operand 188 = .ok (.ldc2_w 325, 3) := by decide +kernel
theorem dX12_operand_191 : decode cX12_operand 191 = .ok (.invokevirtual 349, 3) := by decide +kernel
theorem dX12_operand_194 : decode cX12_operand 194 = .ok (.ifCond .ne 23, 3) := by decide +kernel
theorem dX12_operand_197 : decode cX12_operand 197 = .ok (.aload_n 0, 1) := by decide +kernel
theorem dX12_operand_198 : decode cX12_operand 198 = .ok (.ldc2_w 327, 3) := by decide +kernel
theorem dX12_operand_201 : decode cX12_operand 201 = .ok (.invokevirtual 349, 3) := by decide +kernel
theorem dX12_operand_204 : decode cX12_operand 204 = .ok (.ifCond .ne 13, 3) := by decide +kernel
theorem dX12_operand_207 : decode cX12_operand 207 = .ok (.aload_n 0, 1) := by decide +kernel
theorem dX12_operand_208 : decode cX12_operand 208 = .ok (.ldc2_w 315, 3) := by decide +kernel
theorem dX12_operand_211 : decode cX12_operand 211 = .ok (.invokevirtual 349, 3) := by decide +kernel
theorem dX12_operand_214 : decode cX12_operand 214 = .ok (.ifCond .eq 99, 3) := by decide +kernel
theorem dX12_operand_217 : decode cX12_operand 217 = .ok (.aload_n 0, 1) := by decide +kernel
theorem dX12_operand_218 : decode cX12_operand 218 = .ok (.ldc2_w 325, 3) := by decide +kernel
theorem dX12_operand_221 : decode cX12_operand 221 = .ok (.invokevirtual 349, 3) := by decide +kernel
theorem dX12_operand_224 : decode cX12_operand 224 = .ok (.ifCond .eq 8, 3) := by decide +kernel
theorem dX12_operand_227 : decode cX12_operand 227 = .ok (.bipush 36, 2) := by decide +kernel
theorem dX12_operand_229 : decode cX12_operand 229 = .ok (.goto 20, 3) := by decide +kernel
theorem dX12_operand_232 : decode cX12_operand 232 = .ok (.aload_n 0, 1) := by decide +kernel
theorem dX12_operand_233 : decode cX12_operand 233 = .ok (.ldc2_w 327, 3) := by decide +kernel
theorem dX12_operand_236 : decode cX12_operand 236 = .ok (.invokevirtual 349, 3) := by decide +kernel
theorem dX12_operand_239 : decode cX12_operand 239 = .ok (.ifCond .eq 8, 3) := by decide +kernel
theorem dX12_operand_242 : decode cX12_operand 242 = .ok (.bipush 37, 2) := by decide +kernel
theorem dX12_operand_244 : decode cX12_operand 244 = .ok (.goto 5, 3) := by decide +kernel
theorem dX12_operand_247 : decode cX12_operand 247 = .ok (.bipush 44, 2) := by decide +kernel
theorem dX12_operand_249 : decode cX12_operand 249 = .ok (.istore_n 3, 1) := by decide +kernel
theorem dX12_operand_250 : decode cX12_operand 250 = .ok (.aload_n 0, 1) := by decide +kernel
theorem dX12_operand_251 : decode cX12_operand 251 = .ok (.invokevirtual 272, 3) := by decide +kernel
theorem dX12_operand_254 : decode cX12_operand 254 = .ok (.aload_n 0, 1) := by decide +kernel
theorem dX12_operand_255 : decode cX12_operand 255 = .ok (.invokevirtual 266, 3) := by decide +kernel
theorem dX12_operand_258 : decode cX12_operand 258 = .ok (.aload_n 0, 1) := by decide +kernel
theorem dX12_operand_259 : decode cX12_operand 259 = .ok (.bipush 40, 2) := by decide +kernel
theorem dX12_operand_261 : decode cX12_operand 261 = .ok (.invokevirtual 269, 3) := by decide +kernel
theorem dX12_operand_264 : decode cX12_operand 264 = .ok (.ifCond .ne 12, 3) := by decide +kernel
theorem dX12_operand_267 : decode cX12_operand 267 = .ok (.aload_n 0, 1) := by decide +kernel
theorem dX12_operand_268 : decode cX12_operand 268 = .ok (.iconst 1, 1) := by decide +kernel
theorem dX12_operand_269 : decode cX12_operand 269 = .ok (.aload_n 0, 1) := by decide +kernel
theorem dX12_operand_270 : decode cX12_operand 270 = .ok (.getfield 23, 3) := by decide +kernel
theorem dX12_operand_273 : decode cX12_operand 273 = .ok (.invokevirtual 255, 3) := by decide +kernel
theorem dX12_operand_276 : decode cX12_operand 276 = .ok (.aload_n 0, 1) := by decide +kernel
theorem dX12_operand_277 : decode cX12_operand 277 = .ok (.iload_n 3, 1) := by decide +kernel
theorem dX12_operand_278 : decode cX12_operand 278 = .ok (.bipush 44, 2) := by decide +kernel
theorem dX12_operand_280 : decode cX12_operand 280 = .ok (.if_icmp .ne 8, 3) := by decide +kernel
theorem dX12_operand_283 : decode cX12_operand 283 = .ok (.bipush 6, 2) := by decide +kernel
theorem dX12_operand_285 : decode cX12_operand 285 = .ok (.goto 4, 3) := by decide +kernel
theorem dX12_operand_288 : decode cX12_operand 288 = .ok (.iconst 3, 1) := by decide +kernel
theorem dX12_operand_289 : decode cX12_operand 289 = .ok (.invokevirtual 356, 3) := by decide +kernel
theorem dX12_operand_292 : decode cX12_operand 292 = .ok (.aload_n 0, 1) := by decide +kernel
theorem dX12_operand_293 : decode cX12_operand 293 = .ok (.getfield 36, 3) := by decide +kernel
theorem dX12_operand_296 : decode cX12_operand 296 = .ok (.ifCond .ne 15, 3) := by decide +kernel
theorem dX12_operand_299 : decode cX12_operand 299 = .ok (.aload_n 0, 1) := by decide +kernel
theorem dX12_operand_300 : decode cX12_operand 300 = .ok (.getfield 134, 3) := by decide +kernel
theorem dX12_operand_303 : decode cX12_operand 303 = .ok (.aload_n 0, 1) := by decide +kernel
theorem dX12_operand_304 : decode cX12_operand 304 = .ok (.getfield 140, 3) := by decide +kernel
theorem dX12_operand_307 : decode cX12_operand 307 = .ok (.iconst 1, 1) := by decide +kernel
theorem dX12_operand_308 : decode cX12_operand 308 = .ok (.isub, 1) := by decide +kernel
theorem dX12_operand_309 : decode cX12_operand 309 = .ok (.iload_n 3, 1) := by decide +kernel
theorem dX12_operand_310 : decode cX12_operand 310 = .ok (.iastore, 1) := by decide +kernel
theorem dX12_operand_311 : decode cX12_operand 311 = .ok (.iconst 0, 1) := by decide +kernel
theorem dX12_operand_312 : decode cX12_operand 312 = .ok (.ireturn, 1) := by decide +kernel
theorem dX12_operand_313 : decode cX12_operand 313 = .ok (.aload_n 0, 1) := by decide +kernel
theorem dX12_operand_314 : decode cX12_operand 314 = .ok (.getfield 20, 3) := by decide +kernel
theorem dX12_operand_317 : decode cX12_operand 317 = .ok (.iconst 2, 1) := by decide +kernel
theorem dX12_operand_318 : decode cX12_operand 318 = .ok (.if_icmp .ne 7, 3) := by decide +kernel
theorem dX12_operand_321 : decode cX12_operand 321 = .ok (.iconst 0, 1) := by decide +kernel
theorem dX12_operand_322 : decode cX12_operand 322 = .ok (.goto 89, 3) := by decide +kernel
theorem dX12_operand_325 : decode cX12_operand 325 = .ok (.aload_n 0, 1) := by decide +kernel
theorem dX12_operand_326 : decode cX12_operand 326 = .ok (.ldc2_w 285, 3) := by decide +kernel
theorem dX12_operand_329 : decode cX12_operand 329 = .ok (.invokevirtual 349, 3) := by decide +kernel
theorem dX12_operand_332 : decode cX12_operand 332 = .ok (.ifCond .eq 7, 3) := by decide +kernel
theorem dX12_operand_335 : decode cX12_operand 335 = .ok (.iconst 1, 1) := by decide +kernel
theorem dX12_operand_336 : decode cX12_operand 336 = .ok (.goto 75, 3) := by decide +kernel
theorem dX12_operand_339 : decode cX12_operand 339 = .ok (.aload_n 0, 1) := by decide +kernel
theorem dX12_operand_340 : decode cX12_operand 340 = .ok (.ldc2_w 305, 3) := by decide +kernel
theorem dX12_operand_343 : decode cX12_operand 343 = .ok (.invokevirtual 349, 3) := by decide +kernel
theorem dX12_operand_346 : decode cX12_operand 346 = .ok (.ifCond .eq 7, 3) := by decide +kernel
theorem dX12_operand_349 : decode cX12_operand 349 = .ok (.iconst 2, 1) := by decide +kernel
theorem dX12_operand_350 : decode cX12_operand 350 = .ok (.goto 61, 3) := by decide +kernel
theorem dX12_operand_353 : decode cX12_operand 353 = .ok (.aload_n 0, 1) := by decide +kernel
theorem dX12_operand_354 : decode cX12_operand 354 = .ok (.ldc2_w 307, 3) := by decide +kernel
theorem dX12_operand_357 : decode cX12_operand 357 = .ok (.invokevirtual 349, 3) := by decide +kernel
theorem dX12_operand_360 : decode cX12_operand 360 = .ok (.ifCond .eq 7, 3) := by decide +kernel
theorem dX12_operand_363 : decode cX12_operand 363 = .ok (.iconst 3, 1) := by decide +kernel
theorem dX12_operand_364 : decode cX12_operand 364 = .ok (.goto 47, 3) := by decide +kernel
theorem dX12_operand_367 : decode cX12_operand 367 = .ok (.aload_n 0, 1) := by decide +kernel
theorem dX12_operand_368 : decode cX12_operand 368 = .ok (.ldc2_w 309, 3) := by decide +kernel
theorem dX12_operand_371 : decode cX12_operand 371 = .ok (.invokevirtual 349, 3) := by decide +kernel
theorem dX12_operand_374 : decode cX12_operand 374 = .ok (.ifCond .eq 7, 3) := by decide +kernel
theorem dX12_operand_377 : decode cX12_operand 377 = .ok (.iconst 4, 1) := by decide +kernel
theorem dX12_operand_378 : decode cX12_operand 378 = .ok (.goto 33, 3) := by decide +kernel
theorem dX12_operand_381 : decode cX12_operand 381 = .ok (.aload_n 0, 1) := by decide +kernel
theorem dX12_operand_382 : decode cX12_operand 382 = .ok (.ldc2_w 311, 3) := by decide +kernel
theorem dX12_operand_385 : decode cX12_operand 385 = .ok (.invokevirtual 349, 3) := by decide +kernel
theorem dX12_operand_388 : decode cX12_operand 388 = .ok (.ifCond .eq 7, 3) := by decide +kernel
theorem dX12_operand_391 : decode cX12_operand 391 = .ok (.iconst 5, 1) := by decide +kernel
theorem dX12_operand_392 : decode cX12_operand 392 = .ok (.goto 19, 3) := by decide +kernel
theorem dX12_operand_395 : decode cX12_operand 395 = .ok (.aload_n 0, 1) := by decide +kernel
theorem dX12_operand_396 : decode cX12_operand 396 = .ok (.ldc2_w 313, 3) := by decide +kernel
theorem dX12_operand_399 : decode cX12_operand 399 = .ok (.invokevirtual 349, 3) := by decide +kernel
theorem dX12_operand_402 : decode cX12_operand 402 = .ok (.ifCond .eq 8, 3) := by decide +kernel
theorem dX12_operand_405 : decode cX12_operand 405 = .ok (.bipush 6, 2) := by decide +kernel
theorem dX12_operand_407 : decode cX12_operand 407 = .ok (.goto 4, 3) := by decide +kernel
theorem dX12_operand_410 : decode cX12_operand 410 = .ok (.iconst (-1), 1) := by decide +kernel
theorem dX12_operand_411 : decode cX12_operand 411 = .ok (.istore_n 3, 1) := by decide +kernel
theorem dX12_operand_412 : decode cX12_operand 412 = .ok (.iload_n 3, 1) := by decide +kernel
theorem dX12_operand_413 : decode cX12_operand 413 = .ok (.iconst 4, 1) := by decide +kernel
theorem dX12_operand_414 : decode cX12_operand 414 = .ok (.if_icmp .lt 30, 3) := by decide +kernel
theorem dX12_operand_417 : decode cX12_operand 417 = .ok (.iload_n 3, 1) := by decide +kernel
theorem dX12_operand_418 : decode cX12_operand 418 = .ok (.iconst 4, 1) := by decide +kernel
theorem dX12_operand_419 : decode cX12_operand 419 = .ok (.if_icmp .ne 7, 3) := by decide +kernel
theorem dX12_operand_422 : decode cX12_operand 422 = .ok (.iconst 1, 1) := by decide +kernel
theorem dX12_operand_423 : decode cX12_operand 423 = .ok (.goto 4, 3) := by decide +kernel
theorem dX12_operand_426 : decode cX12_operand 426 = .ok (.iconst 0, 1) := by decide +kernel
theorem dX12_operand_427 : decode cX12_operand 427 = .ok (.aload_n 0, 1) := by decide +kernel
theorem dX12_operand_428 : decode cX12_operand 428 = .ok (.getfield 121, 3) := by decide +kernel
theorem dX12_operand_431 : decode cX12_operand 431 = .ok (.ifCond .ne 7, 3) := by decide +kernel
theorem dX12_operand_434 : decode cX12_operand 434 = .ok (.iconst 1, 1) := by decide +kernel
theorem dX12_operand_435 : decode cX12_operand 435 = .ok (.goto 4, 3) := by decide +kernel
theorem dX12_operand_438 : decode cX12_operand 438 = .ok (.iconst 0, 1) := by decide +kernel
theorem dX12_operand_439 : decode cX12_operand 439 = .ok (.if_icmp .eq 5, 3) := by decide +kernel
theorem dX12_operand_442 : decode cX12_operand 442 = .ok (.iconst (-1), 1) := by decide +kernel
theorem dX12_operand_443 : decode cX12_operand 443 = .ok (.istore_n 3, 1) := by decide +kernel
theorem dX12_operand_444 : decode cX12_operand 444 = .ok (.iload_n 3, 1) := by decide +kernel
theorem dX12_operand_445 : decode cX12_operand 445 = .ok (.iconst (-1), 1) := by decide +kernel
theorem dX12_operand_446 : decode cX12_operand 446 = .ok (.if_icmp .ne 12, 3) := by decide +kernel
theorem dX12_operand_449 : decode cX12_operand 449 = .ok (.aload_n 0, 1) := by decide +kernel
theorem dX12_operand_450 : decode cX12_operand 450 = .ok (.iconst 1, 1) := by decide +kernel
theorem dX12_operand_451 : decode cX12_operand 451 = .ok (.aload_n 0, 1) := by decide +kernel
theorem dX12_operand_452 : decode cX12_operand 452 = .ok (.getfield 23, 3) := by decide +kernel
theorem dX12_operand_455 : decode cX12_operand 455 = .ok (.invokevirtual 255, 3) := by decide +kernel
theorem dX12_operand_458 : decode cX12_operand 458 = .ok (.aload_n 0, 1) := by decide +kernel
theorem dX12_operand_459 : decode cX12_operand 459 = .ok (.getfield 36, 3) := by decide +kernel
theorem dX12_operand_462 : decode cX12_operand 462 = .ok (.ifCond .le 5, 3) := by decide +kernel
theorem dX12_operand_465 : decode cX12_operand 465 = .ok (.iconst 1, 1) := by decide +kernel
theorem dX12_operand_466 : decode cX12_operand 466 = .ok (.ireturn, 1) := by decide +kernel
theorem dX12_operand_467 : decode cX12_operand 467 = .ok (.aload_n 0, 1) := by decide +kernel
theorem dX12_operand_468 : decode cX12_operand 468 = .ok (.iload_n 3, 1) := by decide +kernel
theorem dX12_operand_469 : decode cX12_operand 469 = .ok (.aload_n 0, 1) := by decide +kernel
theorem dX12_operand_470 : decode cX12_operand 470 = .ok (.getfield 29, 3) := by decide +kernel
theorem dX12_operand_473 : decode cX12_operand 473 = .ok (.invokevirtual 340, 3) := by decide +kernel
theorem dX12_operand_476 : decode cX12_operand 476 = .ok (.aload_n 0, 1) := by decide +kernel
theorem dX12_operand_477 : decode cX12_operand 477 = .ok (.invokevirtual 272, 3) := by decide +kernel
theorem dX12_operand_480 : decode cX12_operand 480 = .ok (.iconst 1, 1) := by decide +kernel
theorem dX12_operand_481 : decode cX12_operand 481 = .ok (.ireturn, 1) := by decide +kernel
theorem wB_1220 : Cond.code yX12_isTest cX12_isTest 1 (some .boolean) ∈ dgB := List.mem_filter.mpr ⟨tbl_8 _ (List.mem_of_getElem? (i := 79) rfl), rfl⟩
theorem wB_1221 : Cond.methodLink RX12 346 yX12_isTest ∈ dgB := List.mem_filter.mpr ⟨tbl_8 _ (List.mem_of_getElem? (i := 77) (by decide +kernel)), by decide +kernel⟩
theorem wB_1222 : Cond.static yX12_isTest ∈ dgB := List.mem_filter.mpr ⟨tbl_8 _ (List.mem_of_getElem? (i := 78) (by decide +kernel)), by decide +kernel⟩
theorem wB_1223 : Cond.code yX12_holdsBack cX12_holdsBack 2 none ∈ dgB := List.mem_filter.mpr ⟨tbl_8 _ (List.mem_of_getElem? (i := 83) rfl), rfl⟩
theorem wB_1224 : Cond.methodLink RX12 353 yX12_holdsBack ∈ dgB := List.mem_filter.mpr ⟨tbl_8 _ (List.mem_of_getElem? (i := 80) (by decide +kernel)), by decide +kernel⟩
theorem wB_1225 : Cond.instanceMethod yX12_holdsBack ∈ dgB := List.mem_filter.mpr ⟨tbl_8 _ (List.mem_of_getElem? (i := 82) (by decide +kernel)), by decide +kernel⟩
theorem wB_1226 : Cond.selects RX12 yX12_holdsBack yX12_holdsBack ∈ dgB := List.mem_filter.mpr ⟨List.mem_of_getElem? (i := 109) (by decide +kernel), by decide +kernel⟩
theorem wB_1227 : Cond.code yX12_frames cX12_frames 2 none ∈ dgB := List.mem_filter.mpr ⟨tbl_8 _ (List.mem_of_getElem? (i := 87) rfl), rfl⟩
theorem wB_1228 : Cond.methodLink RX12 356 yX12_frames ∈ dgB := List.mem_filter.mpr ⟨tbl_8 _ (List.mem_of_getElem? (i := 84) (by decide +kernel)), by decide +kernel⟩
theorem wB_1229 : Cond.instanceMethod yX12_frames ∈ dgB := List.mem_filter.mpr ⟨tbl_8 _ (List.mem_of_getElem? (i := 86) (by decide +kernel)), by decide +kernel⟩
theorem wB_1230 : Cond.selects RX12 yX12_frames yX12_frames ∈ dgB := List.mem_filter.mpr ⟨List.mem_of_getElem? (i := 110) (by decide +kernel), by decide +kernel⟩
theorem wB_1231 : Cond.fieldLink RX12 121 "DarkMineModel" "law" "I" ∈ dgB := List.mem_filter.mpr ⟨tbl_6 _ (List.mem_of_getElem? (i := 199) (by decide +kernel)), by decide +kernel⟩
theorem wB_1232 : Cond.fieldLink RX12 134 "DarkMineModel" "pair" "[I" ∈ dgB := List.mem_filter.mpr ⟨tbl_6 _ (List.mem_of_getElem? (i := 203) (by decide +kernel)), by decide +kernel⟩
set_option maxHeartbeats 8000000 in
set_option maxRecDepth 100000 in
theorem c_m_operand (l : Launch) (g : Nat → ClassId) (D : va_G) (o : Nat) (S : dg_S) (sg : Int32) (f_sg : S.1 0 3 = .int sg) (b_sg : 0 ≤ (sg).toInt ∧ (sg).toInt ≤ 3) (sa : Int32) (f_sa : S.1 0 4 = .int sa) (b_sa : 0 ≤ (sa).toInt ∧ (sa).toInt ≤ 1600) (se : Int32) (f_se : S.1 0 5 = .int se) (b_se : 0 ≤ (se).toInt ∧ (se).toInt ≤ 1600) (sl : Int32) (f_sl : S.1 0 2 = .int sl) (b_sl : 0 ≤ (sl).toInt ∧ (sl).toInt ≤ 1600) (va : Int32) (f_va : S.1 0 6 = .int va) (b_va : 0 ≤ (va).toInt ∧ (va).toInt ≤ 9999) (cd : Int32) (f_cd : S.1 0 34 = .int cd) (b_cd : 0 ≤ (cd).toInt ∧ (cd).toInt ≤ 1600) (dp : Int32) (f_dp : S.1 0 42 = .int dp) (b_dp : 0 ≤ (dp).toInt ∧ (dp).toInt ≤ 20) (on : Int32) (f_on : S.1 0 43 = .int on) (om : Int32) (f_om : S.1 0 45 = .int om) (b_om : 0 ≤ (om).toInt ∧ (om).toInt ≤ 500) (fk : Int32) (f_fk : S.1 0 8 = .int fk) (b_fk : 0 ≤ (fk).toInt ∧ (fk).toInt ≤ 6) (hlx : (sa).toInt ≤ (se).toInt ∧ (se).toInt ≤ (sl).toInt ∧ ((sg).toInt ≠ 0 → (sa).toInt + 1 ≤ (se).toInt)) (hro : (cd).toInt + (om).toInt + (dp).toInt ≤ (sa).toInt) (ZW : ZWM S) (ZK : ZKM S) (P0 : P0M S) (I : CM o S) (sz : Nat) : Met l yX12_operand (bw yX12_operand cX12_operand 4 (some .boolean)) ({ frames := 4, cells := 0, slots := 0, locals := 98 } : Room) (dk_Pc g D (dg_w g shM o rfM S) sz [.ref (o + 0)]) (va_Qi (fun (r : Int32) S' => CM o S' ∧ dg_sm shM [(0, 3), (0, 4), (0, 5), (0, 6), (0, 7), (0, 8), (0, 9), (0, 12), (0, 34), (0, 42), (0, 43), (0, 45)] [18, 19, 22, 23, 24, 25, 26, 27] S S' ∧ (0 ≤ (r).toInt ∧ (r).toInt ≤ 1) ∧ (∃ y9_3 y9_4 y9_5 y9_8 y9_34 y9_42 y9_45 : Int32, S'.1 0 3 = .int y9_3 ∧ S'.1 0 4 = .int y9_4 ∧ S'.1 0 5 = .int y9_5 ∧ S'.1 0 8 = .int y9_8 ∧ S'.1 0 34 = .int y9_34 ∧ S'.1 0 42 = .int y9_42 ∧ S'.1 0 45 = .int y9_45 ∧ (((y9_4).toInt ≤ (y9_5).toInt ∧ (y9_5).toInt ≤ (sl).toInt ∧ ((y9_3).toInt ≠ 0 → (y9_4).toInt + 1 ≤ (y9_5).toInt)) ∧ (sa).toInt ≤ (y9_4).toInt ∧ ((fk).toInt ≠ 0 → (y9_8).toInt ≠ 0) ∧ (((y9_8).toInt = 0 → (sa).toInt + 1 ≤ (y9_4).toInt) ∧ ((y9_8).toInt = 0 → (y9_34).toInt + (y9_45).toInt + (y9_42).toInt ≤ (y9_4).toInt)))) ∧ (∀ k9 : Int32, S'.1 0 8 = .int k9 → k9.toInt = 0 → ((r).toInt = 1 → P1M S') ∧ ((r).toInt = 0 → P0M S')) ∧ ZWM S' ∧ True) (dg_B g D shM o rfM) (dg_A o shM.length sz)) 0 0 (dg_A o shM.length sz) := by
  refine dg_met (cc := cX12_operand) (maxL := 4) (ret := (some .boolean)) (by decide) rfl (Nat.le_of_ble_eq_true rfl) ?_
  intro p e s m args below meth c A hAe harg hx hb hr hml hts hown hlocks hin hP K hS hA1 hA ST hsz ls hl
  rw [← hAe]
  have F : CallFix p m c cX12_operand 4 s args (bw yX12_operand cX12_operand 4 (some .boolean)) RX12 := ⟨hx, hb, hml, hown, hts⟩
  have hl : lv_has ls 4 [(0, .ref (o + 0))] := hl
  have M_0 : dg_sm shM [(0, 3), (0, 4), (0, 5), (0, 6), (0, 7), (0, 8), (0, 9), (0, 12), (0, 34), (0, 42), (0, 43), (0, 45)] [18, 19, 22, 23, 24, 25, 26, 27] S S := dg_sm.rf
  obtain ⟨hlx_0, hlx_1, hlx_2⟩ := hlx
  have hdm_0 := PSM.dims P0 f_dp f_on f_om
  refine lv_aload_n hx hb dX12_operand_0 rfl (lv_at hl 0 rfl) ?_
  refine dg_callv hS hA1 hA (va_runV (As := []) (rest := []) F (c_m_lex l g D o S fk f_fk (by omega) I s.heap.size) (cwV 0 hts (bw_V wB_1153 wB_1154 wB_1155 wB_881 wB_1152) rfl rfl rfl (by decide +kernel) ⟨Nat.le_of_ble_eq_true rfl, Nat.le_of_ble_eq_true rfl⟩) (dg_preV sM_0 rfl K ST hP hS hA1 hA) rfl rfl hl.1 rfl (lv_room (Nat.le_of_ble_eq_true rfl)) dX12_operand_1 ⟨Nat.le_of_ble_eq_true rfl, Nat.le_of_ble_eq_true rfl⟩) (fun S_2 hw_2 H locs hP hS => ?_)
  obtain ⟨I_2, m_2, w_2_0, -⟩ := hw_2
  have M_2 := dg_sm.tr M_0 m_2 (by decide) (by decide)
  obtain ⟨y_3, f_y_3, w_2_0⟩ := w_2_0
  have w_2_0 : (fk).toInt ≠ 0 → (y_3).toInt = (fk).toInt := w_2_0
  have b_y_3 : 0 ≤ (y_3).toInt ∧ (y_3).toInt ≤ 6 := dg_I.intb (lo := 0) (hi := 6) I_2 sM_0 (by decide +kernel) f_y_3
  refine lv_aload_n hx hb dX12_operand_4 rfl (lv_at hl 0 rfl) ?_
  refine dg_get (C := RX12) (T := TX12) (N := 77) hx hb hts (fun w h => bw_mem (wU_X12 w h)) hown K hP sM_0 rfl 8 (by decide) (hts _ (bw_mem wB_1133)) (fun _ h9 => h9) (v := .int y_3) f_y_3 dX12_operand_5 ?_
  refine lv_if_le (tgt := 13) hx hb dX12_operand_8 (by decide) (fun c_4 => ?_) (fun c_4 => ?_)
  · have jc_4 := dk_lec (k := 0) (by decide +kernel) c_4
    refine lv_aload_n hx hb dX12_operand_13 rfl (lv_at hl 0 rfl) ?_
    refine dg_get (C := RX12) (T := TX12) (N := 77) hx hb hts (fun w h => bw_mem (wU_X12 w h)) hown K hP sM_0 rfl 42 (by decide) (hts _ (bw_mem wB_1203)) (fun _ h9 => h9) (v := .int dp) ((m_2.1 0 42 _ sM_0 (by decide)).trans f_dp) dX12_operand_14 ?_
    refine lv_iconst (v := 1) hx hb dX12_operand_17 (by decide +kernel) ?_
    refine lv_isub hx hb dX12_operand_18 ?_
    refine lv_topi (fun x_5 ex_5 => ?_)
    have jx_5 : (x_5).toInt = (dp).toInt - 1 := by rw [ex_5]; exact dk_subT rfl (by decide +kernel) (by omega) (by omega)
    refine lv_istore_n (lv' := [(1, .int x_5), (0, .ref (o + 0))]) hx hb dX12_operand_19 rfl hl (by decide) rfl (fun ls hl => ?_)
    refine lv_aload_n hx hb dX12_operand_20 rfl (lv_at hl 1 rfl) ?_
    refine dg_get (C := RX12) (T := TX12) (N := 77) hx hb hts (fun w h => bw_mem (wU_X12 w h)) hown K hP sM_0 rfl 37 (by decide) (hts _ (bw_mem wB_1213)) (fun _ h9 => h9) (v := .ref (o + 22)) (show S_2.1 0 37 = .ref (o + 22) from dg_I.rel (d := 22) I_2 sM_0 (by decide +kernel)) dX12_operand_21 ?_
    refine lv_iload_n hx hb dX12_operand_24 rfl (lv_at hl 0 rfl) ?_
    have hin_6 : vp_in x_5 20 := (dk_inv (by omega) (by omega))
    refine dg_iald hx hb K hP sM_22 hin_6 dX12_operand_25 (fun x_7 ex_7 => ?_)
    have b_x_7 := dk_all_at (dg_I.row (lo := 0) (hi := 6) I_2 sM_22 (by decide +kernel)) hin_6 ex_7
    refine dg_calli hS hA1 hA (va_runS (As := [.int x_7]) (rest := []) F (c_m_isTest l g D o S_2 x_7 I_2 H.size) (va_cwS 1 hts (bw_S wB_1221 wB_1222 wB_881 wB_1220) rfl rfl rfl (by decide +kernel) ⟨Nat.le_of_ble_eq_true rfl, Nat.le_of_ble_eq_true rfl⟩) (dg_preS K ST hP hS hA1 hA) rfl rfl hl.1 rfl (lv_room (Nat.le_of_ble_eq_true rfl)) dX12_operand_26 ⟨Nat.le_of_ble_eq_true rfl, Nat.le_of_ble_eq_true rfl⟩) (fun x_8 S_9 hw_9 H locs hP hS => ?_)
    rw [hw_9.1] at hP
    obtain ⟨hq_9, w_9_0, w_9_1, -⟩ := hw_9
    have w_9_0 : 0 ≤ (x_8).toInt ∧ (x_8).toInt ≤ 1 := w_9_0
    have w_9_1 : (x_8).toInt = 1 ↔ ((x_7).toInt = 1 ∨ (x_7).toInt = 5 ∨ (x_7).toInt = 6) := w_9_1
    have J_312 : ∀ (x_14 : Int32), (0 ≤ (x_14).toInt ∧ (x_14).toInt ≤ 1) → ((x_14 : Int32).toInt = 1 → (((x_7).toInt = 1 ∨ (x_7).toInt = 5 ∨ (x_7).toInt = 6) ∧ (S_2.2.1 24 (x_5 : Int32).toNatClampNeg).toInt = 1)) → ∀ (H : Heap) (locs : List Loc), va_P D vwCl (dg_w g shM o rfM S_2) H → va_S A s.heap H locs → ∀ ls : Array Slot, lv_has ls 4 [(1, .int x_5), (0, .ref (o + 0))] → W p l e ({ frames := 4, cells := 0, slots := 0, locals := 98 } : Room) s m args below meth c H locs 0 0 (MQ below (va_Qi (fun (r : Int32) S' => CM o S' ∧ dg_sm shM [(0, 3), (0, 4), (0, 5), (0, 6), (0, 7), (0, 8), (0, 9), (0, 12), (0, 34), (0, 42), (0, 43), (0, 45)] [18, 19, 22, 23, 24, 25, 26, 27] S S' ∧ (0 ≤ (r).toInt ∧ (r).toInt ≤ 1) ∧ (∃ y9_3 y9_4 y9_5 y9_8 y9_34 y9_42 y9_45 : Int32, S'.1 0 3 = .int y9_3 ∧ S'.1 0 4 = .int y9_4 ∧ S'.1 0 5 = .int y9_5 ∧ S'.1 0 8 = .int y9_8 ∧ S'.1 0 34 = .int y9_34 ∧ S'.1 0 42 = .int y9_42 ∧ S'.1 0 45 = .int y9_45 ∧ (((y9_4).toInt ≤ (y9_5).toInt ∧ (y9_5).toInt ≤ (sl).toInt ∧ ((y9_3).toInt ≠ 0 → (y9_4).toInt + 1 ≤ (y9_5).toInt)) ∧ (sa).toInt ≤ (y9_4).toInt ∧ ((fk).toInt ≠ 0 → (y9_8).toInt ≠ 0) ∧ (((y9_8).toInt = 0 → (sa).toInt + 1 ≤ (y9_4).toInt) ∧ ((y9_8).toInt = 0 → (y9_34).toInt + (y9_45).toInt + (y9_42).toInt ≤ (y9_4).toInt)))) ∧ (∀ k9 : Int32, S'.1 0 8 = .int k9 → k9.toInt = 0 → ((r).toInt = 1 → P1M S') ∧ ((r).toInt = 0 → P0M S')) ∧ ZWM S' ∧ True) (dg_B g D shM o rfM) A) args s 0 0 A) (F0 m 46 ls [.int x_14]) := by
      intro x_14 b_x_14 rel_0 H locs hP hS ls hl
      clear w_9_1
      refine lv_istore_n (lv' := [(2, .int x_14), (1, .int x_5), (0, .ref (o + 0))]) hx hb dX12_operand_46 rfl hl (by decide) rfl (fun ls hl => ?_)
      refine lv_iload_n hx hb dX12_operand_47 rfl (lv_at hl 0 rfl) ?_
      have J_610 : ∀ (H : Heap) (locs : List Loc), va_P D vwCl (dg_w g shM o rfM S_2) H → va_S A s.heap H locs → ∀ ls : Array Slot, lv_has ls 4 [(2, .int x_14), (1, .int x_5), (0, .ref (o + 0))] → W p l e ({ frames := 4, cells := 0, slots := 0, locals := 98 } : Room) s m args below meth c H locs 0 0 (MQ below (va_Qi (fun (r : Int32) S' => CM o S' ∧ dg_sm shM [(0, 3), (0, 4), (0, 5), (0, 6), (0, 7), (0, 8), (0, 9), (0, 12), (0, 34), (0, 42), (0, 43), (0, 45)] [18, 19, 22, 23, 24, 25, 26, 27] S S' ∧ (0 ≤ (r).toInt ∧ (r).toInt ≤ 1) ∧ (∃ y9_3 y9_4 y9_5 y9_8 y9_34 y9_42 y9_45 : Int32, S'.1 0 3 = .int y9_3 ∧ S'.1 0 4 = .int y9_4 ∧ S'.1 0 5 = .int y9_5 ∧ S'.1 0 8 = .int y9_8 ∧ S'.1 0 34 = .int y9_34 ∧ S'.1 0 42 = .int y9_42 ∧ S'.1 0 45 = .int y9_45 ∧ (((y9_4).toInt ≤ (y9_5).toInt ∧ (y9_5).toInt ≤ (sl).toInt ∧ ((y9_3).toInt ≠ 0 → (y9_4).toInt + 1 ≤ (y9_5).toInt)) ∧ (sa).toInt ≤ (y9_4).toInt ∧ ((fk).toInt ≠ 0 → (y9_8).toInt ≠ 0) ∧ (((y9_8).toInt = 0 → (sa).toInt + 1 ≤ (y9_4).toInt) ∧ ((y9_8).toInt = 0 → (y9_34).toInt + (y9_45).toInt + (y9_42).toInt ≤ (y9_4).toInt)))) ∧ (∀ k9 : Int32, S'.1 0 8 = .int k9 → k9.toInt = 0 → ((r).toInt = 1 → P1M S') ∧ ((r).toInt = 0 → P0M S')) ∧ ZWM S' ∧ True) (dg_B g D shM o rfM) A) args s 0 0 A) (F0 m 110 ls []) := by
        intro H locs hP hS ls hl
        refine lv_aload_n hx hb dX12_operand_110 rfl (lv_at hl 2 rfl) ?_
        refine dg_get (C := RX12) (T := TX12) (N := 77) hx hb hts (fun w h => bw_mem (wU_X12 w h)) hown K hP sM_0 rfl 39 (by decide) (hts _ (bw_mem wB_1215)) (fun _ h9 => h9) (v := .ref (o + 24)) (show S_2.1 0 39 = .ref (o + 24) from dg_I.rel (d := 24) I_2 sM_0 (by decide +kernel)) dX12_operand_111 ?_
        refine lv_iload_n hx hb dX12_operand_114 rfl (lv_at hl 1 rfl) ?_
        refine lv_iconst (v := 0) hx hb dX12_operand_115 (by decide +kernel) ?_
        have hin_611 : vp_in x_5 20 := (dk_inv (by omega) (by omega))
        have hz_613 : (0 : Int32).toInt = 0 := by decide +kernel
        refine dg_zast hx hb K hP hS hA1 sM_24 hin_611 (by decide +kernel) dX12_operand_116 (fun S_612 e_612 H locs hP hS => ?_)
        have I_612 := dg_I.ufu (lo := 0) (hi := 1) I_2 e_612 sM_24 (by decide +kernel) (show 0 ≤ ((0 : Int32)).toInt ∧ ((0 : Int32)).toInt ≤ 1 from (by decide +kernel))
        have M_612 := dg_sm.uf M_2 e_612 sM_24 (by decide)
        have hz_614 : (0 : Int32).toInt = 0 := by decide +kernel
        have PB_612 : PBM S_612 := P0M.bg0 (P0M.keep P0 m_2 (by decide) (by decide) (by decide) (by decide) (by decide) (by decide) (by decide) (by decide) (by decide) (by decide) (by decide) (by decide) (by decide) (by decide) (by decide)) ((m_2.1 0 42 _ sM_0 (by decide)).trans f_dp) (by omega) (by omega) (by omega) e_612
        refine lv_iload_n hx hb dX12_operand_117 rfl (lv_at hl 0 rfl) ?_
        have J_879 : ∀ (H : Heap) (locs : List Loc), va_P D vwCl (dg_w g shM o rfM S_612) H → va_S A s.heap H locs → ∀ ls : Array Slot, lv_has ls 4 [(2, .int x_14), (1, .int x_5), (0, .ref (o + 0))] → W p l e ({ frames := 4, cells := 0, slots := 0, locals := 98 } : Room) s m args below meth c H locs 0 0 (MQ below (va_Qi (fun (r : Int32) S' => CM o S' ∧ dg_sm shM [(0, 3), (0, 4), (0, 5), (0, 6), (0, 7), (0, 8), (0, 9), (0, 12), (0, 34), (0, 42), (0, 43), (0, 45)] [18, 19, 22, 23, 24, 25, 26, 27] S S' ∧ (0 ≤ (r).toInt ∧ (r).toInt ≤ 1) ∧ (∃ y9_3 y9_4 y9_5 y9_8 y9_34 y9_42 y9_45 : Int32, S'.1 0 3 = .int y9_3 ∧ S'.1 0 4 = .int y9_4 ∧ S'.1 0 5 = .int y9_5 ∧ S'.1 0 8 = .int y9_8 ∧ S'.1 0 34 = .int y9_34 ∧ S'.1 0 42 = .int y9_42 ∧ S'.1 0 45 = .int y9_45 ∧ (((y9_4).toInt ≤ (y9_5).toInt ∧ (y9_5).toInt ≤ (sl).toInt ∧ ((y9_3).toInt ≠ 0 → (y9_4).toInt + 1 ≤ (y9_5).toInt)) ∧ (sa).toInt ≤ (y9_4).toInt ∧ ((fk).toInt ≠ 0 → (y9_8).toInt ≠ 0) ∧ (((y9_8).toInt = 0 → (sa).toInt + 1 ≤ (y9_4).toInt) ∧ ((y9_8).toInt = 0 → (y9_34).toInt + (y9_45).toInt + (y9_42).toInt ≤ (y9_4).toInt)))) ∧ (∀ k9 : Int32, S'.1 0 8 = .int k9 → k9.toInt = 0 → ((r).toInt = 1 → P1M S') ∧ ((r).toInt = 0 → P0M S')) ∧ ZWM S' ∧ True) (dg_B g D shM o rfM) A) args s 0 0 A) (F0 m 137 ls []) := by
          intro H locs hP hS ls hl
          refine lv_iload_n hx hb dX12_operand_137 rfl (lv_at hl 0 rfl) ?_
          have J_1125 : ∀ (H : Heap) (locs : List Loc), va_P D vwCl (dg_w g shM o rfM S_612) H → va_S A s.heap H locs → ∀ ls : Array Slot, lv_has ls 4 [(2, .int x_14), (1, .int x_5), (0, .ref (o + 0))] → W p l e ({ frames := 4, cells := 0, slots := 0, locals := 98 } : Room) s m args below meth c H locs 0 0 (MQ below (va_Qi (fun (r : Int32) S' => CM o S' ∧ dg_sm shM [(0, 3), (0, 4), (0, 5), (0, 6), (0, 7), (0, 8), (0, 9), (0, 12), (0, 34), (0, 42), (0, 43), (0, 45)] [18, 19, 22, 23, 24, 25, 26, 27] S S' ∧ (0 ≤ (r).toInt ∧ (r).toInt ≤ 1) ∧ (∃ y9_3 y9_4 y9_5 y9_8 y9_34 y9_42 y9_45 : Int32, S'.1 0 3 = .int y9_3 ∧ S'.1 0 4 = .int y9_4 ∧ S'.1 0 5 = .int y9_5 ∧ S'.1 0 8 = .int y9_8 ∧ S'.1 0 34 = .int y9_34 ∧ S'.1 0 42 = .int y9_42 ∧ S'.1 0 45 = .int y9_45 ∧ (((y9_4).toInt ≤ (y9_5).toInt ∧ (y9_5).toInt ≤ (sl).toInt ∧ ((y9_3).toInt ≠ 0 → (y9_4).toInt + 1 ≤ (y9_5).toInt)) ∧ (sa).toInt ≤ (y9_4).toInt ∧ ((fk).toInt ≠ 0 → (y9_8).toInt ≠ 0) ∧ (((y9_8).toInt = 0 → (sa).toInt + 1 ≤ (y9_4).toInt) ∧ ((y9_8).toInt = 0 → (y9_34).toInt + (y9_45).toInt + (y9_42).toInt ≤ (y9_4).toInt)))) ∧ (∀ k9 : Int32, S'.1 0 8 = .int k9 → k9.toInt = 0 → ((r).toInt = 1 → P1M S') ∧ ((r).toInt = 0 → P0M S')) ∧ ZWM S' ∧ True) (dg_B g D shM o rfM) A) args s 0 0 A) (F0 m 171 ls []) := by
            intro H locs hP hS ls hl
            refine lv_aload_n hx hb dX12_operand_171 rfl (lv_at hl 2 rfl) ?_
            refine lv_bipush (v := 40) hx hb dX12_operand_172 (by decide +kernel) ?_
            refine dg_calli hS hA1 hA (va_runV (As := [.int 40]) (rest := []) F (c_m_isSign l g D o S_612 40 sg (((dg_uf_F e_612 0 3).trans (m_2.1 0 3 _ sM_0 (by decide))).trans f_sg) (by omega) va (((dg_uf_F e_612 0 6).trans (m_2.1 0 6 _ sM_0 (by decide))).trans f_va) (by omega) I_612 H.size) (cwV 1 hts (bw_V wB_1157 wB_1158 wB_1159 wB_881 wB_1156) rfl rfl rfl (by decide +kernel) ⟨Nat.le_of_ble_eq_true rfl, Nat.le_of_ble_eq_true rfl⟩) (dg_preV sM_0 rfl K ST hP hS hA1 hA) rfl rfl hl.1 rfl (lv_room (Nat.le_of_ble_eq_true rfl)) dX12_operand_174 ⟨Nat.le_of_ble_eq_true rfl, Nat.le_of_ble_eq_true rfl⟩) (fun x_1126 S_1127 hw_1127 H locs hP hS => ?_)
            rw [hw_1127.1] at hP
            obtain ⟨hq_1127, w_1127_0, w_1127_1, -⟩ := hw_1127
            have hz_1128 : (40 : Int32).toInt = 40 := by decide +kernel
            have w_1127_0 : 0 ≤ (x_1126).toInt ∧ (x_1126).toInt ≤ 1 := w_1127_0
            have w_1127_1 : (x_1126).toInt = 1 ↔ ((sg).toInt = 3 ∧ (va).toInt = ((40 : Int32)).toInt) := w_1127_1
            refine lv_if_eq (tgt := 187) hx hb dX12_operand_177 (by decide) (fun c_1129 => ?_) (fun c_1129 => ?_)
            · have jc_1129 := dk_eqc (k := 0) (by decide +kernel) c_1129
              clear w_1127_1
              refine lv_aload_n hx hb dX12_operand_187 rfl (lv_at hl 2 rfl) ?_
              refine lv_ldc2 hx hb hown (hts _ (bw_mem wB_1193)) dX12_operand_188 ?_
              refine dg_calli hS hA1 hA (va_runV (As := [.long 7170414]) (rest := []) F (c_m_isWord l g D o S_612 7170414 sg (((dg_uf_F e_612 0 3).trans (m_2.1 0 3 _ sM_0 (by decide))).trans f_sg) (by omega) I_612 H.size) (cwV 1 hts (bw_V wB_1165 wB_1166 wB_1167 wB_881 wB_1164) rfl rfl rfl (by decide +kernel) ⟨Nat.le_of_ble_eq_true rfl, Nat.le_of_ble_eq_true rfl⟩) (dg_preV sM_0 rfl K ST hP hS hA1 hA) rfl rfl hl.1 rfl (lv_room (Nat.le_of_ble_eq_true rfl)) dX12_operand_191 ⟨Nat.le_of_ble_eq_true rfl, Nat.le_of_ble_eq_true rfl⟩) (fun x_1130 S_1131 hw_1131 H locs hP hS => ?_)
              rw [hw_1131.1] at hP
              obtain ⟨hq_1131, w_1131_0, w_1131_1, -⟩ := hw_1131
              have w_1131_0 : 0 ≤ (x_1130).toInt ∧ (x_1130).toInt ≤ 1 := w_1131_0
              have w_1131_1 : (x_1130).toInt = 1 → (sg).toInt = 1 := w_1131_1
              have J_1336 : ∀ (u9 : Unit), ((sg).toInt = 1) → ∀ (H : Heap) (locs : List Loc), va_P D vwCl (dg_w g shM o rfM S_612) H → va_S A s.heap H locs → ∀ ls : Array Slot, lv_has ls 4 [(2, .int x_14), (1, .int x_5), (0, .ref (o + 0))] → W p l e ({ frames := 4, cells := 0, slots := 0, locals := 98 } : Room) s m args below meth c H locs 0 0 (MQ below (va_Qi (fun (r : Int32) S' => CM o S' ∧ dg_sm shM [(0, 3), (0, 4), (0, 5), (0, 6), (0, 7), (0, 8), (0, 9), (0, 12), (0, 34), (0, 42), (0, 43), (0, 45)] [18, 19, 22, 23, 24, 25, 26, 27] S S' ∧ (0 ≤ (r).toInt ∧ (r).toInt ≤ 1) ∧ (∃ y9_3 y9_4 y9_5 y9_8 y9_34 y9_42 y9_45 : Int32, S'.1 0 3 = .int y9_3 ∧ S'.1 0 4 = .int y9_4 ∧ S'.1 0 5 = .int y9_5 ∧ S'.1 0 8 = .int y9_8 ∧ S'.1 0 34 = .int y9_34 ∧ S'.1 0 42 = .int y9_42 ∧ S'.1 0 45 = .int y9_45 ∧ (((y9_4).toInt ≤ (y9_5).toInt ∧ (y9_5).toInt ≤ (sl).toInt ∧ ((y9_3).toInt ≠ 0 → (y9_4).toInt + 1 ≤ (y9_5).toInt)) ∧ (sa).toInt ≤ (y9_4).toInt ∧ ((fk).toInt ≠ 0 → (y9_8).toInt ≠ 0) ∧ (((y9_8).toInt = 0 → (sa).toInt + 1 ≤ (y9_4).toInt) ∧ ((y9_8).toInt = 0 → (y9_34).toInt + (y9_45).toInt + (y9_42).toInt ≤ (y9_4).toInt)))) ∧ (∀ k9 : Int32, S'.1 0 8 = .int k9 → k9.toInt = 0 → ((r).toInt = 1 → P1M S') ∧ ((r).toInt = 0 → P0M S')) ∧ ZWM S' ∧ True) (dg_B g D shM o rfM) A) args s 0 0 A) (F0 m 217 ls []) := by
                intro u9 rel_0 H locs hP hS ls hl
                clear w_1131_1
                refine lv_aload_n hx hb dX12_operand_217 rfl (lv_at hl 2 rfl) ?_
                refine lv_ldc2 hx hb hown (hts _ (bw_mem wB_1193)) dX12_operand_218 ?_
                refine dg_calli hS hA1 hA (va_runV (As := [.long 7170414]) (rest := []) F (c_m_isWord l g D o S_612 7170414 sg (((dg_uf_F e_612 0 3).trans (m_2.1 0 3 _ sM_0 (by decide))).trans f_sg) (by omega) I_612 H.size) (cwV 1 hts (bw_V wB_1165 wB_1166 wB_1167 wB_881 wB_1164) rfl rfl rfl (by decide +kernel) ⟨Nat.le_of_ble_eq_true rfl, Nat.le_of_ble_eq_true rfl⟩) (dg_preV sM_0 rfl K ST hP hS hA1 hA) rfl rfl hl.1 rfl (lv_room (Nat.le_of_ble_eq_true rfl)) dX12_operand_221 ⟨Nat.le_of_ble_eq_true rfl, Nat.le_of_ble_eq_true rfl⟩) (fun x_1337 S_1338 hw_1338 H locs hP hS => ?_)
                rw [hw_1338.1] at hP
                obtain ⟨hq_1338, w_1338_0, w_1338_1, -⟩ := hw_1338
                have w_1338_0 : 0 ≤ (x_1337).toInt ∧ (x_1337).toInt ≤ 1 := w_1338_0
                have w_1338_1 : (x_1337).toInt = 1 → (sg).toInt = 1 := w_1338_1
                have J_1453 : ∀ (x_1343 : Int32), (36 ≤ (x_1343).toInt ∧ (x_1343).toInt ≤ 44) → ((x_1343 : Int32).toInt = 36 ∨ (x_1343 : Int32).toInt = 37 ∨ (x_1343 : Int32).toInt = 44) → ∀ (H : Heap) (locs : List Loc), va_P D vwCl (dg_w g shM o rfM S_612) H → va_S A s.heap H locs → ∀ ls : Array Slot, lv_has ls 4 [(2, .int x_14), (1, .int x_5), (0, .ref (o + 0))] → W p l e ({ frames := 4, cells := 0, slots := 0, locals := 98 } : Room) s m args below meth c H locs 0 0 (MQ below (va_Qi (fun (r : Int32) S' => CM o S' ∧ dg_sm shM [(0, 3), (0, 4), (0, 5), (0, 6), (0, 7), (0, 8), (0, 9), (0, 12), (0, 34), (0, 42), (0, 43), (0, 45)] [18, 19, 22, 23, 24, 25, 26, 27] S S' ∧ (0 ≤ (r).toInt ∧ (r).toInt ≤ 1) ∧ (∃ y9_3 y9_4 y9_5 y9_8 y9_34 y9_42 y9_45 : Int32, S'.1 0 3 = .int y9_3 ∧ S'.1 0 4 = .int y9_4 ∧ S'.1 0 5 = .int y9_5 ∧ S'.1 0 8 = .int y9_8 ∧ S'.1 0 34 = .int y9_34 ∧ S'.1 0 42 = .int y9_42 ∧ S'.1 0 45 = .int y9_45 ∧ (((y9_4).toInt ≤ (y9_5).toInt ∧ (y9_5).toInt ≤ (sl).toInt ∧ ((y9_3).toInt ≠ 0 → (y9_4).toInt + 1 ≤ (y9_5).toInt)) ∧ (sa).toInt ≤ (y9_4).toInt ∧ ((fk).toInt ≠ 0 → (y9_8).toInt ≠ 0) ∧ (((y9_8).toInt = 0 → (sa).toInt + 1 ≤ (y9_4).toInt) ∧ ((y9_8).toInt = 0 → (y9_34).toInt + (y9_45).toInt + (y9_42).toInt ≤ (y9_4).toInt)))) ∧ (∀ k9 : Int32, S'.1 0 8 = .int k9 → k9.toInt = 0 → ((r).toInt = 1 → P1M S') ∧ ((r).toInt = 0 → P0M S')) ∧ ZWM S' ∧ True) (dg_B g D shM o rfM) A) args s 0 0 A) (F0 m 249 ls [.int x_1343]) := by
                  intro x_1343 b_x_1343 rel_0 H locs hP hS ls hl
                  clear w_1338_1
                  refine lv_istore_n (lv' := [(3, .int x_1343), (2, .int x_14), (1, .int x_5), (0, .ref (o + 0))]) hx hb dX12_operand_249 rfl hl (by decide) rfl (fun ls hl => ?_)
                  refine lv_aload_n hx hb dX12_operand_250 rfl (lv_at hl 3 rfl) ?_
                  refine dg_callv hS hA1 hA (va_runV (As := []) (rest := []) F (c_m_ahead l g D o S_612 se (((dg_uf_F e_612 0 5).trans (m_2.1 0 5 _ sM_0 (by decide))).trans f_se) (by omega) sl (((dg_uf_F e_612 0 2).trans (m_2.1 0 2 _ sM_0 (by decide))).trans f_sl) (by omega) (by omega) I_612 H.size) (cwV 0 hts (bw_V wB_1161 wB_1162 wB_1163 wB_881 wB_1160) rfl rfl rfl (by decide +kernel) ⟨Nat.le_of_ble_eq_true rfl, Nat.le_of_ble_eq_true rfl⟩) (dg_preV sM_0 rfl K ST hP hS hA1 hA) rfl rfl hl.1 rfl (lv_room (Nat.le_of_ble_eq_true rfl)) dX12_operand_251 ⟨Nat.le_of_ble_eq_true rfl, Nat.le_of_ble_eq_true rfl⟩) (fun S_1454 hw_1454 H locs hP hS => ?_)
                  obtain ⟨I_1454, m_1454, w_1454_0, -⟩ := hw_1454
                  have M_1454 := dg_sm.tr M_612 m_1454 (by decide) (by decide)
                  obtain ⟨y_1455, y_1456, y_1457, f_y_1455, f_y_1456, f_y_1457, w_1454_0⟩ := w_1454_0
                  have w_1454_0 : (se).toInt ≤ (y_1456).toInt ∧ (y_1456).toInt ≤ (y_1457).toInt ∧ (y_1457).toInt ≤ (sl).toInt ∧ ((y_1455).toInt ≠ 0 → (y_1456).toInt + 1 ≤ (y_1457).toInt) := w_1454_0
                  obtain ⟨w_1454_0_0, w_1454_0_1, w_1454_0_2, w_1454_0_3⟩ := w_1454_0
                  have b_y_1455 : 0 ≤ (y_1455).toInt ∧ (y_1455).toInt ≤ 3 := dg_I.intb (lo := 0) (hi := 3) I_1454 sM_0 (by decide +kernel) f_y_1455
                  have b_y_1456 : 0 ≤ (y_1456).toInt ∧ (y_1456).toInt ≤ 1600 := dg_I.intb (lo := 0) (hi := 1600) I_1454 sM_0 (by decide +kernel) f_y_1456
                  have b_y_1457 : 0 ≤ (y_1457).toInt ∧ (y_1457).toInt ≤ 1600 := dg_I.intb (lo := 0) (hi := 1600) I_1454 sM_0 (by decide +kernel) f_y_1457
                  refine lv_aload_n hx hb dX12_operand_254 rfl (lv_at hl 3 rfl) ?_
                  refine dg_callv hS hA1 hA (va_runV (As := []) (rest := []) F (c_m_lex l g D o S_1454 y_3 (((m_1454.1 0 8 _ sM_0 (by decide)).trans (dg_uf_F e_612 0 8)).trans f_y_3) (by omega) I_1454 H.size) (cwV 0 hts (bw_V wB_1153 wB_1154 wB_1155 wB_881 wB_1152) rfl rfl rfl (by decide +kernel) ⟨Nat.le_of_ble_eq_true rfl, Nat.le_of_ble_eq_true rfl⟩) (dg_preV sM_0 rfl K ST hP hS hA1 hA) rfl rfl hl.1 rfl (lv_room (Nat.le_of_ble_eq_true rfl)) dX12_operand_255 ⟨Nat.le_of_ble_eq_true rfl, Nat.le_of_ble_eq_true rfl⟩) (fun S_1458 hw_1458 H locs hP hS => ?_)
                  obtain ⟨I_1458, m_1458, w_1458_0, -⟩ := hw_1458
                  have M_1458 := dg_sm.tr M_1454 m_1458 (by decide) (by decide)
                  obtain ⟨y_1459, f_y_1459, w_1458_0⟩ := w_1458_0
                  have w_1458_0 : (y_3).toInt ≠ 0 → (y_1459).toInt = (y_3).toInt := w_1458_0
                  clear w_1458_0
                  have b_y_1459 : 0 ≤ (y_1459).toInt ∧ (y_1459).toInt ≤ 6 := dg_I.intb (lo := 0) (hi := 6) I_1458 sM_0 (by decide +kernel) f_y_1459
                  refine lv_aload_n hx hb dX12_operand_258 rfl (lv_at hl 3 rfl) ?_
                  refine lv_bipush (v := 40) hx hb dX12_operand_259 (by decide +kernel) ?_
                  obtain ⟨x_1460, f_x_1460, b_x_1460⟩ := dg_I.int (i := 0) (k := 6) (lo := 0) (hi := 9999) I_1458 sM_0 (by decide +kernel)
                  refine dg_calli hS hA1 hA (va_runV (As := [.int 40]) (rest := []) F (c_m_isSign l g D o S_1458 40 y_1455 ((m_1458.1 0 3 _ sM_0 (by decide)).trans f_y_1455) (by omega) x_1460 f_x_1460 (by omega) I_1458 H.size) (cwV 1 hts (bw_V wB_1157 wB_1158 wB_1159 wB_881 wB_1156) rfl rfl rfl (by decide +kernel) ⟨Nat.le_of_ble_eq_true rfl, Nat.le_of_ble_eq_true rfl⟩) (dg_preV sM_0 rfl K ST hP hS hA1 hA) rfl rfl hl.1 rfl (lv_room (Nat.le_of_ble_eq_true rfl)) dX12_operand_261 ⟨Nat.le_of_ble_eq_true rfl, Nat.le_of_ble_eq_true rfl⟩) (fun x_1461 S_1462 hw_1462 H locs hP hS => ?_)
                  rw [hw_1462.1] at hP
                  obtain ⟨hq_1462, w_1462_0, w_1462_1, -⟩ := hw_1462
                  have hz_1463 : (40 : Int32).toInt = 40 := by decide +kernel
                  have w_1462_0 : 0 ≤ (x_1461).toInt ∧ (x_1461).toInt ≤ 1 := w_1462_0
                  have w_1462_1 : (x_1461).toInt = 1 ↔ ((y_1455).toInt = 3 ∧ (x_1460).toInt = ((40 : Int32)).toInt) := w_1462_1
                  refine lv_if_ne (tgt := 276) hx hb dX12_operand_264 (by decide) (fun c_1464 => ?_) (fun c_1464 => ?_)
                  · have jc_1464 := dk_neqc (k := 0) (by decide +kernel) c_1464
                    have jbc_1464 : 1 ≤ (x_1461).toInt := by omega
                    clear jc_1464
                    have w_1462_1_r := w_1462_1.mp (by omega)
                    clear w_1462_1
                    refine lv_aload_n hx hb dX12_operand_276 rfl (lv_at hl 3 rfl) ?_
                    refine lv_iload_n hx hb dX12_operand_277 rfl (lv_at hl 0 rfl) ?_
                    refine lv_bipush (v := 44) hx hb dX12_operand_278 (by decide +kernel) ?_
                    refine lv_icmp_ne (tgt := 288) hx hb dX12_operand_280 (by decide) (fun c_1465 => ?_) (fun c_1465 => ?_)
                    · have jc_1465 := dk_neqc (k := 44) (by decide +kernel) c_1465
                      have jtc_1465 : (x_1343).toInt ≤ 43 := by omega
                      clear jc_1465
                      refine lv_iconst (v := 3) hx hb dX12_operand_288 (by decide +kernel) ?_
                      have hz_1466 : (3 : Int32).toInt = 3 := by decide +kernel
                      refine dg_callv hS hA1 hA (va_runV (As := [.int 3]) (rest := []) F (c_m_frames l g D o S_1458 3 (by decide +kernel) y_1455 ((m_1458.1 0 3 _ sM_0 (by decide)).trans f_y_1455) (by omega) y_1456 ((m_1458.1 0 4 _ sM_0 (by decide)).trans f_y_1456) (by omega) y_1457 ((m_1458.1 0 5 _ sM_0 (by decide)).trans f_y_1457) (by omega) sl (((m_1458.1 0 2 _ sM_0 (by decide)).trans ((m_1454.1 0 2 _ sM_0 (by decide)).trans ((dg_uf_F e_612 0 2).trans (m_2.1 0 2 _ sM_0 (by decide))))).trans f_sl) (by omega) y_1459 f_y_1459 (by omega) dp (((m_1458.1 0 42 _ sM_0 (by decide)).trans ((m_1454.1 0 42 _ sM_0 (by decide)).trans ((dg_uf_F e_612 0 42).trans (m_2.1 0 42 _ sM_0 (by decide))))).trans f_dp) (by omega) om (((m_1458.1 0 45 _ sM_0 (by decide)).trans ((m_1454.1 0 45 _ sM_0 (by decide)).trans ((dg_uf_F e_612 0 45).trans (m_2.1 0 45 _ sM_0 (by decide))))).trans f_om) (by omega) on (((m_1458.1 0 43 _ sM_0 (by decide)).trans ((m_1454.1 0 43 _ sM_0 (by decide)).trans ((dg_uf_F e_612 0 43).trans (m_2.1 0 43 _ sM_0 (by decide))))).trans f_on) (by omega) (by omega) (by omega) I_1458 H.size) (cwV 1 hts (bw_V wB_1228 wB_1229 wB_1230 wB_881 wB_1227) rfl rfl rfl (by decide +kernel) ⟨Nat.le_of_ble_eq_true rfl, Nat.le_of_ble_eq_true rfl⟩) (dg_preV sM_0 rfl K ST hP hS hA1 hA) rfl rfl hl.1 rfl (lv_room (Nat.le_of_ble_eq_true rfl)) dX12_operand_289 ⟨Nat.le_of_ble_eq_true rfl, Nat.le_of_ble_eq_true rfl⟩) (fun S_1467 hw_1467 H locs hP hS => ?_)
                      obtain ⟨I_1467, m_1467, w_1467_0, w_1467_1, -⟩ := hw_1467
                      have M_1467 := dg_sm.tr M_1458 m_1467 (by decide) (by decide)
                      have hz_1468 : (3 : Int32).toInt = 3 := by decide +kernel
                      obtain ⟨y_1469, y_1470, y_1471, y_1472, y_1473, f_y_1469, f_y_1470, f_y_1471, f_y_1472, f_y_1473, w_1467_0⟩ := w_1467_0
                      have w_1467_0 : ((y_1470).toInt ≤ (y_1471).toInt ∧ (y_1471).toInt ≤ (sl).toInt ∧ ((y_1469).toInt ≠ 0 → (y_1470).toInt + 1 ≤ (y_1471).toInt)) ∧ (y_1456).toInt ≤ (y_1470).toInt ∧ ((y_1459).toInt ≠ 0 → (y_1472).toInt ≠ 0) ∧ (((y_1472).toInt = 0 → ((y_1456).toInt + 1 ≤ (y_1470).toInt ∧ (y_1473).toInt = (dp).toInt + 1))) := w_1467_0
                      obtain ⟨⟨w_1467_0_0, w_1467_0_1, w_1467_0_2⟩, w_1467_0_3, w_1467_0_4, w_1467_0_5⟩ := w_1467_0
                      have b_y_1469 : 0 ≤ (y_1469).toInt ∧ (y_1469).toInt ≤ 3 := dg_I.intb (lo := 0) (hi := 3) I_1467 sM_0 (by decide +kernel) f_y_1469
                      have b_y_1470 : 0 ≤ (y_1470).toInt ∧ (y_1470).toInt ≤ 1600 := dg_I.intb (lo := 0) (hi := 1600) I_1467 sM_0 (by decide +kernel) f_y_1470
                      have b_y_1471 : 0 ≤ (y_1471).toInt ∧ (y_1471).toInt ≤ 1600 := dg_I.intb (lo := 0) (hi := 1600) I_1467 sM_0 (by decide +kernel) f_y_1471
                      have b_y_1472 : 0 ≤ (y_1472).toInt ∧ (y_1472).toInt ≤ 6 := dg_I.intb (lo := 0) (hi := 6) I_1467 sM_0 (by decide +kernel) f_y_1472
                      have b_y_1473 : 0 ≤ (y_1473).toInt ∧ (y_1473).toInt ≤ 20 := dg_I.intb (lo := 0) (hi := 20) I_1467 sM_0 (by decide +kernel) f_y_1473
                      have w_1467_1 : ∀ k9 : Int32, S_1467.1 0 8 = .int k9 → k9.toInt = 0 → FRM S_1458 S_1467 (3 : Int32) := w_1467_1
                      obtain ⟨x_1474, f_x_1474, b_x_1474⟩ := dg_I.int (i := 0) (k := 42) (lo := 0) (hi := 20) I_1458 sM_0 (by decide +kernel)
                      refine lv_aload_n hx hb dX12_operand_292 rfl (lv_at hl 3 rfl) ?_
                      refine dg_get (C := RX12) (T := TX12) (N := 77) hx hb hts (fun w h => bw_mem (wU_X12 w h)) hown K hP sM_0 rfl 8 (by decide) (hts _ (bw_mem wB_1133)) (fun _ h9 => h9) (v := .int y_1472) f_y_1472 dX12_operand_293 ?_
                      refine lv_if_ne (tgt := 311) hx hb dX12_operand_296 (by decide) (fun c_1475 => ?_) (fun c_1475 => ?_)
                      · have jc_1475 := dk_neqc (k := 0) (by decide +kernel) c_1475
                        have jbc_1475 : 1 ≤ (y_1472).toInt := by omega
                        clear jc_1475
                        clear w_1467_0_5
                        refine lv_iconst (v := 0) hx hb dX12_operand_311 (by decide +kernel) ?_
                        have hz_1476 : (0 : Int32).toInt = 0 := by decide +kernel
                        have hz_1477 : (0 : Int32).toInt = 0 := by decide +kernel
                        obtain ⟨x_1478, f_x_1478, b_x_1478⟩ := dg_I.int (i := 0) (k := 42) (lo := 0) (hi := 20) I_1467 sM_0 (by decide +kernel)
                        have hz_1479 : (0 : Int32).toInt = 0 := by decide +kernel
                        have hz_1480 : (0 : Int32).toInt = 0 := by decide +kernel
                        refine W.widen (k := 0) (n := 0) (Nat.le_of_ble_eq_true rfl) (Nat.le_of_ble_eq_true rfl) ?_
                        exact dg_iret hx hb hr hlocks (by decide +kernel) hP hS ⟨I_1467, M_1467, (by decide +kernel), ⟨y_1469, y_1470, y_1471, y_1472, cd, x_1478, om, f_y_1469, f_y_1470, f_y_1471, f_y_1472, (((m_1467.1 0 34 _ sM_0 (by decide)).trans ((m_1458.1 0 34 _ sM_0 (by decide)).trans ((m_1454.1 0 34 _ sM_0 (by decide)).trans ((dg_uf_F e_612 0 34).trans (m_2.1 0 34 _ sM_0 (by decide)))))).trans f_cd), f_x_1478, (((m_1467.1 0 45 _ sM_0 (by decide)).trans ((m_1458.1 0 45 _ sM_0 (by decide)).trans ((m_1454.1 0 45 _ sM_0 (by decide)).trans ((dg_uf_F e_612 0 45).trans (m_2.1 0 45 _ sM_0 (by decide)))))).trans f_om), (by omega)⟩, (fun k9 hk9 hk0 => by have q9 := (f_y_1472).symm.trans hk9; cases q9; omega), (ZWM.keep (ZWM.keep (ZWM.keep (ZWM.keep (ZWM.keep ZW m_2 (by decide) (by decide) (by decide) (by decide)) (dg_sm.uf (WF := []) (WA := [24]) dg_sm.rf e_612 sM_24 (by decide)) (by decide) (by decide) (by decide) (by decide)) m_1454 (by decide) (by decide) (by decide) (by decide)) m_1458 (by decide) (by decide) (by decide) (by decide)) m_1467 (by decide) (by decide) (by decide) (by decide)), trivial⟩ dX12_operand_312
                      · have jc_1475 := dk_eqc (k := 0) (by decide +kernel) c_1475
                        have w_1467_0_5r := w_1467_0_5 (by omega)
                        clear w_1467_0_5
                        obtain ⟨w_1467_0_5r_0, w_1467_0_5r_1⟩ := w_1467_0_5r
                        refine lv_aload_n hx hb dX12_operand_299 rfl (lv_at hl 3 rfl) ?_
                        refine dg_get (C := RX12) (T := TX12) (N := 77) hx hb hts (fun w h => bw_mem (wU_X12 w h)) hown K hP sM_0 rfl 40 (by decide) (hts _ (bw_mem wB_1232)) (fun _ h9 => h9) (v := .ref (o + 25)) (show S_1467.1 0 40 = .ref (o + 25) from dg_I.rel (d := 25) I_1467 sM_0 (by decide +kernel)) dX12_operand_300 ?_
                        refine lv_aload_n hx hb dX12_operand_303 rfl (lv_at hl 3 rfl) ?_
                        obtain ⟨x_1481, f_x_1481, b_x_1481⟩ := dg_I.int (i := 0) (k := 42) (lo := 0) (hi := 20) I_1467 sM_0 (by decide +kernel)
                        refine dg_get (C := RX12) (T := TX12) (N := 77) hx hb hts (fun w h => bw_mem (wU_X12 w h)) hown K hP sM_0 rfl 42 (by decide) (hts _ (bw_mem wB_1203)) (fun _ h9 => h9) (v := .int x_1481) f_x_1481 dX12_operand_304 ?_
                        refine lv_iconst (v := 1) hx hb dX12_operand_307 (by decide +kernel) ?_
                        refine lv_isub hx hb dX12_operand_308 ?_
                        refine lv_topi (fun x_1482 ex_1482 => ?_)
                        have jx_1482 : (x_1482).toInt = (x_1481).toInt - 1 := by rw [ex_1482]; exact dk_subT rfl (by decide +kernel) (by omega) (by omega)
                        refine lv_iload_n hx hb dX12_operand_309 rfl (lv_at hl 0 rfl) ?_
                        have hin_1483 : vp_in x_1482 20 := (dk_inv (by omega) (by omega))
                        refine dg_iast hx hb K hP hS hA1 sM_25 hin_1483 dX12_operand_310 (fun S_1484 e_1484 H locs hP hS => ?_)
                        have I_1484 := dg_I.uf0 I_1467 e_1484 sM_25 (by decide +kernel)
                        have M_1484 := dg_sm.uf M_1467 e_1484 sM_25 (by decide)
                        have P0_1484 : P0M S_1484 := PBM.openp (PBM.keep (PBM.keep PB_612 m_1454 (by decide) (by decide) (by decide) (by decide) (by decide) (by decide) (by decide) (by decide) (by decide) (by decide) (by decide) (by decide) (by decide) (by decide) (by decide)) m_1458 (by decide) (by decide) (by decide) (by decide) (by decide) (by decide) (by decide) (by decide) (by decide) (by decide) (by decide) (by decide) (by decide) (by decide) (by decide)) f_x_1474 (((m_1458.1 0 43 _ sM_0 (by decide)).trans ((m_1454.1 0 43 _ sM_0 (by decide)).trans ((dg_uf_F e_612 0 43).trans (m_2.1 0 43 _ sM_0 (by decide))))).trans f_on) (((m_1458.1 0 45 _ sM_0 (by decide)).trans ((m_1454.1 0 45 _ sM_0 (by decide)).trans ((dg_uf_F e_612 0 45).trans (m_2.1 0 45 _ sM_0 (by decide))))).trans f_om) (w_1467_1 _ f_y_1472 (by omega)) m_1467 (by decide) (by decide) (by decide) (by decide) (by omega) f_x_1481 (by omega) e_1484
                        refine lv_iconst (v := 0) hx hb dX12_operand_311 (by decide +kernel) ?_
                        have hz_1485 : (0 : Int32).toInt = 0 := by decide +kernel
                        have hz_1486 : (0 : Int32).toInt = 0 := by decide +kernel
                        have hz_1487 : (0 : Int32).toInt = 0 := by decide +kernel
                        have hz_1488 : (0 : Int32).toInt = 0 := by decide +kernel
                        refine W.widen (k := 0) (n := 0) (Nat.le_of_ble_eq_true rfl) (Nat.le_of_ble_eq_true rfl) ?_
                        exact dg_iret hx hb hr hlocks (by decide +kernel) hP hS ⟨I_1484, M_1484, (by decide +kernel), ⟨y_1469, y_1470, y_1471, y_1472, cd, x_1481, om, ((dg_uf_F e_1484 0 3).trans f_y_1469), ((dg_uf_F e_1484 0 4).trans f_y_1470), ((dg_uf_F e_1484 0 5).trans f_y_1471), ((dg_uf_F e_1484 0 8).trans f_y_1472), (((dg_uf_F e_1484 0 34).trans ((m_1467.1 0 34 _ sM_0 (by decide)).trans ((m_1458.1 0 34 _ sM_0 (by decide)).trans ((m_1454.1 0 34 _ sM_0 (by decide)).trans ((dg_uf_F e_612 0 34).trans (m_2.1 0 34 _ sM_0 (by decide))))))).trans f_cd), ((dg_uf_F e_1484 0 42).trans f_x_1481), (((dg_uf_F e_1484 0 45).trans ((m_1467.1 0 45 _ sM_0 (by decide)).trans ((m_1458.1 0 45 _ sM_0 (by decide)).trans ((m_1454.1 0 45 _ sM_0 (by decide)).trans ((dg_uf_F e_612 0 45).trans (m_2.1 0 45 _ sM_0 (by decide))))))).trans f_om), (by omega)⟩, (fun k9 hk9 hk0 => ⟨fun h9 => absurd h9 (by decide +kernel), fun _ => P0_1484⟩), (ZWM.keep (ZWM.keep (ZWM.keep (ZWM.keep (ZWM.keep (ZWM.keep ZW m_2 (by decide) (by decide) (by decide) (by decide)) (dg_sm.uf (WF := []) (WA := [24]) dg_sm.rf e_612 sM_24 (by decide)) (by decide) (by decide) (by decide) (by decide)) m_1454 (by decide) (by decide) (by decide) (by decide)) m_1458 (by decide) (by decide) (by decide) (by decide)) m_1467 (by decide) (by decide) (by decide) (by decide)) (dg_sm.uf (WF := []) (WA := [25]) dg_sm.rf e_1484 sM_25 (by decide)) (by decide) (by decide) (by decide) (by decide)), trivial⟩ dX12_operand_312
                    · have jc_1465 := dk_eqc (k := 44) (by decide +kernel) c_1465
                      refine lv_bipush (v := 6) hx hb dX12_operand_283 (by decide +kernel) ?_
                      refine lv_goto (tgt := 289) hx hb dX12_operand_285 (by decide) ?_
                      have hz_1489 : (6 : Int32).toInt = 6 := by decide +kernel
                      refine dg_callv hS hA1 hA (va_runV (As := [.int 6]) (rest := []) F (c_m_frames l g D o S_1458 6 (by decide +kernel) y_1455 ((m_1458.1 0 3 _ sM_0 (by decide)).trans f_y_1455) (by omega) y_1456 ((m_1458.1 0 4 _ sM_0 (by decide)).trans f_y_1456) (by omega) y_1457 ((m_1458.1 0 5 _ sM_0 (by decide)).trans f_y_1457) (by omega) sl (((m_1458.1 0 2 _ sM_0 (by decide)).trans ((m_1454.1 0 2 _ sM_0 (by decide)).trans ((dg_uf_F e_612 0 2).trans (m_2.1 0 2 _ sM_0 (by decide))))).trans f_sl) (by omega) y_1459 f_y_1459 (by omega) dp (((m_1458.1 0 42 _ sM_0 (by decide)).trans ((m_1454.1 0 42 _ sM_0 (by decide)).trans ((dg_uf_F e_612 0 42).trans (m_2.1 0 42 _ sM_0 (by decide))))).trans f_dp) (by omega) om (((m_1458.1 0 45 _ sM_0 (by decide)).trans ((m_1454.1 0 45 _ sM_0 (by decide)).trans ((dg_uf_F e_612 0 45).trans (m_2.1 0 45 _ sM_0 (by decide))))).trans f_om) (by omega) on (((m_1458.1 0 43 _ sM_0 (by decide)).trans ((m_1454.1 0 43 _ sM_0 (by decide)).trans ((dg_uf_F e_612 0 43).trans (m_2.1 0 43 _ sM_0 (by decide))))).trans f_on) (by omega) (by omega) (by omega) I_1458 H.size) (cwV 1 hts (bw_V wB_1228 wB_1229 wB_1230 wB_881 wB_1227) rfl rfl rfl (by decide +kernel) ⟨Nat.le_of_ble_eq_true rfl, Nat.le_of_ble_eq_true rfl⟩) (dg_preV sM_0 rfl K ST hP hS hA1 hA) rfl rfl hl.1 rfl (lv_room (Nat.le_of_ble_eq_true rfl)) dX12_operand_289 ⟨Nat.le_of_ble_eq_true rfl, Nat.le_of_ble_eq_true rfl⟩) (fun S_1490 hw_1490 H locs hP hS => ?_)
                      obtain ⟨I_1490, m_1490, w_1490_0, w_1490_1, -⟩ := hw_1490
                      have M_1490 := dg_sm.tr M_1458 m_1490 (by decide) (by decide)
                      have hz_1491 : (6 : Int32).toInt = 6 := by decide +kernel
                      obtain ⟨y_1492, y_1493, y_1494, y_1495, y_1496, f_y_1492, f_y_1493, f_y_1494, f_y_1495, f_y_1496, w_1490_0⟩ := w_1490_0
                      have w_1490_0 : ((y_1493).toInt ≤ (y_1494).toInt ∧ (y_1494).toInt ≤ (sl).toInt ∧ ((y_1492).toInt ≠ 0 → (y_1493).toInt + 1 ≤ (y_1494).toInt)) ∧ (y_1456).toInt ≤ (y_1493).toInt ∧ ((y_1459).toInt ≠ 0 → (y_1495).toInt ≠ 0) ∧ (((y_1495).toInt = 0 → ((y_1456).toInt + 1 ≤ (y_1493).toInt ∧ (y_1496).toInt = (dp).toInt + 1))) := w_1490_0
                      obtain ⟨⟨w_1490_0_0, w_1490_0_1, w_1490_0_2⟩, w_1490_0_3, w_1490_0_4, w_1490_0_5⟩ := w_1490_0
                      have b_y_1492 : 0 ≤ (y_1492).toInt ∧ (y_1492).toInt ≤ 3 := dg_I.intb (lo := 0) (hi := 3) I_1490 sM_0 (by decide +kernel) f_y_1492
                      have b_y_1493 : 0 ≤ (y_1493).toInt ∧ (y_1493).toInt ≤ 1600 := dg_I.intb (lo := 0) (hi := 1600) I_1490 sM_0 (by decide +kernel) f_y_1493
                      have b_y_1494 : 0 ≤ (y_1494).toInt ∧ (y_1494).toInt ≤ 1600 := dg_I.intb (lo := 0) (hi := 1600) I_1490 sM_0 (by decide +kernel) f_y_1494
                      have b_y_1495 : 0 ≤ (y_1495).toInt ∧ (y_1495).toInt ≤ 6 := dg_I.intb (lo := 0) (hi := 6) I_1490 sM_0 (by decide +kernel) f_y_1495
                      have b_y_1496 : 0 ≤ (y_1496).toInt ∧ (y_1496).toInt ≤ 20 := dg_I.intb (lo := 0) (hi := 20) I_1490 sM_0 (by decide +kernel) f_y_1496
                      have w_1490_1 : ∀ k9 : Int32, S_1490.1 0 8 = .int k9 → k9.toInt = 0 → FRM S_1458 S_1490 (6 : Int32) := w_1490_1
                      obtain ⟨x_1497, f_x_1497, b_x_1497⟩ := dg_I.int (i := 0) (k := 42) (lo := 0) (hi := 20) I_1458 sM_0 (by decide +kernel)
                      refine lv_aload_n hx hb dX12_operand_292 rfl (lv_at hl 3 rfl) ?_
                      refine dg_get (C := RX12) (T := TX12) (N := 77) hx hb hts (fun w h => bw_mem (wU_X12 w h)) hown K hP sM_0 rfl 8 (by decide) (hts _ (bw_mem wB_1133)) (fun _ h9 => h9) (v := .int y_1495) f_y_1495 dX12_operand_293 ?_
                      refine lv_if_ne (tgt := 311) hx hb dX12_operand_296 (by decide) (fun c_1498 => ?_) (fun c_1498 => ?_)
                      · have jc_1498 := dk_neqc (k := 0) (by decide +kernel) c_1498
                        have jbc_1498 : 1 ≤ (y_1495).toInt := by omega
                        clear jc_1498
                        clear w_1490_0_5
                        refine lv_iconst (v := 0) hx hb dX12_operand_311 (by decide +kernel) ?_
                        have hz_1499 : (0 : Int32).toInt = 0 := by decide +kernel
                        have hz_1500 : (0 : Int32).toInt = 0 := by decide +kernel
                        obtain ⟨x_1501, f_x_1501, b_x_1501⟩ := dg_I.int (i := 0) (k := 42) (lo := 0) (hi := 20) I_1490 sM_0 (by decide +kernel)
                        have hz_1502 : (0 : Int32).toInt = 0 := by decide +kernel
                        have hz_1503 : (0 : Int32).toInt = 0 := by decide +kernel
                        refine W.widen (k := 0) (n := 0) (Nat.le_of_ble_eq_true rfl) (Nat.le_of_ble_eq_true rfl) ?_
                        exact dg_iret hx hb hr hlocks (by decide +kernel) hP hS ⟨I_1490, M_1490, (by decide +kernel), ⟨y_1492, y_1493, y_1494, y_1495, cd, x_1501, om, f_y_1492, f_y_1493, f_y_1494, f_y_1495, (((m_1490.1 0 34 _ sM_0 (by decide)).trans ((m_1458.1 0 34 _ sM_0 (by decide)).trans ((m_1454.1 0 34 _ sM_0 (by decide)).trans ((dg_uf_F e_612 0 34).trans (m_2.1 0 34 _ sM_0 (by decide)))))).trans f_cd), f_x_1501, (((m_1490.1 0 45 _ sM_0 (by decide)).trans ((m_1458.1 0 45 _ sM_0 (by decide)).trans ((m_1454.1 0 45 _ sM_0 (by decide)).trans ((dg_uf_F e_612 0 45).trans (m_2.1 0 45 _ sM_0 (by decide)))))).trans f_om), (by omega)⟩, (fun k9 hk9 hk0 => by have q9 := (f_y_1495).symm.trans hk9; cases q9; omega), (ZWM.keep (ZWM.keep (ZWM.keep (ZWM.keep (ZWM.keep ZW m_2 (by decide) (by decide) (by decide) (by decide)) (dg_sm.uf (WF := []) (WA := [24]) dg_sm.rf e_612 sM_24 (by decide)) (by decide) (by decide) (by decide) (by decide)) m_1454 (by decide) (by decide) (by decide) (by decide)) m_1458 (by decide) (by decide) (by decide) (by decide)) m_1490 (by decide) (by decide) (by decide) (by decide)), trivial⟩ dX12_operand_312
                      · have jc_1498 := dk_eqc (k := 0) (by decide +kernel) c_1498
                        have w_1490_0_5r := w_1490_0_5 (by omega)
                        clear w_1490_0_5
                        obtain ⟨w_1490_0_5r_0, w_1490_0_5r_1⟩ := w_1490_0_5r
                        refine lv_aload_n hx hb dX12_operand_299 rfl (lv_at hl 3 rfl) ?_
                        refine dg_get (C := RX12) (T := TX12) (N := 77) hx hb hts (fun w h => bw_mem (wU_X12 w h)) hown K hP sM_0 rfl 40 (by decide) (hts _ (bw_mem wB_1232)) (fun _ h9 => h9) (v := .ref (o + 25)) (show S_1490.1 0 40 = .ref (o + 25) from dg_I.rel (d := 25) I_1490 sM_0 (by decide +kernel)) dX12_operand_300 ?_
                        refine lv_aload_n hx hb dX12_operand_303 rfl (lv_at hl 3 rfl) ?_
                        obtain ⟨x_1504, f_x_1504, b_x_1504⟩ := dg_I.int (i := 0) (k := 42) (lo := 0) (hi := 20) I_1490 sM_0 (by decide +kernel)
                        refine dg_get (C := RX12) (T := TX12) (N := 77) hx hb hts (fun w h => bw_mem (wU_X12 w h)) hown K hP sM_0 rfl 42 (by decide) (hts _ (bw_mem wB_1203)) (fun _ h9 => h9) (v := .int x_1504) f_x_1504 dX12_operand_304 ?_
                        refine lv_iconst (v := 1) hx hb dX12_operand_307 (by decide +kernel) ?_
                        refine lv_isub hx hb dX12_operand_308 ?_
                        refine lv_topi (fun x_1505 ex_1505 => ?_)
                        have jx_1505 : (x_1505).toInt = (x_1504).toInt - 1 := by rw [ex_1505]; exact dk_subT rfl (by decide +kernel) (by omega) (by omega)
                        refine lv_iload_n hx hb dX12_operand_309 rfl (lv_at hl 0 rfl) ?_
                        have hin_1506 : vp_in x_1505 20 := (dk_inv (by omega) (by omega))
                        refine dg_iast hx hb K hP hS hA1 sM_25 hin_1506 dX12_operand_310 (fun S_1507 e_1507 H locs hP hS => ?_)
                        have I_1507 := dg_I.uf0 I_1490 e_1507 sM_25 (by decide +kernel)
                        have M_1507 := dg_sm.uf M_1490 e_1507 sM_25 (by decide)
                        have P0_1507 : P0M S_1507 := PBM.openp (PBM.keep (PBM.keep PB_612 m_1454 (by decide) (by decide) (by decide) (by decide) (by decide) (by decide) (by decide) (by decide) (by decide) (by decide) (by decide) (by decide) (by decide) (by decide) (by decide)) m_1458 (by decide) (by decide) (by decide) (by decide) (by decide) (by decide) (by decide) (by decide) (by decide) (by decide) (by decide) (by decide) (by decide) (by decide) (by decide)) f_x_1497 (((m_1458.1 0 43 _ sM_0 (by decide)).trans ((m_1454.1 0 43 _ sM_0 (by decide)).trans ((dg_uf_F e_612 0 43).trans (m_2.1 0 43 _ sM_0 (by decide))))).trans f_on) (((m_1458.1 0 45 _ sM_0 (by decide)).trans ((m_1454.1 0 45 _ sM_0 (by decide)).trans ((dg_uf_F e_612 0 45).trans (m_2.1 0 45 _ sM_0 (by decide))))).trans f_om) (w_1490_1 _ f_y_1495 (by omega)) m_1490 (by decide) (by decide) (by decide) (by decide) (by omega) f_x_1504 (by omega) e_1507
                        refine lv_iconst (v := 0) hx hb dX12_operand_311 (by decide +kernel) ?_
                        have hz_1508 : (0 : Int32).toInt = 0 := by decide +kernel
                        have hz_1509 : (0 : Int32).toInt = 0 := by decide +kernel
                        have hz_1510 : (0 : Int32).toInt = 0 := by decide +kernel
                        have hz_1511 : (0 : Int32).toInt = 0 := by decide +kernel
                        refine W.widen (k := 0) (n := 0) (Nat.le_of_ble_eq_true rfl) (Nat.le_of_ble_eq_true rfl) ?_
                        exact dg_iret hx hb hr hlocks (by decide +kernel) hP hS ⟨I_1507, M_1507, (by decide +kernel), ⟨y_1492, y_1493, y_1494, y_1495, cd, x_1504, om, ((dg_uf_F e_1507 0 3).trans f_y_1492), ((dg_uf_F e_1507 0 4).trans f_y_1493), ((dg_uf_F e_1507 0 5).trans f_y_1494), ((dg_uf_F e_1507 0 8).trans f_y_1495), (((dg_uf_F e_1507 0 34).trans ((m_1490.1 0 34 _ sM_0 (by decide)).trans ((m_1458.1 0 34 _ sM_0 (by decide)).trans ((m_1454.1 0 34 _ sM_0 (by decide)).trans ((dg_uf_F e_612 0 34).trans (m_2.1 0 34 _ sM_0 (by decide))))))).trans f_cd), ((dg_uf_F e_1507 0 42).trans f_x_1504), (((dg_uf_F e_1507 0 45).trans ((m_1490.1 0 45 _ sM_0 (by decide)).trans ((m_1458.1 0 45 _ sM_0 (by decide)).trans ((m_1454.1 0 45 _ sM_0 (by decide)).trans ((dg_uf_F e_612 0 45).trans (m_2.1 0 45 _ sM_0 (by decide))))))).trans f_om), (by omega)⟩, (fun k9 hk9 hk0 => ⟨fun h9 => absurd h9 (by decide +kernel), fun _ => P0_1507⟩), (ZWM.keep (ZWM.keep (ZWM.keep (ZWM.keep (ZWM.keep (ZWM.keep ZW m_2 (by decide) (by decide) (by decide) (by decide)) (dg_sm.uf (WF := []) (WA := [24]) dg_sm.rf e_612 sM_24 (by decide)) (by decide) (by decide) (by decide) (by decide)) m_1454 (by decide) (by decide) (by decide) (by decide)) m_1458 (by decide) (by decide) (by decide) (by decide)) m_1490 (by decide) (by decide) (by decide) (by decide)) (dg_sm.uf (WF := []) (WA := [25]) dg_sm.rf e_1507 sM_25 (by decide)) (by decide) (by decide) (by decide) (by decide)), trivial⟩ dX12_operand_312
                  · have jc_1464 := dk_eqc (k := 0) (by decide +kernel) c_1464
                    clear w_1462_1
                    refine lv_aload_n hx hb dX12_operand_267 rfl (lv_at hl 3 rfl) ?_
                    refine lv_iconst (v := 1) hx hb dX12_operand_268 (by decide +kernel) ?_
                    refine lv_aload_n hx hb dX12_operand_269 rfl (lv_at hl 3 rfl) ?_
                    refine dg_get (C := RX12) (T := TX12) (N := 77) hx hb hts (fun w h => bw_mem (wU_X12 w h)) hown K hP sM_0 rfl 4 (by decide) (hts _ (bw_mem wB_1145)) (fun _ h9 => h9) (v := .int y_1456) ((m_1458.1 0 4 _ sM_0 (by decide)).trans f_y_1456) dX12_operand_270 ?_
                    have hz_1512 : (1 : Int32).toInt = 1 := by decide +kernel
                    refine dg_callv hS hA1 hA (va_runV (As := [.int 1, .int y_1456]) (rest := []) F (c_m_blame l g D o S_1458 1 (by decide +kernel) y_1456 y_1459 f_y_1459 (by omega) I_1458 H.size) (cwV 2 hts (bw_V wB_1137 wB_1138 wB_1139 wB_881 wB_1136) rfl rfl rfl (by decide +kernel) ⟨Nat.le_of_ble_eq_true rfl, Nat.le_of_ble_eq_true rfl⟩) (dg_preV sM_0 rfl K ST hP hS hA1 hA) rfl rfl hl.1 rfl (lv_room (Nat.le_of_ble_eq_true rfl)) dX12_operand_273 ⟨Nat.le_of_ble_eq_true rfl, Nat.le_of_ble_eq_true rfl⟩) (fun S_1513 hw_1513 H locs hP hS => ?_)
                    obtain ⟨I_1513, m_1513, w_1513_0, -⟩ := hw_1513
                    have M_1513 := dg_sm.tr M_1458 m_1513 (by decide) (by decide)
                    have hz_1514 : (1 : Int32).toInt = 1 := by decide +kernel
                    obtain ⟨y_1515, f_y_1515, w_1513_0⟩ := w_1513_0
                    have w_1513_0 : ((y_1459).toInt ≠ 0 → (y_1515).toInt = (y_1459).toInt) ∧ ((y_1459).toInt = 0 → (y_1515).toInt = ((1 : Int32)).toInt) := w_1513_0
                    obtain ⟨w_1513_0_0, w_1513_0_1⟩ := w_1513_0
                    have b_y_1515 : 0 ≤ (y_1515).toInt ∧ (y_1515).toInt ≤ 6 := dg_I.intb (lo := 0) (hi := 6) I_1513 sM_0 (by decide +kernel) f_y_1515
                    have hbl_y_1515 : 1 ≤ (y_1515).toInt := by omega
                    refine lv_aload_n hx hb dX12_operand_276 rfl (lv_at hl 3 rfl) ?_
                    refine lv_iload_n hx hb dX12_operand_277 rfl (lv_at hl 0 rfl) ?_
                    refine lv_bipush (v := 44) hx hb dX12_operand_278 (by decide +kernel) ?_
                    refine lv_icmp_ne (tgt := 288) hx hb dX12_operand_280 (by decide) (fun c_1516 => ?_) (fun c_1516 => ?_)
                    · have jc_1516 := dk_neqc (k := 44) (by decide +kernel) c_1516
                      have jtc_1516 : (x_1343).toInt ≤ 43 := by omega
                      clear jc_1516
                      refine lv_iconst (v := 3) hx hb dX12_operand_288 (by decide +kernel) ?_
                      have hz_1517 : (3 : Int32).toInt = 3 := by decide +kernel
                      refine dg_callv hS hA1 hA (va_runV (As := [.int 3]) (rest := []) F (c_m_frames l g D o S_1513 3 (by decide +kernel) y_1455 (((m_1513.1 0 3 _ sM_0 (by decide)).trans (m_1458.1 0 3 _ sM_0 (by decide))).trans f_y_1455) (by omega) y_1456 (((m_1513.1 0 4 _ sM_0 (by decide)).trans (m_1458.1 0 4 _ sM_0 (by decide))).trans f_y_1456) (by omega) y_1457 (((m_1513.1 0 5 _ sM_0 (by decide)).trans (m_1458.1 0 5 _ sM_0 (by decide))).trans f_y_1457) (by omega) sl (((m_1513.1 0 2 _ sM_0 (by decide)).trans ((m_1458.1 0 2 _ sM_0 (by decide)).trans ((m_1454.1 0 2 _ sM_0 (by decide)).trans ((dg_uf_F e_612 0 2).trans (m_2.1 0 2 _ sM_0 (by decide)))))).trans f_sl) (by omega) y_1515 f_y_1515 (by omega) dp (((m_1513.1 0 42 _ sM_0 (by decide)).trans ((m_1458.1 0 42 _ sM_0 (by decide)).trans ((m_1454.1 0 42 _ sM_0 (by decide)).trans ((dg_uf_F e_612 0 42).trans (m_2.1 0 42 _ sM_0 (by decide)))))).trans f_dp) (by omega) om (((m_1513.1 0 45 _ sM_0 (by decide)).trans ((m_1458.1 0 45 _ sM_0 (by decide)).trans ((m_1454.1 0 45 _ sM_0 (by decide)).trans ((dg_uf_F e_612 0 45).trans (m_2.1 0 45 _ sM_0 (by decide)))))).trans f_om) (by omega) on (((m_1513.1 0 43 _ sM_0 (by decide)).trans ((m_1458.1 0 43 _ sM_0 (by decide)).trans ((m_1454.1 0 43 _ sM_0 (by decide)).trans ((dg_uf_F e_612 0 43).trans (m_2.1 0 43 _ sM_0 (by decide)))))).trans f_on) (by omega) (by omega) (by omega) I_1513 H.size) (cwV 1 hts (bw_V wB_1228 wB_1229 wB_1230 wB_881 wB_1227) rfl rfl rfl (by decide +kernel) ⟨Nat.le_of_ble_eq_true rfl, Nat.le_of_ble_eq_true rfl⟩) (dg_preV sM_0 rfl K ST hP hS hA1 hA) rfl rfl hl.1 rfl (lv_room (Nat.le_of_ble_eq_true rfl)) dX12_operand_289 ⟨Nat.le_of_ble_eq_true rfl, Nat.le_of_ble_eq_true rfl⟩) (fun S_1518 hw_1518 H locs hP hS => ?_)
                      obtain ⟨I_1518, m_1518, w_1518_0, w_1518_1, -⟩ := hw_1518
                      have M_1518 := dg_sm.tr M_1513 m_1518 (by decide) (by decide)
                      have hz_1519 : (3 : Int32).toInt = 3 := by decide +kernel
                      obtain ⟨y_1520, y_1521, y_1522, y_1523, y_1524, f_y_1520, f_y_1521, f_y_1522, f_y_1523, f_y_1524, w_1518_0⟩ := w_1518_0
                      have w_1518_0 : ((y_1521).toInt ≤ (y_1522).toInt ∧ (y_1522).toInt ≤ (sl).toInt ∧ ((y_1520).toInt ≠ 0 → (y_1521).toInt + 1 ≤ (y_1522).toInt)) ∧ (y_1456).toInt ≤ (y_1521).toInt ∧ ((y_1515).toInt ≠ 0 → (y_1523).toInt ≠ 0) ∧ (((y_1523).toInt = 0 → ((y_1456).toInt + 1 ≤ (y_1521).toInt ∧ (y_1524).toInt = (dp).toInt + 1))) := w_1518_0
                      obtain ⟨⟨w_1518_0_0, w_1518_0_1, w_1518_0_2⟩, w_1518_0_3, w_1518_0_4, w_1518_0_5⟩ := w_1518_0
                      have w_1518_0_4r := w_1518_0_4 (by omega)
                      clear w_1518_0_4
                      have b_y_1520 : 0 ≤ (y_1520).toInt ∧ (y_1520).toInt ≤ 3 := dg_I.intb (lo := 0) (hi := 3) I_1518 sM_0 (by decide +kernel) f_y_1520
                      have b_y_1521 : 0 ≤ (y_1521).toInt ∧ (y_1521).toInt ≤ 1600 := dg_I.intb (lo := 0) (hi := 1600) I_1518 sM_0 (by decide +kernel) f_y_1521
                      have b_y_1522 : 0 ≤ (y_1522).toInt ∧ (y_1522).toInt ≤ 1600 := dg_I.intb (lo := 0) (hi := 1600) I_1518 sM_0 (by decide +kernel) f_y_1522
                      have b_y_1523 : 0 ≤ (y_1523).toInt ∧ (y_1523).toInt ≤ 6 := dg_I.intb (lo := 0) (hi := 6) I_1518 sM_0 (by decide +kernel) f_y_1523
                      have b_y_1524 : 0 ≤ (y_1524).toInt ∧ (y_1524).toInt ≤ 20 := dg_I.intb (lo := 0) (hi := 20) I_1518 sM_0 (by decide +kernel) f_y_1524
                      have w_1518_1 : ∀ k9 : Int32, S_1518.1 0 8 = .int k9 → k9.toInt = 0 → FRM S_1513 S_1518 (3 : Int32) := w_1518_1
                      obtain ⟨x_1525, f_x_1525, b_x_1525⟩ := dg_I.int (i := 0) (k := 42) (lo := 0) (hi := 20) I_1513 sM_0 (by decide +kernel)
                      refine lv_aload_n hx hb dX12_operand_292 rfl (lv_at hl 3 rfl) ?_
                      refine dg_get (C := RX12) (T := TX12) (N := 77) hx hb hts (fun w h => bw_mem (wU_X12 w h)) hown K hP sM_0 rfl 8 (by decide) (hts _ (bw_mem wB_1133)) (fun _ h9 => h9) (v := .int y_1523) f_y_1523 dX12_operand_293 ?_
                      refine lv_if_ne (tgt := 311) hx hb dX12_operand_296 (by decide) (fun c_1526 => ?_) (fun c_1526 => ?_)
                      · have jc_1526 := dk_neqc (k := 0) (by decide +kernel) c_1526
                        have jbc_1526 : 1 ≤ (y_1523).toInt := by omega
                        clear jc_1526
                        clear w_1518_0_5
                        refine lv_iconst (v := 0) hx hb dX12_operand_311 (by decide +kernel) ?_
                        have hz_1527 : (0 : Int32).toInt = 0 := by decide +kernel
                        have hz_1528 : (0 : Int32).toInt = 0 := by decide +kernel
                        obtain ⟨x_1529, f_x_1529, b_x_1529⟩ := dg_I.int (i := 0) (k := 42) (lo := 0) (hi := 20) I_1518 sM_0 (by decide +kernel)
                        have hz_1530 : (0 : Int32).toInt = 0 := by decide +kernel
                        have hz_1531 : (0 : Int32).toInt = 0 := by decide +kernel
                        refine W.widen (k := 0) (n := 0) (Nat.le_of_ble_eq_true rfl) (Nat.le_of_ble_eq_true rfl) ?_
                        exact dg_iret hx hb hr hlocks (by decide +kernel) hP hS ⟨I_1518, M_1518, (by decide +kernel), ⟨y_1520, y_1521, y_1522, y_1523, cd, x_1529, om, f_y_1520, f_y_1521, f_y_1522, f_y_1523, (((m_1518.1 0 34 _ sM_0 (by decide)).trans ((m_1513.1 0 34 _ sM_0 (by decide)).trans ((m_1458.1 0 34 _ sM_0 (by decide)).trans ((m_1454.1 0 34 _ sM_0 (by decide)).trans ((dg_uf_F e_612 0 34).trans (m_2.1 0 34 _ sM_0 (by decide))))))).trans f_cd), f_x_1529, (((m_1518.1 0 45 _ sM_0 (by decide)).trans ((m_1513.1 0 45 _ sM_0 (by decide)).trans ((m_1458.1 0 45 _ sM_0 (by decide)).trans ((m_1454.1 0 45 _ sM_0 (by decide)).trans ((dg_uf_F e_612 0 45).trans (m_2.1 0 45 _ sM_0 (by decide))))))).trans f_om), (by omega)⟩, (fun k9 hk9 hk0 => by have q9 := (f_y_1523).symm.trans hk9; cases q9; omega), (ZWM.keep (ZWM.keep (ZWM.keep (ZWM.keep (ZWM.keep (ZWM.keep ZW m_2 (by decide) (by decide) (by decide) (by decide)) (dg_sm.uf (WF := []) (WA := [24]) dg_sm.rf e_612 sM_24 (by decide)) (by decide) (by decide) (by decide) (by decide)) m_1454 (by decide) (by decide) (by decide) (by decide)) m_1458 (by decide) (by decide) (by decide) (by decide)) m_1513 (by decide) (by decide) (by decide) (by decide)) m_1518 (by decide) (by decide) (by decide) (by decide)), trivial⟩ dX12_operand_312
                      · have jc_1526 := dk_eqc (k := 0) (by decide +kernel) c_1526
                        have w_1518_0_5r := w_1518_0_5 (by omega)
                        clear w_1518_0_5
                        obtain ⟨w_1518_0_5r_0, w_1518_0_5r_1⟩ := w_1518_0_5r
                        refine lv_aload_n hx hb dX12_operand_299 rfl (lv_at hl 3 rfl) ?_
                        refine dg_get (C := RX12) (T := TX12) (N := 77) hx hb hts (fun w h => bw_mem (wU_X12 w h)) hown K hP sM_0 rfl 40 (by decide) (hts _ (bw_mem wB_1232)) (fun _ h9 => h9) (v := .ref (o + 25)) (show S_1518.1 0 40 = .ref (o + 25) from dg_I.rel (d := 25) I_1518 sM_0 (by decide +kernel)) dX12_operand_300 ?_
                        refine lv_aload_n hx hb dX12_operand_303 rfl (lv_at hl 3 rfl) ?_
                        obtain ⟨x_1532, f_x_1532, b_x_1532⟩ := dg_I.int (i := 0) (k := 42) (lo := 0) (hi := 20) I_1518 sM_0 (by decide +kernel)
                        refine dg_get (C := RX12) (T := TX12) (N := 77) hx hb hts (fun w h => bw_mem (wU_X12 w h)) hown K hP sM_0 rfl 42 (by decide) (hts _ (bw_mem wB_1203)) (fun _ h9 => h9) (v := .int x_1532) f_x_1532 dX12_operand_304 ?_
                        refine lv_iconst (v := 1) hx hb dX12_operand_307 (by decide +kernel) ?_
                        refine lv_isub hx hb dX12_operand_308 ?_
                        refine lv_topi (fun x_1533 ex_1533 => ?_)
                        have jx_1533 : (x_1533).toInt = (x_1532).toInt - 1 := by rw [ex_1533]; exact dk_subT rfl (by decide +kernel) (by omega) (by omega)
                        refine lv_iload_n hx hb dX12_operand_309 rfl (lv_at hl 0 rfl) ?_
                        have hin_1534 : vp_in x_1533 20 := (dk_inv (by omega) (by omega))
                        refine dg_iast hx hb K hP hS hA1 sM_25 hin_1534 dX12_operand_310 (fun S_1535 e_1535 H locs hP hS => ?_)
                        have I_1535 := dg_I.uf0 I_1518 e_1535 sM_25 (by decide +kernel)
                        have M_1535 := dg_sm.uf M_1518 e_1535 sM_25 (by decide)
                        have P0_1535 : P0M S_1535 := PBM.openp (PBM.keep (PBM.keep (PBM.keep PB_612 m_1454 (by decide) (by decide) (by decide) (by decide) (by decide) (by decide) (by decide) (by decide) (by decide) (by decide) (by decide) (by decide) (by decide) (by decide) (by decide)) m_1458 (by decide) (by decide) (by decide) (by decide) (by decide) (by decide) (by decide) (by decide) (by decide) (by decide) (by decide) (by decide) (by decide) (by decide) (by decide)) m_1513 (by decide) (by decide) (by decide) (by decide) (by decide) (by decide) (by decide) (by decide) (by decide) (by decide) (by decide) (by decide) (by decide) (by decide) (by decide)) f_x_1525 (((m_1513.1 0 43 _ sM_0 (by decide)).trans ((m_1458.1 0 43 _ sM_0 (by decide)).trans ((m_1454.1 0 43 _ sM_0 (by decide)).trans ((dg_uf_F e_612 0 43).trans (m_2.1 0 43 _ sM_0 (by decide)))))).trans f_on) (((m_1513.1 0 45 _ sM_0 (by decide)).trans ((m_1458.1 0 45 _ sM_0 (by decide)).trans ((m_1454.1 0 45 _ sM_0 (by decide)).trans ((dg_uf_F e_612 0 45).trans (m_2.1 0 45 _ sM_0 (by decide)))))).trans f_om) (w_1518_1 _ f_y_1523 (by omega)) m_1518 (by decide) (by decide) (by decide) (by decide) (by omega) f_x_1532 (by omega) e_1535
                        refine lv_iconst (v := 0) hx hb dX12_operand_311 (by decide +kernel) ?_
                        have hz_1536 : (0 : Int32).toInt = 0 := by decide +kernel
                        have hz_1537 : (0 : Int32).toInt = 0 := by decide +kernel
                        have hz_1538 : (0 : Int32).toInt = 0 := by decide +kernel
                        have hz_1539 : (0 : Int32).toInt = 0 := by decide +kernel
                        refine W.widen (k := 0) (n := 0) (Nat.le_of_ble_eq_true rfl) (Nat.le_of_ble_eq_true rfl) ?_
                        exact dg_iret hx hb hr hlocks (by decide +kernel) hP hS ⟨I_1535, M_1535, (by decide +kernel), ⟨y_1520, y_1521, y_1522, y_1523, cd, x_1532, om, ((dg_uf_F e_1535 0 3).trans f_y_1520), ((dg_uf_F e_1535 0 4).trans f_y_1521), ((dg_uf_F e_1535 0 5).trans f_y_1522), ((dg_uf_F e_1535 0 8).trans f_y_1523), (((dg_uf_F e_1535 0 34).trans ((m_1518.1 0 34 _ sM_0 (by decide)).trans ((m_1513.1 0 34 _ sM_0 (by decide)).trans ((m_1458.1 0 34 _ sM_0 (by decide)).trans ((m_1454.1 0 34 _ sM_0 (by decide)).trans ((dg_uf_F e_612 0 34).trans (m_2.1 0 34 _ sM_0 (by decide)))))))).trans f_cd), ((dg_uf_F e_1535 0 42).trans f_x_1532), (((dg_uf_F e_1535 0 45).trans ((m_1518.1 0 45 _ sM_0 (by decide)).trans ((m_1513.1 0 45 _ sM_0 (by decide)).trans ((m_1458.1 0 45 _ sM_0 (by decide)).trans ((m_1454.1 0 45 _ sM_0 (by decide)).trans ((dg_uf_F e_612 0 45).trans (m_2.1 0 45 _ sM_0 (by decide)))))))).trans f_om), (by omega)⟩, (fun k9 hk9 hk0 => ⟨fun h9 => absurd h9 (by decide +kernel), fun _ => P0_1535⟩), (ZWM.keep (ZWM.keep (ZWM.keep (ZWM.keep (ZWM.keep (ZWM.keep (ZWM.keep ZW m_2 (by decide) (by decide) (by decide) (by decide)) (dg_sm.uf (WF := []) (WA := [24]) dg_sm.rf e_612 sM_24 (by decide)) (by decide) (by decide) (by decide) (by decide)) m_1454 (by decide) (by decide) (by decide) (by decide)) m_1458 (by decide) (by decide) (by decide) (by decide)) m_1513 (by decide) (by decide) (by decide) (by decide)) m_1518 (by decide) (by decide) (by decide) (by decide)) (dg_sm.uf (WF := []) (WA := [25]) dg_sm.rf e_1535 sM_25 (by decide)) (by decide) (by decide) (by decide) (by decide)), trivial⟩ dX12_operand_312
                    · have jc_1516 := dk_eqc (k := 44) (by decide +kernel) c_1516
                      refine lv_bipush (v := 6) hx hb dX12_operand_283 (by decide +kernel) ?_
                      refine lv_goto (tgt := 289) hx hb dX12_operand_285 (by decide) ?_
                      have hz_1540 : (6 : Int32).toInt = 6 := by decide +kernel
                      refine dg_callv hS hA1 hA (va_runV (As := [.int 6]) (rest := []) F (c_m_frames l g D o S_1513 6 (by decide +kernel) y_1455 (((m_1513.1 0 3 _ sM_0 (by decide)).trans (m_1458.1 0 3 _ sM_0 (by decide))).trans f_y_1455) (by omega) y_1456 (((m_1513.1 0 4 _ sM_0 (by decide)).trans (m_1458.1 0 4 _ sM_0 (by decide))).trans f_y_1456) (by omega) y_1457 (((m_1513.1 0 5 _ sM_0 (by decide)).trans (m_1458.1 0 5 _ sM_0 (by decide))).trans f_y_1457) (by omega) sl (((m_1513.1 0 2 _ sM_0 (by decide)).trans ((m_1458.1 0 2 _ sM_0 (by decide)).trans ((m_1454.1 0 2 _ sM_0 (by decide)).trans ((dg_uf_F e_612 0 2).trans (m_2.1 0 2 _ sM_0 (by decide)))))).trans f_sl) (by omega) y_1515 f_y_1515 (by omega) dp (((m_1513.1 0 42 _ sM_0 (by decide)).trans ((m_1458.1 0 42 _ sM_0 (by decide)).trans ((m_1454.1 0 42 _ sM_0 (by decide)).trans ((dg_uf_F e_612 0 42).trans (m_2.1 0 42 _ sM_0 (by decide)))))).trans f_dp) (by omega) om (((m_1513.1 0 45 _ sM_0 (by decide)).trans ((m_1458.1 0 45 _ sM_0 (by decide)).trans ((m_1454.1 0 45 _ sM_0 (by decide)).trans ((dg_uf_F e_612 0 45).trans (m_2.1 0 45 _ sM_0 (by decide)))))).trans f_om) (by omega) on (((m_1513.1 0 43 _ sM_0 (by decide)).trans ((m_1458.1 0 43 _ sM_0 (by decide)).trans ((m_1454.1 0 43 _ sM_0 (by decide)).trans ((dg_uf_F e_612 0 43).trans (m_2.1 0 43 _ sM_0 (by decide)))))).trans f_on) (by omega) (by omega) (by omega) I_1513 H.size) (cwV 1 hts (bw_V wB_1228 wB_1229 wB_1230 wB_881 wB_1227) rfl rfl rfl (by decide +kernel) ⟨Nat.le_of_ble_eq_true rfl, Nat.le_of_ble_eq_true rfl⟩) (dg_preV sM_0 rfl K ST hP hS hA1 hA) rfl rfl hl.1 rfl (lv_room (Nat.le_of_ble_eq_true rfl)) dX12_operand_289 ⟨Nat.le_of_ble_eq_true rfl, Nat.le_of_ble_eq_true rfl⟩) (fun S_1541 hw_1541 H locs hP hS => ?_)
                      obtain ⟨I_1541, m_1541, w_1541_0, w_1541_1, -⟩ := hw_1541
                      have M_1541 := dg_sm.tr M_1513 m_1541 (by decide) (by decide)
                      have hz_1542 : (6 : Int32).toInt = 6 := by decide +kernel
                      obtain ⟨y_1543, y_1544, y_1545, y_1546, y_1547, f_y_1543, f_y_1544, f_y_1545, f_y_1546, f_y_1547, w_1541_0⟩ := w_1541_0
                      have w_1541_0 : ((y_1544).toInt ≤ (y_1545).toInt ∧ (y_1545).toInt ≤ (sl).toInt ∧ ((y_1543).toInt ≠ 0 → (y_1544).toInt + 1 ≤ (y_1545).toInt)) ∧ (y_1456).toInt ≤ (y_1544).toInt ∧ ((y_1515).toInt ≠ 0 → (y_1546).toInt ≠ 0) ∧ (((y_1546).toInt = 0 → ((y_1456).toInt + 1 ≤ (y_1544).toInt ∧ (y_1547).toInt = (dp).toInt + 1))) := w_1541_0
                      obtain ⟨⟨w_1541_0_0, w_1541_0_1, w_1541_0_2⟩, w_1541_0_3, w_1541_0_4, w_1541_0_5⟩ := w_1541_0
                      have w_1541_0_4r := w_1541_0_4 (by omega)
                      clear w_1541_0_4
                      have b_y_1543 : 0 ≤ (y_1543).toInt ∧ (y_1543).toInt ≤ 3 := dg_I.intb (lo := 0) (hi := 3) I_1541 sM_0 (by decide +kernel) f_y_1543
                      have b_y_1544 : 0 ≤ (y_1544).toInt ∧ (y_1544).toInt ≤ 1600 := dg_I.intb (lo := 0) (hi := 1600) I_1541 sM_0 (by decide +kernel) f_y_1544
                      have b_y_1545 : 0 ≤ (y_1545).toInt ∧ (y_1545).toInt ≤ 1600 := dg_I.intb (lo := 0) (hi := 1600) I_1541 sM_0 (by decide +kernel) f_y_1545
                      have b_y_1546 : 0 ≤ (y_1546).toInt ∧ (y_1546).toInt ≤ 6 := dg_I.intb (lo := 0) (hi := 6) I_1541 sM_0 (by decide +kernel) f_y_1546
                      have b_y_1547 : 0 ≤ (y_1547).toInt ∧ (y_1547).toInt ≤ 20 := dg_I.intb (lo := 0) (hi := 20) I_1541 sM_0 (by decide +kernel) f_y_1547
                      have w_1541_1 : ∀ k9 : Int32, S_1541.1 0 8 = .int k9 → k9.toInt = 0 → FRM S_1513 S_1541 (6 : Int32) := w_1541_1
                      obtain ⟨x_1548, f_x_1548, b_x_1548⟩ := dg_I.int (i := 0) (k := 42) (lo := 0) (hi := 20) I_1513 sM_0 (by decide +kernel)
                      refine lv_aload_n hx hb dX12_operand_292 rfl (lv_at hl 3 rfl) ?_
                      refine dg_get (C := RX12) (T := TX12) (N := 77) hx hb hts (fun w h => bw_mem (wU_X12 w h)) hown K hP sM_0 rfl 8 (by decide) (hts _ (bw_mem wB_1133)) (fun _ h9 => h9) (v := .int y_1546) f_y_1546 dX12_operand_293 ?_
                      refine lv_if_ne (tgt := 311) hx hb dX12_operand_296 (by decide) (fun c_1549 => ?_) (fun c_1549 => ?_)
                      · have jc_1549 := dk_neqc (k := 0) (by decide +kernel) c_1549
                        have jbc_1549 : 1 ≤ (y_1546).toInt := by omega
                        clear jc_1549
                        clear w_1541_0_5
                        refine lv_iconst (v := 0) hx hb dX12_operand_311 (by decide +kernel) ?_
                        have hz_1550 : (0 : Int32).toInt = 0 := by decide +kernel
                        have hz_1551 : (0 : Int32).toInt = 0 := by decide +kernel
                        obtain ⟨x_1552, f_x_1552, b_x_1552⟩ := dg_I.int (i := 0) (k := 42) (lo := 0) (hi := 20) I_1541 sM_0 (by decide +kernel)
                        have hz_1553 : (0 : Int32).toInt = 0 := by decide +kernel
                        have hz_1554 : (0 : Int32).toInt = 0 := by decide +kernel
                        refine W.widen (k := 0) (n := 0) (Nat.le_of_ble_eq_true rfl) (Nat.le_of_ble_eq_true rfl) ?_
                        exact dg_iret hx hb hr hlocks (by decide +kernel) hP hS ⟨I_1541, M_1541, (by decide +kernel), ⟨y_1543, y_1544, y_1545, y_1546, cd, x_1552, om, f_y_1543, f_y_1544, f_y_1545, f_y_1546, (((m_1541.1 0 34 _ sM_0 (by decide)).trans ((m_1513.1 0 34 _ sM_0 (by decide)).trans ((m_1458.1 0 34 _ sM_0 (by decide)).trans ((m_1454.1 0 34 _ sM_0 (by decide)).trans ((dg_uf_F e_612 0 34).trans (m_2.1 0 34 _ sM_0 (by decide))))))).trans f_cd), f_x_1552, (((m_1541.1 0 45 _ sM_0 (by decide)).trans ((m_1513.1 0 45 _ sM_0 (by decide)).trans ((m_1458.1 0 45 _ sM_0 (by decide)).trans ((m_1454.1 0 45 _ sM_0 (by decide)).trans ((dg_uf_F e_612 0 45).trans (m_2.1 0 45 _ sM_0 (by decide))))))).trans f_om), (by omega)⟩, (fun k9 hk9 hk0 => by have q9 := (f_y_1546).symm.trans hk9; cases q9; omega), (ZWM.keep (ZWM.keep (ZWM.keep (ZWM.keep (ZWM.keep (ZWM.keep ZW m_2 (by decide) (by decide) (by decide) (by decide)) (dg_sm.uf (WF := []) (WA := [24]) dg_sm.rf e_612 sM_24 (by decide)) (by decide) (by decide) (by decide) (by decide)) m_1454 (by decide) (by decide) (by decide) (by decide)) m_1458 (by decide) (by decide) (by decide) (by decide)) m_1513 (by decide) (by decide) (by decide) (by decide)) m_1541 (by decide) (by decide) (by decide) (by decide)), trivial⟩ dX12_operand_312
                      · have jc_1549 := dk_eqc (k := 0) (by decide +kernel) c_1549
                        have w_1541_0_5r := w_1541_0_5 (by omega)
                        clear w_1541_0_5
                        obtain ⟨w_1541_0_5r_0, w_1541_0_5r_1⟩ := w_1541_0_5r
                        refine lv_aload_n hx hb dX12_operand_299 rfl (lv_at hl 3 rfl) ?_
                        refine dg_get (C := RX12) (T := TX12) (N := 77) hx hb hts (fun w h => bw_mem (wU_X12 w h)) hown K hP sM_0 rfl 40 (by decide) (hts _ (bw_mem wB_1232)) (fun _ h9 => h9) (v := .ref (o + 25)) (show S_1541.1 0 40 = .ref (o + 25) from dg_I.rel (d := 25) I_1541 sM_0 (by decide +kernel)) dX12_operand_300 ?_
                        refine lv_aload_n hx hb dX12_operand_303 rfl (lv_at hl 3 rfl) ?_
                        obtain ⟨x_1555, f_x_1555, b_x_1555⟩ := dg_I.int (i := 0) (k := 42) (lo := 0) (hi := 20) I_1541 sM_0 (by decide +kernel)
                        refine dg_get (C := RX12) (T := TX12) (N := 77) hx hb hts (fun w h => bw_mem (wU_X12 w h)) hown K hP sM_0 rfl 42 (by decide) (hts _ (bw_mem wB_1203)) (fun _ h9 => h9) (v := .int x_1555) f_x_1555 dX12_operand_304 ?_
                        refine lv_iconst (v := 1) hx hb dX12_operand_307 (by decide +kernel) ?_
                        refine lv_isub hx hb dX12_operand_308 ?_
                        refine lv_topi (fun x_1556 ex_1556 => ?_)
                        have jx_1556 : (x_1556).toInt = (x_1555).toInt - 1 := by rw [ex_1556]; exact dk_subT rfl (by decide +kernel) (by omega) (by omega)
                        refine lv_iload_n hx hb dX12_operand_309 rfl (lv_at hl 0 rfl) ?_
                        have hin_1557 : vp_in x_1556 20 := (dk_inv (by omega) (by omega))
                        refine dg_iast hx hb K hP hS hA1 sM_25 hin_1557 dX12_operand_310 (fun S_1558 e_1558 H locs hP hS => ?_)
                        have I_1558 := dg_I.uf0 I_1541 e_1558 sM_25 (by decide +kernel)
                        have M_1558 := dg_sm.uf M_1541 e_1558 sM_25 (by decide)
                        have P0_1558 : P0M S_1558 := PBM.openp (PBM.keep (PBM.keep (PBM.keep PB_612 m_1454 (by decide) (by decide) (by decide) (by decide) (by decide) (by decide) (by decide) (by decide) (by decide) (by decide) (by decide) (by decide) (by decide) (by decide) (by decide)) m_1458 (by decide) (by decide) (by decide) (by decide) (by decide) (by decide) (by decide) (by decide) (by decide) (by decide) (by decide) (by decide) (by decide) (by decide) (by decide)) m_1513 (by decide) (by decide) (by decide) (by decide) (by decide) (by decide) (by decide) (by decide) (by decide) (by decide) (by decide) (by decide) (by decide) (by decide) (by decide)) f_x_1548 (((m_1513.1 0 43 _ sM_0 (by decide)).trans ((m_1458.1 0 43 _ sM_0 (by decide)).trans ((m_1454.1 0 43 _ sM_0 (by decide)).trans ((dg_uf_F e_612 0 43).trans (m_2.1 0 43 _ sM_0 (by decide)))))).trans f_on) (((m_1513.1 0 45 _ sM_0 (by decide)).trans ((m_1458.1 0 45 _ sM_0 (by decide)).trans ((m_1454.1 0 45 _ sM_0 (by decide)).trans ((dg_uf_F e_612 0 45).trans (m_2.1 0 45 _ sM_0 (by decide)))))).trans f_om) (w_1541_1 _ f_y_1546 (by omega)) m_1541 (by decide) (by decide) (by decide) (by decide) (by omega) f_x_1555 (by omega) e_1558
                        refine lv_iconst (v := 0) hx hb dX12_operand_311 (by decide +kernel) ?_
                        have hz_1559 : (0 : Int32).toInt = 0 := by decide +kernel
                        have hz_1560 : (0 : Int32).toInt = 0 := by decide +kernel
                        have hz_1561 : (0 : Int32).toInt = 0 := by decide +kernel
                        have hz_1562 : (0 : Int32).toInt = 0 := by decide +kernel
                        refine W.widen (k := 0) (n := 0) (Nat.le_of_ble_eq_true rfl) (Nat.le_of_ble_eq_true rfl) ?_
                        exact dg_iret hx hb hr hlocks (by decide +kernel) hP hS ⟨I_1558, M_1558, (by decide +kernel), ⟨y_1543, y_1544, y_1545, y_1546, cd, x_1555, om, ((dg_uf_F e_1558 0 3).trans f_y_1543), ((dg_uf_F e_1558 0 4).trans f_y_1544), ((dg_uf_F e_1558 0 5).trans f_y_1545), ((dg_uf_F e_1558 0 8).trans f_y_1546), (((dg_uf_F e_1558 0 34).trans ((m_1541.1 0 34 _ sM_0 (by decide)).trans ((m_1513.1 0 34 _ sM_0 (by decide)).trans ((m_1458.1 0 34 _ sM_0 (by decide)).trans ((m_1454.1 0 34 _ sM_0 (by decide)).trans ((dg_uf_F e_612 0 34).trans (m_2.1 0 34 _ sM_0 (by decide)))))))).trans f_cd), ((dg_uf_F e_1558 0 42).trans f_x_1555), (((dg_uf_F e_1558 0 45).trans ((m_1541.1 0 45 _ sM_0 (by decide)).trans ((m_1513.1 0 45 _ sM_0 (by decide)).trans ((m_1458.1 0 45 _ sM_0 (by decide)).trans ((m_1454.1 0 45 _ sM_0 (by decide)).trans ((dg_uf_F e_612 0 45).trans (m_2.1 0 45 _ sM_0 (by decide)))))))).trans f_om), (by omega)⟩, (fun k9 hk9 hk0 => ⟨fun h9 => absurd h9 (by decide +kernel), fun _ => P0_1558⟩), (ZWM.keep (ZWM.keep (ZWM.keep (ZWM.keep (ZWM.keep (ZWM.keep (ZWM.keep ZW m_2 (by decide) (by decide) (by decide) (by decide)) (dg_sm.uf (WF := []) (WA := [24]) dg_sm.rf e_612 sM_24 (by decide)) (by decide) (by decide) (by decide) (by decide)) m_1454 (by decide) (by decide) (by decide) (by decide)) m_1458 (by decide) (by decide) (by decide) (by decide)) m_1513 (by decide) (by decide) (by decide) (by decide)) m_1541 (by decide) (by decide) (by decide) (by decide)) (dg_sm.uf (WF := []) (WA := [25]) dg_sm.rf e_1558 sM_25 (by decide)) (by decide) (by decide) (by decide) (by decide)), trivial⟩ dX12_operand_312
                refine lv_if_eq (tgt := 232) hx hb dX12_operand_224 (by decide) (fun c_1563 => ?_) (fun c_1563 => ?_)
                · have jc_1563 := dk_eqc (k := 0) (by decide +kernel) c_1563
                  clear w_1338_1
                  refine lv_aload_n hx hb dX12_operand_232 rfl (lv_at hl 2 rfl) ?_
                  refine lv_ldc2 hx hb hown (hts _ (bw_mem wB_1194)) dX12_operand_233 ?_
                  refine dg_calli hS hA1 hA (va_runV (As := [.long 7168376]) (rest := []) F (c_m_isWord l g D o S_612 7168376 sg (((dg_uf_F e_612 0 3).trans (m_2.1 0 3 _ sM_0 (by decide))).trans f_sg) (by omega) I_612 H.size) (cwV 1 hts (bw_V wB_1165 wB_1166 wB_1167 wB_881 wB_1164) rfl rfl rfl (by decide +kernel) ⟨Nat.le_of_ble_eq_true rfl, Nat.le_of_ble_eq_true rfl⟩) (dg_preV sM_0 rfl K ST hP hS hA1 hA) rfl rfl hl.1 rfl (lv_room (Nat.le_of_ble_eq_true rfl)) dX12_operand_236 ⟨Nat.le_of_ble_eq_true rfl, Nat.le_of_ble_eq_true rfl⟩) (fun x_1564 S_1565 hw_1565 H locs hP hS => ?_)
                  rw [hw_1565.1] at hP
                  obtain ⟨hq_1565, w_1565_0, w_1565_1, -⟩ := hw_1565
                  have w_1565_0 : 0 ≤ (x_1564).toInt ∧ (x_1564).toInt ≤ 1 := w_1565_0
                  have w_1565_1 : (x_1564).toInt = 1 → (sg).toInt = 1 := w_1565_1
                  refine lv_if_eq (tgt := 247) hx hb dX12_operand_239 (by decide) (fun c_1566 => ?_) (fun c_1566 => ?_)
                  · have jc_1566 := dk_eqc (k := 0) (by decide +kernel) c_1566
                    clear w_1565_1
                    refine lv_bipush (v := 44) hx hb dX12_operand_247 (by decide +kernel) ?_
                    have hz_1567 : (44 : Int32).toInt = 44 := by decide +kernel
                    have hz_1568 : (44 : Int32).toInt = 44 := by decide +kernel
                    exact J_1453 44 (by decide +kernel) (by omega) _ _ hP hS _ (lv_sub hl [0, 1, 2] rfl)
                  · have jc_1566 := dk_neqc (k := 0) (by decide +kernel) c_1566
                    have jbc_1566 : 1 ≤ (x_1564).toInt := by omega
                    clear jc_1566
                    have w_1565_1_r := w_1565_1 (by omega)
                    clear w_1565_1
                    refine lv_bipush (v := 37) hx hb dX12_operand_242 (by decide +kernel) ?_
                    refine lv_goto (tgt := 249) hx hb dX12_operand_244 (by decide) ?_
                    have hz_1569 : (37 : Int32).toInt = 37 := by decide +kernel
                    have hz_1570 : (37 : Int32).toInt = 37 := by decide +kernel
                    exact J_1453 37 (by decide +kernel) (by omega) _ _ hP hS _ (lv_sub hl [0, 1, 2] rfl)
                · have jc_1563 := dk_neqc (k := 0) (by decide +kernel) c_1563
                  have jbc_1563 : 1 ≤ (x_1337).toInt := by omega
                  clear jc_1563
                  have w_1338_1_r := w_1338_1 (by omega)
                  clear w_1338_1
                  refine lv_bipush (v := 36) hx hb dX12_operand_227 (by decide +kernel) ?_
                  refine lv_goto (tgt := 249) hx hb dX12_operand_229 (by decide) ?_
                  have hz_1571 : (36 : Int32).toInt = 36 := by decide +kernel
                  have hz_1572 : (36 : Int32).toInt = 36 := by decide +kernel
                  exact J_1453 36 (by decide +kernel) (by omega) _ _ hP hS _ (lv_sub hl [0, 1, 2] rfl)
              refine lv_if_ne (tgt := 217) hx hb dX12_operand_194 (by decide) (fun c_1573 => ?_) (fun c_1573 => ?_)
              · have jc_1573 := dk_neqc (k := 0) (by decide +kernel) c_1573
                have jbc_1573 : 1 ≤ (x_1130).toInt := by omega
                clear jc_1573
                have w_1131_1_r := w_1131_1 (by omega)
                clear w_1131_1
                exact J_1336 ()  (by omega) _ _ hP hS _ (lv_sub hl [0, 1, 2] rfl)
              · have jc_1573 := dk_eqc (k := 0) (by decide +kernel) c_1573
                clear w_1131_1
                refine lv_aload_n hx hb dX12_operand_197 rfl (lv_at hl 2 rfl) ?_
                refine lv_ldc2 hx hb hown (hts _ (bw_mem wB_1194)) dX12_operand_198 ?_
                refine dg_calli hS hA1 hA (va_runV (As := [.long 7168376]) (rest := []) F (c_m_isWord l g D o S_612 7168376 sg (((dg_uf_F e_612 0 3).trans (m_2.1 0 3 _ sM_0 (by decide))).trans f_sg) (by omega) I_612 H.size) (cwV 1 hts (bw_V wB_1165 wB_1166 wB_1167 wB_881 wB_1164) rfl rfl rfl (by decide +kernel) ⟨Nat.le_of_ble_eq_true rfl, Nat.le_of_ble_eq_true rfl⟩) (dg_preV sM_0 rfl K ST hP hS hA1 hA) rfl rfl hl.1 rfl (lv_room (Nat.le_of_ble_eq_true rfl)) dX12_operand_201 ⟨Nat.le_of_ble_eq_true rfl, Nat.le_of_ble_eq_true rfl⟩) (fun x_1574 S_1575 hw_1575 H locs hP hS => ?_)
                rw [hw_1575.1] at hP
                obtain ⟨hq_1575, w_1575_0, w_1575_1, -⟩ := hw_1575
                have w_1575_0 : 0 ≤ (x_1574).toInt ∧ (x_1574).toInt ≤ 1 := w_1575_0
                have w_1575_1 : (x_1574).toInt = 1 → (sg).toInt = 1 := w_1575_1
                refine lv_if_ne (tgt := 217) hx hb dX12_operand_204 (by decide) (fun c_1576 => ?_) (fun c_1576 => ?_)
                · have jc_1576 := dk_neqc (k := 0) (by decide +kernel) c_1576
                  have jbc_1576 : 1 ≤ (x_1574).toInt := by omega
                  clear jc_1576
                  have w_1575_1_r := w_1575_1 (by omega)
                  clear w_1575_1
                  exact J_1336 ()  (by omega) _ _ hP hS _ (lv_sub hl [0, 1, 2] rfl)
                · have jc_1576 := dk_eqc (k := 0) (by decide +kernel) c_1576
                  clear w_1575_1
                  refine lv_aload_n hx hb dX12_operand_207 rfl (lv_at hl 2 rfl) ?_
                  refine lv_ldc2 hx hb hown (hts _ (bw_mem wB_1188)) dX12_operand_208 ?_
                  refine dg_calli hS hA1 hA (va_runV (As := [.long 26982]) (rest := []) F (c_m_isWord l g D o S_612 26982 sg (((dg_uf_F e_612 0 3).trans (m_2.1 0 3 _ sM_0 (by decide))).trans f_sg) (by omega) I_612 H.size) (cwV 1 hts (bw_V wB_1165 wB_1166 wB_1167 wB_881 wB_1164) rfl rfl rfl (by decide +kernel) ⟨Nat.le_of_ble_eq_true rfl, Nat.le_of_ble_eq_true rfl⟩) (dg_preV sM_0 rfl K ST hP hS hA1 hA) rfl rfl hl.1 rfl (lv_room (Nat.le_of_ble_eq_true rfl)) dX12_operand_211 ⟨Nat.le_of_ble_eq_true rfl, Nat.le_of_ble_eq_true rfl⟩) (fun x_1577 S_1578 hw_1578 H locs hP hS => ?_)
                  rw [hw_1578.1] at hP
                  obtain ⟨hq_1578, w_1578_0, w_1578_1, -⟩ := hw_1578
                  have w_1578_0 : 0 ≤ (x_1577).toInt ∧ (x_1577).toInt ≤ 1 := w_1578_0
                  have w_1578_1 : (x_1577).toInt = 1 → (sg).toInt = 1 := w_1578_1
                  refine lv_if_eq (tgt := 313) hx hb dX12_operand_214 (by decide) (fun c_1579 => ?_) (fun c_1579 => ?_)
                  · have jc_1579 := dk_eqc (k := 0) (by decide +kernel) c_1579
                    clear w_1578_1
                    refine lv_aload_n hx hb dX12_operand_313 rfl (lv_at hl 2 rfl) ?_
                    refine dg_get (C := RX12) (T := TX12) (N := 77) hx hb hts (fun w h => bw_mem (wU_X12 w h)) hown K hP sM_0 rfl 3 (by decide) (hts _ (bw_mem wB_1140)) (fun _ h9 => h9) (v := .int sg) (((dg_uf_F e_612 0 3).trans (m_2.1 0 3 _ sM_0 (by decide))).trans f_sg) dX12_operand_314 ?_
                    refine lv_iconst (v := 2) hx hb dX12_operand_317 (by decide +kernel) ?_
                    have J_1661 : ∀ (x_1599 : Int32), ((-1) ≤ (x_1599).toInt ∧ (x_1599).toInt ≤ 6) → ((x_1599 : Int32).toInt ≠ -1 → (sg).toInt ≠ 0) → ∀ (H : Heap) (locs : List Loc), va_P D vwCl (dg_w g shM o rfM S_612) H → va_S A s.heap H locs → ∀ ls : Array Slot, lv_has ls 4 [(2, .int x_14), (1, .int x_5), (0, .ref (o + 0))] → W p l e ({ frames := 4, cells := 0, slots := 0, locals := 98 } : Room) s m args below meth c H locs 0 0 (MQ below (va_Qi (fun (r : Int32) S' => CM o S' ∧ dg_sm shM [(0, 3), (0, 4), (0, 5), (0, 6), (0, 7), (0, 8), (0, 9), (0, 12), (0, 34), (0, 42), (0, 43), (0, 45)] [18, 19, 22, 23, 24, 25, 26, 27] S S' ∧ (0 ≤ (r).toInt ∧ (r).toInt ≤ 1) ∧ (∃ y9_3 y9_4 y9_5 y9_8 y9_34 y9_42 y9_45 : Int32, S'.1 0 3 = .int y9_3 ∧ S'.1 0 4 = .int y9_4 ∧ S'.1 0 5 = .int y9_5 ∧ S'.1 0 8 = .int y9_8 ∧ S'.1 0 34 = .int y9_34 ∧ S'.1 0 42 = .int y9_42 ∧ S'.1 0 45 = .int y9_45 ∧ (((y9_4).toInt ≤ (y9_5).toInt ∧ (y9_5).toInt ≤ (sl).toInt ∧ ((y9_3).toInt ≠ 0 → (y9_4).toInt + 1 ≤ (y9_5).toInt)) ∧ (sa).toInt ≤ (y9_4).toInt ∧ ((fk).toInt ≠ 0 → (y9_8).toInt ≠ 0) ∧ (((y9_8).toInt = 0 → (sa).toInt + 1 ≤ (y9_4).toInt) ∧ ((y9_8).toInt = 0 → (y9_34).toInt + (y9_45).toInt + (y9_42).toInt ≤ (y9_4).toInt)))) ∧ (∀ k9 : Int32, S'.1 0 8 = .int k9 → k9.toInt = 0 → ((r).toInt = 1 → P1M S') ∧ ((r).toInt = 0 → P0M S')) ∧ ZWM S' ∧ True) (dg_B g D shM o rfM) A) args s 0 0 A) (F0 m 411 ls [.int x_1599]) := by
                      intro x_1599 b_x_1599 rel_0 H locs hP hS ls hl
                      refine lv_istore_n (lv' := [(3, .int x_1599), (2, .int x_14), (1, .int x_5), (0, .ref (o + 0))]) hx hb dX12_operand_411 rfl hl (by decide) rfl (fun ls hl => ?_)
                      refine lv_iload_n hx hb dX12_operand_412 rfl (lv_at hl 0 rfl) ?_
                      refine lv_iconst (v := 4) hx hb dX12_operand_413 (by decide +kernel) ?_
                      refine lv_icmp_lt (tgt := 444) hx hb dX12_operand_414 (by decide) (fun c_1662 => ?_) (fun c_1662 => ?_)
                      · have jc_1662 := dk_ltc (k := 4) (by decide +kernel) c_1662
                        refine lv_iload_n hx hb dX12_operand_444 rfl (lv_at hl 0 rfl) ?_
                        refine lv_iconst (v := (-1)) hx hb dX12_operand_445 (by decide +kernel) ?_
                        refine lv_icmp_ne (tgt := 458) hx hb dX12_operand_446 (by decide) (fun c_1663 => ?_) (fun c_1663 => ?_)
                        · have jc_1663 := dk_neqc (k := (-1)) (by decide +kernel) c_1663
                          have jbc_1663 : 0 ≤ (x_1599).toInt := by omega
                          clear jc_1663
                          have rel_0r := rel_0 (by omega)
                          clear rel_0
                          refine lv_aload_n hx hb dX12_operand_458 rfl (lv_at hl 3 rfl) ?_
                          refine dg_get (C := RX12) (T := TX12) (N := 77) hx hb hts (fun w h => bw_mem (wU_X12 w h)) hown K hP sM_0 rfl 8 (by decide) (hts _ (bw_mem wB_1133)) (fun _ h9 => h9) (v := .int y_3) ((dg_uf_F e_612 0 8).trans f_y_3) dX12_operand_459 ?_
                          refine lv_if_le (tgt := 467) hx hb dX12_operand_462 (by decide) (fun _ => ?_) (fun c => absurd (dk_lep (k := 0) (by decide +kernel) (by omega)) c)
                          refine lv_aload_n hx hb dX12_operand_467 rfl (lv_at hl 3 rfl) ?_
                          refine lv_iload_n hx hb dX12_operand_468 rfl (lv_at hl 0 rfl) ?_
                          refine lv_aload_n hx hb dX12_operand_469 rfl (lv_at hl 3 rfl) ?_
                          refine dg_get (C := RX12) (T := TX12) (N := 77) hx hb hts (fun w h => bw_mem (wU_X12 w h)) hown K hP sM_0 rfl 6 (by decide) (hts _ (bw_mem wB_1141)) (fun _ h9 => h9) (v := .int va) (((dg_uf_F e_612 0 6).trans (m_2.1 0 6 _ sM_0 (by decide))).trans f_va) dX12_operand_470 ?_
                          refine dg_callv hS hA1 hA (va_runV (As := [.int x_1599, .int va]) (rest := []) F (c_m_add l g D o S_612 x_1599 (by omega) va cd (((dg_uf_F e_612 0 34).trans (m_2.1 0 34 _ sM_0 (by decide))).trans f_cd) (by omega) (ZWM.keep (ZWM.keep ZW m_2 (by decide) (by decide) (by decide) (by decide)) (dg_sm.uf (WF := []) (WA := [24]) dg_sm.rf e_612 sM_24 (by decide)) (by decide) (by decide) (by decide) (by decide)) (ZKM.keep (ZKM.keep ZK m_2 (by decide) (by decide)) (dg_sm.uf (WF := []) (WA := [24]) dg_sm.rf e_612 sM_24 (by decide)) (by decide) (by decide)) I_612 H.size) (cwV 2 hts (bw_V wB_1209 wB_1210 wB_1211 wB_881 wB_1208) rfl rfl rfl (by decide +kernel) ⟨Nat.le_of_ble_eq_true rfl, Nat.le_of_ble_eq_true rfl⟩) (dg_preV sM_0 rfl K ST hP hS hA1 hA) rfl rfl hl.1 rfl (lv_room (Nat.le_of_ble_eq_true rfl)) dX12_operand_473 ⟨Nat.le_of_ble_eq_true rfl, Nat.le_of_ble_eq_true rfl⟩) (fun S_1664 hw_1664 H locs hP hS => ?_)
                          obtain ⟨I_1664, m_1664, w_1664_0, w_1664_1, w_1664_2, -⟩ := hw_1664
                          have M_1664 := dg_sm.tr M_612 m_1664 (by decide) (by decide)
                          obtain ⟨y_1665, f_y_1665, w_1664_0⟩ := w_1664_0
                          have w_1664_0 : (y_1665).toInt = (cd).toInt + 1 := w_1664_0
                          have b_y_1665 : 0 ≤ (y_1665).toInt ∧ (y_1665).toInt ≤ 1600 := dg_I.intb (lo := 0) (hi := 1600) I_1664 sM_0 (by decide +kernel) f_y_1665
                          have w_1664_1 : ADM S_612 S_1664 x_1599 := w_1664_1
                          have P1_1664 : P1M S_1664 := PBM.leaf PB_612 (((dg_uf_F e_612 0 42).trans (m_2.1 0 42 _ sM_0 (by decide))).trans f_dp) (((dg_uf_F e_612 0 43).trans (m_2.1 0 43 _ sM_0 (by decide))).trans f_on) (((dg_uf_F e_612 0 45).trans (m_2.1 0 45 _ sM_0 (by decide))).trans f_om) m_1664 w_1664_1 (by omega)
                          refine lv_aload_n hx hb dX12_operand_476 rfl (lv_at hl 3 rfl) ?_
                          refine dg_callv hS hA1 hA (va_runV (As := []) (rest := []) F (c_m_ahead l g D o S_1664 se (((m_1664.1 0 5 _ sM_0 (by decide)).trans ((dg_uf_F e_612 0 5).trans (m_2.1 0 5 _ sM_0 (by decide)))).trans f_se) (by omega) sl (((m_1664.1 0 2 _ sM_0 (by decide)).trans ((dg_uf_F e_612 0 2).trans (m_2.1 0 2 _ sM_0 (by decide)))).trans f_sl) (by omega) (by omega) I_1664 H.size) (cwV 0 hts (bw_V wB_1161 wB_1162 wB_1163 wB_881 wB_1160) rfl rfl rfl (by decide +kernel) ⟨Nat.le_of_ble_eq_true rfl, Nat.le_of_ble_eq_true rfl⟩) (dg_preV sM_0 rfl K ST hP hS hA1 hA) rfl rfl hl.1 rfl (lv_room (Nat.le_of_ble_eq_true rfl)) dX12_operand_477 ⟨Nat.le_of_ble_eq_true rfl, Nat.le_of_ble_eq_true rfl⟩) (fun S_1666 hw_1666 H locs hP hS => ?_)
                          obtain ⟨I_1666, m_1666, w_1666_0, -⟩ := hw_1666
                          have M_1666 := dg_sm.tr M_1664 m_1666 (by decide) (by decide)
                          obtain ⟨y_1667, y_1668, y_1669, f_y_1667, f_y_1668, f_y_1669, w_1666_0⟩ := w_1666_0
                          have w_1666_0 : (se).toInt ≤ (y_1668).toInt ∧ (y_1668).toInt ≤ (y_1669).toInt ∧ (y_1669).toInt ≤ (sl).toInt ∧ ((y_1667).toInt ≠ 0 → (y_1668).toInt + 1 ≤ (y_1669).toInt) := w_1666_0
                          obtain ⟨w_1666_0_0, w_1666_0_1, w_1666_0_2, w_1666_0_3⟩ := w_1666_0
                          have b_y_1667 : 0 ≤ (y_1667).toInt ∧ (y_1667).toInt ≤ 3 := dg_I.intb (lo := 0) (hi := 3) I_1666 sM_0 (by decide +kernel) f_y_1667
                          have b_y_1668 : 0 ≤ (y_1668).toInt ∧ (y_1668).toInt ≤ 1600 := dg_I.intb (lo := 0) (hi := 1600) I_1666 sM_0 (by decide +kernel) f_y_1668
                          have b_y_1669 : 0 ≤ (y_1669).toInt ∧ (y_1669).toInt ≤ 1600 := dg_I.intb (lo := 0) (hi := 1600) I_1666 sM_0 (by decide +kernel) f_y_1669
                          refine lv_iconst (v := 1) hx hb dX12_operand_480 (by decide +kernel) ?_
                          have hz_1670 : (1 : Int32).toInt = 1 := by decide +kernel
                          have hz_1671 : (1 : Int32).toInt = 1 := by decide +kernel
                          have hz_1672 : (1 : Int32).toInt = 1 := by decide +kernel
                          have hz_1673 : (1 : Int32).toInt = 1 := by decide +kernel
                          refine W.widen (k := 0) (n := 0) (Nat.le_of_ble_eq_true rfl) (Nat.le_of_ble_eq_true rfl) ?_
                          exact dg_iret hx hb hr hlocks (by decide +kernel) hP hS ⟨I_1666, M_1666, (by decide +kernel), ⟨y_1667, y_1668, y_1669, y_3, y_1665, dp, om, f_y_1667, f_y_1668, f_y_1669, (((m_1666.1 0 8 _ sM_0 (by decide)).trans ((m_1664.1 0 8 _ sM_0 (by decide)).trans (dg_uf_F e_612 0 8))).trans f_y_3), ((m_1666.1 0 34 _ sM_0 (by decide)).trans f_y_1665), (((m_1666.1 0 42 _ sM_0 (by decide)).trans ((m_1664.1 0 42 _ sM_0 (by decide)).trans ((dg_uf_F e_612 0 42).trans (m_2.1 0 42 _ sM_0 (by decide))))).trans f_dp), (((m_1666.1 0 45 _ sM_0 (by decide)).trans ((m_1664.1 0 45 _ sM_0 (by decide)).trans ((dg_uf_F e_612 0 45).trans (m_2.1 0 45 _ sM_0 (by decide))))).trans f_om), (by omega)⟩, (fun k9 hk9 hk0 => ⟨fun _ => (P1M.keep P1_1664 m_1666 (by decide) (by decide) (by decide) (by decide) (by decide) (by decide) (by decide) (by decide) (by decide) (by decide) (by decide) (by decide) (by decide) (by decide) (by decide)), fun h9 => absurd h9 (by decide +kernel)⟩), (ZWM.keep w_1664_2 m_1666 (by decide) (by decide) (by decide) (by decide)), trivial⟩ dX12_operand_481
                        · have jc_1663 := dk_eqc (k := (-1)) (by decide +kernel) c_1663
                          clear rel_0
                          refine lv_aload_n hx hb dX12_operand_449 rfl (lv_at hl 3 rfl) ?_
                          refine lv_iconst (v := 1) hx hb dX12_operand_450 (by decide +kernel) ?_
                          refine lv_aload_n hx hb dX12_operand_451 rfl (lv_at hl 3 rfl) ?_
                          refine dg_get (C := RX12) (T := TX12) (N := 77) hx hb hts (fun w h => bw_mem (wU_X12 w h)) hown K hP sM_0 rfl 4 (by decide) (hts _ (bw_mem wB_1145)) (fun _ h9 => h9) (v := .int sa) (((dg_uf_F e_612 0 4).trans (m_2.1 0 4 _ sM_0 (by decide))).trans f_sa) dX12_operand_452 ?_
                          have hz_1674 : (1 : Int32).toInt = 1 := by decide +kernel
                          refine dg_callv hS hA1 hA (va_runV (As := [.int 1, .int sa]) (rest := []) F (c_m_blame l g D o S_612 1 (by decide +kernel) sa y_3 ((dg_uf_F e_612 0 8).trans f_y_3) (by omega) I_612 H.size) (cwV 2 hts (bw_V wB_1137 wB_1138 wB_1139 wB_881 wB_1136) rfl rfl rfl (by decide +kernel) ⟨Nat.le_of_ble_eq_true rfl, Nat.le_of_ble_eq_true rfl⟩) (dg_preV sM_0 rfl K ST hP hS hA1 hA) rfl rfl hl.1 rfl (lv_room (Nat.le_of_ble_eq_true rfl)) dX12_operand_455 ⟨Nat.le_of_ble_eq_true rfl, Nat.le_of_ble_eq_true rfl⟩) (fun S_1675 hw_1675 H locs hP hS => ?_)
                          obtain ⟨I_1675, m_1675, w_1675_0, -⟩ := hw_1675
                          have M_1675 := dg_sm.tr M_612 m_1675 (by decide) (by decide)
                          have hz_1676 : (1 : Int32).toInt = 1 := by decide +kernel
                          obtain ⟨y_1677, f_y_1677, w_1675_0⟩ := w_1675_0
                          have w_1675_0 : ((y_3).toInt ≠ 0 → (y_1677).toInt = (y_3).toInt) ∧ ((y_3).toInt = 0 → (y_1677).toInt = ((1 : Int32)).toInt) := w_1675_0
                          obtain ⟨w_1675_0_0, w_1675_0_1⟩ := w_1675_0
                          clear w_1675_0_0
                          have w_1675_0_1r := w_1675_0_1 (by omega)
                          clear w_1675_0_1
                          have b_y_1677 : 0 ≤ (y_1677).toInt ∧ (y_1677).toInt ≤ 6 := dg_I.intb (lo := 0) (hi := 6) I_1675 sM_0 (by decide +kernel) f_y_1677
                          have hbl_y_1677 : 1 ≤ (y_1677).toInt := by omega
                          refine lv_aload_n hx hb dX12_operand_458 rfl (lv_at hl 3 rfl) ?_
                          refine dg_get (C := RX12) (T := TX12) (N := 77) hx hb hts (fun w h => bw_mem (wU_X12 w h)) hown K hP sM_0 rfl 8 (by decide) (hts _ (bw_mem wB_1133)) (fun _ h9 => h9) (v := .int y_1677) f_y_1677 dX12_operand_459 ?_
                          refine lv_if_le (tgt := 467) hx hb dX12_operand_462 (by decide) (fun c => absurd c (fun z => absurd (dk_lec (k := 0) (by decide +kernel) z) (by omega))) (fun _ => ?_)
                          refine lv_iconst (v := 1) hx hb dX12_operand_465 (by decide +kernel) ?_
                          have hz_1678 : (1 : Int32).toInt = 1 := by decide +kernel
                          have hz_1679 : (1 : Int32).toInt = 1 := by decide +kernel
                          have hz_1680 : (1 : Int32).toInt = 1 := by decide +kernel
                          have hz_1681 : (1 : Int32).toInt = 1 := by decide +kernel
                          refine W.widen (k := 0) (n := 0) (Nat.le_of_ble_eq_true rfl) (Nat.le_of_ble_eq_true rfl) ?_
                          exact dg_iret hx hb hr hlocks (by decide +kernel) hP hS ⟨I_1675, M_1675, (by decide +kernel), ⟨sg, sa, se, y_1677, cd, dp, om, (((m_1675.1 0 3 _ sM_0 (by decide)).trans ((dg_uf_F e_612 0 3).trans (m_2.1 0 3 _ sM_0 (by decide)))).trans f_sg), (((m_1675.1 0 4 _ sM_0 (by decide)).trans ((dg_uf_F e_612 0 4).trans (m_2.1 0 4 _ sM_0 (by decide)))).trans f_sa), (((m_1675.1 0 5 _ sM_0 (by decide)).trans ((dg_uf_F e_612 0 5).trans (m_2.1 0 5 _ sM_0 (by decide)))).trans f_se), f_y_1677, (((m_1675.1 0 34 _ sM_0 (by decide)).trans ((dg_uf_F e_612 0 34).trans (m_2.1 0 34 _ sM_0 (by decide)))).trans f_cd), (((m_1675.1 0 42 _ sM_0 (by decide)).trans ((dg_uf_F e_612 0 42).trans (m_2.1 0 42 _ sM_0 (by decide)))).trans f_dp), (((m_1675.1 0 45 _ sM_0 (by decide)).trans ((dg_uf_F e_612 0 45).trans (m_2.1 0 45 _ sM_0 (by decide)))).trans f_om), (by omega)⟩, (fun k9 hk9 hk0 => by have q9 := (f_y_1677).symm.trans hk9; cases q9; omega), (ZWM.keep (ZWM.keep (ZWM.keep ZW m_2 (by decide) (by decide) (by decide) (by decide)) (dg_sm.uf (WF := []) (WA := [24]) dg_sm.rf e_612 sM_24 (by decide)) (by decide) (by decide) (by decide) (by decide)) m_1675 (by decide) (by decide) (by decide) (by decide)), trivial⟩ dX12_operand_466
                      · have jc_1662 := dk_nltc (k := 4) (by decide +kernel) c_1662
                        have rel_0r := rel_0 (by omega)
                        clear rel_0
                        refine lv_iload_n hx hb dX12_operand_417 rfl (lv_at hl 0 rfl) ?_
                        refine lv_iconst (v := 4) hx hb dX12_operand_418 (by decide +kernel) ?_
                        refine lv_icmp_ne (tgt := 426) hx hb dX12_operand_419 (by decide) (fun c_1682 => ?_) (fun c_1682 => ?_)
                        · have jc_1682 := dk_neqc (k := 4) (by decide +kernel) c_1682
                          have jbc_1682 : 5 ≤ (x_1599).toInt := by omega
                          clear jc_1682
                          refine lv_iconst (v := 0) hx hb dX12_operand_426 (by decide +kernel) ?_
                          refine lv_aload_n hx hb dX12_operand_427 rfl (lv_at hl 3 rfl) ?_
                          obtain ⟨x_1683, f_x_1683, b_x_1683⟩ := dg_I.int (i := 0) (k := 36) (lo := 0) (hi := 2) I sM_0 (by decide +kernel)
                          refine dg_get (C := RX12) (T := TX12) (N := 77) hx hb hts (fun w h => bw_mem (wU_X12 w h)) hown K hP sM_0 rfl 36 (by decide) (hts _ (bw_mem wB_1231)) (fun _ h9 => h9) (v := .int x_1683) (((dg_uf_F e_612 0 36).trans (m_2.1 0 36 _ sM_0 (by decide))).trans f_x_1683) dX12_operand_428 ?_
                          refine lv_if_ne (tgt := 438) hx hb dX12_operand_431 (by decide) (fun c_1684 => ?_) (fun c_1684 => ?_)
                          · have jc_1684 := dk_neqc (k := 0) (by decide +kernel) c_1684
                            have jbc_1684 : 1 ≤ (x_1683).toInt := by omega
                            clear jc_1684
                            refine lv_iconst (v := 0) hx hb dX12_operand_438 (by decide +kernel) ?_
                            refine lv_icmp_eq (tgt := 444) hx hb dX12_operand_439 (by decide) (fun _ => ?_) (fun c => absurd (by decide +kernel) c)
                            refine lv_iload_n hx hb dX12_operand_444 rfl (lv_at hl 0 rfl) ?_
                            refine lv_iconst (v := (-1)) hx hb dX12_operand_445 (by decide +kernel) ?_
                            refine lv_icmp_ne (tgt := 458) hx hb dX12_operand_446 (by decide) (fun _ => ?_) (fun c => absurd c (fun z => absurd (dk_eqc (k := (-1)) (by decide +kernel) z) (by omega)))
                            refine lv_aload_n hx hb dX12_operand_458 rfl (lv_at hl 3 rfl) ?_
                            refine dg_get (C := RX12) (T := TX12) (N := 77) hx hb hts (fun w h => bw_mem (wU_X12 w h)) hown K hP sM_0 rfl 8 (by decide) (hts _ (bw_mem wB_1133)) (fun _ h9 => h9) (v := .int y_3) ((dg_uf_F e_612 0 8).trans f_y_3) dX12_operand_459 ?_
                            refine lv_if_le (tgt := 467) hx hb dX12_operand_462 (by decide) (fun _ => ?_) (fun c => absurd (dk_lep (k := 0) (by decide +kernel) (by omega)) c)
                            refine lv_aload_n hx hb dX12_operand_467 rfl (lv_at hl 3 rfl) ?_
                            refine lv_iload_n hx hb dX12_operand_468 rfl (lv_at hl 0 rfl) ?_
                            refine lv_aload_n hx hb dX12_operand_469 rfl (lv_at hl 3 rfl) ?_
                            refine dg_get (C := RX12) (T := TX12) (N := 77) hx hb hts (fun w h => bw_mem (wU_X12 w h)) hown K hP sM_0 rfl 6 (by decide) (hts _ (bw_mem wB_1141)) (fun _ h9 => h9) (v := .int va) (((dg_uf_F e_612 0 6).trans (m_2.1 0 6 _ sM_0 (by decide))).trans f_va) dX12_operand_470 ?_
                            refine dg_callv hS hA1 hA (va_runV (As := [.int x_1599, .int va]) (rest := []) F (c_m_add l g D o S_612 x_1599 (by omega) va cd (((dg_uf_F e_612 0 34).trans (m_2.1 0 34 _ sM_0 (by decide))).trans f_cd) (by omega) (ZWM.keep (ZWM.keep ZW m_2 (by decide) (by decide) (by decide) (by decide)) (dg_sm.uf (WF := []) (WA := [24]) dg_sm.rf e_612 sM_24 (by decide)) (by decide) (by decide) (by decide) (by decide)) (ZKM.keep (ZKM.keep ZK m_2 (by decide) (by decide)) (dg_sm.uf (WF := []) (WA := [24]) dg_sm.rf e_612 sM_24 (by decide)) (by decide) (by decide)) I_612 H.size) (cwV 2 hts (bw_V wB_1209 wB_1210 wB_1211 wB_881 wB_1208) rfl rfl rfl (by decide +kernel) ⟨Nat.le_of_ble_eq_true rfl, Nat.le_of_ble_eq_true rfl⟩) (dg_preV sM_0 rfl K ST hP hS hA1 hA) rfl rfl hl.1 rfl (lv_room (Nat.le_of_ble_eq_true rfl)) dX12_operand_473 ⟨Nat.le_of_ble_eq_true rfl, Nat.le_of_ble_eq_true rfl⟩) (fun S_1685 hw_1685 H locs hP hS => ?_)
                            obtain ⟨I_1685, m_1685, w_1685_0, w_1685_1, w_1685_2, -⟩ := hw_1685
                            have M_1685 := dg_sm.tr M_612 m_1685 (by decide) (by decide)
                            obtain ⟨y_1686, f_y_1686, w_1685_0⟩ := w_1685_0
                            have w_1685_0 : (y_1686).toInt = (cd).toInt + 1 := w_1685_0
                            have b_y_1686 : 0 ≤ (y_1686).toInt ∧ (y_1686).toInt ≤ 1600 := dg_I.intb (lo := 0) (hi := 1600) I_1685 sM_0 (by decide +kernel) f_y_1686
                            have w_1685_1 : ADM S_612 S_1685 x_1599 := w_1685_1
                            have P1_1685 : P1M S_1685 := PBM.leaf PB_612 (((dg_uf_F e_612 0 42).trans (m_2.1 0 42 _ sM_0 (by decide))).trans f_dp) (((dg_uf_F e_612 0 43).trans (m_2.1 0 43 _ sM_0 (by decide))).trans f_on) (((dg_uf_F e_612 0 45).trans (m_2.1 0 45 _ sM_0 (by decide))).trans f_om) m_1685 w_1685_1 (by omega)
                            refine lv_aload_n hx hb dX12_operand_476 rfl (lv_at hl 3 rfl) ?_
                            refine dg_callv hS hA1 hA (va_runV (As := []) (rest := []) F (c_m_ahead l g D o S_1685 se (((m_1685.1 0 5 _ sM_0 (by decide)).trans ((dg_uf_F e_612 0 5).trans (m_2.1 0 5 _ sM_0 (by decide)))).trans f_se) (by omega) sl (((m_1685.1 0 2 _ sM_0 (by decide)).trans ((dg_uf_F e_612 0 2).trans (m_2.1 0 2 _ sM_0 (by decide)))).trans f_sl) (by omega) (by omega) I_1685 H.size) (cwV 0 hts (bw_V wB_1161 wB_1162 wB_1163 wB_881 wB_1160) rfl rfl rfl (by decide +kernel) ⟨Nat.le_of_ble_eq_true rfl, Nat.le_of_ble_eq_true rfl⟩) (dg_preV sM_0 rfl K ST hP hS hA1 hA) rfl rfl hl.1 rfl (lv_room (Nat.le_of_ble_eq_true rfl)) dX12_operand_477 ⟨Nat.le_of_ble_eq_true rfl, Nat.le_of_ble_eq_true rfl⟩) (fun S_1687 hw_1687 H locs hP hS => ?_)
                            obtain ⟨I_1687, m_1687, w_1687_0, -⟩ := hw_1687
                            have M_1687 := dg_sm.tr M_1685 m_1687 (by decide) (by decide)
                            obtain ⟨y_1688, y_1689, y_1690, f_y_1688, f_y_1689, f_y_1690, w_1687_0⟩ := w_1687_0
                            have w_1687_0 : (se).toInt ≤ (y_1689).toInt ∧ (y_1689).toInt ≤ (y_1690).toInt ∧ (y_1690).toInt ≤ (sl).toInt ∧ ((y_1688).toInt ≠ 0 → (y_1689).toInt + 1 ≤ (y_1690).toInt) := w_1687_0
                            obtain ⟨w_1687_0_0, w_1687_0_1, w_1687_0_2, w_1687_0_3⟩ := w_1687_0
                            have b_y_1688 : 0 ≤ (y_1688).toInt ∧ (y_1688).toInt ≤ 3 := dg_I.intb (lo := 0) (hi := 3) I_1687 sM_0 (by decide +kernel) f_y_1688
                            have b_y_1689 : 0 ≤ (y_1689).toInt ∧ (y_1689).toInt ≤ 1600 := dg_I.intb (lo := 0) (hi := 1600) I_1687 sM_0 (by decide +kernel) f_y_1689
                            have b_y_1690 : 0 ≤ (y_1690).toInt ∧ (y_1690).toInt ≤ 1600 := dg_I.intb (lo := 0) (hi := 1600) I_1687 sM_0 (by decide +kernel) f_y_1690
                            refine lv_iconst (v := 1) hx hb dX12_operand_480 (by decide +kernel) ?_
                            have hz_1691 : (1 : Int32).toInt = 1 := by decide +kernel
                            have hz_1692 : (1 : Int32).toInt = 1 := by decide +kernel
                            have hz_1693 : (1 : Int32).toInt = 1 := by decide +kernel
                            have hz_1694 : (1 : Int32).toInt = 1 := by decide +kernel
                            refine W.widen (k := 0) (n := 0) (Nat.le_of_ble_eq_true rfl) (Nat.le_of_ble_eq_true rfl) ?_
                            exact dg_iret hx hb hr hlocks (by decide +kernel) hP hS ⟨I_1687, M_1687, (by decide +kernel), ⟨y_1688, y_1689, y_1690, y_3, y_1686, dp, om, f_y_1688, f_y_1689, f_y_1690, (((m_1687.1 0 8 _ sM_0 (by decide)).trans ((m_1685.1 0 8 _ sM_0 (by decide)).trans (dg_uf_F e_612 0 8))).trans f_y_3), ((m_1687.1 0 34 _ sM_0 (by decide)).trans f_y_1686), (((m_1687.1 0 42 _ sM_0 (by decide)).trans ((m_1685.1 0 42 _ sM_0 (by decide)).trans ((dg_uf_F e_612 0 42).trans (m_2.1 0 42 _ sM_0 (by decide))))).trans f_dp), (((m_1687.1 0 45 _ sM_0 (by decide)).trans ((m_1685.1 0 45 _ sM_0 (by decide)).trans ((dg_uf_F e_612 0 45).trans (m_2.1 0 45 _ sM_0 (by decide))))).trans f_om), (by omega)⟩, (fun k9 hk9 hk0 => ⟨fun _ => (P1M.keep P1_1685 m_1687 (by decide) (by decide) (by decide) (by decide) (by decide) (by decide) (by decide) (by decide) (by decide) (by decide) (by decide) (by decide) (by decide) (by decide) (by decide)), fun h9 => absurd h9 (by decide +kernel)⟩), (ZWM.keep w_1685_2 m_1687 (by decide) (by decide) (by decide) (by decide)), trivial⟩ dX12_operand_481
                          · have jc_1684 := dk_eqc (k := 0) (by decide +kernel) c_1684
                            refine lv_iconst (v := 1) hx hb dX12_operand_434 (by decide +kernel) ?_
                            refine lv_goto (tgt := 439) hx hb dX12_operand_435 (by decide) ?_
                            refine lv_icmp_eq (tgt := 444) hx hb dX12_operand_439 (by decide) (fun c => absurd c (by decide +kernel)) (fun _ => ?_)
                            refine lv_iconst (v := (-1)) hx hb dX12_operand_442 (by decide +kernel) ?_
                            refine lv_istore_n (lv' := [(3, .int (-1)), (2, .int x_14), (1, .int x_5), (0, .ref (o + 0))]) hx hb dX12_operand_443 rfl hl (by decide) rfl (fun ls hl => ?_)
                            refine lv_iload_n hx hb dX12_operand_444 rfl (lv_at hl 0 rfl) ?_
                            refine lv_iconst (v := (-1)) hx hb dX12_operand_445 (by decide +kernel) ?_
                            refine lv_icmp_ne (tgt := 458) hx hb dX12_operand_446 (by decide) (fun c => absurd (by decide +kernel) c) (fun _ => ?_)
                            refine lv_aload_n hx hb dX12_operand_449 rfl (lv_at hl 3 rfl) ?_
                            refine lv_iconst (v := 1) hx hb dX12_operand_450 (by decide +kernel) ?_
                            refine lv_aload_n hx hb dX12_operand_451 rfl (lv_at hl 3 rfl) ?_
                            refine dg_get (C := RX12) (T := TX12) (N := 77) hx hb hts (fun w h => bw_mem (wU_X12 w h)) hown K hP sM_0 rfl 4 (by decide) (hts _ (bw_mem wB_1145)) (fun _ h9 => h9) (v := .int sa) (((dg_uf_F e_612 0 4).trans (m_2.1 0 4 _ sM_0 (by decide))).trans f_sa) dX12_operand_452 ?_
                            have hz_1695 : (1 : Int32).toInt = 1 := by decide +kernel
                            refine dg_callv hS hA1 hA (va_runV (As := [.int 1, .int sa]) (rest := []) F (c_m_blame l g D o S_612 1 (by decide +kernel) sa y_3 ((dg_uf_F e_612 0 8).trans f_y_3) (by omega) I_612 H.size) (cwV 2 hts (bw_V wB_1137 wB_1138 wB_1139 wB_881 wB_1136) rfl rfl rfl (by decide +kernel) ⟨Nat.le_of_ble_eq_true rfl, Nat.le_of_ble_eq_true rfl⟩) (dg_preV sM_0 rfl K ST hP hS hA1 hA) rfl rfl hl.1 rfl (lv_room (Nat.le_of_ble_eq_true rfl)) dX12_operand_455 ⟨Nat.le_of_ble_eq_true rfl, Nat.le_of_ble_eq_true rfl⟩) (fun S_1696 hw_1696 H locs hP hS => ?_)
                            obtain ⟨I_1696, m_1696, w_1696_0, -⟩ := hw_1696
                            have M_1696 := dg_sm.tr M_612 m_1696 (by decide) (by decide)
                            have hz_1697 : (1 : Int32).toInt = 1 := by decide +kernel
                            obtain ⟨y_1698, f_y_1698, w_1696_0⟩ := w_1696_0
                            have w_1696_0 : ((y_3).toInt ≠ 0 → (y_1698).toInt = (y_3).toInt) ∧ ((y_3).toInt = 0 → (y_1698).toInt = ((1 : Int32)).toInt) := w_1696_0
                            obtain ⟨w_1696_0_0, w_1696_0_1⟩ := w_1696_0
                            clear w_1696_0_0
                            have w_1696_0_1r := w_1696_0_1 (by omega)
                            clear w_1696_0_1
                            have b_y_1698 : 0 ≤ (y_1698).toInt ∧ (y_1698).toInt ≤ 6 := dg_I.intb (lo := 0) (hi := 6) I_1696 sM_0 (by decide +kernel) f_y_1698
                            have hbl_y_1698 : 1 ≤ (y_1698).toInt := by omega
                            refine lv_aload_n hx hb dX12_operand_458 rfl (lv_at hl 3 rfl) ?_
                            refine dg_get (C := RX12) (T := TX12) (N := 77) hx hb hts (fun w h => bw_mem (wU_X12 w h)) hown K hP sM_0 rfl 8 (by decide) (hts _ (bw_mem wB_1133)) (fun _ h9 => h9) (v := .int y_1698) f_y_1698 dX12_operand_459 ?_
                            refine lv_if_le (tgt := 467) hx hb dX12_operand_462 (by decide) (fun c => absurd c (fun z => absurd (dk_lec (k := 0) (by decide +kernel) z) (by omega))) (fun _ => ?_)
                            refine lv_iconst (v := 1) hx hb dX12_operand_465 (by decide +kernel) ?_
                            have hz_1699 : (1 : Int32).toInt = 1 := by decide +kernel
                            have hz_1700 : (1 : Int32).toInt = 1 := by decide +kernel
                            have hz_1701 : (1 : Int32).toInt = 1 := by decide +kernel
                            have hz_1702 : (1 : Int32).toInt = 1 := by decide +kernel
                            refine W.widen (k := 0) (n := 0) (Nat.le_of_ble_eq_true rfl) (Nat.le_of_ble_eq_true rfl) ?_
                            exact dg_iret hx hb hr hlocks (by decide +kernel) hP hS ⟨I_1696, M_1696, (by decide +kernel), ⟨sg, sa, se, y_1698, cd, dp, om, (((m_1696.1 0 3 _ sM_0 (by decide)).trans ((dg_uf_F e_612 0 3).trans (m_2.1 0 3 _ sM_0 (by decide)))).trans f_sg), (((m_1696.1 0 4 _ sM_0 (by decide)).trans ((dg_uf_F e_612 0 4).trans (m_2.1 0 4 _ sM_0 (by decide)))).trans f_sa), (((m_1696.1 0 5 _ sM_0 (by decide)).trans ((dg_uf_F e_612 0 5).trans (m_2.1 0 5 _ sM_0 (by decide)))).trans f_se), f_y_1698, (((m_1696.1 0 34 _ sM_0 (by decide)).trans ((dg_uf_F e_612 0 34).trans (m_2.1 0 34 _ sM_0 (by decide)))).trans f_cd), (((m_1696.1 0 42 _ sM_0 (by decide)).trans ((dg_uf_F e_612 0 42).trans (m_2.1 0 42 _ sM_0 (by decide)))).trans f_dp), (((m_1696.1 0 45 _ sM_0 (by decide)).trans ((dg_uf_F e_612 0 45).trans (m_2.1 0 45 _ sM_0 (by decide)))).trans f_om), (by omega)⟩, (fun k9 hk9 hk0 => by have q9 := (f_y_1698).symm.trans hk9; cases q9; omega), (ZWM.keep (ZWM.keep (ZWM.keep ZW m_2 (by decide) (by decide) (by decide) (by decide)) (dg_sm.uf (WF := []) (WA := [24]) dg_sm.rf e_612 sM_24 (by decide)) (by decide) (by decide) (by decide) (by decide)) m_1696 (by decide) (by decide) (by decide) (by decide)), trivial⟩ dX12_operand_466
                        · have jc_1682 := dk_eqc (k := 4) (by decide +kernel) c_1682
                          refine lv_iconst (v := 1) hx hb dX12_operand_422 (by decide +kernel) ?_
                          refine lv_goto (tgt := 427) hx hb dX12_operand_423 (by decide) ?_
                          refine lv_aload_n hx hb dX12_operand_427 rfl (lv_at hl 3 rfl) ?_
                          obtain ⟨x_1703, f_x_1703, b_x_1703⟩ := dg_I.int (i := 0) (k := 36) (lo := 0) (hi := 2) I sM_0 (by decide +kernel)
                          refine dg_get (C := RX12) (T := TX12) (N := 77) hx hb hts (fun w h => bw_mem (wU_X12 w h)) hown K hP sM_0 rfl 36 (by decide) (hts _ (bw_mem wB_1231)) (fun _ h9 => h9) (v := .int x_1703) (((dg_uf_F e_612 0 36).trans (m_2.1 0 36 _ sM_0 (by decide))).trans f_x_1703) dX12_operand_428 ?_
                          refine lv_if_ne (tgt := 438) hx hb dX12_operand_431 (by decide) (fun c_1704 => ?_) (fun c_1704 => ?_)
                          · have jc_1704 := dk_neqc (k := 0) (by decide +kernel) c_1704
                            have jbc_1704 : 1 ≤ (x_1703).toInt := by omega
                            clear jc_1704
                            refine lv_iconst (v := 0) hx hb dX12_operand_438 (by decide +kernel) ?_
                            refine lv_icmp_eq (tgt := 444) hx hb dX12_operand_439 (by decide) (fun c => absurd c (by decide +kernel)) (fun _ => ?_)
                            refine lv_iconst (v := (-1)) hx hb dX12_operand_442 (by decide +kernel) ?_
                            refine lv_istore_n (lv' := [(3, .int (-1)), (2, .int x_14), (1, .int x_5), (0, .ref (o + 0))]) hx hb dX12_operand_443 rfl hl (by decide) rfl (fun ls hl => ?_)
                            refine lv_iload_n hx hb dX12_operand_444 rfl (lv_at hl 0 rfl) ?_
                            refine lv_iconst (v := (-1)) hx hb dX12_operand_445 (by decide +kernel) ?_
                            refine lv_icmp_ne (tgt := 458) hx hb dX12_operand_446 (by decide) (fun c => absurd (by decide +kernel) c) (fun _ => ?_)
                            refine lv_aload_n hx hb dX12_operand_449 rfl (lv_at hl 3 rfl) ?_
                            refine lv_iconst (v := 1) hx hb dX12_operand_450 (by decide +kernel) ?_
                            refine lv_aload_n hx hb dX12_operand_451 rfl (lv_at hl 3 rfl) ?_
                            refine dg_get (C := RX12) (T := TX12) (N := 77) hx hb hts (fun w h => bw_mem (wU_X12 w h)) hown K hP sM_0 rfl 4 (by decide) (hts _ (bw_mem wB_1145)) (fun _ h9 => h9) (v := .int sa) (((dg_uf_F e_612 0 4).trans (m_2.1 0 4 _ sM_0 (by decide))).trans f_sa) dX12_operand_452 ?_
                            have hz_1705 : (1 : Int32).toInt = 1 := by decide +kernel
                            refine dg_callv hS hA1 hA (va_runV (As := [.int 1, .int sa]) (rest := []) F (c_m_blame l g D o S_612 1 (by decide +kernel) sa y_3 ((dg_uf_F e_612 0 8).trans f_y_3) (by omega) I_612 H.size) (cwV 2 hts (bw_V wB_1137 wB_1138 wB_1139 wB_881 wB_1136) rfl rfl rfl (by decide +kernel) ⟨Nat.le_of_ble_eq_true rfl, Nat.le_of_ble_eq_true rfl⟩) (dg_preV sM_0 rfl K ST hP hS hA1 hA) rfl rfl hl.1 rfl (lv_room (Nat.le_of_ble_eq_true rfl)) dX12_operand_455 ⟨Nat.le_of_ble_eq_true rfl, Nat.le_of_ble_eq_true rfl⟩) (fun S_1706 hw_1706 H locs hP hS => ?_)
                            obtain ⟨I_1706, m_1706, w_1706_0, -⟩ := hw_1706
                            have M_1706 := dg_sm.tr M_612 m_1706 (by decide) (by decide)
                            have hz_1707 : (1 : Int32).toInt = 1 := by decide +kernel
                            obtain ⟨y_1708, f_y_1708, w_1706_0⟩ := w_1706_0
                            have w_1706_0 : ((y_3).toInt ≠ 0 → (y_1708).toInt = (y_3).toInt) ∧ ((y_3).toInt = 0 → (y_1708).toInt = ((1 : Int32)).toInt) := w_1706_0
                            obtain ⟨w_1706_0_0, w_1706_0_1⟩ := w_1706_0
                            clear w_1706_0_0
                            have w_1706_0_1r := w_1706_0_1 (by omega)
                            clear w_1706_0_1
                            have b_y_1708 : 0 ≤ (y_1708).toInt ∧ (y_1708).toInt ≤ 6 := dg_I.intb (lo := 0) (hi := 6) I_1706 sM_0 (by decide +kernel) f_y_1708
                            have hbl_y_1708 : 1 ≤ (y_1708).toInt := by omega
                            refine lv_aload_n hx hb dX12_operand_458 rfl (lv_at hl 3 rfl) ?_
                            refine dg_get (C := RX12) (T := TX12) (N := 77) hx hb hts (fun w h => bw_mem (wU_X12 w h)) hown K hP sM_0 rfl 8 (by decide) (hts _ (bw_mem wB_1133)) (fun _ h9 => h9) (v := .int y_1708) f_y_1708 dX12_operand_459 ?_
                            refine lv_if_le (tgt := 467) hx hb dX12_operand_462 (by decide) (fun c => absurd c (fun z => absurd (dk_lec (k := 0) (by decide +kernel) z) (by omega))) (fun _ => ?_)
                            refine lv_iconst (v := 1) hx hb dX12_operand_465 (by decide +kernel) ?_
                            have hz_1709 : (1 : Int32).toInt = 1 := by decide +kernel
                            have hz_1710 : (1 : Int32).toInt = 1 := by decide +kernel
                            have hz_1711 : (1 : Int32).toInt = 1 := by decide +kernel
                            have hz_1712 : (1 : Int32).toInt = 1 := by decide +kernel
                            refine W.widen (k := 0) (n := 0) (Nat.le_of_ble_eq_true rfl) (Nat.le_of_ble_eq_true rfl) ?_
                            exact dg_iret hx hb hr hlocks (by decide +kernel) hP hS ⟨I_1706, M_1706, (by decide +kernel), ⟨sg, sa, se, y_1708, cd, dp, om, (((m_1706.1 0 3 _ sM_0 (by decide)).trans ((dg_uf_F e_612 0 3).trans (m_2.1 0 3 _ sM_0 (by decide)))).trans f_sg), (((m_1706.1 0 4 _ sM_0 (by decide)).trans ((dg_uf_F e_612 0 4).trans (m_2.1 0 4 _ sM_0 (by decide)))).trans f_sa), (((m_1706.1 0 5 _ sM_0 (by decide)).trans ((dg_uf_F e_612 0 5).trans (m_2.1 0 5 _ sM_0 (by decide)))).trans f_se), f_y_1708, (((m_1706.1 0 34 _ sM_0 (by decide)).trans ((dg_uf_F e_612 0 34).trans (m_2.1 0 34 _ sM_0 (by decide)))).trans f_cd), (((m_1706.1 0 42 _ sM_0 (by decide)).trans ((dg_uf_F e_612 0 42).trans (m_2.1 0 42 _ sM_0 (by decide)))).trans f_dp), (((m_1706.1 0 45 _ sM_0 (by decide)).trans ((dg_uf_F e_612 0 45).trans (m_2.1 0 45 _ sM_0 (by decide)))).trans f_om), (by omega)⟩, (fun k9 hk9 hk0 => by have q9 := (f_y_1708).symm.trans hk9; cases q9; omega), (ZWM.keep (ZWM.keep (ZWM.keep ZW m_2 (by decide) (by decide) (by decide) (by decide)) (dg_sm.uf (WF := []) (WA := [24]) dg_sm.rf e_612 sM_24 (by decide)) (by decide) (by decide) (by decide) (by decide)) m_1706 (by decide) (by decide) (by decide) (by decide)), trivial⟩ dX12_operand_466
                          · have jc_1704 := dk_eqc (k := 0) (by decide +kernel) c_1704
                            refine lv_iconst (v := 1) hx hb dX12_operand_434 (by decide +kernel) ?_
                            refine lv_goto (tgt := 439) hx hb dX12_operand_435 (by decide) ?_
                            refine lv_icmp_eq (tgt := 444) hx hb dX12_operand_439 (by decide) (fun _ => ?_) (fun c => absurd (by decide +kernel) c)
                            refine lv_iload_n hx hb dX12_operand_444 rfl (lv_at hl 0 rfl) ?_
                            refine lv_iconst (v := (-1)) hx hb dX12_operand_445 (by decide +kernel) ?_
                            refine lv_icmp_ne (tgt := 458) hx hb dX12_operand_446 (by decide) (fun _ => ?_) (fun c => absurd c (fun z => absurd (dk_eqc (k := (-1)) (by decide +kernel) z) (by omega)))
                            refine lv_aload_n hx hb dX12_operand_458 rfl (lv_at hl 3 rfl) ?_
                            refine dg_get (C := RX12) (T := TX12) (N := 77) hx hb hts (fun w h => bw_mem (wU_X12 w h)) hown K hP sM_0 rfl 8 (by decide) (hts _ (bw_mem wB_1133)) (fun _ h9 => h9) (v := .int y_3) ((dg_uf_F e_612 0 8).trans f_y_3) dX12_operand_459 ?_
                            refine lv_if_le (tgt := 467) hx hb dX12_operand_462 (by decide) (fun _ => ?_) (fun c => absurd (dk_lep (k := 0) (by decide +kernel) (by omega)) c)
                            refine lv_aload_n hx hb dX12_operand_467 rfl (lv_at hl 3 rfl) ?_
                            refine lv_iload_n hx hb dX12_operand_468 rfl (lv_at hl 0 rfl) ?_
                            refine lv_aload_n hx hb dX12_operand_469 rfl (lv_at hl 3 rfl) ?_
                            refine dg_get (C := RX12) (T := TX12) (N := 77) hx hb hts (fun w h => bw_mem (wU_X12 w h)) hown K hP sM_0 rfl 6 (by decide) (hts _ (bw_mem wB_1141)) (fun _ h9 => h9) (v := .int va) (((dg_uf_F e_612 0 6).trans (m_2.1 0 6 _ sM_0 (by decide))).trans f_va) dX12_operand_470 ?_
                            refine dg_callv hS hA1 hA (va_runV (As := [.int x_1599, .int va]) (rest := []) F (c_m_add l g D o S_612 x_1599 (by omega) va cd (((dg_uf_F e_612 0 34).trans (m_2.1 0 34 _ sM_0 (by decide))).trans f_cd) (by omega) (ZWM.keep (ZWM.keep ZW m_2 (by decide) (by decide) (by decide) (by decide)) (dg_sm.uf (WF := []) (WA := [24]) dg_sm.rf e_612 sM_24 (by decide)) (by decide) (by decide) (by decide) (by decide)) (ZKM.keep (ZKM.keep ZK m_2 (by decide) (by decide)) (dg_sm.uf (WF := []) (WA := [24]) dg_sm.rf e_612 sM_24 (by decide)) (by decide) (by decide)) I_612 H.size) (cwV 2 hts (bw_V wB_1209 wB_1210 wB_1211 wB_881 wB_1208) rfl rfl rfl (by decide +kernel) ⟨Nat.le_of_ble_eq_true rfl, Nat.le_of_ble_eq_true rfl⟩) (dg_preV sM_0 rfl K ST hP hS hA1 hA) rfl rfl hl.1 rfl (lv_room (Nat.le_of_ble_eq_true rfl)) dX12_operand_473 ⟨Nat.le_of_ble_eq_true rfl, Nat.le_of_ble_eq_true rfl⟩) (fun S_1713 hw_1713 H locs hP hS => ?_)
                            obtain ⟨I_1713, m_1713, w_1713_0, w_1713_1, w_1713_2, -⟩ := hw_1713
                            have M_1713 := dg_sm.tr M_612 m_1713 (by decide) (by decide)
                            obtain ⟨y_1714, f_y_1714, w_1713_0⟩ := w_1713_0
                            have w_1713_0 : (y_1714).toInt = (cd).toInt + 1 := w_1713_0
                            have b_y_1714 : 0 ≤ (y_1714).toInt ∧ (y_1714).toInt ≤ 1600 := dg_I.intb (lo := 0) (hi := 1600) I_1713 sM_0 (by decide +kernel) f_y_1714
                            have w_1713_1 : ADM S_612 S_1713 x_1599 := w_1713_1
                            have P1_1713 : P1M S_1713 := PBM.leaf PB_612 (((dg_uf_F e_612 0 42).trans (m_2.1 0 42 _ sM_0 (by decide))).trans f_dp) (((dg_uf_F e_612 0 43).trans (m_2.1 0 43 _ sM_0 (by decide))).trans f_on) (((dg_uf_F e_612 0 45).trans (m_2.1 0 45 _ sM_0 (by decide))).trans f_om) m_1713 w_1713_1 (by omega)
                            refine lv_aload_n hx hb dX12_operand_476 rfl (lv_at hl 3 rfl) ?_
                            refine dg_callv hS hA1 hA (va_runV (As := []) (rest := []) F (c_m_ahead l g D o S_1713 se (((m_1713.1 0 5 _ sM_0 (by decide)).trans ((dg_uf_F e_612 0 5).trans (m_2.1 0 5 _ sM_0 (by decide)))).trans f_se) (by omega) sl (((m_1713.1 0 2 _ sM_0 (by decide)).trans ((dg_uf_F e_612 0 2).trans (m_2.1 0 2 _ sM_0 (by decide)))).trans f_sl) (by omega) (by omega) I_1713 H.size) (cwV 0 hts (bw_V wB_1161 wB_1162 wB_1163 wB_881 wB_1160) rfl rfl rfl (by decide +kernel) ⟨Nat.le_of_ble_eq_true rfl, Nat.le_of_ble_eq_true rfl⟩) (dg_preV sM_0 rfl K ST hP hS hA1 hA) rfl rfl hl.1 rfl (lv_room (Nat.le_of_ble_eq_true rfl)) dX12_operand_477 ⟨Nat.le_of_ble_eq_true rfl, Nat.le_of_ble_eq_true rfl⟩) (fun S_1715 hw_1715 H locs hP hS => ?_)
                            obtain ⟨I_1715, m_1715, w_1715_0, -⟩ := hw_1715
                            have M_1715 := dg_sm.tr M_1713 m_1715 (by decide) (by decide)
                            obtain ⟨y_1716, y_1717, y_1718, f_y_1716, f_y_1717, f_y_1718, w_1715_0⟩ := w_1715_0
                            have w_1715_0 : (se).toInt ≤ (y_1717).toInt ∧ (y_1717).toInt ≤ (y_1718).toInt ∧ (y_1718).toInt ≤ (sl).toInt ∧ ((y_1716).toInt ≠ 0 → (y_1717).toInt + 1 ≤ (y_1718).toInt) := w_1715_0
                            obtain ⟨w_1715_0_0, w_1715_0_1, w_1715_0_2, w_1715_0_3⟩ := w_1715_0
                            have b_y_1716 : 0 ≤ (y_1716).toInt ∧ (y_1716).toInt ≤ 3 := dg_I.intb (lo := 0) (hi := 3) I_1715 sM_0 (by decide +kernel) f_y_1716
                            have b_y_1717 : 0 ≤ (y_1717).toInt ∧ (y_1717).toInt ≤ 1600 := dg_I.intb (lo := 0) (hi := 1600) I_1715 sM_0 (by decide +kernel) f_y_1717
                            have b_y_1718 : 0 ≤ (y_1718).toInt ∧ (y_1718).toInt ≤ 1600 := dg_I.intb (lo := 0) (hi := 1600) I_1715 sM_0 (by decide +kernel) f_y_1718
                            refine lv_iconst (v := 1) hx hb dX12_operand_480 (by decide +kernel) ?_
                            have hz_1719 : (1 : Int32).toInt = 1 := by decide +kernel
                            have hz_1720 : (1 : Int32).toInt = 1 := by decide +kernel
                            have hz_1721 : (1 : Int32).toInt = 1 := by decide +kernel
                            have hz_1722 : (1 : Int32).toInt = 1 := by decide +kernel
                            refine W.widen (k := 0) (n := 0) (Nat.le_of_ble_eq_true rfl) (Nat.le_of_ble_eq_true rfl) ?_
                            exact dg_iret hx hb hr hlocks (by decide +kernel) hP hS ⟨I_1715, M_1715, (by decide +kernel), ⟨y_1716, y_1717, y_1718, y_3, y_1714, dp, om, f_y_1716, f_y_1717, f_y_1718, (((m_1715.1 0 8 _ sM_0 (by decide)).trans ((m_1713.1 0 8 _ sM_0 (by decide)).trans (dg_uf_F e_612 0 8))).trans f_y_3), ((m_1715.1 0 34 _ sM_0 (by decide)).trans f_y_1714), (((m_1715.1 0 42 _ sM_0 (by decide)).trans ((m_1713.1 0 42 _ sM_0 (by decide)).trans ((dg_uf_F e_612 0 42).trans (m_2.1 0 42 _ sM_0 (by decide))))).trans f_dp), (((m_1715.1 0 45 _ sM_0 (by decide)).trans ((m_1713.1 0 45 _ sM_0 (by decide)).trans ((dg_uf_F e_612 0 45).trans (m_2.1 0 45 _ sM_0 (by decide))))).trans f_om), (by omega)⟩, (fun k9 hk9 hk0 => ⟨fun _ => (P1M.keep P1_1713 m_1715 (by decide) (by decide) (by decide) (by decide) (by decide) (by decide) (by decide) (by decide) (by decide) (by decide) (by decide) (by decide) (by decide) (by decide) (by decide)), fun h9 => absurd h9 (by decide +kernel)⟩), (ZWM.keep w_1713_2 m_1715 (by decide) (by decide) (by decide) (by decide)), trivial⟩ dX12_operand_481
                    refine lv_icmp_ne (tgt := 325) hx hb dX12_operand_318 (by decide) (fun c_1723 => ?_) (fun c_1723 => ?_)
                    · have jc_1723 := dk_neqc (k := 2) (by decide +kernel) c_1723
                      clear jc_1723
                      refine lv_aload_n hx hb dX12_operand_325 rfl (lv_at hl 2 rfl) ?_
                      refine lv_ldc2 hx hb hown (hts _ (bw_mem wB_1173)) dX12_operand_326 ?_
                      refine dg_calli hS hA1 hA (va_runV (As := [.long 444300616805]) (rest := []) F (c_m_isWord l g D o S_612 444300616805 sg (((dg_uf_F e_612 0 3).trans (m_2.1 0 3 _ sM_0 (by decide))).trans f_sg) (by omega) I_612 H.size) (cwV 1 hts (bw_V wB_1165 wB_1166 wB_1167 wB_881 wB_1164) rfl rfl rfl (by decide +kernel) ⟨Nat.le_of_ble_eq_true rfl, Nat.le_of_ble_eq_true rfl⟩) (dg_preV sM_0 rfl K ST hP hS hA1 hA) rfl rfl hl.1 rfl (lv_room (Nat.le_of_ble_eq_true rfl)) dX12_operand_329 ⟨Nat.le_of_ble_eq_true rfl, Nat.le_of_ble_eq_true rfl⟩) (fun x_1724 S_1725 hw_1725 H locs hP hS => ?_)
                      rw [hw_1725.1] at hP
                      obtain ⟨hq_1725, w_1725_0, w_1725_1, -⟩ := hw_1725
                      have w_1725_0 : 0 ≤ (x_1724).toInt ∧ (x_1724).toInt ≤ 1 := w_1725_0
                      have w_1725_1 : (x_1724).toInt = 1 → (sg).toInt = 1 := w_1725_1
                      refine lv_if_eq (tgt := 339) hx hb dX12_operand_332 (by decide) (fun c_1726 => ?_) (fun c_1726 => ?_)
                      · have jc_1726 := dk_eqc (k := 0) (by decide +kernel) c_1726
                        clear w_1725_1
                        refine lv_aload_n hx hb dX12_operand_339 rfl (lv_at hl 2 rfl) ?_
                        refine lv_ldc2 hx hb hown (hts _ (bw_mem wB_1183)) dX12_operand_340 ?_
                        refine dg_calli hS hA1 hA (va_runV (As := [.long 431198598248]) (rest := []) F (c_m_isWord l g D o S_612 431198598248 sg (((dg_uf_F e_612 0 3).trans (m_2.1 0 3 _ sM_0 (by decide))).trans f_sg) (by omega) I_612 H.size) (cwV 1 hts (bw_V wB_1165 wB_1166 wB_1167 wB_881 wB_1164) rfl rfl rfl (by decide +kernel) ⟨Nat.le_of_ble_eq_true rfl, Nat.le_of_ble_eq_true rfl⟩) (dg_preV sM_0 rfl K ST hP hS hA1 hA) rfl rfl hl.1 rfl (lv_room (Nat.le_of_ble_eq_true rfl)) dX12_operand_343 ⟨Nat.le_of_ble_eq_true rfl, Nat.le_of_ble_eq_true rfl⟩) (fun x_1727 S_1728 hw_1728 H locs hP hS => ?_)
                        rw [hw_1728.1] at hP
                        obtain ⟨hq_1728, w_1728_0, w_1728_1, -⟩ := hw_1728
                        have w_1728_0 : 0 ≤ (x_1727).toInt ∧ (x_1727).toInt ≤ 1 := w_1728_0
                        have w_1728_1 : (x_1727).toInt = 1 → (sg).toInt = 1 := w_1728_1
                        refine lv_if_eq (tgt := 353) hx hb dX12_operand_346 (by decide) (fun c_1729 => ?_) (fun c_1729 => ?_)
                        · have jc_1729 := dk_eqc (k := 0) (by decide +kernel) c_1729
                          clear w_1728_1
                          refine lv_aload_n hx hb dX12_operand_353 rfl (lv_at hl 2 rfl) ?_
                          refine lv_ldc2 hx hb hown (hts _ (bw_mem wB_1184)) dX12_operand_354 ?_
                          refine dg_calli hS hA1 hA (va_runV (As := [.long 495672977012]) (rest := []) F (c_m_isWord l g D o S_612 495672977012 sg (((dg_uf_F e_612 0 3).trans (m_2.1 0 3 _ sM_0 (by decide))).trans f_sg) (by omega) I_612 H.size) (cwV 1 hts (bw_V wB_1165 wB_1166 wB_1167 wB_881 wB_1164) rfl rfl rfl (by decide +kernel) ⟨Nat.le_of_ble_eq_true rfl, Nat.le_of_ble_eq_true rfl⟩) (dg_preV sM_0 rfl K ST hP hS hA1 hA) rfl rfl hl.1 rfl (lv_room (Nat.le_of_ble_eq_true rfl)) dX12_operand_357 ⟨Nat.le_of_ble_eq_true rfl, Nat.le_of_ble_eq_true rfl⟩) (fun x_1730 S_1731 hw_1731 H locs hP hS => ?_)
                          rw [hw_1731.1] at hP
                          obtain ⟨hq_1731, w_1731_0, w_1731_1, -⟩ := hw_1731
                          have w_1731_0 : 0 ≤ (x_1730).toInt ∧ (x_1730).toInt ≤ 1 := w_1731_0
                          have w_1731_1 : (x_1730).toInt = 1 → (sg).toInt = 1 := w_1731_1
                          refine lv_if_eq (tgt := 367) hx hb dX12_operand_360 (by decide) (fun c_1732 => ?_) (fun c_1732 => ?_)
                          · have jc_1732 := dk_eqc (k := 0) (by decide +kernel) c_1732
                            clear w_1731_1
                            refine lv_aload_n hx hb dX12_operand_367 rfl (lv_at hl 2 rfl) ?_
                            refine lv_ldc2 hx hb hown (hts _ (bw_mem wB_1185)) dX12_operand_368 ?_
                            refine dg_calli hS hA1 hA (va_runV (As := [.long 6709618]) (rest := []) F (c_m_isWord l g D o S_612 6709618 sg (((dg_uf_F e_612 0 3).trans (m_2.1 0 3 _ sM_0 (by decide))).trans f_sg) (by omega) I_612 H.size) (cwV 1 hts (bw_V wB_1165 wB_1166 wB_1167 wB_881 wB_1164) rfl rfl rfl (by decide +kernel) ⟨Nat.le_of_ble_eq_true rfl, Nat.le_of_ble_eq_true rfl⟩) (dg_preV sM_0 rfl K ST hP hS hA1 hA) rfl rfl hl.1 rfl (lv_room (Nat.le_of_ble_eq_true rfl)) dX12_operand_371 ⟨Nat.le_of_ble_eq_true rfl, Nat.le_of_ble_eq_true rfl⟩) (fun x_1733 S_1734 hw_1734 H locs hP hS => ?_)
                            rw [hw_1734.1] at hP
                            obtain ⟨hq_1734, w_1734_0, w_1734_1, -⟩ := hw_1734
                            have w_1734_0 : 0 ≤ (x_1733).toInt ∧ (x_1733).toInt ≤ 1 := w_1734_0
                            have w_1734_1 : (x_1733).toInt = 1 → (sg).toInt = 1 := w_1734_1
                            refine lv_if_eq (tgt := 381) hx hb dX12_operand_374 (by decide) (fun c_1735 => ?_) (fun c_1735 => ?_)
                            · have jc_1735 := dk_eqc (k := 0) (by decide +kernel) c_1735
                              clear w_1734_1
                              refine lv_aload_n hx hb dX12_operand_381 rfl (lv_at hl 2 rfl) ?_
                              refine lv_ldc2 hx hb hown (hts _ (bw_mem wB_1186)) dX12_operand_382 ?_
                              refine dg_calli hS hA1 hA (va_runV (As := [.long 1869636974]) (rest := []) F (c_m_isWord l g D o S_612 1869636974 sg (((dg_uf_F e_612 0 3).trans (m_2.1 0 3 _ sM_0 (by decide))).trans f_sg) (by omega) I_612 H.size) (cwV 1 hts (bw_V wB_1165 wB_1166 wB_1167 wB_881 wB_1164) rfl rfl rfl (by decide +kernel) ⟨Nat.le_of_ble_eq_true rfl, Nat.le_of_ble_eq_true rfl⟩) (dg_preV sM_0 rfl K ST hP hS hA1 hA) rfl rfl hl.1 rfl (lv_room (Nat.le_of_ble_eq_true rfl)) dX12_operand_385 ⟨Nat.le_of_ble_eq_true rfl, Nat.le_of_ble_eq_true rfl⟩) (fun x_1736 S_1737 hw_1737 H locs hP hS => ?_)
                              rw [hw_1737.1] at hP
                              obtain ⟨hq_1737, w_1737_0, w_1737_1, -⟩ := hw_1737
                              have w_1737_0 : 0 ≤ (x_1736).toInt ∧ (x_1736).toInt ≤ 1 := w_1737_0
                              have w_1737_1 : (x_1736).toInt = 1 → (sg).toInt = 1 := w_1737_1
                              refine lv_if_eq (tgt := 395) hx hb dX12_operand_388 (by decide) (fun c_1738 => ?_) (fun c_1738 => ?_)
                              · have jc_1738 := dk_eqc (k := 0) (by decide +kernel) c_1738
                                clear w_1737_1
                                refine lv_aload_n hx hb dX12_operand_395 rfl (lv_at hl 2 rfl) ?_
                                refine lv_ldc2 hx hb hown (hts _ (bw_mem wB_1187)) dX12_operand_396 ?_
                                refine dg_calli hS hA1 hA (va_runV (As := [.long 7104884]) (rest := []) F (c_m_isWord l g D o S_612 7104884 sg (((dg_uf_F e_612 0 3).trans (m_2.1 0 3 _ sM_0 (by decide))).trans f_sg) (by omega) I_612 H.size) (cwV 1 hts (bw_V wB_1165 wB_1166 wB_1167 wB_881 wB_1164) rfl rfl rfl (by decide +kernel) ⟨Nat.le_of_ble_eq_true rfl, Nat.le_of_ble_eq_true rfl⟩) (dg_preV sM_0 rfl K ST hP hS hA1 hA) rfl rfl hl.1 rfl (lv_room (Nat.le_of_ble_eq_true rfl)) dX12_operand_399 ⟨Nat.le_of_ble_eq_true rfl, Nat.le_of_ble_eq_true rfl⟩) (fun x_1739 S_1740 hw_1740 H locs hP hS => ?_)
                                rw [hw_1740.1] at hP
                                obtain ⟨hq_1740, w_1740_0, w_1740_1, -⟩ := hw_1740
                                have w_1740_0 : 0 ≤ (x_1739).toInt ∧ (x_1739).toInt ≤ 1 := w_1740_0
                                have w_1740_1 : (x_1739).toInt = 1 → (sg).toInt = 1 := w_1740_1
                                refine lv_if_eq (tgt := 410) hx hb dX12_operand_402 (by decide) (fun c_1741 => ?_) (fun c_1741 => ?_)
                                · have jc_1741 := dk_eqc (k := 0) (by decide +kernel) c_1741
                                  clear w_1740_1
                                  refine lv_iconst (v := (-1)) hx hb dX12_operand_410 (by decide +kernel) ?_
                                  have hz_1742 : (-1 : Int32).toInt = (-1) := by decide +kernel
                                  have hz_1743 : (-1 : Int32).toInt = (-1) := by decide +kernel
                                  exact J_1661 (-1) (by decide +kernel) (by omega) _ _ hP hS _ (lv_sub hl [0, 1, 2] rfl)
                                · have jc_1741 := dk_neqc (k := 0) (by decide +kernel) c_1741
                                  have jbc_1741 : 1 ≤ (x_1739).toInt := by omega
                                  clear jc_1741
                                  have w_1740_1_r := w_1740_1 (by omega)
                                  clear w_1740_1
                                  refine lv_bipush (v := 6) hx hb dX12_operand_405 (by decide +kernel) ?_
                                  refine lv_goto (tgt := 411) hx hb dX12_operand_407 (by decide) ?_
                                  have hz_1744 : (6 : Int32).toInt = 6 := by decide +kernel
                                  have hz_1745 : (6 : Int32).toInt = 6 := by decide +kernel
                                  exact J_1661 6 (by decide +kernel) (by omega) _ _ hP hS _ (lv_sub hl [0, 1, 2] rfl)
                              · have jc_1738 := dk_neqc (k := 0) (by decide +kernel) c_1738
                                have jbc_1738 : 1 ≤ (x_1736).toInt := by omega
                                clear jc_1738
                                have w_1737_1_r := w_1737_1 (by omega)
                                clear w_1737_1
                                refine lv_iconst (v := 5) hx hb dX12_operand_391 (by decide +kernel) ?_
                                refine lv_goto (tgt := 411) hx hb dX12_operand_392 (by decide) ?_
                                have hz_1746 : (5 : Int32).toInt = 5 := by decide +kernel
                                have hz_1747 : (5 : Int32).toInt = 5 := by decide +kernel
                                exact J_1661 5 (by decide +kernel) (by omega) _ _ hP hS _ (lv_sub hl [0, 1, 2] rfl)
                            · have jc_1735 := dk_neqc (k := 0) (by decide +kernel) c_1735
                              have jbc_1735 : 1 ≤ (x_1733).toInt := by omega
                              clear jc_1735
                              have w_1734_1_r := w_1734_1 (by omega)
                              clear w_1734_1
                              refine lv_iconst (v := 4) hx hb dX12_operand_377 (by decide +kernel) ?_
                              refine lv_goto (tgt := 411) hx hb dX12_operand_378 (by decide) ?_
                              have hz_1748 : (4 : Int32).toInt = 4 := by decide +kernel
                              have hz_1749 : (4 : Int32).toInt = 4 := by decide +kernel
                              exact J_1661 4 (by decide +kernel) (by omega) _ _ hP hS _ (lv_sub hl [0, 1, 2] rfl)
                          · have jc_1732 := dk_neqc (k := 0) (by decide +kernel) c_1732
                            have jbc_1732 : 1 ≤ (x_1730).toInt := by omega
                            clear jc_1732
                            have w_1731_1_r := w_1731_1 (by omega)
                            clear w_1731_1
                            refine lv_iconst (v := 3) hx hb dX12_operand_363 (by decide +kernel) ?_
                            refine lv_goto (tgt := 411) hx hb dX12_operand_364 (by decide) ?_
                            have hz_1750 : (3 : Int32).toInt = 3 := by decide +kernel
                            have hz_1751 : (3 : Int32).toInt = 3 := by decide +kernel
                            exact J_1661 3 (by decide +kernel) (by omega) _ _ hP hS _ (lv_sub hl [0, 1, 2] rfl)
                        · have jc_1729 := dk_neqc (k := 0) (by decide +kernel) c_1729
                          have jbc_1729 : 1 ≤ (x_1727).toInt := by omega
                          clear jc_1729
                          have w_1728_1_r := w_1728_1 (by omega)
                          clear w_1728_1
                          refine lv_iconst (v := 2) hx hb dX12_operand_349 (by decide +kernel) ?_
                          refine lv_goto (tgt := 411) hx hb dX12_operand_350 (by decide) ?_
                          have hz_1752 : (2 : Int32).toInt = 2 := by decide +kernel
                          have hz_1753 : (2 : Int32).toInt = 2 := by decide +kernel
                          exact J_1661 2 (by decide +kernel) (by omega) _ _ hP hS _ (lv_sub hl [0, 1, 2] rfl)
                      · have jc_1726 := dk_neqc (k := 0) (by decide +kernel) c_1726
                        have jbc_1726 : 1 ≤ (x_1724).toInt := by omega
                        clear jc_1726
                        have w_1725_1_r := w_1725_1 (by omega)
                        clear w_1725_1
                        refine lv_iconst (v := 1) hx hb dX12_operand_335 (by decide +kernel) ?_
                        refine lv_goto (tgt := 411) hx hb dX12_operand_336 (by decide) ?_
                        have hz_1754 : (1 : Int32).toInt = 1 := by decide +kernel
                        have hz_1755 : (1 : Int32).toInt = 1 := by decide +kernel
                        exact J_1661 1 (by decide +kernel) (by omega) _ _ hP hS _ (lv_sub hl [0, 1, 2] rfl)
                    · have jc_1723 := dk_eqc (k := 2) (by decide +kernel) c_1723
                      have hlx_2r := hlx_2 (by omega)
                      clear hlx_2
                      refine lv_iconst (v := 0) hx hb dX12_operand_321 (by decide +kernel) ?_
                      refine lv_goto (tgt := 411) hx hb dX12_operand_322 (by decide) ?_
                      have hz_1756 : (0 : Int32).toInt = 0 := by decide +kernel
                      have hz_1757 : (0 : Int32).toInt = 0 := by decide +kernel
                      exact J_1661 0 (by decide +kernel) (by omega) _ _ hP hS _ (lv_sub hl [0, 1, 2] rfl)
                  · have jc_1579 := dk_neqc (k := 0) (by decide +kernel) c_1579
                    have jbc_1579 : 1 ≤ (x_1577).toInt := by omega
                    clear jc_1579
                    have w_1578_1_r := w_1578_1 (by omega)
                    clear w_1578_1
                    exact J_1336 ()  (by omega) _ _ hP hS _ (lv_sub hl [0, 1, 2] rfl)
            · have jc_1129 := dk_neqc (k := 0) (by decide +kernel) c_1129
              have jbc_1129 : 1 ≤ (x_1126).toInt := by omega
              clear jc_1129
              have w_1127_1_r := w_1127_1.mp (by omega)
              clear w_1127_1
              refine lv_aload_n hx hb dX12_operand_180 rfl (lv_at hl 2 rfl) ?_
              refine lv_iconst (v := 2) hx hb dX12_operand_181 (by decide +kernel) ?_
              have hz_1758 : (2 : Int32).toInt = 2 := by decide +kernel
              refine dg_callv hS hA1 hA (va_runV (As := [.int 2]) (rest := []) F (c_m_frames l g D o S_612 2 (by decide +kernel) sg (((dg_uf_F e_612 0 3).trans (m_2.1 0 3 _ sM_0 (by decide))).trans f_sg) (by omega) sa (((dg_uf_F e_612 0 4).trans (m_2.1 0 4 _ sM_0 (by decide))).trans f_sa) (by omega) se (((dg_uf_F e_612 0 5).trans (m_2.1 0 5 _ sM_0 (by decide))).trans f_se) (by omega) sl (((dg_uf_F e_612 0 2).trans (m_2.1 0 2 _ sM_0 (by decide))).trans f_sl) (by omega) y_3 ((dg_uf_F e_612 0 8).trans f_y_3) (by omega) dp (((dg_uf_F e_612 0 42).trans (m_2.1 0 42 _ sM_0 (by decide))).trans f_dp) (by omega) om (((dg_uf_F e_612 0 45).trans (m_2.1 0 45 _ sM_0 (by decide))).trans f_om) (by omega) on (((dg_uf_F e_612 0 43).trans (m_2.1 0 43 _ sM_0 (by decide))).trans f_on) (by omega) (by omega) (by omega) I_612 H.size) (cwV 1 hts (bw_V wB_1228 wB_1229 wB_1230 wB_881 wB_1227) rfl rfl rfl (by decide +kernel) ⟨Nat.le_of_ble_eq_true rfl, Nat.le_of_ble_eq_true rfl⟩) (dg_preV sM_0 rfl K ST hP hS hA1 hA) rfl rfl hl.1 rfl (lv_room (Nat.le_of_ble_eq_true rfl)) dX12_operand_182 ⟨Nat.le_of_ble_eq_true rfl, Nat.le_of_ble_eq_true rfl⟩) (fun S_1759 hw_1759 H locs hP hS => ?_)
              obtain ⟨I_1759, m_1759, w_1759_0, w_1759_1, -⟩ := hw_1759
              have M_1759 := dg_sm.tr M_612 m_1759 (by decide) (by decide)
              have hz_1760 : (2 : Int32).toInt = 2 := by decide +kernel
              obtain ⟨y_1761, y_1762, y_1763, y_1764, y_1765, f_y_1761, f_y_1762, f_y_1763, f_y_1764, f_y_1765, w_1759_0⟩ := w_1759_0
              have w_1759_0 : ((y_1762).toInt ≤ (y_1763).toInt ∧ (y_1763).toInt ≤ (sl).toInt ∧ ((y_1761).toInt ≠ 0 → (y_1762).toInt + 1 ≤ (y_1763).toInt)) ∧ (sa).toInt ≤ (y_1762).toInt ∧ ((y_3).toInt ≠ 0 → (y_1764).toInt ≠ 0) ∧ (((y_1764).toInt = 0 → ((sa).toInt + 1 ≤ (y_1762).toInt ∧ (y_1765).toInt = (dp).toInt + 1))) := w_1759_0
              obtain ⟨⟨w_1759_0_0, w_1759_0_1, w_1759_0_2⟩, w_1759_0_3, w_1759_0_4, w_1759_0_5⟩ := w_1759_0
              clear w_1759_0_4
              have b_y_1761 : 0 ≤ (y_1761).toInt ∧ (y_1761).toInt ≤ 3 := dg_I.intb (lo := 0) (hi := 3) I_1759 sM_0 (by decide +kernel) f_y_1761
              have b_y_1762 : 0 ≤ (y_1762).toInt ∧ (y_1762).toInt ≤ 1600 := dg_I.intb (lo := 0) (hi := 1600) I_1759 sM_0 (by decide +kernel) f_y_1762
              have b_y_1763 : 0 ≤ (y_1763).toInt ∧ (y_1763).toInt ≤ 1600 := dg_I.intb (lo := 0) (hi := 1600) I_1759 sM_0 (by decide +kernel) f_y_1763
              have b_y_1764 : 0 ≤ (y_1764).toInt ∧ (y_1764).toInt ≤ 6 := dg_I.intb (lo := 0) (hi := 6) I_1759 sM_0 (by decide +kernel) f_y_1764
              have b_y_1765 : 0 ≤ (y_1765).toInt ∧ (y_1765).toInt ≤ 20 := dg_I.intb (lo := 0) (hi := 20) I_1759 sM_0 (by decide +kernel) f_y_1765
              have w_1759_1 : ∀ k9 : Int32, S_1759.1 0 8 = .int k9 → k9.toInt = 0 → FRM S_612 S_1759 (2 : Int32) := w_1759_1
              obtain ⟨x_1766, f_x_1766, b_x_1766⟩ := dg_I.int (i := 0) (k := 42) (lo := 0) (hi := 20) I_612 sM_0 (by decide +kernel)
              refine lv_iconst (v := 0) hx hb dX12_operand_185 (by decide +kernel) ?_
              have hz_1767 : (0 : Int32).toInt = 0 := by decide +kernel
              have hz_1768 : (0 : Int32).toInt = 0 := by decide +kernel
              obtain ⟨x_1769, f_x_1769, b_x_1769⟩ := dg_I.int (i := 0) (k := 42) (lo := 0) (hi := 20) I_1759 sM_0 (by decide +kernel)
              have hz_1770 : (0 : Int32).toInt = 0 := by decide +kernel
              have hz_1771 : (0 : Int32).toInt = 0 := by decide +kernel
              refine W.widen (k := 0) (n := 0) (Nat.le_of_ble_eq_true rfl) (Nat.le_of_ble_eq_true rfl) ?_
              exact dg_iret hx hb hr hlocks (by decide +kernel) hP hS ⟨I_1759, M_1759, (by decide +kernel), ⟨y_1761, y_1762, y_1763, y_1764, cd, x_1769, om, f_y_1761, f_y_1762, f_y_1763, f_y_1764, (((m_1759.1 0 34 _ sM_0 (by decide)).trans ((dg_uf_F e_612 0 34).trans (m_2.1 0 34 _ sM_0 (by decide)))).trans f_cd), f_x_1769, (((m_1759.1 0 45 _ sM_0 (by decide)).trans ((dg_uf_F e_612 0 45).trans (m_2.1 0 45 _ sM_0 (by decide)))).trans f_om), (by omega)⟩, (fun k9 hk9 hk0 => ⟨fun h9 => absurd h9 (by decide +kernel), fun _ => by first | (exact PBM.opens PB_612 f_x_1766 (((dg_uf_F e_612 0 43).trans (m_2.1 0 43 _ sM_0 (by decide))).trans f_on) (((dg_uf_F e_612 0 45).trans (m_2.1 0 45 _ sM_0 (by decide))).trans f_om) (w_1759_1 k9 hk9 hk0) m_1759 (by decide) (by decide) (by decide) (by decide) (by omega)) | (have q9 := (f_y_1764).symm.trans hk9; cases q9; omega)⟩), (ZWM.keep (ZWM.keep (ZWM.keep ZW m_2 (by decide) (by decide) (by decide) (by decide)) (dg_sm.uf (WF := []) (WA := [24]) dg_sm.rf e_612 sM_24 (by decide)) (by decide) (by decide) (by decide) (by decide)) m_1759 (by decide) (by decide) (by decide) (by decide)), trivial⟩ dX12_operand_186
          refine lv_if_eq (tgt := 171) hx hb dX12_operand_138 (by decide) (fun c_1772 => ?_) (fun c_1772 => ?_)
          · have jc_1772 := dk_eqc (k := 0) (by decide +kernel) c_1772
            exact J_1125   _ _ hP hS _ (lv_sub hl [0, 1, 2] rfl)
          · have jc_1772 := dk_neqc (k := 0) (by decide +kernel) c_1772
            have jbc_1772 : 1 ≤ (x_14).toInt := by omega
            clear jc_1772
            refine lv_aload_n hx hb dX12_operand_141 rfl (lv_at hl 2 rfl) ?_
            refine lv_ldc2 hx hb hown (hts _ (bw_mem wB_1192)) dX12_operand_142 ?_
            refine dg_calli hS hA1 hA (va_runV (As := [.long 6384748]) (rest := []) F (c_m_isWord l g D o S_612 6384748 sg (((dg_uf_F e_612 0 3).trans (m_2.1 0 3 _ sM_0 (by decide))).trans f_sg) (by omega) I_612 H.size) (cwV 1 hts (bw_V wB_1165 wB_1166 wB_1167 wB_881 wB_1164) rfl rfl rfl (by decide +kernel) ⟨Nat.le_of_ble_eq_true rfl, Nat.le_of_ble_eq_true rfl⟩) (dg_preV sM_0 rfl K ST hP hS hA1 hA) rfl rfl hl.1 rfl (lv_room (Nat.le_of_ble_eq_true rfl)) dX12_operand_145 ⟨Nat.le_of_ble_eq_true rfl, Nat.le_of_ble_eq_true rfl⟩) (fun x_1773 S_1774 hw_1774 H locs hP hS => ?_)
            rw [hw_1774.1] at hP
            obtain ⟨hq_1774, w_1774_0, w_1774_1, -⟩ := hw_1774
            have w_1774_0 : 0 ≤ (x_1773).toInt ∧ (x_1773).toInt ≤ 1 := w_1774_0
            have w_1774_1 : (x_1773).toInt = 1 → (sg).toInt = 1 := w_1774_1
            refine lv_if_eq (tgt := 171) hx hb dX12_operand_148 (by decide) (fun c_1775 => ?_) (fun c_1775 => ?_)
            · have jc_1775 := dk_eqc (k := 0) (by decide +kernel) c_1775
              clear w_1774_1
              exact J_1125   _ _ hP hS _ (lv_sub hl [0, 1, 2] rfl)
            · have jc_1775 := dk_neqc (k := 0) (by decide +kernel) c_1775
              have jbc_1775 : 1 ≤ (x_1773).toInt := by omega
              clear jc_1775
              have w_1774_1_r := w_1774_1 (by omega)
              clear w_1774_1
              refine lv_aload_n hx hb dX12_operand_151 rfl (lv_at hl 2 rfl) ?_
              refine lv_bipush (v := 30) hx hb dX12_operand_152 (by decide +kernel) ?_
              refine lv_iconst (v := 0) hx hb dX12_operand_154 (by decide +kernel) ?_
              have hz_1776 : (30 : Int32).toInt = 30 := by decide +kernel
              refine dg_callv hS hA1 hA (va_runV (As := [.int 30, .int 0]) (rest := []) F (c_m_add l g D o S_612 30 (by decide +kernel) 0 cd (((dg_uf_F e_612 0 34).trans (m_2.1 0 34 _ sM_0 (by decide))).trans f_cd) (by omega) (ZWM.keep (ZWM.keep ZW m_2 (by decide) (by decide) (by decide) (by decide)) (dg_sm.uf (WF := []) (WA := [24]) dg_sm.rf e_612 sM_24 (by decide)) (by decide) (by decide) (by decide) (by decide)) (ZKM.keep (ZKM.keep ZK m_2 (by decide) (by decide)) (dg_sm.uf (WF := []) (WA := [24]) dg_sm.rf e_612 sM_24 (by decide)) (by decide) (by decide)) I_612 H.size) (cwV 2 hts (bw_V wB_1209 wB_1210 wB_1211 wB_881 wB_1208) rfl rfl rfl (by decide +kernel) ⟨Nat.le_of_ble_eq_true rfl, Nat.le_of_ble_eq_true rfl⟩) (dg_preV sM_0 rfl K ST hP hS hA1 hA) rfl rfl hl.1 rfl (lv_room (Nat.le_of_ble_eq_true rfl)) dX12_operand_155 ⟨Nat.le_of_ble_eq_true rfl, Nat.le_of_ble_eq_true rfl⟩) (fun S_1777 hw_1777 H locs hP hS => ?_)
              obtain ⟨I_1777, m_1777, w_1777_0, w_1777_1, w_1777_2, -⟩ := hw_1777
              have M_1777 := dg_sm.tr M_612 m_1777 (by decide) (by decide)
              have hz_1778 : (30 : Int32).toInt = 30 := by decide +kernel
              have hz_1779 : (0 : Int32).toInt = 0 := by decide +kernel
              obtain ⟨y_1780, f_y_1780, w_1777_0⟩ := w_1777_0
              have w_1777_0 : (y_1780).toInt = (cd).toInt + 1 := w_1777_0
              have b_y_1780 : 0 ≤ (y_1780).toInt ∧ (y_1780).toInt ≤ 1600 := dg_I.intb (lo := 0) (hi := 1600) I_1777 sM_0 (by decide +kernel) f_y_1780
              have w_1777_1 : ADM S_612 S_1777 (30 : Int32) := w_1777_1
              have P1_1777 : P1M S_1777 := PBM.leaf PB_612 (((dg_uf_F e_612 0 42).trans (m_2.1 0 42 _ sM_0 (by decide))).trans f_dp) (((dg_uf_F e_612 0 43).trans (m_2.1 0 43 _ sM_0 (by decide))).trans f_on) (((dg_uf_F e_612 0 45).trans (m_2.1 0 45 _ sM_0 (by decide))).trans f_om) m_1777 w_1777_1 (by omega)
              refine lv_aload_n hx hb dX12_operand_158 rfl (lv_at hl 2 rfl) ?_
              refine dg_get (C := RX12) (T := TX12) (N := 77) hx hb hts (fun w h => bw_mem (wU_X12 w h)) hown K hP sM_0 rfl 38 (by decide) (hts _ (bw_mem wB_1214)) (fun _ h9 => h9) (v := .ref (o + 23)) (show S_1777.1 0 38 = .ref (o + 23) from dg_I.rel (d := 23) I_1777 sM_0 (by decide +kernel)) dX12_operand_159 ?_
              refine lv_iload_n hx hb dX12_operand_162 rfl (lv_at hl 1 rfl) ?_
              refine lv_iconst (v := 2) hx hb dX12_operand_163 (by decide +kernel) ?_
              have hin_1781 : vp_in x_5 20 := (dk_inv (by omega) (by omega))
              have hz_1783 : (2 : Int32).toInt = 2 := by decide +kernel
              refine dg_iast hx hb K hP hS hA1 sM_23 hin_1781 dX12_operand_164 (fun S_1782 e_1782 H locs hP hS => ?_)
              have I_1782 := dg_I.ufu (lo := 0) (hi := 2) I_1777 e_1782 sM_23 (by decide +kernel) (show 0 ≤ ((2 : Int32)).toInt ∧ ((2 : Int32)).toInt ≤ 2 from (by decide +kernel))
              have M_1782 := dg_sm.uf M_1777 e_1782 sM_23 (by decide)
              have hz_1784 : (2 : Int32).toInt = 2 := by decide +kernel
              have P1_1782 : P1M S_1782 := P1M.close5 P1_1777 (((m_1777.1 0 42 _ sM_0 (by decide)).trans ((dg_uf_F e_612 0 42).trans (m_2.1 0 42 _ sM_0 (by decide)))).trans f_dp) (by omega) (by omega) (by omega) e_1782
              refine lv_aload_n hx hb dX12_operand_165 rfl (lv_at hl 2 rfl) ?_
              refine dg_callv hS hA1 hA (va_runV (As := []) (rest := []) F (c_m_ahead l g D o S_1782 se (((dg_uf_F e_1782 0 5).trans ((m_1777.1 0 5 _ sM_0 (by decide)).trans ((dg_uf_F e_612 0 5).trans (m_2.1 0 5 _ sM_0 (by decide))))).trans f_se) (by omega) sl (((dg_uf_F e_1782 0 2).trans ((m_1777.1 0 2 _ sM_0 (by decide)).trans ((dg_uf_F e_612 0 2).trans (m_2.1 0 2 _ sM_0 (by decide))))).trans f_sl) (by omega) (by omega) I_1782 H.size) (cwV 0 hts (bw_V wB_1161 wB_1162 wB_1163 wB_881 wB_1160) rfl rfl rfl (by decide +kernel) ⟨Nat.le_of_ble_eq_true rfl, Nat.le_of_ble_eq_true rfl⟩) (dg_preV sM_0 rfl K ST hP hS hA1 hA) rfl rfl hl.1 rfl (lv_room (Nat.le_of_ble_eq_true rfl)) dX12_operand_166 ⟨Nat.le_of_ble_eq_true rfl, Nat.le_of_ble_eq_true rfl⟩) (fun S_1785 hw_1785 H locs hP hS => ?_)
              obtain ⟨I_1785, m_1785, w_1785_0, -⟩ := hw_1785
              have M_1785 := dg_sm.tr M_1782 m_1785 (by decide) (by decide)
              obtain ⟨y_1786, y_1787, y_1788, f_y_1786, f_y_1787, f_y_1788, w_1785_0⟩ := w_1785_0
              have w_1785_0 : (se).toInt ≤ (y_1787).toInt ∧ (y_1787).toInt ≤ (y_1788).toInt ∧ (y_1788).toInt ≤ (sl).toInt ∧ ((y_1786).toInt ≠ 0 → (y_1787).toInt + 1 ≤ (y_1788).toInt) := w_1785_0
              obtain ⟨w_1785_0_0, w_1785_0_1, w_1785_0_2, w_1785_0_3⟩ := w_1785_0
              have b_y_1786 : 0 ≤ (y_1786).toInt ∧ (y_1786).toInt ≤ 3 := dg_I.intb (lo := 0) (hi := 3) I_1785 sM_0 (by decide +kernel) f_y_1786
              have b_y_1787 : 0 ≤ (y_1787).toInt ∧ (y_1787).toInt ≤ 1600 := dg_I.intb (lo := 0) (hi := 1600) I_1785 sM_0 (by decide +kernel) f_y_1787
              have b_y_1788 : 0 ≤ (y_1788).toInt ∧ (y_1788).toInt ≤ 1600 := dg_I.intb (lo := 0) (hi := 1600) I_1785 sM_0 (by decide +kernel) f_y_1788
              refine lv_iconst (v := 1) hx hb dX12_operand_169 (by decide +kernel) ?_
              have hz_1789 : (1 : Int32).toInt = 1 := by decide +kernel
              have hz_1790 : (1 : Int32).toInt = 1 := by decide +kernel
              have hz_1791 : (1 : Int32).toInt = 1 := by decide +kernel
              have hz_1792 : (1 : Int32).toInt = 1 := by decide +kernel
              refine W.widen (k := 0) (n := 0) (Nat.le_of_ble_eq_true rfl) (Nat.le_of_ble_eq_true rfl) ?_
              exact dg_iret hx hb hr hlocks (by decide +kernel) hP hS ⟨I_1785, M_1785, (by decide +kernel), ⟨y_1786, y_1787, y_1788, y_3, y_1780, dp, om, f_y_1786, f_y_1787, f_y_1788, (((m_1785.1 0 8 _ sM_0 (by decide)).trans ((dg_uf_F e_1782 0 8).trans ((m_1777.1 0 8 _ sM_0 (by decide)).trans (dg_uf_F e_612 0 8)))).trans f_y_3), (((m_1785.1 0 34 _ sM_0 (by decide)).trans (dg_uf_F e_1782 0 34)).trans f_y_1780), (((m_1785.1 0 42 _ sM_0 (by decide)).trans ((dg_uf_F e_1782 0 42).trans ((m_1777.1 0 42 _ sM_0 (by decide)).trans ((dg_uf_F e_612 0 42).trans (m_2.1 0 42 _ sM_0 (by decide)))))).trans f_dp), (((m_1785.1 0 45 _ sM_0 (by decide)).trans ((dg_uf_F e_1782 0 45).trans ((m_1777.1 0 45 _ sM_0 (by decide)).trans ((dg_uf_F e_612 0 45).trans (m_2.1 0 45 _ sM_0 (by decide)))))).trans f_om), (by omega)⟩, (fun k9 hk9 hk0 => ⟨fun _ => (P1M.keep P1_1782 m_1785 (by decide) (by decide) (by decide) (by decide) (by decide) (by decide) (by decide) (by decide) (by decide) (by decide) (by decide) (by decide) (by decide) (by decide) (by decide)), fun h9 => absurd h9 (by decide +kernel)⟩), (ZWM.keep (ZWM.keep w_1777_2 (dg_sm.uf (WF := []) (WA := [23]) dg_sm.rf e_1782 sM_23 (by decide)) (by decide) (by decide) (by decide) (by decide)) m_1785 (by decide) (by decide) (by decide) (by decide)), trivial⟩ dX12_operand_170
        refine lv_if_eq (tgt := 137) hx hb dX12_operand_118 (by decide) (fun c_1793 => ?_) (fun c_1793 => ?_)
        · have jc_1793 := dk_eqc (k := 0) (by decide +kernel) c_1793
          exact J_879   _ _ hP hS _ (lv_sub hl [0, 1, 2] rfl)
        · have jc_1793 := dk_neqc (k := 0) (by decide +kernel) c_1793
          have jbc_1793 : 1 ≤ (x_14).toInt := by omega
          clear jc_1793
          refine lv_aload_n hx hb dX12_operand_121 rfl (lv_at hl 2 rfl) ?_
          refine lv_bipush (v := 91) hx hb dX12_operand_122 (by decide +kernel) ?_
          refine dg_calli hS hA1 hA (va_runV (As := [.int 91]) (rest := []) F (c_m_isSign l g D o S_612 91 sg (((dg_uf_F e_612 0 3).trans (m_2.1 0 3 _ sM_0 (by decide))).trans f_sg) (by omega) va (((dg_uf_F e_612 0 6).trans (m_2.1 0 6 _ sM_0 (by decide))).trans f_va) (by omega) I_612 H.size) (cwV 1 hts (bw_V wB_1157 wB_1158 wB_1159 wB_881 wB_1156) rfl rfl rfl (by decide +kernel) ⟨Nat.le_of_ble_eq_true rfl, Nat.le_of_ble_eq_true rfl⟩) (dg_preV sM_0 rfl K ST hP hS hA1 hA) rfl rfl hl.1 rfl (lv_room (Nat.le_of_ble_eq_true rfl)) dX12_operand_124 ⟨Nat.le_of_ble_eq_true rfl, Nat.le_of_ble_eq_true rfl⟩) (fun x_1794 S_1795 hw_1795 H locs hP hS => ?_)
          rw [hw_1795.1] at hP
          obtain ⟨hq_1795, w_1795_0, w_1795_1, -⟩ := hw_1795
          have hz_1796 : (91 : Int32).toInt = 91 := by decide +kernel
          have w_1795_0 : 0 ≤ (x_1794).toInt ∧ (x_1794).toInt ≤ 1 := w_1795_0
          have w_1795_1 : (x_1794).toInt = 1 ↔ ((sg).toInt = 3 ∧ (va).toInt = ((91 : Int32)).toInt) := w_1795_1
          refine lv_if_eq (tgt := 137) hx hb dX12_operand_127 (by decide) (fun c_1797 => ?_) (fun c_1797 => ?_)
          · have jc_1797 := dk_eqc (k := 0) (by decide +kernel) c_1797
            clear w_1795_1
            exact J_879   _ _ hP hS _ (lv_sub hl [0, 1, 2] rfl)
          · have jc_1797 := dk_neqc (k := 0) (by decide +kernel) c_1797
            have jbc_1797 : 1 ≤ (x_1794).toInt := by omega
            clear jc_1797
            have w_1795_1_r := w_1795_1.mp (by omega)
            clear w_1795_1
            refine lv_aload_n hx hb dX12_operand_130 rfl (lv_at hl 2 rfl) ?_
            refine lv_iconst (v := 5) hx hb dX12_operand_131 (by decide +kernel) ?_
            have hz_1798 : (5 : Int32).toInt = 5 := by decide +kernel
            refine dg_callv hS hA1 hA (va_runV (As := [.int 5]) (rest := []) F (c_m_frames l g D o S_612 5 (by decide +kernel) sg (((dg_uf_F e_612 0 3).trans (m_2.1 0 3 _ sM_0 (by decide))).trans f_sg) (by omega) sa (((dg_uf_F e_612 0 4).trans (m_2.1 0 4 _ sM_0 (by decide))).trans f_sa) (by omega) se (((dg_uf_F e_612 0 5).trans (m_2.1 0 5 _ sM_0 (by decide))).trans f_se) (by omega) sl (((dg_uf_F e_612 0 2).trans (m_2.1 0 2 _ sM_0 (by decide))).trans f_sl) (by omega) y_3 ((dg_uf_F e_612 0 8).trans f_y_3) (by omega) dp (((dg_uf_F e_612 0 42).trans (m_2.1 0 42 _ sM_0 (by decide))).trans f_dp) (by omega) om (((dg_uf_F e_612 0 45).trans (m_2.1 0 45 _ sM_0 (by decide))).trans f_om) (by omega) on (((dg_uf_F e_612 0 43).trans (m_2.1 0 43 _ sM_0 (by decide))).trans f_on) (by omega) (by omega) (by omega) I_612 H.size) (cwV 1 hts (bw_V wB_1228 wB_1229 wB_1230 wB_881 wB_1227) rfl rfl rfl (by decide +kernel) ⟨Nat.le_of_ble_eq_true rfl, Nat.le_of_ble_eq_true rfl⟩) (dg_preV sM_0 rfl K ST hP hS hA1 hA) rfl rfl hl.1 rfl (lv_room (Nat.le_of_ble_eq_true rfl)) dX12_operand_132 ⟨Nat.le_of_ble_eq_true rfl, Nat.le_of_ble_eq_true rfl⟩) (fun S_1799 hw_1799 H locs hP hS => ?_)
            obtain ⟨I_1799, m_1799, w_1799_0, w_1799_1, -⟩ := hw_1799
            have M_1799 := dg_sm.tr M_612 m_1799 (by decide) (by decide)
            have hz_1800 : (5 : Int32).toInt = 5 := by decide +kernel
            obtain ⟨y_1801, y_1802, y_1803, y_1804, y_1805, f_y_1801, f_y_1802, f_y_1803, f_y_1804, f_y_1805, w_1799_0⟩ := w_1799_0
            have w_1799_0 : ((y_1802).toInt ≤ (y_1803).toInt ∧ (y_1803).toInt ≤ (sl).toInt ∧ ((y_1801).toInt ≠ 0 → (y_1802).toInt + 1 ≤ (y_1803).toInt)) ∧ (sa).toInt ≤ (y_1802).toInt ∧ ((y_3).toInt ≠ 0 → (y_1804).toInt ≠ 0) ∧ (((y_1804).toInt = 0 → ((sa).toInt + 1 ≤ (y_1802).toInt ∧ (y_1805).toInt = (dp).toInt + 1))) := w_1799_0
            obtain ⟨⟨w_1799_0_0, w_1799_0_1, w_1799_0_2⟩, w_1799_0_3, w_1799_0_4, w_1799_0_5⟩ := w_1799_0
            clear w_1799_0_4
            have b_y_1801 : 0 ≤ (y_1801).toInt ∧ (y_1801).toInt ≤ 3 := dg_I.intb (lo := 0) (hi := 3) I_1799 sM_0 (by decide +kernel) f_y_1801
            have b_y_1802 : 0 ≤ (y_1802).toInt ∧ (y_1802).toInt ≤ 1600 := dg_I.intb (lo := 0) (hi := 1600) I_1799 sM_0 (by decide +kernel) f_y_1802
            have b_y_1803 : 0 ≤ (y_1803).toInt ∧ (y_1803).toInt ≤ 1600 := dg_I.intb (lo := 0) (hi := 1600) I_1799 sM_0 (by decide +kernel) f_y_1803
            have b_y_1804 : 0 ≤ (y_1804).toInt ∧ (y_1804).toInt ≤ 6 := dg_I.intb (lo := 0) (hi := 6) I_1799 sM_0 (by decide +kernel) f_y_1804
            have b_y_1805 : 0 ≤ (y_1805).toInt ∧ (y_1805).toInt ≤ 20 := dg_I.intb (lo := 0) (hi := 20) I_1799 sM_0 (by decide +kernel) f_y_1805
            have w_1799_1 : ∀ k9 : Int32, S_1799.1 0 8 = .int k9 → k9.toInt = 0 → FRM S_612 S_1799 (5 : Int32) := w_1799_1
            obtain ⟨x_1806, f_x_1806, b_x_1806⟩ := dg_I.int (i := 0) (k := 42) (lo := 0) (hi := 20) I_612 sM_0 (by decide +kernel)
            refine lv_iconst (v := 0) hx hb dX12_operand_135 (by decide +kernel) ?_
            have hz_1807 : (0 : Int32).toInt = 0 := by decide +kernel
            have hz_1808 : (0 : Int32).toInt = 0 := by decide +kernel
            obtain ⟨x_1809, f_x_1809, b_x_1809⟩ := dg_I.int (i := 0) (k := 42) (lo := 0) (hi := 20) I_1799 sM_0 (by decide +kernel)
            have hz_1810 : (0 : Int32).toInt = 0 := by decide +kernel
            have hz_1811 : (0 : Int32).toInt = 0 := by decide +kernel
            refine W.widen (k := 0) (n := 0) (Nat.le_of_ble_eq_true rfl) (Nat.le_of_ble_eq_true rfl) ?_
            exact dg_iret hx hb hr hlocks (by decide +kernel) hP hS ⟨I_1799, M_1799, (by decide +kernel), ⟨y_1801, y_1802, y_1803, y_1804, cd, x_1809, om, f_y_1801, f_y_1802, f_y_1803, f_y_1804, (((m_1799.1 0 34 _ sM_0 (by decide)).trans ((dg_uf_F e_612 0 34).trans (m_2.1 0 34 _ sM_0 (by decide)))).trans f_cd), f_x_1809, (((m_1799.1 0 45 _ sM_0 (by decide)).trans ((dg_uf_F e_612 0 45).trans (m_2.1 0 45 _ sM_0 (by decide)))).trans f_om), (by omega)⟩, (fun k9 hk9 hk0 => ⟨fun h9 => absurd h9 (by decide +kernel), fun _ => by first | (exact PBM.opens PB_612 f_x_1806 (((dg_uf_F e_612 0 43).trans (m_2.1 0 43 _ sM_0 (by decide))).trans f_on) (((dg_uf_F e_612 0 45).trans (m_2.1 0 45 _ sM_0 (by decide))).trans f_om) (w_1799_1 k9 hk9 hk0) m_1799 (by decide) (by decide) (by decide) (by decide) (by omega)) | (have q9 := (f_y_1804).symm.trans hk9; cases q9; omega)⟩), (ZWM.keep (ZWM.keep (ZWM.keep ZW m_2 (by decide) (by decide) (by decide) (by decide)) (dg_sm.uf (WF := []) (WA := [24]) dg_sm.rf e_612 sM_24 (by decide)) (by decide) (by decide) (by decide) (by decide)) m_1799 (by decide) (by decide) (by decide) (by decide)), trivial⟩ dX12_operand_136
      refine lv_if_eq (tgt := 110) hx hb dX12_operand_48 (by decide) (fun c_1812 => ?_) (fun c_1812 => ?_)
      · have jc_1812 := dk_eqc (k := 0) (by decide +kernel) c_1812
        clear rel_0
        exact J_610   _ _ hP hS _ (lv_sub hl [0, 1, 2] rfl)
      · have jc_1812 := dk_neqc (k := 0) (by decide +kernel) c_1812
        have jbc_1812 : 1 ≤ (x_14).toInt := by omega
        clear jc_1812
        have rel_0r := rel_0 (by omega)
        clear rel_0
        obtain ⟨rel_0r_0, rel_0r_1⟩ := rel_0r
        refine lv_aload_n hx hb dX12_operand_51 rfl (lv_at hl 2 rfl) ?_
        refine lv_ldc2 hx hb hown (hts _ (bw_mem wB_1191)) dX12_operand_52 ?_
        refine dg_calli hS hA1 hA (va_runV (As := [.long 7237492]) (rest := []) F (c_m_isWord l g D o S_2 7237492 sg ((m_2.1 0 3 _ sM_0 (by decide)).trans f_sg) (by omega) I_2 H.size) (cwV 1 hts (bw_V wB_1165 wB_1166 wB_1167 wB_881 wB_1164) rfl rfl rfl (by decide +kernel) ⟨Nat.le_of_ble_eq_true rfl, Nat.le_of_ble_eq_true rfl⟩) (dg_preV sM_0 rfl K ST hP hS hA1 hA) rfl rfl hl.1 rfl (lv_room (Nat.le_of_ble_eq_true rfl)) dX12_operand_55 ⟨Nat.le_of_ble_eq_true rfl, Nat.le_of_ble_eq_true rfl⟩) (fun x_1813 S_1814 hw_1814 H locs hP hS => ?_)
        rw [hw_1814.1] at hP
        obtain ⟨hq_1814, w_1814_0, w_1814_1, -⟩ := hw_1814
        have w_1814_0 : 0 ≤ (x_1813).toInt ∧ (x_1813).toInt ≤ 1 := w_1814_0
        have w_1814_1 : (x_1813).toInt = 1 → (sg).toInt = 1 := w_1814_1
        refine lv_if_eq (tgt := 110) hx hb dX12_operand_58 (by decide) (fun c_1815 => ?_) (fun c_1815 => ?_)
        · have jc_1815 := dk_eqc (k := 0) (by decide +kernel) c_1815
          clear w_1814_1
          exact J_610   _ _ hP hS _ (lv_sub hl [0, 1, 2] rfl)
        · have jc_1815 := dk_neqc (k := 0) (by decide +kernel) c_1815
          have jbc_1815 : 1 ≤ (x_1813).toInt := by omega
          clear jc_1815
          have w_1814_1_r := w_1814_1 (by omega)
          clear w_1814_1
          refine lv_aload_n hx hb dX12_operand_61 rfl (lv_at hl 2 rfl) ?_
          refine dg_get (C := RX12) (T := TX12) (N := 77) hx hb hts (fun w h => bw_mem (wU_X12 w h)) hown K hP sM_0 rfl 43 (by decide) (hts _ (bw_mem wB_1212)) (fun _ h9 => h9) (v := .int on) ((m_2.1 0 43 _ sM_0 (by decide)).trans f_on) dX12_operand_62 ?_
          refine lv_bipush (v := 7) hx hb dX12_operand_65 (by decide +kernel) ?_
          refine lv_icmp_ne (tgt := 79) hx hb dX12_operand_67 (by decide) (fun c_1816 => ?_) (fun c_1816 => ?_)
          · have jc_1816 := dk_neqc (k := 7) (by decide +kernel) c_1816
            have jtc_1816 : (on).toInt ≤ 6 := by omega
            clear jc_1816
            refine lv_aload_n hx hb dX12_operand_79 rfl (lv_at hl 2 rfl) ?_
            refine dg_get (C := RX12) (T := TX12) (N := 77) hx hb hts (fun w h => bw_mem (wU_X12 w h)) hown K hP sM_0 rfl 8 (by decide) (hts _ (bw_mem wB_1133)) (fun _ h9 => h9) (v := .int y_3) f_y_3 dX12_operand_80 ?_
            refine lv_if_le (tgt := 88) hx hb dX12_operand_83 (by decide) (fun _ => ?_) (fun c => absurd (dk_lep (k := 0) (by decide +kernel) (by omega)) c)
            refine lv_aload_n hx hb dX12_operand_88 rfl (lv_at hl 2 rfl) ?_
            refine lv_dup hx hb dX12_operand_89 rfl ?_
            refine dg_get (C := RX12) (T := TX12) (N := 77) hx hb hts (fun w h => bw_mem (wU_X12 w h)) hown K hP sM_0 rfl 43 (by decide) (hts _ (bw_mem wB_1212)) (fun _ h9 => h9) (v := .int on) ((m_2.1 0 43 _ sM_0 (by decide)).trans f_on) dX12_operand_90 ?_
            refine lv_iconst (v := 1) hx hb dX12_operand_93 (by decide +kernel) ?_
            refine lv_iadd hx hb dX12_operand_94 ?_
            refine lv_topi (fun x_1817 ex_1817 => ?_)
            have jx_1817 : (x_1817).toInt = (on).toInt + 1 := by rw [ex_1817]; exact dk_addT rfl (by decide +kernel) (by omega) (by omega)
            refine dg_put (ci := 12) (v := .int x_1817) (ty := tyX12 43) (C := RX12) (T := TX12) (N := 77) hx hb hts (fun w h => bw_mem (wU_X12 w h)) tyX12 tyX12_ok nmX12 hown K hP hS hA1 sM_0 rfl 43 (by decide) (hts _ (bw_mem wB_1212)) (fun _ h9 => h9) rfl (by decide +kernel) rfl rfl dX12_operand_95 (fun S_1818 e_1818 H locs hP hS => ?_)
            have I_1818 := dg_I.uFi (lo := (-2147483648)) (hi := 2147483647) I_2 e_1818 sM_0 (by decide +kernel) (show (-2147483648) ≤ (x_1817).toInt ∧ (x_1817).toInt ≤ 2147483647 from (dk_full _))
            have M_1818 := dg_sm.uF M_2 e_1818 sM_0 (by decide)
            refine lv_aload_n hx hb dX12_operand_98 rfl (lv_at hl 2 rfl) ?_
            refine lv_bipush (v := 43) hx hb dX12_operand_99 (by decide +kernel) ?_
            refine dg_callv hS hA1 hA (va_runV (As := [.int 43]) (rest := []) F (c_m_holdsBack l g D o S_1818 43 om (((dg_uF_ne e_1818 (fun z => absurd z.2 (by decide))).trans (m_2.1 0 45 _ sM_0 (by decide))).trans f_om) (by omega) I_1818 H.size) (cwV 1 hts (bw_V wB_1224 wB_1225 wB_1226 wB_881 wB_1223) rfl rfl rfl (by decide +kernel) ⟨Nat.le_of_ble_eq_true rfl, Nat.le_of_ble_eq_true rfl⟩) (dg_preV sM_0 rfl K ST hP hS hA1 hA) rfl rfl hl.1 rfl (lv_room (Nat.le_of_ble_eq_true rfl)) dX12_operand_101 ⟨Nat.le_of_ble_eq_true rfl, Nat.le_of_ble_eq_true rfl⟩) (fun S_1819 hw_1819 H locs hP hS => ?_)
            obtain ⟨I_1819, m_1819, w_1819_0, w_1819_1, -⟩ := hw_1819
            have M_1819 := dg_sm.tr M_1818 m_1819 (by decide) (by decide)
            have hz_1820 : (43 : Int32).toInt = 43 := by decide +kernel
            obtain ⟨y_1821, f_y_1821, w_1819_0⟩ := w_1819_0
            have w_1819_0 : (y_1821).toInt = (om).toInt + 1 := w_1819_0
            have b_y_1821 : 0 ≤ (y_1821).toInt ∧ (y_1821).toInt ≤ 500 := dg_I.intb (lo := 0) (hi := 500) I_1819 sM_0 (by decide +kernel) f_y_1821
            have w_1819_1 : HBM S_1818 S_1819 (43 : Int32) := w_1819_1
            obtain ⟨x_1822, f_x_1822, b_x_1822⟩ := dg_I.int (i := 0) (k := 43) (lo := (-2147483648)) (hi := 2147483647) I_2 sM_0 (by decide +kernel)
            obtain ⟨x_1823, f_x_1823, b_x_1823⟩ := dg_I.int (i := 0) (k := 45) (lo := 0) (hi := 500) I_2 sM_0 (by decide +kernel)
            have P0_1819 : P0M S_1819 := P0M.not (P0M.keep P0 m_2 (by decide) (by decide) (by decide) (by decide) (by decide) (by decide) (by decide) (by decide) (by decide) (by decide) (by decide) (by decide) (by decide) (by decide) (by decide)) ((m_2.1 0 42 _ sM_0 (by decide)).trans f_dp) f_x_1822 f_x_1823 (fx := x_5) (by omega) ex_7.symm (by unfold dk_ts; omega) rel_0r_1 (by omega) e_1818 (by omega) m_1819 w_1819_1 (by omega)
            refine lv_aload_n hx hb dX12_operand_104 rfl (lv_at hl 2 rfl) ?_
            refine dg_callv hS hA1 hA (va_runV (As := []) (rest := []) F (c_m_ahead l g D o S_1819 se (((m_1819.1 0 5 _ sM_0 (by decide)).trans ((dg_uF_ne e_1818 (fun z => absurd z.2 (by decide))).trans (m_2.1 0 5 _ sM_0 (by decide)))).trans f_se) (by omega) sl (((m_1819.1 0 2 _ sM_0 (by decide)).trans ((dg_uF_ne e_1818 (fun z => absurd z.2 (by decide))).trans (m_2.1 0 2 _ sM_0 (by decide)))).trans f_sl) (by omega) (by omega) I_1819 H.size) (cwV 0 hts (bw_V wB_1161 wB_1162 wB_1163 wB_881 wB_1160) rfl rfl rfl (by decide +kernel) ⟨Nat.le_of_ble_eq_true rfl, Nat.le_of_ble_eq_true rfl⟩) (dg_preV sM_0 rfl K ST hP hS hA1 hA) rfl rfl hl.1 rfl (lv_room (Nat.le_of_ble_eq_true rfl)) dX12_operand_105 ⟨Nat.le_of_ble_eq_true rfl, Nat.le_of_ble_eq_true rfl⟩) (fun S_1824 hw_1824 H locs hP hS => ?_)
            obtain ⟨I_1824, m_1824, w_1824_0, -⟩ := hw_1824
            have M_1824 := dg_sm.tr M_1819 m_1824 (by decide) (by decide)
            obtain ⟨y_1825, y_1826, y_1827, f_y_1825, f_y_1826, f_y_1827, w_1824_0⟩ := w_1824_0
            have w_1824_0 : (se).toInt ≤ (y_1826).toInt ∧ (y_1826).toInt ≤ (y_1827).toInt ∧ (y_1827).toInt ≤ (sl).toInt ∧ ((y_1825).toInt ≠ 0 → (y_1826).toInt + 1 ≤ (y_1827).toInt) := w_1824_0
            obtain ⟨w_1824_0_0, w_1824_0_1, w_1824_0_2, w_1824_0_3⟩ := w_1824_0
            have b_y_1825 : 0 ≤ (y_1825).toInt ∧ (y_1825).toInt ≤ 3 := dg_I.intb (lo := 0) (hi := 3) I_1824 sM_0 (by decide +kernel) f_y_1825
            have b_y_1826 : 0 ≤ (y_1826).toInt ∧ (y_1826).toInt ≤ 1600 := dg_I.intb (lo := 0) (hi := 1600) I_1824 sM_0 (by decide +kernel) f_y_1826
            have b_y_1827 : 0 ≤ (y_1827).toInt ∧ (y_1827).toInt ≤ 1600 := dg_I.intb (lo := 0) (hi := 1600) I_1824 sM_0 (by decide +kernel) f_y_1827
            refine lv_iconst (v := 0) hx hb dX12_operand_108 (by decide +kernel) ?_
            have hz_1828 : (0 : Int32).toInt = 0 := by decide +kernel
            have hz_1829 : (0 : Int32).toInt = 0 := by decide +kernel
            obtain ⟨x_1830, f_x_1830, b_x_1830⟩ := dg_I.int (i := 0) (k := 45) (lo := 0) (hi := 500) I_1824 sM_0 (by decide +kernel)
            have hz_1831 : (0 : Int32).toInt = 0 := by decide +kernel
            have hz_1832 : (0 : Int32).toInt = 0 := by decide +kernel
            refine W.widen (k := 0) (n := 0) (Nat.le_of_ble_eq_true rfl) (Nat.le_of_ble_eq_true rfl) ?_
            exact dg_iret hx hb hr hlocks (by decide +kernel) hP hS ⟨I_1824, M_1824, (by decide +kernel), ⟨y_1825, y_1826, y_1827, y_3, cd, dp, x_1830, f_y_1825, f_y_1826, f_y_1827, (((m_1824.1 0 8 _ sM_0 (by decide)).trans ((m_1819.1 0 8 _ sM_0 (by decide)).trans (dg_uF_ne e_1818 (fun z => absurd z.2 (by decide))))).trans f_y_3), (((m_1824.1 0 34 _ sM_0 (by decide)).trans ((m_1819.1 0 34 _ sM_0 (by decide)).trans ((dg_uF_ne e_1818 (fun z => absurd z.2 (by decide))).trans (m_2.1 0 34 _ sM_0 (by decide))))).trans f_cd), (((m_1824.1 0 42 _ sM_0 (by decide)).trans ((m_1819.1 0 42 _ sM_0 (by decide)).trans ((dg_uF_ne e_1818 (fun z => absurd z.2 (by decide))).trans (m_2.1 0 42 _ sM_0 (by decide))))).trans f_dp), f_x_1830, (by omega)⟩, (fun k9 hk9 hk0 => ⟨fun h9 => absurd h9 (by decide +kernel), fun _ => (P0M.keep P0_1819 m_1824 (by decide) (by decide) (by decide) (by decide) (by decide) (by decide) (by decide) (by decide) (by decide) (by decide) (by decide) (by decide) (by decide) (by decide) (by decide))⟩), (ZWM.keep (ZWM.keep (ZWM.keep (ZWM.keep ZW m_2 (by decide) (by decide) (by decide) (by decide)) (dg_sm.uF (WF := [(0, 43)]) (WA := []) dg_sm.rf e_1818 sM_0 (by decide)) (by decide) (by decide) (by decide) (by decide)) m_1819 (by decide) (by decide) (by decide) (by decide)) m_1824 (by decide) (by decide) (by decide) (by decide)), trivial⟩ dX12_operand_109
          · have jc_1816 := dk_eqc (k := 7) (by decide +kernel) c_1816
            refine lv_aload_n hx hb dX12_operand_70 rfl (lv_at hl 2 rfl) ?_
            refine lv_iconst (v := 5) hx hb dX12_operand_71 (by decide +kernel) ?_
            refine lv_aload_n hx hb dX12_operand_72 rfl (lv_at hl 2 rfl) ?_
            refine dg_get (C := RX12) (T := TX12) (N := 77) hx hb hts (fun w h => bw_mem (wU_X12 w h)) hown K hP sM_0 rfl 4 (by decide) (hts _ (bw_mem wB_1145)) (fun _ h9 => h9) (v := .int sa) ((m_2.1 0 4 _ sM_0 (by decide)).trans f_sa) dX12_operand_73 ?_
            have hz_1833 : (5 : Int32).toInt = 5 := by decide +kernel
            refine dg_callv hS hA1 hA (va_runV (As := [.int 5, .int sa]) (rest := []) F (c_m_blame l g D o S_2 5 (by decide +kernel) sa y_3 f_y_3 (by omega) I_2 H.size) (cwV 2 hts (bw_V wB_1137 wB_1138 wB_1139 wB_881 wB_1136) rfl rfl rfl (by decide +kernel) ⟨Nat.le_of_ble_eq_true rfl, Nat.le_of_ble_eq_true rfl⟩) (dg_preV sM_0 rfl K ST hP hS hA1 hA) rfl rfl hl.1 rfl (lv_room (Nat.le_of_ble_eq_true rfl)) dX12_operand_76 ⟨Nat.le_of_ble_eq_true rfl, Nat.le_of_ble_eq_true rfl⟩) (fun S_1834 hw_1834 H locs hP hS => ?_)
            obtain ⟨I_1834, m_1834, w_1834_0, -⟩ := hw_1834
            have M_1834 := dg_sm.tr M_2 m_1834 (by decide) (by decide)
            have hz_1835 : (5 : Int32).toInt = 5 := by decide +kernel
            obtain ⟨y_1836, f_y_1836, w_1834_0⟩ := w_1834_0
            have w_1834_0 : ((y_3).toInt ≠ 0 → (y_1836).toInt = (y_3).toInt) ∧ ((y_3).toInt = 0 → (y_1836).toInt = ((5 : Int32)).toInt) := w_1834_0
            obtain ⟨w_1834_0_0, w_1834_0_1⟩ := w_1834_0
            clear w_1834_0_0
            have w_1834_0_1r := w_1834_0_1 (by omega)
            clear w_1834_0_1
            have b_y_1836 : 0 ≤ (y_1836).toInt ∧ (y_1836).toInt ≤ 6 := dg_I.intb (lo := 0) (hi := 6) I_1834 sM_0 (by decide +kernel) f_y_1836
            have hbl_y_1836 : 1 ≤ (y_1836).toInt := by omega
            refine lv_aload_n hx hb dX12_operand_79 rfl (lv_at hl 2 rfl) ?_
            refine dg_get (C := RX12) (T := TX12) (N := 77) hx hb hts (fun w h => bw_mem (wU_X12 w h)) hown K hP sM_0 rfl 8 (by decide) (hts _ (bw_mem wB_1133)) (fun _ h9 => h9) (v := .int y_1836) f_y_1836 dX12_operand_80 ?_
            refine lv_if_le (tgt := 88) hx hb dX12_operand_83 (by decide) (fun c => absurd c (fun z => absurd (dk_lec (k := 0) (by decide +kernel) z) (by omega))) (fun _ => ?_)
            refine lv_iconst (v := 1) hx hb dX12_operand_86 (by decide +kernel) ?_
            have hz_1837 : (1 : Int32).toInt = 1 := by decide +kernel
            have hz_1838 : (1 : Int32).toInt = 1 := by decide +kernel
            have hz_1839 : (1 : Int32).toInt = 1 := by decide +kernel
            have hz_1840 : (1 : Int32).toInt = 1 := by decide +kernel
            refine W.widen (k := 0) (n := 0) (Nat.le_of_ble_eq_true rfl) (Nat.le_of_ble_eq_true rfl) ?_
            exact dg_iret hx hb hr hlocks (by decide +kernel) hP hS ⟨I_1834, M_1834, (by decide +kernel), ⟨sg, sa, se, y_1836, cd, dp, om, (((m_1834.1 0 3 _ sM_0 (by decide)).trans (m_2.1 0 3 _ sM_0 (by decide))).trans f_sg), (((m_1834.1 0 4 _ sM_0 (by decide)).trans (m_2.1 0 4 _ sM_0 (by decide))).trans f_sa), (((m_1834.1 0 5 _ sM_0 (by decide)).trans (m_2.1 0 5 _ sM_0 (by decide))).trans f_se), f_y_1836, (((m_1834.1 0 34 _ sM_0 (by decide)).trans (m_2.1 0 34 _ sM_0 (by decide))).trans f_cd), (((m_1834.1 0 42 _ sM_0 (by decide)).trans (m_2.1 0 42 _ sM_0 (by decide))).trans f_dp), (((m_1834.1 0 45 _ sM_0 (by decide)).trans (m_2.1 0 45 _ sM_0 (by decide))).trans f_om), (by omega)⟩, (fun k9 hk9 hk0 => by have q9 := (f_y_1836).symm.trans hk9; cases q9; omega), (ZWM.keep (ZWM.keep ZW m_2 (by decide) (by decide) (by decide) (by decide)) m_1834 (by decide) (by decide) (by decide) (by decide)), trivial⟩ dX12_operand_87
    refine lv_if_eq (tgt := 45) hx hb dX12_operand_29 (by decide) (fun c_1841 => ?_) (fun c_1841 => ?_)
    · have jc_1841 := dk_eqc (k := 0) (by decide +kernel) c_1841
      clear w_9_1
      refine lv_iconst (v := 0) hx hb dX12_operand_45 (by decide +kernel) ?_
      have hz_1842 : (0 : Int32).toInt = 0 := by decide +kernel
      have hz_1843 : (0 : Int32).toInt = 0 := by decide +kernel
      exact J_312 0 (by decide +kernel) (by omega) _ _ hP hS _ (lv_sub hl [0, 1] rfl)
    · have jc_1841 := dk_neqc (k := 0) (by decide +kernel) c_1841
      have jbc_1841 : 1 ≤ (x_8).toInt := by omega
      clear jc_1841
      have w_9_1_r := w_9_1.mp (by omega)
      clear w_9_1
      refine lv_aload_n hx hb dX12_operand_32 rfl (lv_at hl 1 rfl) ?_
      refine dg_get (C := RX12) (T := TX12) (N := 77) hx hb hts (fun w h => bw_mem (wU_X12 w h)) hown K hP sM_0 rfl 39 (by decide) (hts _ (bw_mem wB_1215)) (fun _ h9 => h9) (v := .ref (o + 24)) (show S_2.1 0 39 = .ref (o + 24) from dg_I.rel (d := 24) I_2 sM_0 (by decide +kernel)) dX12_operand_33 ?_
      refine lv_iload_n hx hb dX12_operand_36 rfl (lv_at hl 0 rfl) ?_
      have hin_1844 : vp_in x_5 20 := (dk_inv (by omega) (by omega))
      refine dg_zald hx hb K hP sM_24 hin_1844 dX12_operand_37 (fun x_1845 ex_1845 => ?_)
      have b_x_1845 := dk_all_at (dg_I.row (lo := 0) (hi := 1) I_2 sM_24 (by decide +kernel)) hin_1844 ex_1845
      have hb_x_1845 : (S_2.2.1 24 (x_5 : Int32).toNatClampNeg).toInt = (x_1845).toInt := by rw [ex_1845]
      refine lv_if_eq (tgt := 45) hx hb dX12_operand_38 (by decide) (fun c_1846 => ?_) (fun c_1846 => ?_)
      · have jc_1846 := dk_eqc (k := 0) (by decide +kernel) c_1846
        refine lv_iconst (v := 0) hx hb dX12_operand_45 (by decide +kernel) ?_
        have hz_1847 : (0 : Int32).toInt = 0 := by decide +kernel
        have hz_1848 : (0 : Int32).toInt = 0 := by decide +kernel
        exact J_312 0 (by decide +kernel) (by omega) _ _ hP hS _ (lv_sub hl [0, 1] rfl)
      · have jc_1846 := dk_neqc (k := 0) (by decide +kernel) c_1846
        have jbc_1846 : 1 ≤ (x_1845).toInt := by omega
        clear jc_1846
        refine lv_iconst (v := 1) hx hb dX12_operand_41 (by decide +kernel) ?_
        refine lv_goto (tgt := 46) hx hb dX12_operand_42 (by decide) ?_
        have hz_1849 : (1 : Int32).toInt = 1 := by decide +kernel
        have hz_1850 : (1 : Int32).toInt = 1 := by decide +kernel
        exact J_312 1 (by decide +kernel) (by omega) _ _ hP hS _ (lv_sub hl [0, 1] rfl)
  · have jc_4 := dk_nlec (k := 0) (by decide +kernel) c_4
    refine lv_iconst (v := 1) hx hb dX12_operand_11 (by decide +kernel) ?_
    have hz_1851 : (1 : Int32).toInt = 1 := by decide +kernel
    have hz_1852 : (1 : Int32).toInt = 1 := by decide +kernel
    have hz_1853 : (1 : Int32).toInt = 1 := by decide +kernel
    have hz_1854 : (1 : Int32).toInt = 1 := by decide +kernel
    refine W.widen (k := 0) (n := 0) (Nat.le_of_ble_eq_true rfl) (Nat.le_of_ble_eq_true rfl) ?_
    exact dg_iret hx hb hr hlocks (by decide +kernel) hP hS ⟨I_2, M_2, (by decide +kernel), ⟨sg, sa, se, y_3, cd, dp, om, ((m_2.1 0 3 _ sM_0 (by decide)).trans f_sg), ((m_2.1 0 4 _ sM_0 (by decide)).trans f_sa), ((m_2.1 0 5 _ sM_0 (by decide)).trans f_se), f_y_3, ((m_2.1 0 34 _ sM_0 (by decide)).trans f_cd), ((m_2.1 0 42 _ sM_0 (by decide)).trans f_dp), ((m_2.1 0 45 _ sM_0 (by decide)).trans f_om), (by omega)⟩, (fun k9 hk9 hk0 => by have q9 := (f_y_3).symm.trans hk9; cases q9; omega), (ZWM.keep ZW m_2 (by decide) (by decide) (by decide) (by decide)), trivial⟩ dX12_operand_12
