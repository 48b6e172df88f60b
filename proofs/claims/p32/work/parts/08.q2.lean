/-! 44.o.lean.txt -/
theorem dX12_operand_0 : decode cX12_operand 0 = .ok (.aload_n 0, 1) := by decide +kernel
theorem dX12_operand_1 : decode cX12_operand 1 = .ok (.invokevirtual 266, 3) := by decide +kernel
theorem dX12_operand_4 : decode cX12_operand 4 = .ok (.aload_n 0, 1) := by decide +kernel
theorem dX12_operand_5 : decode cX12_operand 5 = .ok (.getfield 36, 3) := by decide +kernel
theorem dX12_operand_8 : decode cX12_operand 8 = .ok (.ifCond .le 5, 3) := by decide +kernel
theorem dX12_operand_11 : decode cX12_operand 11 = .ok (.iconst 1, 1) := by decide +kernel
theorem dX12_operand_12 : decode cX12_operand 12 = .ok (.ireturn, 1) := by decide +kernel
theorem dX12_operand_13 : decode cX12_operand 13 = .ok (.aload_n 0, 1) := by decide +kernel
theorem dX12_operand_14 : decode cX12_operand 14 = .ok (.getfield 140, 3) := by decide +kernel
theorem dX12_operand_17 : decode cX12_operand 17 = .ok (.iconst 1, 1) := by decide +kernel
theorem dX12_operand_18 : decode cX12_operand 18 = .ok (.isub, 1) := by decide +kernel
theorem dX12_operand_19 : decode cX12_operand 19 = .ok (.istore_n 1, 1) := by decide +kernel
theorem dX12_operand_20 : decode cX12_operand 20 = .ok (.aload_n 0, 1) := by decide +kernel
theorem dX12_operand_21 : decode cX12_operand 21 = .ok (.getfield 124, 3) := by decide +kernel
theorem dX12_operand_24 : decode cX12_operand 24 = .ok (.iload_n 1, 1) := by decide +kernel
theorem dX12_operand_25 : decode cX12_operand 25 = .ok (.iaload, 1) := by decide +kernel
theorem dX12_operand_26 : decode cX12_operand 26 = .ok (.invokestatic 346, 3) := by decide +kernel
theorem dX12_operand_29 : decode cX12_operand 29 = .ok (.ifCond .eq 16, 3) := by decide +kernel
theorem dX12_operand_32 : decode cX12_operand 32 = .ok (.aload_n 0, 1) := by decide +kernel
theorem dX12_operand_33 : decode cX12_operand 33 = .ok (.getfield 130, 3) := by decide +kernel
theorem dX12_operand_36 : decode cX12_operand 36 = .ok (.iload_n 1, 1) := by decide +kernel
theorem dX12_operand_37 : decode cX12_operand 37 = .ok (.baload, 1) := by decide +kernel
theorem dX12_operand_38 : decode cX12_operand 38 = .ok (.ifCond .eq 7, 3) := by decide +kernel
theorem dX12_operand_41 : decode cX12_operand 41 = .ok (.iconst 1, 1) := by decide +kernel
theorem dX12_operand_42 : decode cX12_operand 42 = .ok (.goto 4, 3) := by decide +kernel
theorem dX12_operand_45 : decode cX12_operand 45 = .ok (.iconst 0, 1) := by decide +kernel
theorem dX12_operand_46 : decode cX12_operand 46 = .ok (.istore_n 2, 1) := by decide +kernel
theorem dX12_operand_47 : decode cX12_operand 47 = .ok (.iload_n 2, 1) := by decide +kernel
theorem dX12_operand_48 : decode cX12_operand 48 = .ok (.ifCond .eq 62, 3) := by decide +kernel
theorem dX12_operand_51 : decode cX12_operand 51 = .ok (.aload_n 0, 1) := by decide +kernel
theorem dX12_operand_52 : decode cX12_operand 52 = .ok (.ldc2_w 321, 3) := by decide +kernel
theorem dX12_operand_55 : decode cX12_operand 55 = .ok (.invokevirtual 349, 3) := by decide +kernel
theorem dX12_operand_58 : decode cX12_operand 58 = .ok (.ifCond .eq 52, 3) := by decide +kernel
theorem dX12_operand_61 : decode cX12_operand 61 = .ok (.aload_n 0, 1) := by decide +kernel
theorem dX12_operand_62 : decode cX12_operand 62 = .ok (.getfield 143, 3) := by decide +kernel
theorem dX12_operand_65 : decode cX12_operand 65 = .ok (.bipush 7, 2) := by decide +kernel
theorem dX12_operand_67 : decode cX12_operand 67 = .ok (.if_icmp .ne 12, 3) := by decide +kernel
theorem dX12_operand_70 : decode cX12_operand 70 = .ok (.aload_n 0, 1) := by decide +kernel
theorem dX12_operand_71 : decode cX12_operand 71 = .ok (.iconst 5, 1) := by decide +kernel
theorem dX12_operand_72 : decode cX12_operand 72 = .ok (.aload_n 0, 1) := by decide +kernel
theorem dX12_operand_73 : decode cX12_operand 73 = .ok (.getfield 23, 3) := by decide +kernel
theorem dX12_operand_76 : decode cX12_operand 76 = .ok (.invokevirtual 255, 3) := by decide +kernel
theorem dX12_operand_79 : decode cX12_operand 79 = .ok (.aload_n 0, 1) := by decide +kernel
theorem dX12_operand_80 : decode cX12_operand 80 = .ok (.getfield 36, 3) := by decide +kernel
theorem dX12_operand_83 : decode cX12_operand 83 = .ok (.ifCond .le 5, 3) := by decide +kernel
theorem dX12_operand_86 : decode cX12_operand 86 = .ok (.iconst 1, 1) := by decide +kernel
theorem dX12_operand_87 : decode cX12_operand 87 = .ok (.ireturn, 1) := by decide +kernel
theorem dX12_operand_88 : decode cX12_operand 88 = .ok (.aload_n 0, 1) := by decide +kernel
theorem dX12_operand_89 : decode cX12_operand 89 = .ok (.dup, 1) := by decide +kernel
theorem dX12_operand_90 : decode cX12_operand 90 = .ok (.getfield 143, 3) := by decide +kernel
theorem dX12_operand_93 : decode cX12_operand 93 = .ok (.iconst 1, 1) := by decide +kernel
theorem dX12_operand_94 : decode cX12_operand 94 = .ok (.iadd, 1) := by decide +kernel
theorem dX12_operand_95 : decode cX12_operand 95 = .ok (.putfield 143, 3) := by decide +kernel
theorem dX12_operand_98 : decode cX12_operand 98 = .ok (.aload_n 0, 1) := by decide +kernel
theorem dX12_operand_99 : decode cX12_operand 99 = .ok (.bipush 43, 2) := by decide +kernel
theorem dX12_operand_101 : decode cX12_operand 101 = .ok (.invokevirtual 353, 3) := by decide +kernel
theorem dX12_operand_104 : decode cX12_operand 104 = .ok (.aload_n 0, 1) := by decide +kernel
theorem dX12_operand_105 : decode cX12_operand 105 = .ok (.invokevirtual 272, 3) := by decide +kernel
theorem dX12_operand_108 : decode cX12_operand 108 = .ok (.iconst 0, 1) := by decide +kernel
theorem dX12_operand_109 : decode cX12_operand 109 = .ok (.ireturn, 1) := by decide +kernel
theorem dX12_operand_110 : decode cX12_operand 110 = .ok (.aload_n 0, 1) := by decide +kernel
theorem dX12_operand_111 : decode cX12_operand 111 = .ok (.getfield 130, 3) := by decide +kernel
theorem dX12_operand_114 : decode cX12_operand 114 = .ok (.iload_n 1, 1) := by decide +kernel
theorem dX12_operand_115 : decode cX12_operand 115 = .ok (.iconst 0, 1) := by decide +kernel
theorem dX12_operand_116 : decode cX12_operand 116 = .ok (.bastore, 1) := by decide +kernel
theorem dX12_operand_117 : decode cX12_operand 117 = .ok (.iload_n 2, 1) := by decide +kernel
theorem dX12_operand_118 : decode cX12_operand 118 = .ok (.ifCond .eq 19, 3) := by decide +kernel
theorem dX12_operand_121 : decode cX12_operand 121 = .ok (.aload_n 0, 1) := by decide +kernel
theorem dX12_operand_122 : decode cX12_operand 122 = .ok (.bipush 91, 2) := by decide +kernel
theorem dX12_operand_124 : decode cX12_operand 124 = .ok (.invokevirtual 269, 3) := by decide +kernel
theorem dX12_operand_127 : decode cX12_operand 127 = .ok (.ifCond .eq 10, 3) := by decide +kernel
theorem dX12_operand_130 : decode cX12_operand 130 = .ok (.aload_n 0, 1) := by decide +kernel
theorem dX12_operand_131 : decode cX12_operand 131 = .ok (.iconst 5, 1) := by decide +kernel
theorem dX12_operand_132 : decode cX12_operand 132 = .ok (.invokevirtual 356, 3) := by decide +kernel
theorem dX12_operand_135 : decode cX12_operand 135 = .ok (.iconst 0, 1) := by decide +kernel
theorem dX12_operand_136 : decode cX12_operand 136 = .ok (.ireturn, 1) := by decide +kernel
theorem dX12_operand_137 : decode cX12_operand 137 = .ok (.iload_n 2, 1) := by decide +kernel
theorem dX12_operand_138 : decode cX12_operand 138 = .ok (.ifCond .eq 33, 3) := by decide +kernel
theorem dX12_operand_141 : decode cX12_operand 141 = .ok (.aload_n 0, 1) := by decide +kernel
theorem dX12_operand_142 : decode cX12_operand 142 = .ok (.ldc2_w 323, 3) := by decide +kernel
theorem dX12_operand_145 : decode cX12_operand 145 = .ok (.invokevirtual 349, 3) := by decide +kernel
theorem dX12_operand_148 : decode cX12_operand 148 = .ok (.ifCond .eq 23, 3) := by decide +kernel
theorem dX12_operand_151 : decode cX12_operand 151 = .ok (.aload_n 0, 1) := by decide +kernel
theorem dX12_operand_152 : decode cX12_operand 152 = .ok (.bipush 30, 2) := by decide +kernel
theorem dX12_operand_154 : decode cX12_operand 154 = .ok (.iconst 0, 1) := by decide +kernel
theorem dX12_operand_155 : decode cX12_operand 155 = .ok (.invokevirtual 340, 3) := by decide +kernel
theorem dX12_operand_158 : decode cX12_operand 158 = .ok (.aload_n 0, 1) := by decide +kernel
theorem dX12_operand_159 : decode cX12_operand 159 = .ok (.getfield 127, 3) := by decide +kernel
theorem dX12_operand_162 : decode cX12_operand 162 = .ok (.iload_n 1, 1) := by decide +kernel
theorem dX12_operand_163 : decode cX12_operand 163 = .ok (.iconst 2, 1) := by decide +kernel
theorem dX12_operand_164 : decode cX12_operand 164 = .ok (.iastore, 1) := by decide +kernel
theorem dX12_operand_165 : decode cX12_operand 165 = .ok (.aload_n 0, 1) := by decide +kernel
theorem dX12_operand_166 : decode cX12_operand 166 = .ok (.invokevirtual 272, 3) := by decide +kernel
theorem dX12_operand_169 : decode cX12_operand 169 = .ok (.iconst 1, 1) := by decide +kernel
theorem dX12_operand_170 : decode cX12_operand 170 = .ok (.ireturn, 1) := by decide +kernel
theorem dX12_operand_171 : decode cX12_operand 171 = .ok (.aload_n 0, 1) := by decide +kernel
theorem dX12_operand_172 : decode cX12_operand 172 = .ok (.bipush 40, 2) := by decide +kernel
theorem dX12_operand_174 : decode cX12_operand 174 = .ok (.invokevirtual 269, 3) := by decide +kernel
theorem dX12_operand_177 : decode cX12_operand 177 = .ok (.ifCond .eq 10, 3) := by decide +kernel
theorem dX12_operand_180 : decode cX12_operand 180 = .ok (.aload_n 0, 1) := by decide +kernel
theorem dX12_operand_181 : decode cX12_operand 181 = .ok (.iconst 2, 1) := by decide +kernel
theorem dX12_operand_182 : decode cX12_operand 182 = .ok (.invokevirtual 356, 3) := by decide +kernel
theorem dX12_operand_185 : decode cX12_operand 185 = .ok (.iconst 0, 1) := by decide +kernel
theorem dX12_operand_186 : decode cX12_operand 186 = .ok (.ireturn, 1) := by decide +kernel
theorem dX12_operand_187 : decode cX12_operand 187 = .ok (.aload_n 0, 1) := by decide +kernel
theorem dX12_operand_188 : decode cX12_operand 188 = .ok (.ldc2_w 325, 3) := by decide +kernel
theorem dX12_operand_191 : decode cX12_operand 191 = .ok (.invokevirtual 349, 3) := by decide +kernel
theorem dX12_operand_194 : decode cX12_operand 194 = .ok (.ifCond .ne 23, 3) := by decide +kernel
theorem dX12_operand_197 : decode cX12_operand 197 = .ok (.aload_n 0, 1) := by decide +kernel
theorem dX12_operand_198 : decode cX12_operand 198 = .ok (.ldc2_w 327, 3) := by decide +kernel
theorem dX12_operand_201 : decode cX12_operand 201 = .ok (.invokevirtual 349, 3) := by decide +kernel
theorem dX12_operand_204 : decode cX12_operand 204 = .ok (.ifCond .ne 13, 3) := by decide +kernel
theorem dX12_operand_207 : decode cX12_operand 207 = .ok (.aload_n 0, 1) := by decide +kernel
theorem dX12_operand_208 : decode cX12_operand 208 = .ok (.ldc2_w 315, 3) := by decide +kernel
theorem dX12_operand_211 : decode cX12_operand 211 = .ok (.invokevirtual 349, 3) := by decide +kernel
theorem dX12_operand_214 : decode cX12_operand 214 = .ok (.ifCond .eq 99, 3) := by decide +kernel
theorem dX12_operand_217 : decode cX12_operand 217 = .ok (.aload_n 0, 1) := by decide +kernel
theorem dX12_operand_218 : decode cX12_operand 218 = .ok (.ldc2_w 325, 3) := by decide +kernel
theorem dX12_operand_221 : decode cX12_operand 221 = .ok (.invokevirtual 349, 3) := by decide +kernel
theorem dX12_operand_224 : decode cX12_operand 224 = .ok (.ifCond .eq 8, 3) := by decide +kernel
theorem dX12_operand_227 : decode cX12_operand 227 = .ok (.bipush 36, 2) := by decide +kernel
theorem dX12_operand_229 : decode cX12_operand 229 = .ok (.goto 20, 3) := by decide +kernel
theorem dX12_operand_232 : decode cX12_operand 232 = .ok (.aload_n 0, 1) := by decide +kernel
theorem dX12_operand_233 : decode cX12_operand 233 = .ok (.ldc2_w 327, 3) := by decide +kernel
theorem dX12_operand_236 : decode cX12_operand 236 = .ok (.invokevirtual 349, 3) := by decide +kernel
theorem dX12_operand_239 : decode cX12_operand 239 = .ok (.ifCond .eq 8, 3) := by decide +kernel
theorem dX12_operand_242 : decode cX12_operand 242 = .ok (.bipush 37, 2) := by decide +kernel
theorem dX12_operand_244 : decode cX12_operand 244 = .ok (.goto 5, 3) := by decide +kernel
theorem dX12_operand_247 : decode cX12_operand 247 = .ok (.bipush 44, 2) := by decide +kernel
theorem dX12_operand_249 : decode cX12_operand 249 = .ok (.istore_n 3, 1) := by decide +kernel
theorem dX12_operand_250 : decode cX12_operand 250 = .ok (.aload_n 0, 1) := by decide +kernel
theorem dX12_operand_251 : decode cX12_operand 251 = .ok (.invokevirtual 272, 3) := by decide +kernel
theorem dX12_operand_254 : decode cX12_operand 254 = .ok (.aload_n 0, 1) := by decide +kernel
theorem dX12_operand_255 : decode cX12_operand 255 = .ok (.invokevirtual 266, 3) := by decide +kernel
theorem dX12_operand_258 : decode cX12_operand 258 = .ok (.aload_n 0, 1) := by decide +kernel
theorem dX12_operand_259 : decode cX12_operand 259 = .ok (.bipush 40, 2) := by decide +kernel
theorem dX12_operand_261 : decode cX12_operand 261 = .ok (.invokevirtual 269, 3) := by decide +kernel
theorem dX12_operand_264 : decode cX12_operand 264 = .ok (.ifCond .ne 12, 3) := by decide +kernel
theorem dX12_operand_267 : decode cX12_operand 267 = .ok (.aload_n 0, 1) := by decide +kernel
theorem dX12_operand_268 : decode cX12_operand 268 = .ok (.iconst 1, 1) := by decide +kernel
theorem dX12_operand_269 : decode cX12_operand 269 = .ok (.aload_n 0, 1) := by decide +kernel
theorem dX12_operand_270 : decode cX12_operand 270 = .ok (.getfield 23, 3) := by decide +kernel
theorem dX12_operand_273 : decode cX12_operand 273 = .ok (.invokevirtual 255, 3) := by decide +kernel
theorem dX12_operand_276 : decode cX12_operand 276 = .ok (.aload_n 0, 1) := by decide +kernel
theorem dX12_operand_277 : decode cX12_operand 277 = .ok (.iload_n 3, 1) := by decide +kernel
theorem dX12_operand_278 : decode cX12_operand 278 = .ok (.bipush 44, 2) := by decide +kernel
theorem dX12_operand_280 : decode cX12_operand 280 = .ok (.if_icmp .ne 8, 3) := by decide +kernel
theorem dX12_operand_283 : decode cX12_operand 283 = .ok (.bipush 6, 2) := by decide +kernel
theorem dX12_operand_285 : decode cX12_operand 285 = .ok (.goto 4, 3) := by decide +kernel
theorem dX12_operand_288 : decode cX12_operand 288 = .ok (.iconst 3, 1) := by decide +kernel
theorem dX12_operand_289 : decode cX12_operand 289 = .ok (.invokevirtual 356, 3) := by decide +kernel
theorem dX12_operand_292 : decode cX12_operand 292 = .ok (.aload_n 0, 1) := by decide +kernel
theorem dX12_operand_293 : decode cX12_operand 293 = .ok (.getfield 36, 3) := by decide +kernel
theorem dX12_operand_296 : decode cX12_operand 296 = .ok (.ifCond .ne 15, 3) := by decide +kernel
theorem dX12_operand_299 : decode cX12_operand 299 = .ok (.aload_n 0, 1) := by decide +kernel
theorem dX12_operand_300 : decode cX12_operand 300 = .ok (.getfield 134, 3) := by decide +kernel
theorem dX12_operand_303 : decode cX12_operand 303 = .ok (.aload_n 0, 1) := by decide +kernel
theorem dX12_operand_304 : decode cX12_operand 304 = .ok (.getfield 140, 3) := by decide +kernel
theorem dX12_operand_307 : decode cX12_operand 307 = .ok (.iconst 1, 1) := by decide +kernel
theorem dX12_operand_308 : decode cX12_operand 308 = .ok (.isub, 1) := by decide +kernel
theorem dX12_operand_309 : decode cX12_operand 309 = .ok (.iload_n 3, 1) := by decide +kernel
theorem dX12_operand_310 : decode cX12_operand 310 = .ok (.iastore, 1) := by decide +kernel
theorem dX12_operand_311 : decode cX12_operand 311 = .ok (.iconst 0, 1) := by decide +kernel
theorem dX12_operand_312 : decode cX12_operand 312 = .ok (.ireturn, 1) := by decide +kernel
theorem dX12_operand_313 : decode cX12_operand 313 = .ok (.aload_n 0, 1) := by decide +kernel
theorem dX12_operand_314 : decode cX12_operand 314 = .ok (.getfield 20, 3) := by decide +kernel
theorem dX12_operand_317 : decode cX12_operand 317 = .ok (.iconst 2, 1) := by decide +kernel
theorem dX12_operand_318 : decode cX12_operand 318 = .ok (.if_icmp .ne 7, 3) := by decide +kernel
theorem dX12_operand_321 : decode cX12_operand 321 = .ok (.iconst 0, 1) := by decide +kernel
theorem dX12_operand_322 : decode cX12_operand 322 = .ok (.goto 89, 3) := by decide +kernel
theorem dX12_operand_325 : decode cX12_operand 325 = .ok (.aload_n 0, 1) := by decide +kernel
theorem dX12_operand_326 : decode cX12_operand 326 = .ok (.ldc2_w 285, 3) := by decide +kernel
theorem dX12_operand_329 : decode cX12_operand 329 = .ok (.invokevirtual 349, 3) := by decide +kernel
theorem dX12_operand_332 : decode cX12_operand 332 = .ok (.ifCond .eq 7, 3) := by decide +kernel
theorem dX12_operand_335 : decode cX12_operand 335 = .ok (.iconst 1, 1) := by decide +kernel
theorem dX12_operand_336 : decode cX12_operand 336 = .ok (.goto 75, 3) := by decide +kernel
theorem dX12_operand_339 : decode cX12_operand 339 = .ok (.aload_n 0, 1) := by decide +kernel
theorem dX12_operand_340 : decode cX12_operand 340 = .ok (.ldc2_w 305, 3) := by decide +kernel
theorem dX12_operand_343 : decode cX12_operand 343 = .ok (.invokevirtual 349, 3) := by decide +kernel
theorem dX12_operand_346 : decode cX12_operand 346 = .ok (.ifCond .eq 7, 3) := by decide +kernel
theorem dX12_operand_349 : decode cX12_operand 349 = .ok (.iconst 2, 1) := by decide +kernel
theorem dX12_operand_350 : decode cX12_operand 350 = .ok (.goto 61, 3) := by decide +kernel
theorem dX12_operand_353 : decode cX12_operand 353 = .ok (.aload_n 0, 1) := by decide +kernel
theorem dX12_operand_354 : decode cX12_operand 354 = .ok (.ldc2_w 307, 3) := by decide +kernel
theorem dX12_operand_357 : decode cX12_operand 357 = .ok (.invokevirtual 349, 3) := by decide +kernel
theorem dX12_operand_360 : decode cX12_operand 360 = .ok (.ifCond .eq 7, 3) := by decide +kernel
theorem dX12_operand_363 : decode cX12_operand 363 = .ok (.iconst 3, 1) := by decide +kernel
theorem dX12_operand_364 : decode cX12_operand 364 = .ok (.goto 47, 3) := by decide +kernel
theorem dX12_operand_367 : decode cX12_operand 367 = .ok (.aload_n 0, 1) := by decide +kernel
theorem dX12_operand_368 : decode cX12_operand 368 = .ok (.ldc2_w 309, 3) := by decide +kernel
theorem dX12_operand_371 : decode cX12_operand 371 = .ok (.invokevirtual 349, 3) := by decide +kernel
theorem dX12_operand_374 : decode cX12_operand 374 = .ok (.ifCond .eq 7, 3) := by decide +kernel
theorem dX12_operand_377 : decode cX12_operand 377 = .ok (.iconst 4, 1) := by decide +kernel
theorem dX12_operand_378 : decode cX12_operand 378 = .ok (.goto 33, 3) := by decide +kernel
theorem dX12_operand_381 : decode cX12_operand 381 = .ok (.aload_n 0, 1) := by decide +kernel
theorem dX12_operand_382 : decode cX12_operand 382 = .ok (.ldc2_w 311, 3) := by decide +kernel
theorem dX12_operand_385 : decode cX12_operand 385 = .ok (.invokevirtual 349, 3) := by decide +kernel
theorem dX12_operand_388 : decode cX12_operand 388 = .ok (.ifCond .eq 7, 3) := by decide +kernel
theorem dX12_operand_391 : decode cX12_operand 391 = .ok (.iconst 5, 1) := by decide +kernel
theorem dX12_operand_392 : decode cX12_operand 392 = .ok (.goto 19, 3) := by decide +kernel
theorem dX12_operand_395 : decode cX12_operand 395 = .ok (.aload_n 0, 1) := by decide +kernel
theorem dX12_operand_396 : decode cX12_operand 396 = .ok (.ldc2_w 313, 3) := by decide +kernel
theorem dX12_operand_399 : decode cX12_operand 399 = .ok (.invokevirtual 349, 3) := by decide +kernel
theorem dX12_operand_402 : decode cX12_operand 402 = .ok (.ifCond .eq 8, 3) := by decide +kernel
theorem dX12_operand_405 : decode cX12_operand 405 = .ok (.bipush 6, 2) := by decide +kernel
theorem dX12_operand_407 : decode cX12_operand 407 = .ok (.goto 4, 3) := by decide +kernel
theorem dX12_operand_410 : decode cX12_operand 410 = .ok (.iconst (-1), 1) := by decide +kernel
theorem dX12_operand_411 : decode cX12_operand 411 = .ok (.istore_n 3, 1) := by decide +kernel
theorem dX12_operand_412 : decode cX12_operand 412 = .ok (.iload_n 3, 1) := by decide +kernel
theorem dX12_operand_413 : decode cX12_operand 413 = .ok (.iconst 4, 1) := by decide +kernel
theorem dX12_operand_414 : decode cX12_operand 414 = .ok (.if_icmp .lt 30, 3) := by decide +kernel
theorem dX12_operand_417 : decode cX12_operand 417 = .ok (.iload_n 3, 1) := by decide +kernel
theorem dX12_operand_418 : decode cX12_operand 418 = .ok (.iconst 4, 1) := by decide +kernel
theorem dX12_operand_419 : decode cX12_operand 419 = .ok (.if_icmp .ne 7, 3) := by decide +kernel
theorem dX12_operand_422 : decode cX12_operand 422 = .ok (.iconst 1, 1) := by decide +kernel
theorem dX12_operand_423 : decode cX12_operand 423 = .ok (.goto 4, 3) := by decide +kernel
theorem dX12_operand_426 : decode cX12_operand 426 = .ok (.iconst 0, 1) := by decide +kernel
theorem dX12_operand_427 : decode cX12_operand 427 = .ok (.aload_n 0, 1) := by decide +kernel
theorem dX12_operand_428 : decode cX12_operand 428 = .ok (.getfield 121, 3) := by decide +kernel
theorem dX12_operand_431 : decode cX12_operand 431 = .ok (.ifCond .ne 7, 3) := by decide +kernel
theorem dX12_operand_434 : decode cX12_operand 434 = .ok (.iconst 1, 1) := by decide +kernel
theorem dX12_operand_435 : decode cX12_operand 435 = .ok (.goto 4, 3) := by decide +kernel
theorem dX12_operand_438 : decode cX12_operand 438 = .ok (.iconst 0, 1) := by decide +kernel
theorem dX12_operand_439 : decode cX12_operand 439 = .ok (.if_icmp .eq 5, 3) := by decide +kernel
theorem dX12_operand_442 : decode cX12_operand 442 = .ok (.iconst (-1), 1) := by decide +kernel
theorem dX12_operand_443 : decode cX12_operand 443 = .ok (.istore_n 3, 1) := by decide +kernel
theorem dX12_operand_444 : decode cX12_operand 444 = .ok (.iload_n 3, 1) := by decide +kernel
theorem dX12_operand_445 : decode cX12_operand 445 = .ok (.iconst (-1), 1) := by decide +kernel
theorem dX12_operand_446 : decode cX12_operand 446 = .ok (.if_icmp .ne 12, 3) := by decide +kernel
theorem dX12_operand_449 : decode cX12_operand 449 = .ok (.aload_n 0, 1) := by decide +kernel
theorem dX12_operand_450 : decode cX12_operand 450 = .ok (.iconst 1, 1) := by decide +kernel
theorem dX12_operand_451 : decode cX12_operand 451 = .ok (.aload_n 0, 1) := by decide +kernel
theorem dX12_operand_452 : decode cX12_operand 452 = .ok (.getfield 23, 3) := by decide +kernel
theorem dX12_operand_455 : decode cX12_operand 455 = .ok (.invokevirtual 255, 3) := by decide +kernel
theorem dX12_operand_458 : decode cX12_operand 458 = .ok (.aload_n 0, 1) := by decide +kernel
theorem dX12_operand_459 : decode cX12_operand 459 = .ok (.getfield 36, 3) := by decide +kernel
theorem dX12_operand_462 : decode cX12_operand 462 = .ok (.ifCond .le 5, 3) := by decide +kernel
theorem dX12_operand_465 : decode cX12_operand 465 = .ok (.iconst 1, 1) := by decide +kernel
theorem dX12_operand_466 : decode cX12_operand 466 = .ok (.ireturn, 1) := by decide +kernel
theorem dX12_operand_467 : decode cX12_operand 467 = .ok (.aload_n 0, 1) := by decide +kernel
theorem dX12_operand_468 : decode cX12_operand 468 = .ok (.iload_n 3, 1) := by decide +kernel
theorem dX12_operand_469 : decode cX12_operand 469 = .ok (.aload_n 0, 1) := by decide +kernel
theorem dX12_operand_470 : decode cX12_operand 470 = .ok (.getfield 29, 3) := by decide +kernel
theorem dX12_operand_473 : decode cX12_operand 473 = .ok (.invokevirtual 340, 3) := by decide +kernel
theorem dX12_operand_476 : decode cX12_operand 476 = .ok (.aload_n 0, 1) := by decide +kernel
theorem dX12_operand_477 : decode cX12_operand 477 = .ok (.invokevirtual 272, 3) := by decide +kernel
theorem dX12_operand_480 : decode cX12_operand 480 = .ok (.iconst 1, 1) := by decide +kernel
theorem dX12_operand_481 : decode cX12_operand 481 = .ok (.ireturn, 1) := by decide +kernel
theorem wB_423 : Cond.code yX12_isTest cX12_isTest 1 (some .boolean) ∈ dgB := List.mem_filter.mpr ⟨tbl_8 _ (List.mem_of_getElem? (i := 79) rfl), rfl⟩
theorem wB_424 : Cond.methodLink RX12 346 yX12_isTest ∈ dgB := List.mem_filter.mpr ⟨tbl_8 _ (List.mem_of_getElem? (i := 77) (by decide +kernel)), by decide +kernel⟩
theorem wB_425 : Cond.static yX12_isTest ∈ dgB := List.mem_filter.mpr ⟨tbl_8 _ (List.mem_of_getElem? (i := 78) (by decide +kernel)), by decide +kernel⟩
theorem wB_426 : Cond.code yX12_holdsBack cX12_holdsBack 2 none ∈ dgB := List.mem_filter.mpr ⟨tbl_8 _ (List.mem_of_getElem? (i := 83) rfl), rfl⟩
theorem wB_427 : Cond.methodLink RX12 353 yX12_holdsBack ∈ dgB := List.mem_filter.mpr ⟨tbl_8 _ (List.mem_of_getElem? (i := 80) (by decide +kernel)), by decide +kernel⟩
theorem wB_428 : Cond.instanceMethod yX12_holdsBack ∈ dgB := List.mem_filter.mpr ⟨tbl_8 _ (List.mem_of_getElem? (i := 82) (by decide +kernel)), by decide +kernel⟩
theorem wB_429 : Cond.selects RX12 yX12_holdsBack yX12_holdsBack ∈ dgB := List.mem_filter.mpr ⟨List.mem_of_getElem? (i := 109) (by decide +kernel), by decide +kernel⟩
theorem wB_430 : Cond.code yX12_frames cX12_frames 2 none ∈ dgB := List.mem_filter.mpr ⟨tbl_8 _ (List.mem_of_getElem? (i := 87) rfl), rfl⟩
theorem wB_431 : Cond.methodLink RX12 356 yX12_frames ∈ dgB := List.mem_filter.mpr ⟨tbl_8 _ (List.mem_of_getElem? (i := 84) (by decide +kernel)), by decide +kernel⟩
theorem wB_432 : Cond.instanceMethod yX12_frames ∈ dgB := List.mem_filter.mpr ⟨tbl_8 _ (List.mem_of_getElem? (i := 86) (by decide +kernel)), by decide +kernel⟩
theorem wB_433 : Cond.selects RX12 yX12_frames yX12_frames ∈ dgB := List.mem_filter.mpr ⟨List.mem_of_getElem? (i := 110) (by decide +kernel), by decide +kernel⟩
theorem wB_434 : Cond.fieldLink RX12 121 "DarkMineModel" "law" "I" ∈ dgB := List.mem_filter.mpr ⟨tbl_6 _ (List.mem_of_getElem? (i := 199) (by decide +kernel)), by decide +kernel⟩
theorem wB_435 : Cond.fieldLink RX12 134 "DarkMineModel" "pair" "[I" ∈ dgB := List.mem_filter.mpr ⟨tbl_6 _ (List.mem_of_getElem? (i := 203) (by decide +kernel)), by decide +kernel⟩
set_option maxHeartbeats 8000000 in
set_option maxRecDepth 100000 in
theorem c_m_operand (l : Launch) (g : Nat → ClassId) (D : va_G) (o : Nat) (S : dg_S) (tb : Nat → Int32) (tn : Nat) (sg : Int32) (f_sg : S.1 0 3 = .int sg) (b_sg : 0 ≤ (sg).toInt ∧ (sg).toInt ≤ 3) (sa : Int32) (f_sa : S.1 0 4 = .int sa) (b_sa : 0 ≤ (sa).toInt ∧ (sa).toInt ≤ 1600) (se : Int32) (f_se : S.1 0 5 = .int se) (b_se : 0 ≤ (se).toInt ∧ (se).toInt ≤ 1600) (sl : Int32) (f_sl : S.1 0 2 = .int sl) (b_sl : 0 ≤ (sl).toInt ∧ (sl).toInt ≤ 1600) (va : Int32) (f_va : S.1 0 6 = .int va) (b_va : 0 ≤ (va).toInt ∧ (va).toInt ≤ 9999) (cd : Int32) (f_cd : S.1 0 34 = .int cd) (b_cd : 0 ≤ (cd).toInt ∧ (cd).toInt ≤ 1600) (dp : Int32) (f_dp : S.1 0 42 = .int dp) (b_dp : 0 ≤ (dp).toInt ∧ (dp).toInt ≤ 20) (on : Int32) (f_on : S.1 0 43 = .int on) (om : Int32) (f_om : S.1 0 45 = .int om) (b_om : 0 ≤ (om).toInt ∧ (om).toInt ≤ 500) (fk : Int32) (f_fk : S.1 0 8 = .int fk) (b_fk : 0 ≤ (fk).toInt ∧ (fk).toInt ≤ 6) (lw : Int32) (f_lw : S.1 0 36 = .int lw) (b_lw : 0 ≤ (lw).toInt ∧ (lw).toInt ≤ 2) (hlx : (sa).toInt ≤ (se).toInt ∧ (se).toInt ≤ (sl).toInt ∧ ((sg).toInt ≠ 0 → (sa).toInt + 1 ≤ (se).toInt)) (hro : (cd).toInt + (om).toInt + (dp).toInt ≤ (sa).toInt) (TK : TKM tb tn S) (ZW : ZWM S) (ZK : ZKM S) (P0 : P0M S) (I : CM o S) (sz : Nat) : Met l yX12_operand (bw yX12_operand cX12_operand 4 (some .boolean)) ({ frames := 4, cells := 0, slots := 0, locals := 98 } : Room) (dk_Pc g D (dg_w g shM o rfM S) sz [.ref (o + 0)]) (va_Qi (fun (r : Int32) S' => CM o S' ∧ dg_sm shM [(0, 3), (0, 4), (0, 5), (0, 6), (0, 7), (0, 8), (0, 9), (0, 12), (0, 34), (0, 42), (0, 43), (0, 45)] [18, 19, 22, 23, 24, 25, 26, 27] S S' ∧ (0 ≤ (r).toInt ∧ (r).toInt ≤ 1) ∧ (∃ y9_3 y9_4 y9_5 y9_8 y9_34 y9_42 y9_45 : Int32, S'.1 0 3 = .int y9_3 ∧ S'.1 0 4 = .int y9_4 ∧ S'.1 0 5 = .int y9_5 ∧ S'.1 0 8 = .int y9_8 ∧ S'.1 0 34 = .int y9_34 ∧ S'.1 0 42 = .int y9_42 ∧ S'.1 0 45 = .int y9_45 ∧ (((y9_4).toInt ≤ (y9_5).toInt ∧ (y9_5).toInt ≤ (sl).toInt ∧ ((y9_3).toInt ≠ 0 → (y9_4).toInt + 1 ≤ (y9_5).toInt)) ∧ (sa).toInt ≤ (y9_4).toInt ∧ ((fk).toInt ≠ 0 → (y9_8).toInt ≠ 0) ∧ (((y9_8).toInt = 0 → (sa).toInt + 1 ≤ (y9_4).toInt) ∧ ((y9_8).toInt = 0 → (y9_34).toInt + (y9_45).toInt + (y9_42).toInt ≤ (y9_4).toInt)))) ∧ (∀ k9 : Int32, S'.1 0 8 = .int k9 → k9.toInt = 0 → ((r).toInt = 1 → P1M S') ∧ ((r).toInt = 0 → P0M S')) ∧ (OPK tb tn (lw).toInt S S' r) ∧ TKM tb tn S' ∧ ZWM S' ∧ True) (dg_B g D shM o rfM) (dg_A o shM.length sz)) 0 0 (dg_A o shM.length sz) := by
  refine dg_met (cc := cX12_operand) (maxL := 4) (ret := (some .boolean)) (by decide) rfl (Nat.le_of_ble_eq_true rfl) ?_
  intro p e s m args below meth c A hAe harg hx hb hr hml hts hown hlocks hin hP K hS hA1 hA ST hsz ls hl
  rw [← hAe]
  have F : CallFix p m c cX12_operand 4 s args (bw yX12_operand cX12_operand 4 (some .boolean)) RX12 := ⟨hx, hb, hml, hown, hts⟩
  have hl : lv_has ls 4 [(0, .ref (o + 0))] := hl
  have M_0 : dg_sm shM [(0, 3), (0, 4), (0, 5), (0, 6), (0, 7), (0, 8), (0, 9), (0, 12), (0, 34), (0, 42), (0, 43), (0, 45)] [18, 19, 22, 23, 24, 25, 26, 27] S S := dg_sm.rf
  obtain ⟨Q9, hQ9⟩ : ∃ Q : State → Prop, Q = MQ below (va_Qi (fun (r : Int32) S' => CM o S' ∧ dg_sm shM [(0, 3), (0, 4), (0, 5), (0, 6), (0, 7), (0, 8), (0, 9), (0, 12), (0, 34), (0, 42), (0, 43), (0, 45)] [18, 19, 22, 23, 24, 25, 26, 27] S S' ∧ (0 ≤ (r).toInt ∧ (r).toInt ≤ 1) ∧ (∃ y9_3 y9_4 y9_5 y9_8 y9_34 y9_42 y9_45 : Int32, S'.1 0 3 = .int y9_3 ∧ S'.1 0 4 = .int y9_4 ∧ S'.1 0 5 = .int y9_5 ∧ S'.1 0 8 = .int y9_8 ∧ S'.1 0 34 = .int y9_34 ∧ S'.1 0 42 = .int y9_42 ∧ S'.1 0 45 = .int y9_45 ∧ (((y9_4).toInt ≤ (y9_5).toInt ∧ (y9_5).toInt ≤ (sl).toInt ∧ ((y9_3).toInt ≠ 0 → (y9_4).toInt + 1 ≤ (y9_5).toInt)) ∧ (sa).toInt ≤ (y9_4).toInt ∧ ((fk).toInt ≠ 0 → (y9_8).toInt ≠ 0) ∧ (((y9_8).toInt = 0 → (sa).toInt + 1 ≤ (y9_4).toInt) ∧ ((y9_8).toInt = 0 → (y9_34).toInt + (y9_45).toInt + (y9_42).toInt ≤ (y9_4).toInt)))) ∧ (∀ k9 : Int32, S'.1 0 8 = .int k9 → k9.toInt = 0 → ((r).toInt = 1 → P1M S') ∧ ((r).toInt = 0 → P0M S')) ∧ (OPK tb tn (lw).toInt S S' r) ∧ TKM tb tn S' ∧ ZWM S' ∧ True) (dg_B g D shM o rfM) A) args s 0 0 A := ⟨_, rfl⟩
  rw [← hQ9]
  obtain ⟨hlx_0, hlx_1, hlx_2⟩ := hlx
  have hdm_0 := PSM.dims P0 f_dp f_on f_om
  refine lv_aload_n hx hb dX12_operand_0 rfl (lv_at hl 0 rfl) ?_
  refine dg_callv hS hA1 hA (va_runV (As := []) (rest := []) F (c_m_lex l g D o S tb tn fk f_fk (by omega) sa f_sa (by omega) TK I s.heap.size) (cwV 0 hts (bw_V wB_310 wB_311 wB_312 wB_297 wB_309) rfl rfl rfl (by decide +kernel) ⟨Nat.le_of_ble_eq_true rfl, Nat.le_of_ble_eq_true rfl⟩) (dg_preV sM_0 rfl K ST hP hS hA1 hA) rfl rfl hl.1 rfl (lv_room (Nat.le_of_ble_eq_true rfl)) dX12_operand_1 ⟨Nat.le_of_ble_eq_true rfl, Nat.le_of_ble_eq_true rfl⟩) (fun S_2 hw_2 H locs hP hS => ?_)
  obtain ⟨I_2, m_2, w_2_0, -⟩ := hw_2
  have M_2 := dg_sm.tr M_0 m_2 (by decide) (by decide)
  obtain ⟨y_3, f_y_3, w_2_0⟩ := w_2_0
  have w_2_0 : ((fk).toInt ≠ 0 → (y_3).toInt = (fk).toInt) ∧ ((fk).toInt = 0 → ((y_3).toInt = 0 ↔ (T_kd tb tn (t_ix tb tn (sa : Int32).toNatClampNeg)).toInt ≠ 5)) := w_2_0
  obtain ⟨w_2_0_0, w_2_0_1⟩ := w_2_0
  have b_y_3 : 0 ≤ (y_3).toInt ∧ (y_3).toInt ≤ 6 := dg_I.intb (lo := 0) (hi := 6) I_2 sM_0 (by decide +kernel) f_y_3
  refine lv_aload_n hx hb dX12_operand_4 rfl (lv_at hl 0 rfl) ?_
  refine dg_get (C := RX12) (T := TX12) (N := 77) hx hb hts (fun w h => bw_mem (wU_X12 w h)) hown K hP sM_0 rfl 8 (by decide) (hts _ (bw_mem wB_303)) (fun _ h9 => h9) (v := .int y_3) f_y_3 dX12_operand_5 ?_
  refine lv_if_le (tgt := 13) hx hb dX12_operand_8 (by decide) (fun c_4 => ?_) (fun c_4 => ?_)
  · have jc_4 := dk_lec (k := 0) (by decide +kernel) c_4
    have w_2_0_0c : (fk).toInt = 0 := by omega
    clear w_2_0_0
    have w_2_0_1r := w_2_0_1 (by omega)
    clear w_2_0_1
    have hk5 := m_hid.mk (show (T_kd tb tn (t_ix tb tn (sa : Int32).toNatClampNeg)).toInt ≠ 5 from by omega)
    clear w_2_0_1r
    refine lv_aload_n hx hb dX12_operand_13 rfl (lv_at hl 0 rfl) ?_
    refine dg_get (C := RX12) (T := TX12) (N := 77) hx hb hts (fun w h => bw_mem (wU_X12 w h)) hown K hP sM_0 rfl 42 (by decide) (hts _ (bw_mem wB_406)) (fun _ h9 => h9) (v := .int dp) ((m_2.1 0 42 _ sM_0 (by decide)).trans f_dp) dX12_operand_14 ?_
    refine lv_iconst (v := 1) hx hb dX12_operand_17 (by decide +kernel) ?_
    refine lv_isub hx hb dX12_operand_18 ?_
    refine lv_topi (fun x_5 ex_5 => ?_)
    have jx_5 : (x_5).toInt = (dp).toInt - 1 := by rw [ex_5]; exact dk_subT rfl (by decide +kernel) (by omega) (by omega)
    refine lv_istore_n (lv' := [(1, .int x_5), (0, .ref (o + 0))]) hx hb dX12_operand_19 rfl hl (by decide) rfl (fun ls hl => ?_)
    refine lv_aload_n hx hb dX12_operand_20 rfl (lv_at hl 1 rfl) ?_
    refine dg_get (C := RX12) (T := TX12) (N := 77) hx hb hts (fun w h => bw_mem (wU_X12 w h)) hown K hP sM_0 rfl 37 (by decide) (hts _ (bw_mem wB_416)) (fun _ h9 => h9) (v := .ref (o + 22)) (show S_2.1 0 37 = .ref (o + 22) from dg_I.rel (d := 22) I_2 sM_0 (by decide +kernel)) dX12_operand_21 ?_
    refine lv_iload_n hx hb dX12_operand_24 rfl (lv_at hl 0 rfl) ?_
    have hin_6 : vp_in x_5 20 := (dk_inv (by omega) (by omega))
    refine dg_iald hx hb K hP sM_22 hin_6 dX12_operand_25 (fun x_7 ex_7 => ?_)
    have b_x_7 := dk_all_at (dg_I.row (lo := 0) (hi := 6) I_2 sM_22 (by decide +kernel)) hin_6 ex_7
    refine dg_calli hS hA1 hA (va_runS (As := [.int x_7]) (rest := []) F (c_m_isTest l g D o S_2 x_7 I_2 H.size) (va_cwS 1 hts (bw_S wB_424 wB_425 wB_297 wB_423) rfl rfl rfl (by decide +kernel) ⟨Nat.le_of_ble_eq_true rfl, Nat.le_of_ble_eq_true rfl⟩) (dg_preS K ST hP hS hA1 hA) rfl rfl hl.1 rfl (lv_room (Nat.le_of_ble_eq_true rfl)) dX12_operand_26 ⟨Nat.le_of_ble_eq_true rfl, Nat.le_of_ble_eq_true rfl⟩) (fun x_8 S_9 hw_9 H locs hP hS => ?_)
    rw [hw_9.1] at hP
    obtain ⟨hq_9, w_9_0, w_9_1, -⟩ := hw_9
    have w_9_0 : 0 ≤ (x_8).toInt ∧ (x_8).toInt ≤ 1 := w_9_0
    have w_9_1 : (x_8).toInt = 1 ↔ ((x_7).toInt = 1 ∨ (x_7).toInt = 5 ∨ (x_7).toInt = 6) := w_9_1
    have J_347 : ∀ (x_14 : Int32), (0 ≤ (x_14).toInt ∧ (x_14).toInt ≤ 1) → ((x_14 : Int32).toInt = 1 → (((x_7).toInt = 1 ∨ (x_7).toInt = 5 ∨ (x_7).toInt = 6) ∧ (S_2.2.1 24 (x_5 : Int32).toNatClampNeg).toInt = 1)) → (m_hid ((x_14 : Int32).toInt ≠ 1 → ¬ (((x_7).toInt = 1 ∨ (x_7).toInt = 5 ∨ (x_7).toInt = 6) ∧ (S_2.2.1 24 (x_5 : Int32).toNatClampNeg).toInt = 1))) → ∀ (H : Heap) (locs : List Loc), va_P D vwCl (dg_w g shM o rfM S_2) H → va_S A s.heap H locs → ∀ ls : Array Slot, lv_has ls 4 [(1, .int x_5), (0, .ref (o + 0))] → W p l e ({ frames := 4, cells := 0, slots := 0, locals := 98 } : Room) s m args below meth c H locs 0 0 Q9 (F0 m 46 ls [.int x_14]) := by
      intro x_14 b_x_14 rel_0 rel_1 H locs hP hS ls hl
      clear w_9_1
      obtain ⟨x_348, f_x_348⟩ : ∃ x, S_2.2.1 23 (x_5 : Int32).toNatClampNeg = x := ⟨_, rfl⟩
      have hin_349 : vp_in (x_5 : Int32) 20 := (dk_inv (by omega) (by omega))
      have b_x_348 := dk_all_at (dg_I.row (lo := 0) (hi := 2) I_2 sM_23 (by decide +kernel)) hin_349 f_x_348.symm
      obtain ⟨nt0, R0, TF0⟩ := TFM.start (P0M.keep P0 m_2 (by decide) (by decide) (by decide) (by decide) (by decide) (by decide) (by decide) (by decide) (by decide) (by decide) (by decide) (by decide) (by decide) (by decide) (by decide)) ((m_2.1 0 42 _ sM_0 (by decide)).trans f_dp) ((m_2.1 0 43 _ sM_0 (by decide)).trans f_on) ((m_2.1 0 45 _ sM_0 (by decide)).trans f_om) (fx := x_5) (by omega) ex_7.symm f_x_348
      obtain ⟨bg0, hbg0⟩ : ∃ b, b = decide ((S_2.2.1 24 (x_5 : Int32).toNatClampNeg).toInt = 1) := ⟨_, rfl⟩
      rw [← hbg0] at TF0
      have hM0 : MSv S (t_ix tb tn (sa : Int32).toNatClampNeg) false = (0, ((x_7).toInt, (x_348).toInt, bg0, nt0) :: R0, (on).toNatClampNeg, (t_ix tb tn (sa : Int32).toNatClampNeg), false) := (MSv.keep m_2 (by decide) (by decide) (by decide) (by decide) (by decide) (by decide) (by decide) (by decide)).trans TF0.ms
      have hft : (x_14).toInt = 1 → m_tst (x_7).toInt = true ∧ bg0 = true := fun q9 => ⟨m_tst_iff.mpr (by have h9 := rel_0; omega), by rw [hbg0, decide_eq_true_eq]; have h9 := rel_0; omega⟩
      have hff : (x_14).toInt ≠ 1 → (m_tst (x_7).toInt && bg0) = false := fun q9 => by by_cases q8 : (x_7).toInt = 1 ∨ (x_7).toInt = 5 ∨ (x_7).toInt = 6; have h9 := rel_1.out q9; rw [hbg0, show decide ((S_2.2.1 24 (x_5 : Int32).toNatClampNeg).toInt = 1) = false from decide_eq_false (fun q7 => h9 ⟨q8, q7⟩), Bool.and_false]; rw [m_tst_f q8]; rfl
      replace hft := m_hid.mk hft
      replace hff := m_hid.mk hff
      refine lv_istore_n (lv' := [(2, .int x_14), (1, .int x_5), (0, .ref (o + 0))]) hx hb dX12_operand_46 rfl hl (by decide) rfl (fun ls hl => ?_)
      refine lv_iload_n hx hb dX12_operand_47 rfl (lv_at hl 0 rfl) ?_
      have J_680 : ∀ (u9 : Unit), (m_hid ((x_14).toInt = 1 → g_o (T_kd tb tn) (T_vl tb tn) 23 (t_ix tb tn (sa : Int32).toNatClampNeg) = false)) → ∀ (H : Heap) (locs : List Loc), va_P D vwCl (dg_w g shM o rfM S_2) H → va_S A s.heap H locs → ∀ ls : Array Slot, lv_has ls 4 [(2, .int x_14), (1, .int x_5), (0, .ref (o + 0))] → W p l e ({ frames := 4, cells := 0, slots := 0, locals := 98 } : Room) s m args below meth c H locs 0 0 Q9 (F0 m 110 ls []) := by
        intro u9 rel_0 H locs hP hS ls hl
        have h110 := rel_0
        refine lv_aload_n hx hb dX12_operand_110 rfl (lv_at hl 2 rfl) ?_
        refine dg_get (C := RX12) (T := TX12) (N := 77) hx hb hts (fun w h => bw_mem (wU_X12 w h)) hown K hP sM_0 rfl 39 (by decide) (hts _ (bw_mem wB_418)) (fun _ h9 => h9) (v := .ref (o + 24)) (show S_2.1 0 39 = .ref (o + 24) from dg_I.rel (d := 24) I_2 sM_0 (by decide +kernel)) dX12_operand_111 ?_
        refine lv_iload_n hx hb dX12_operand_114 rfl (lv_at hl 1 rfl) ?_
        refine lv_iconst (v := 0) hx hb dX12_operand_115 (by decide +kernel) ?_
        have hin_681 : vp_in x_5 20 := (dk_inv (by omega) (by omega))
        have hz_683 : (0 : Int32).toInt = 0 := by decide +kernel
        refine dg_zast hx hb K hP hS hA1 sM_24 hin_681 (by decide +kernel) dX12_operand_116 (fun S_682 e_682 H locs hP hS => ?_)
        have I_682 := dg_I.ufu (lo := 0) (hi := 1) I_2 e_682 sM_24 (by decide +kernel) (show 0 ≤ ((0 : Int32)).toInt ∧ ((0 : Int32)).toInt ≤ 1 from (by decide +kernel))
        have M_682 := dg_sm.uf M_2 e_682 sM_24 (by decide)
        have hz_684 : (0 : Int32).toInt = 0 := by decide +kernel
        have PB_682 : PBM S_682 := P0M.bg0 (P0M.keep P0 m_2 (by decide) (by decide) (by decide) (by decide) (by decide) (by decide) (by decide) (by decide) (by decide) (by decide) (by decide) (by decide) (by decide) (by decide) (by decide)) ((m_2.1 0 42 _ sM_0 (by decide)).trans f_dp) (by omega) (by omega) (by omega) e_682
        have hz_685 : (0 : Int32).toInt = 0 := by decide +kernel
        have TF_682 : TFM (x_7).toInt (x_348).toInt false nt0 R0 (on).toNatClampNeg S_682 := (by have h9 := (TFM.bg' TF0 ((m_2.1 0 42 _ sM_0 (by decide)).trans f_dp) ((m_2.1 0 43 _ sM_0 (by decide)).trans f_on) ((m_2.1 0 45 _ sM_0 (by decide)).trans f_om) (fx := x_5) (by omega) (by omega) e_682); rw [show decide ((0 : Int32).toInt = 1) = false from by decide +kernel] at h9; exact h9)
        refine lv_iload_n hx hb dX12_operand_117 rfl (lv_at hl 0 rfl) ?_
        have J_979 : ∀ (u9 : Unit), (m_hid ((x_14).toInt = 1 → g_o (T_kd tb tn) (T_vl tb tn) 23 (t_ix tb tn (sa : Int32).toNatClampNeg) = false ∧ g_s (T_kd tb tn) (T_vl tb tn) 91 (t_ix tb tn (sa : Int32).toNatClampNeg) = false)) → ∀ (H : Heap) (locs : List Loc), va_P D vwCl (dg_w g shM o rfM S_682) H → va_S A s.heap H locs → ∀ ls : Array Slot, lv_has ls 4 [(2, .int x_14), (1, .int x_5), (0, .ref (o + 0))] → W p l e ({ frames := 4, cells := 0, slots := 0, locals := 98 } : Room) s m args below meth c H locs 0 0 Q9 (F0 m 137 ls []) := by
          intro u9 rel_0 H locs hP hS ls hl
          have h137 := rel_0
          refine lv_iload_n hx hb dX12_operand_137 rfl (lv_at hl 0 rfl) ?_
          have J_1254 : ∀ (u9 : Unit), (m_hid (m_fst (T_kd tb tn) (T_vl tb tn) (x_7).toInt bg0 (t_ix tb tn (sa : Int32).toNatClampNeg) = false)) → ∀ (H : Heap) (locs : List Loc), va_P D vwCl (dg_w g shM o rfM S_682) H → va_S A s.heap H locs → ∀ ls : Array Slot, lv_has ls 4 [(2, .int x_14), (1, .int x_5), (0, .ref (o + 0))] → W p l e ({ frames := 4, cells := 0, slots := 0, locals := 98 } : Room) s m args below meth c H locs 0 0 Q9 (F0 m 171 ls []) := by
            intro u9 rel_0 H locs hP hS ls hl
            have h171 := rel_0
            refine lv_aload_n hx hb dX12_operand_171 rfl (lv_at hl 2 rfl) ?_
            refine lv_bipush (v := 40) hx hb dX12_operand_172 (by decide +kernel) ?_
            refine dg_calli hS hA1 hA (va_runV (As := [.int 40]) (rest := []) F (c_m_isSign l g D o S_682 40 sg (((dg_uf_F e_682 0 3).trans (m_2.1 0 3 _ sM_0 (by decide))).trans f_sg) (by omega) va (((dg_uf_F e_682 0 6).trans (m_2.1 0 6 _ sM_0 (by decide))).trans f_va) (by omega) I_682 H.size) (cwV 1 hts (bw_V wB_314 wB_315 wB_316 wB_297 wB_313) rfl rfl rfl (by decide +kernel) ⟨Nat.le_of_ble_eq_true rfl, Nat.le_of_ble_eq_true rfl⟩) (dg_preV sM_0 rfl K ST hP hS hA1 hA) rfl rfl hl.1 rfl (lv_room (Nat.le_of_ble_eq_true rfl)) dX12_operand_174 ⟨Nat.le_of_ble_eq_true rfl, Nat.le_of_ble_eq_true rfl⟩) (fun x_1255 S_1256 hw_1256 H locs hP hS => ?_)
            rw [hw_1256.1] at hP
            obtain ⟨hq_1256, w_1256_0, w_1256_1, -⟩ := hw_1256
            have hz_1257 : (40 : Int32).toInt = 40 := by decide +kernel
            have w_1256_0 : 0 ≤ (x_1255).toInt ∧ (x_1255).toInt ≤ 1 := w_1256_0
            have w_1256_1 : (x_1255).toInt = 1 ↔ ((sg).toInt = 3 ∧ (va).toInt = ((40 : Int32)).toInt) := w_1256_1
            refine lv_if_eq (tgt := 187) hx hb dX12_operand_177 (by decide) (fun c_1258 => ?_) (fun c_1258 => ?_)
            · have jc_1258 := dk_eqc (k := 0) (by decide +kernel) c_1258
              have qw_1256_1 : g_s (T_kd tb tn) (T_vl tb tn) 40 (t_ix tb tn (sa : Int32).toNatClampNeg) = false := g_iff_f (TKM.iss (TKM.keep (TKM.keep TK m_2 (by decide) (by decide) (by decide) (by decide) (by decide) (by decide) (by decide) (by decide)) (dg_sm.uf (WF := []) (WA := [24]) dg_sm.rf e_682 sM_24 (by decide)) (by decide) (by decide) (by decide) (by decide) (by decide) (by decide) (by decide) (by decide)) (((dg_uf_F e_682 0 3).trans (m_2.1 0 3 _ sM_0 (by decide))).trans f_sg) (((dg_uf_F e_682 0 4).trans (m_2.1 0 4 _ sM_0 (by decide))).trans f_sa) (((dg_uf_F e_682 0 6).trans (m_2.1 0 6 _ sM_0 (by decide))).trans f_va) hk5.out (c := 40) (by have h9 := w_1256_1; rw [show (40 : Int32).toInt = 40 from by decide +kernel] at h9; exact h9)) (by omega)
              clear w_1256_1
              have h187 := m_hid.mk qw_1256_1
              refine lv_aload_n hx hb dX12_operand_187 rfl (lv_at hl 2 rfl) ?_
              refine lv_ldc2 hx hb hown (hts _ (bw_mem wB_350)) dX12_operand_188 ?_
              refine dg_calli hS hA1 hA (va_runV (As := [.long 7170414]) (rest := []) F (c_m_isWord l g D o S_682 7170414 sg (((dg_uf_F e_682 0 3).trans (m_2.1 0 3 _ sM_0 (by decide))).trans f_sg) (by omega) I_682 H.size) (cwV 1 hts (bw_V wB_322 wB_323 wB_324 wB_297 wB_321) rfl rfl rfl (by decide +kernel) ⟨Nat.le_of_ble_eq_true rfl, Nat.le_of_ble_eq_true rfl⟩) (dg_preV sM_0 rfl K ST hP hS hA1 hA) rfl rfl hl.1 rfl (lv_room (Nat.le_of_ble_eq_true rfl)) dX12_operand_191 ⟨Nat.le_of_ble_eq_true rfl, Nat.le_of_ble_eq_true rfl⟩) (fun x_1259 S_1260 hw_1260 H locs hP hS => ?_)
              rw [hw_1260.1] at hP
              obtain ⟨hq_1260, w_1260_0, w_1260_1, -⟩ := hw_1260
              try rw [hq_1260] at w_1260_1
              have w_1260_0 : 0 ≤ (x_1259).toInt ∧ (x_1259).toInt ≤ 1 := w_1260_0
              replace w_1260_1 : ∀ w9 : Int64, S_682.1 0 7 = .long w9 → ((x_1259).toInt = 1 ↔ ((sg).toInt = 1 ∧ w9.toInt = ((7170414 : Int64)).toInt)) := w_1260_1
              have J_1490 : ∀ (u9 : Unit), ((sg).toInt = 1) → (m_hid (g_o (T_kd tb tn) (T_vl tb tn) 25 (t_ix tb tn (sa : Int32).toNatClampNeg) = true ∨ g_o (T_kd tb tn) (T_vl tb tn) 26 (t_ix tb tn (sa : Int32).toNatClampNeg) = true ∨ g_o (T_kd tb tn) (T_vl tb tn) 20 (t_ix tb tn (sa : Int32).toNatClampNeg) = true)) → ∀ (H : Heap) (locs : List Loc), va_P D vwCl (dg_w g shM o rfM S_682) H → va_S A s.heap H locs → ∀ ls : Array Slot, lv_has ls 4 [(2, .int x_14), (1, .int x_5), (0, .ref (o + 0))] → W p l e ({ frames := 4, cells := 0, slots := 0, locals := 98 } : Room) s m args below meth c H locs 0 0 Q9 (F0 m 217 ls []) := by
                intro u9 rel_0 rel_1 H locs hP hS ls hl
                clear w_1260_1
                have h217 := rel_1
                refine lv_aload_n hx hb dX12_operand_217 rfl (lv_at hl 2 rfl) ?_
                refine lv_ldc2 hx hb hown (hts _ (bw_mem wB_350)) dX12_operand_218 ?_
                refine dg_calli hS hA1 hA (va_runV (As := [.long 7170414]) (rest := []) F (c_m_isWord l g D o S_682 7170414 sg (((dg_uf_F e_682 0 3).trans (m_2.1 0 3 _ sM_0 (by decide))).trans f_sg) (by omega) I_682 H.size) (cwV 1 hts (bw_V wB_322 wB_323 wB_324 wB_297 wB_321) rfl rfl rfl (by decide +kernel) ⟨Nat.le_of_ble_eq_true rfl, Nat.le_of_ble_eq_true rfl⟩) (dg_preV sM_0 rfl K ST hP hS hA1 hA) rfl rfl hl.1 rfl (lv_room (Nat.le_of_ble_eq_true rfl)) dX12_operand_221 ⟨Nat.le_of_ble_eq_true rfl, Nat.le_of_ble_eq_true rfl⟩) (fun x_1491 S_1492 hw_1492 H locs hP hS => ?_)
                rw [hw_1492.1] at hP
                obtain ⟨hq_1492, w_1492_0, w_1492_1, -⟩ := hw_1492
                try rw [hq_1492] at w_1492_1
                have w_1492_0 : 0 ≤ (x_1491).toInt ∧ (x_1491).toInt ≤ 1 := w_1492_0
                replace w_1492_1 : ∀ w9 : Int64, S_682.1 0 7 = .long w9 → ((x_1491).toInt = 1 ↔ ((sg).toInt = 1 ∧ w9.toInt = ((7170414 : Int64)).toInt)) := w_1492_1
                have J_1613 : ∀ (x_1499 : Int32), (36 ≤ (x_1499).toInt ∧ (x_1499).toInt ≤ 44) → ((x_1499 : Int32).toInt = 36 ∨ (x_1499 : Int32).toInt = 37 ∨ (x_1499 : Int32).toInt = 44) → (m_hid (((x_1499 : Int32).toInt = 44 → g_o (T_kd tb tn) (T_vl tb tn) 20 (t_ix tb tn (sa : Int32).toNatClampNeg) = true) ∧ ((x_1499 : Int32).toInt ≠ 44 → g_o (T_kd tb tn) (T_vl tb tn) 25 (t_ix tb tn (sa : Int32).toNatClampNeg) = true ∨ g_o (T_kd tb tn) (T_vl tb tn) 26 (t_ix tb tn (sa : Int32).toNatClampNeg) = true))) → ∀ (H : Heap) (locs : List Loc), va_P D vwCl (dg_w g shM o rfM S_682) H → va_S A s.heap H locs → ∀ ls : Array Slot, lv_has ls 4 [(2, .int x_14), (1, .int x_5), (0, .ref (o + 0))] → W p l e ({ frames := 4, cells := 0, slots := 0, locals := 98 } : Room) s m args below meth c H locs 0 0 Q9 (F0 m 249 ls [.int x_1499]) := by
                  intro x_1499 b_x_1499 rel_0 rel_1 H locs hP hS ls hl
                  clear w_1492_1
                  have h249 := rel_1
                  refine lv_istore_n (lv' := [(3, .int x_1499), (2, .int x_14), (1, .int x_5), (0, .ref (o + 0))]) hx hb dX12_operand_249 rfl hl (by decide) rfl (fun ls hl => ?_)
                  refine lv_aload_n hx hb dX12_operand_250 rfl (lv_at hl 3 rfl) ?_
                  refine dg_callv hS hA1 hA (va_runV (As := []) (rest := []) F (c_m_ahead l g D o S_682 tb tn se (((dg_uf_F e_682 0 5).trans (m_2.1 0 5 _ sM_0 (by decide))).trans f_se) (by omega) sl (((dg_uf_F e_682 0 2).trans (m_2.1 0 2 _ sM_0 (by decide))).trans f_sl) (by omega) (by omega) (TKM.keep (TKM.keep TK m_2 (by decide) (by decide) (by decide) (by decide) (by decide) (by decide) (by decide) (by decide)) (dg_sm.uf (WF := []) (WA := [24]) dg_sm.rf e_682 sM_24 (by decide)) (by decide) (by decide) (by decide) (by decide) (by decide) (by decide) (by decide) (by decide)).1 I_682 H.size) (cwV 0 hts (bw_V wB_318 wB_319 wB_320 wB_297 wB_317) rfl rfl rfl (by decide +kernel) ⟨Nat.le_of_ble_eq_true rfl, Nat.le_of_ble_eq_true rfl⟩) (dg_preV sM_0 rfl K ST hP hS hA1 hA) rfl rfl hl.1 rfl (lv_room (Nat.le_of_ble_eq_true rfl)) dX12_operand_251 ⟨Nat.le_of_ble_eq_true rfl, Nat.le_of_ble_eq_true rfl⟩) (fun S_1614 hw_1614 H locs hP hS => ?_)
                  obtain ⟨I_1614, m_1614, w_1614_0, w_1614_1, -⟩ := hw_1614
                  have M_1614 := dg_sm.tr M_682 m_1614 (by decide) (by decide)
                  obtain ⟨y_1615, y_1616, y_1617, f_y_1615, f_y_1616, f_y_1617, w_1614_0⟩ := w_1614_0
                  have w_1614_0 : (se).toInt ≤ (y_1616).toInt ∧ (y_1616).toInt ≤ (y_1617).toInt ∧ (y_1617).toInt ≤ (sl).toInt ∧ ((y_1615).toInt ≠ 0 → (y_1616).toInt + 1 ≤ (y_1617).toInt) := w_1614_0
                  obtain ⟨w_1614_0_0, w_1614_0_1, w_1614_0_2, w_1614_0_3⟩ := w_1614_0
                  have b_y_1615 : 0 ≤ (y_1615).toInt ∧ (y_1615).toInt ≤ 3 := dg_I.intb (lo := 0) (hi := 3) I_1614 sM_0 (by decide +kernel) f_y_1615
                  have b_y_1616 : 0 ≤ (y_1616).toInt ∧ (y_1616).toInt ≤ 1600 := dg_I.intb (lo := 0) (hi := 1600) I_1614 sM_0 (by decide +kernel) f_y_1616
                  have b_y_1617 : 0 ≤ (y_1617).toInt ∧ (y_1617).toInt ≤ 1600 := dg_I.intb (lo := 0) (hi := 1600) I_1614 sM_0 (by decide +kernel) f_y_1617
                  replace w_1614_1 : TNX tb tn se S_1614 := w_1614_1
                  obtain ⟨TK_1614, nx_1614, -⟩ := TKM.nx (TKM.keep (TKM.keep TK m_2 (by decide) (by decide) (by decide) (by decide) (by decide) (by decide) (by decide) (by decide)) (dg_sm.uf (WF := []) (WA := [24]) dg_sm.rf e_682 sM_24 (by decide)) (by decide) (by decide) (by decide) (by decide) (by decide) (by decide) (by decide) (by decide)) (((dg_uf_F e_682 0 4).trans (m_2.1 0 4 _ sM_0 (by decide))).trans f_sa) (((dg_uf_F e_682 0 5).trans (m_2.1 0 5 _ sM_0 (by decide))).trans f_se) w_1614_1 m_1614 (by decide) (by decide) f_y_1616
                  replace nx_1614 := nx_1614 (fun q9 => absurd ((TKM.zero (TKM.keep (TKM.keep TK m_2 (by decide) (by decide) (by decide) (by decide) (by decide) (by decide) (by decide) (by decide)) (dg_sm.uf (WF := []) (WA := [24]) dg_sm.rf e_682 sM_24 (by decide)) (by decide) (by decide) (by decide) (by decide) (by decide) (by decide) (by decide) (by decide)) (((dg_uf_F e_682 0 3).trans (m_2.1 0 3 _ sM_0 (by decide))).trans f_sg) (((dg_uf_F e_682 0 4).trans (m_2.1 0 4 _ sM_0 (by decide))).trans f_sa)).mpr q9) (by omega))
                  refine lv_aload_n hx hb dX12_operand_254 rfl (lv_at hl 3 rfl) ?_
                  refine dg_callv hS hA1 hA (va_runV (As := []) (rest := []) F (c_m_lex l g D o S_1614 tb tn y_3 (((m_1614.1 0 8 _ sM_0 (by decide)).trans (dg_uf_F e_682 0 8)).trans f_y_3) (by omega) y_1616 f_y_1616 (by omega) TK_1614 I_1614 H.size) (cwV 0 hts (bw_V wB_310 wB_311 wB_312 wB_297 wB_309) rfl rfl rfl (by decide +kernel) ⟨Nat.le_of_ble_eq_true rfl, Nat.le_of_ble_eq_true rfl⟩) (dg_preV sM_0 rfl K ST hP hS hA1 hA) rfl rfl hl.1 rfl (lv_room (Nat.le_of_ble_eq_true rfl)) dX12_operand_255 ⟨Nat.le_of_ble_eq_true rfl, Nat.le_of_ble_eq_true rfl⟩) (fun S_1618 hw_1618 H locs hP hS => ?_)
                  obtain ⟨I_1618, m_1618, w_1618_0, -⟩ := hw_1618
                  have M_1618 := dg_sm.tr M_1614 m_1618 (by decide) (by decide)
                  obtain ⟨y_1619, f_y_1619, w_1618_0⟩ := w_1618_0
                  have w_1618_0 : ((y_3).toInt ≠ 0 → (y_1619).toInt = (y_3).toInt) ∧ ((y_3).toInt = 0 → ((y_1619).toInt = 0 ↔ (T_kd tb tn (t_ix tb tn (y_1616 : Int32).toNatClampNeg)).toInt ≠ 5)) := w_1618_0
                  obtain ⟨w_1618_0_0, w_1618_0_1⟩ := w_1618_0
                  clear w_1618_0_0
                  have w_1618_0_1r := w_1618_0_1 (by omega)
                  clear w_1618_0_1
                  have b_y_1619 : 0 ≤ (y_1619).toInt ∧ (y_1619).toInt ≤ 6 := dg_I.intb (lo := 0) (hi := 6) I_1618 sM_0 (by decide +kernel) f_y_1619
                  refine lv_aload_n hx hb dX12_operand_258 rfl (lv_at hl 3 rfl) ?_
                  refine lv_bipush (v := 40) hx hb dX12_operand_259 (by decide +kernel) ?_
                  obtain ⟨x_1620, f_x_1620, b_x_1620⟩ := dg_I.int (i := 0) (k := 6) (lo := 0) (hi := 9999) I_1618 sM_0 (by decide +kernel)
                  refine dg_calli hS hA1 hA (va_runV (As := [.int 40]) (rest := []) F (c_m_isSign l g D o S_1618 40 y_1615 ((m_1618.1 0 3 _ sM_0 (by decide)).trans f_y_1615) (by omega) x_1620 f_x_1620 (by omega) I_1618 H.size) (cwV 1 hts (bw_V wB_314 wB_315 wB_316 wB_297 wB_313) rfl rfl rfl (by decide +kernel) ⟨Nat.le_of_ble_eq_true rfl, Nat.le_of_ble_eq_true rfl⟩) (dg_preV sM_0 rfl K ST hP hS hA1 hA) rfl rfl hl.1 rfl (lv_room (Nat.le_of_ble_eq_true rfl)) dX12_operand_261 ⟨Nat.le_of_ble_eq_true rfl, Nat.le_of_ble_eq_true rfl⟩) (fun x_1621 S_1622 hw_1622 H locs hP hS => ?_)
                  rw [hw_1622.1] at hP
                  obtain ⟨hq_1622, w_1622_0, w_1622_1, -⟩ := hw_1622
                  have hz_1623 : (40 : Int32).toInt = 40 := by decide +kernel
                  have w_1622_0 : 0 ≤ (x_1621).toInt ∧ (x_1621).toInt ≤ 1 := w_1622_0
                  have w_1622_1 : (x_1621).toInt = 1 ↔ ((y_1615).toInt = 3 ∧ (x_1620).toInt = ((40 : Int32)).toInt) := w_1622_1
                  refine lv_if_ne (tgt := 276) hx hb dX12_operand_264 (by decide) (fun c_1624 => ?_) (fun c_1624 => ?_)
                  · have jc_1624 := dk_neqc (k := 0) (by decide +kernel) c_1624
                    have jbc_1624 : 1 ≤ (x_1621).toInt := by omega
                    clear jc_1624
                    have qw_1622_1 : m_hid ((T_kd tb tn (t_ix tb tn (y_1616 : Int32).toNatClampNeg)).toInt ≠ 5 → g_s (T_kd tb tn) (T_vl tb tn) 40 (t_ix tb tn (y_1616 : Int32).toNatClampNeg) = true) := m_hid.mk (fun h5 => (TKM.iss (TKM.keep TK_1614 m_1618 (by decide) (by decide) (by decide) (by decide) (by decide) (by decide) (by decide) (by decide)) ((m_1618.1 0 3 _ sM_0 (by decide)).trans f_y_1615) ((m_1618.1 0 4 _ sM_0 (by decide)).trans f_y_1616) f_x_1620 h5 (c := 40) (by have h9 := w_1622_1; rw [show (40 : Int32).toInt = 40 from by decide +kernel] at h9; exact h9)).mp (by omega))
                    have w_1622_1_r := w_1622_1.mp (by omega)
                    obtain ⟨w_1622_1_r1, w_1622_1_r2⟩ := w_1622_1_r
                    clear w_1622_1
                    have w_1614_0_3r := w_1614_0_3 (by omega)
                    clear w_1614_0_3
                    refine lv_aload_n hx hb dX12_operand_276 rfl (lv_at hl 3 rfl) ?_
                    refine lv_iload_n hx hb dX12_operand_277 rfl (lv_at hl 0 rfl) ?_
                    refine lv_bipush (v := 44) hx hb dX12_operand_278 (by decide +kernel) ?_
                    refine lv_icmp_ne (tgt := 288) hx hb dX12_operand_280 (by decide) (fun c_1625 => ?_) (fun c_1625 => ?_)
                    · have jc_1625 := dk_neqc (k := 44) (by decide +kernel) c_1625
                      have jtc_1625 : (x_1499).toInt ≤ 43 := by omega
                      clear jc_1625
                      refine lv_iconst (v := 3) hx hb dX12_operand_288 (by decide +kernel) ?_
                      have hz_1626 : (3 : Int32).toInt = 3 := by decide +kernel
                      refine dg_callv hS hA1 hA (va_runV (As := [.int 3]) (rest := []) F (c_m_frames l g D o S_1618 3 (by decide +kernel) tb tn y_1615 ((m_1618.1 0 3 _ sM_0 (by decide)).trans f_y_1615) (by omega) y_1616 ((m_1618.1 0 4 _ sM_0 (by decide)).trans f_y_1616) (by omega) y_1617 ((m_1618.1 0 5 _ sM_0 (by decide)).trans f_y_1617) (by omega) sl (((m_1618.1 0 2 _ sM_0 (by decide)).trans ((m_1614.1 0 2 _ sM_0 (by decide)).trans ((dg_uf_F e_682 0 2).trans (m_2.1 0 2 _ sM_0 (by decide))))).trans f_sl) (by omega) y_1619 f_y_1619 (by omega) dp (((m_1618.1 0 42 _ sM_0 (by decide)).trans ((m_1614.1 0 42 _ sM_0 (by decide)).trans ((dg_uf_F e_682 0 42).trans (m_2.1 0 42 _ sM_0 (by decide))))).trans f_dp) (by omega) om (((m_1618.1 0 45 _ sM_0 (by decide)).trans ((m_1614.1 0 45 _ sM_0 (by decide)).trans ((dg_uf_F e_682 0 45).trans (m_2.1 0 45 _ sM_0 (by decide))))).trans f_om) (by omega) on (((m_1618.1 0 43 _ sM_0 (by decide)).trans ((m_1614.1 0 43 _ sM_0 (by decide)).trans ((dg_uf_F e_682 0 43).trans (m_2.1 0 43 _ sM_0 (by decide))))).trans f_on) (by omega) (by omega) (by omega) (TKM.keep TK_1614 m_1618 (by decide) (by decide) (by decide) (by decide) (by decide) (by decide) (by decide) (by decide)) I_1618 H.size) (cwV 1 hts (bw_V wB_431 wB_432 wB_433 wB_297 wB_430) rfl rfl rfl (by decide +kernel) ⟨Nat.le_of_ble_eq_true rfl, Nat.le_of_ble_eq_true rfl⟩) (dg_preV sM_0 rfl K ST hP hS hA1 hA) rfl rfl hl.1 rfl (lv_room (Nat.le_of_ble_eq_true rfl)) dX12_operand_289 ⟨Nat.le_of_ble_eq_true rfl, Nat.le_of_ble_eq_true rfl⟩) (fun S_1627 hw_1627 H locs hP hS => ?_)
                      obtain ⟨I_1627, m_1627, w_1627_0, w_1627_1, w_1627_2, -⟩ := hw_1627
                      have M_1627 := dg_sm.tr M_1618 m_1627 (by decide) (by decide)
                      have hz_1628 : (3 : Int32).toInt = 3 := by decide +kernel
                      obtain ⟨y_1629, y_1630, y_1631, y_1632, y_1633, f_y_1629, f_y_1630, f_y_1631, f_y_1632, f_y_1633, w_1627_0⟩ := w_1627_0
                      have w_1627_0 : (((y_1630).toInt ≤ (y_1631).toInt ∧ (y_1631).toInt ≤ (sl).toInt ∧ ((y_1629).toInt ≠ 0 → (y_1630).toInt + 1 ≤ (y_1631).toInt)) ∧ (y_1616).toInt ≤ (y_1630).toInt ∧ ((y_1619).toInt ≠ 0 → (y_1632).toInt ≠ 0) ∧ (((y_1632).toInt = 0 → ((y_1616).toInt + 1 ≤ (y_1630).toInt ∧ (y_1633).toInt = (dp).toInt + 1)))) ∧ m_hid ((y_1619).toInt = 0 → (((y_1632).toInt = 0 → (t_ix tb tn (y_1630 : Int32).toNatClampNeg) = (t_ix tb tn (y_1616 : Int32).toNatClampNeg) + 1) ∧ ((y_1632).toInt ≠ 0 → (on).toInt = 7))) := w_1627_0
                      obtain ⟨⟨⟨w_1627_0_0, w_1627_0_1, w_1627_0_2⟩, w_1627_0_3, w_1627_0_4, w_1627_0_5⟩, w_1627_0_6⟩ := w_1627_0
                      have b_y_1629 : 0 ≤ (y_1629).toInt ∧ (y_1629).toInt ≤ 3 := dg_I.intb (lo := 0) (hi := 3) I_1627 sM_0 (by decide +kernel) f_y_1629
                      have b_y_1630 : 0 ≤ (y_1630).toInt ∧ (y_1630).toInt ≤ 1600 := dg_I.intb (lo := 0) (hi := 1600) I_1627 sM_0 (by decide +kernel) f_y_1630
                      have b_y_1631 : 0 ≤ (y_1631).toInt ∧ (y_1631).toInt ≤ 1600 := dg_I.intb (lo := 0) (hi := 1600) I_1627 sM_0 (by decide +kernel) f_y_1631
                      have b_y_1632 : 0 ≤ (y_1632).toInt ∧ (y_1632).toInt ≤ 6 := dg_I.intb (lo := 0) (hi := 6) I_1627 sM_0 (by decide +kernel) f_y_1632
                      have b_y_1633 : 0 ≤ (y_1633).toInt ∧ (y_1633).toInt ≤ 20 := dg_I.intb (lo := 0) (hi := 20) I_1627 sM_0 (by decide +kernel) f_y_1633
                      replace w_1627_1 : ∀ k9 : Int32, S_1627.1 0 8 = .int k9 → k9.toInt = 0 → FRM S_1618 S_1627 (3 : Int32) := w_1627_1
                      refine lv_aload_n hx hb dX12_operand_292 rfl (lv_at hl 3 rfl) ?_
                      refine dg_get (C := RX12) (T := TX12) (N := 77) hx hb hts (fun w h => bw_mem (wU_X12 w h)) hown K hP sM_0 rfl 8 (by decide) (hts _ (bw_mem wB_303)) (fun _ h9 => h9) (v := .int y_1632) f_y_1632 dX12_operand_293 ?_
                      refine lv_if_ne (tgt := 311) hx hb dX12_operand_296 (by decide) (fun c_1634 => ?_) (fun c_1634 => ?_)
                      · have jc_1634 := dk_neqc (k := 0) (by decide +kernel) c_1634
                        have jbc_1634 : 1 ≤ (y_1632).toInt := by omega
                        clear jc_1634
                        clear w_1627_0_5
                        refine lv_iconst (v := 0) hx hb dX12_operand_311 (by decide +kernel) ?_
                        have hz_1635 : (0 : Int32).toInt = 0 := by decide +kernel
                        have hz_1636 : (0 : Int32).toInt = 0 := by decide +kernel
                        have hz_1637 : (0 : Int32).toInt = 0 := by decide +kernel
                        have hz_1638 : (0 : Int32).toInt = 0 := by decide +kernel
                        have hz_1639 : (0 : Int32).toInt = 0 := by decide +kernel
                        have hz_1640 : (0 : Int32).toInt = 0 := by decide +kernel
                        refine W.widen (k := 0) (n := 0) (Nat.le_of_ble_eq_true rfl) (Nat.le_of_ble_eq_true rfl) ?_
                        rw [hQ9]
                        exact dg_iret hx hb hr hlocks (by decide +kernel) hP hS ⟨I_1627, M_1627, (by decide +kernel), ⟨y_1629, y_1630, y_1631, y_1632, cd, y_1633, om, f_y_1629, f_y_1630, f_y_1631, f_y_1632, (((m_1627.1 0 34 _ sM_0 (by decide)).trans ((m_1618.1 0 34 _ sM_0 (by decide)).trans ((m_1614.1 0 34 _ sM_0 (by decide)).trans ((dg_uf_F e_682 0 34).trans (m_2.1 0 34 _ sM_0 (by decide)))))).trans f_cd), f_y_1633, (((m_1627.1 0 45 _ sM_0 (by decide)).trans ((m_1618.1 0 45 _ sM_0 (by decide)).trans ((m_1614.1 0 45 _ sM_0 (by decide)).trans ((dg_uf_F e_682 0 45).trans (m_2.1 0 45 _ sM_0 (by decide)))))).trans f_om), (by omega)⟩, (fun k9 hk9 hk0 => by have q9 := (f_y_1632).symm.trans hk9; cases q9; omega), (OPK.no f_sa f_fk f_y_1632 (by omega) (fun h0 => by rw [hM0]; exact m_st_f.trans ((m_opd_mm h171.out (h249.out.2 (by omega))).trans (m_mm_bad (by by_cases q5 : (T_kd tb tn (t_ix tb tn (y_1616 : Int32).toNatClampNeg)).toInt = 5; exact Or.inl (by rw [show (t_ix tb tn (sa : Int32).toNatClampNeg) + 1 = (t_ix tb tn (y_1616 : Int32).toNatClampNeg) from by omega]; exact g_s_5 q5); first | exact Or.inl (by rw [show (t_ix tb tn (sa : Int32).toNatClampNeg) + 1 = (t_ix tb tn (y_1616 : Int32).toNatClampNeg) from by omega]; exact qw_1622_1.out q5) | exact Or.inr (by have h9 := (w_1627_0_6.out (by omega)).2 (by omega); have h8 := dk_clN on; omega)))))), w_1627_2, (ZWM.keep (ZWM.keep (ZWM.keep (ZWM.keep (ZWM.keep ZW m_2 (by decide) (by decide) (by decide) (by decide)) (dg_sm.uf (WF := []) (WA := [24]) dg_sm.rf e_682 sM_24 (by decide)) (by decide) (by decide) (by decide) (by decide)) m_1614 (by decide) (by decide) (by decide) (by decide)) m_1618 (by decide) (by decide) (by decide) (by decide)) m_1627 (by decide) (by decide) (by decide) (by decide)), trivial⟩ dX12_operand_312
                      · have jc_1634 := dk_eqc (k := 0) (by decide +kernel) c_1634
                        have w_1627_0_4c : (y_1619).toInt = 0 := by omega
                        clear w_1627_0_4
                        have w_1627_0_5r := w_1627_0_5 (by omega)
                        clear w_1627_0_5
                        obtain ⟨w_1627_0_5r_0, w_1627_0_5r_1⟩ := w_1627_0_5r
                        refine lv_aload_n hx hb dX12_operand_299 rfl (lv_at hl 3 rfl) ?_
                        refine dg_get (C := RX12) (T := TX12) (N := 77) hx hb hts (fun w h => bw_mem (wU_X12 w h)) hown K hP sM_0 rfl 40 (by decide) (hts _ (bw_mem wB_435)) (fun _ h9 => h9) (v := .ref (o + 25)) (show S_1627.1 0 40 = .ref (o + 25) from dg_I.rel (d := 25) I_1627 sM_0 (by decide +kernel)) dX12_operand_300 ?_
                        refine lv_aload_n hx hb dX12_operand_303 rfl (lv_at hl 3 rfl) ?_
                        refine dg_get (C := RX12) (T := TX12) (N := 77) hx hb hts (fun w h => bw_mem (wU_X12 w h)) hown K hP sM_0 rfl 42 (by decide) (hts _ (bw_mem wB_406)) (fun _ h9 => h9) (v := .int y_1633) f_y_1633 dX12_operand_304 ?_
                        refine lv_iconst (v := 1) hx hb dX12_operand_307 (by decide +kernel) ?_
                        refine lv_isub hx hb dX12_operand_308 ?_
                        refine lv_topi (fun x_1641 ex_1641 => ?_)
                        have jx_1641 : (x_1641).toInt = (y_1633).toInt - 1 := by rw [ex_1641]; exact dk_subT rfl (by decide +kernel) (by omega) (by omega)
                        refine lv_iload_n hx hb dX12_operand_309 rfl (lv_at hl 0 rfl) ?_
                        have hin_1642 : vp_in x_1641 20 := (dk_inv (by omega) (by omega))
                        refine dg_iast hx hb K hP hS hA1 sM_25 hin_1642 dX12_operand_310 (fun S_1643 e_1643 H locs hP hS => ?_)
                        have I_1643 := dg_I.uf0 I_1627 e_1643 sM_25 (by decide +kernel)
                        have M_1643 := dg_sm.uf M_1627 e_1643 sM_25 (by decide)
                        have P0_1643 : P0M S_1643 := PBM.openp (PBM.keep (PBM.keep PB_682 m_1614 (by decide) (by decide) (by decide) (by decide) (by decide) (by decide) (by decide) (by decide) (by decide) (by decide) (by decide) (by decide) (by decide) (by decide) (by decide)) m_1618 (by decide) (by decide) (by decide) (by decide) (by decide) (by decide) (by decide) (by decide) (by decide) (by decide) (by decide) (by decide) (by decide) (by decide) (by decide)) (((m_1618.1 0 42 _ sM_0 (by decide)).trans ((m_1614.1 0 42 _ sM_0 (by decide)).trans ((dg_uf_F e_682 0 42).trans (m_2.1 0 42 _ sM_0 (by decide))))).trans f_dp) (((m_1618.1 0 43 _ sM_0 (by decide)).trans ((m_1614.1 0 43 _ sM_0 (by decide)).trans ((dg_uf_F e_682 0 43).trans (m_2.1 0 43 _ sM_0 (by decide))))).trans f_on) (((m_1618.1 0 45 _ sM_0 (by decide)).trans ((m_1614.1 0 45 _ sM_0 (by decide)).trans ((dg_uf_F e_682 0 45).trans (m_2.1 0 45 _ sM_0 (by decide))))).trans f_om) (w_1627_1 _ f_y_1632 (by omega)) m_1627 (by decide) (by decide) (by decide) (by decide) (by omega) f_y_1633 (by omega) e_1643
                        refine lv_iconst (v := 0) hx hb dX12_operand_311 (by decide +kernel) ?_
                        have hz_1644 : (0 : Int32).toInt = 0 := by decide +kernel
                        have hz_1645 : (0 : Int32).toInt = 0 := by decide +kernel
                        have hz_1646 : (0 : Int32).toInt = 0 := by decide +kernel
                        have hz_1647 : (0 : Int32).toInt = 0 := by decide +kernel
                        have hz_1648 : (0 : Int32).toInt = 0 := by decide +kernel
                        have hz_1649 : (0 : Int32).toInt = 0 := by decide +kernel
                        refine W.widen (k := 0) (n := 0) (Nat.le_of_ble_eq_true rfl) (Nat.le_of_ble_eq_true rfl) ?_
                        rw [hQ9]
                        exact dg_iret hx hb hr hlocks (by decide +kernel) hP hS ⟨I_1643, M_1643, (by decide +kernel), ⟨y_1629, y_1630, y_1631, y_1632, cd, y_1633, om, ((dg_uf_F e_1643 0 3).trans f_y_1629), ((dg_uf_F e_1643 0 4).trans f_y_1630), ((dg_uf_F e_1643 0 5).trans f_y_1631), ((dg_uf_F e_1643 0 8).trans f_y_1632), (((dg_uf_F e_1643 0 34).trans ((m_1627.1 0 34 _ sM_0 (by decide)).trans ((m_1618.1 0 34 _ sM_0 (by decide)).trans ((m_1614.1 0 34 _ sM_0 (by decide)).trans ((dg_uf_F e_682 0 34).trans (m_2.1 0 34 _ sM_0 (by decide))))))).trans f_cd), ((dg_uf_F e_1643 0 42).trans f_y_1633), (((dg_uf_F e_1643 0 45).trans ((m_1627.1 0 45 _ sM_0 (by decide)).trans ((m_1618.1 0 45 _ sM_0 (by decide)).trans ((m_1614.1 0 45 _ sM_0 (by decide)).trans ((dg_uf_F e_682 0 45).trans (m_2.1 0 45 _ sM_0 (by decide))))))).trans f_om), (by omega)⟩, (fun k9 hk9 hk0 => ⟨fun h9 => absurd h9 (by decide +kernel), fun _ => P0_1643⟩), (OPK.ok f_sa ((dg_uf_F e_1643 0 8).trans f_y_1632) ((dg_uf_F e_1643 0 4).trans f_y_1630) (by omega) hM0 (by have h9 := TFM.frm (TFM.keep (TFM.keep TF_682 m_1614 (by decide) (by decide) (by decide) (by decide) (by decide) (by decide) (by decide) (by decide)) m_1618 (by decide) (by decide) (by decide) (by decide) (by decide) (by decide) (by decide) (by decide)) (((m_1618.1 0 42 _ sM_0 (by decide)).trans ((m_1614.1 0 42 _ sM_0 (by decide)).trans ((dg_uf_F e_682 0 42).trans (m_2.1 0 42 _ sM_0 (by decide))))).trans f_dp) (((m_1618.1 0 43 _ sM_0 (by decide)).trans ((m_1614.1 0 43 _ sM_0 (by decide)).trans ((dg_uf_F e_682 0 43).trans (m_2.1 0 43 _ sM_0 (by decide))))).trans f_on) (((m_1618.1 0 45 _ sM_0 (by decide)).trans ((m_1614.1 0 45 _ sM_0 (by decide)).trans ((dg_uf_F e_682 0 45).trans (m_2.1 0 45 _ sM_0 (by decide))))).trans f_om) (by omega) (by omega) m_1627 (by decide) (by decide) (w_1627_1 _ f_y_1632 (by omega)); rw [show (3 : Int32).toInt = 3 from by decide +kernel] at h9; exact h9.keep (dg_sm.uf (WF := []) (WA := [25]) dg_sm.rf e_1643 sM_25 (by decide)) (by decide) (by decide) (by decide) (by decide) (by decide) (by decide) (by decide) (by decide)) (m_st_f.trans ((m_opd_mm h171.out (h249.out.2 (by omega))).trans ((if_pos (by rw [show (t_ix tb tn (sa : Int32).toNatClampNeg) + 1 = (t_ix tb tn (y_1616 : Int32).toNatClampNeg) from by omega]; exact qw_1622_1.out (by omega))).trans (if_neg (by have h9 := ((w_1627_1 _ f_y_1632 (by omega)).2 _ (((m_1618.1 0 43 _ sM_0 (by decide)).trans ((m_1614.1 0 43 _ sM_0 (by decide)).trans ((dg_uf_F e_682 0 43).trans (m_2.1 0 43 _ sM_0 (by decide))))).trans f_on)).1; have h8 := dk_clN on; omega))))) (by have h9 := (w_1627_0_6.out (by omega)).1 (by omega); omega) (by decide +kernel)), (TKM.keep w_1627_2 (dg_sm.uf (WF := []) (WA := [25]) dg_sm.rf e_1643 sM_25 (by decide)) (by decide) (by decide) (by decide) (by decide) (by decide) (by decide) (by decide) (by decide)), (ZWM.keep (ZWM.keep (ZWM.keep (ZWM.keep (ZWM.keep (ZWM.keep ZW m_2 (by decide) (by decide) (by decide) (by decide)) (dg_sm.uf (WF := []) (WA := [24]) dg_sm.rf e_682 sM_24 (by decide)) (by decide) (by decide) (by decide) (by decide)) m_1614 (by decide) (by decide) (by decide) (by decide)) m_1618 (by decide) (by decide) (by decide) (by decide)) m_1627 (by decide) (by decide) (by decide) (by decide)) (dg_sm.uf (WF := []) (WA := [25]) dg_sm.rf e_1643 sM_25 (by decide)) (by decide) (by decide) (by decide) (by decide)), trivial⟩ dX12_operand_312
                    · have jc_1625 := dk_eqc (k := 44) (by decide +kernel) c_1625
                      refine lv_bipush (v := 6) hx hb dX12_operand_283 (by decide +kernel) ?_
                      refine lv_goto (tgt := 289) hx hb dX12_operand_285 (by decide) ?_
                      have hz_1650 : (6 : Int32).toInt = 6 := by decide +kernel
                      refine dg_callv hS hA1 hA (va_runV (As := [.int 6]) (rest := []) F (c_m_frames l g D o S_1618 6 (by decide +kernel) tb tn y_1615 ((m_1618.1 0 3 _ sM_0 (by decide)).trans f_y_1615) (by omega) y_1616 ((m_1618.1 0 4 _ sM_0 (by decide)).trans f_y_1616) (by omega) y_1617 ((m_1618.1 0 5 _ sM_0 (by decide)).trans f_y_1617) (by omega) sl (((m_1618.1 0 2 _ sM_0 (by decide)).trans ((m_1614.1 0 2 _ sM_0 (by decide)).trans ((dg_uf_F e_682 0 2).trans (m_2.1 0 2 _ sM_0 (by decide))))).trans f_sl) (by omega) y_1619 f_y_1619 (by omega) dp (((m_1618.1 0 42 _ sM_0 (by decide)).trans ((m_1614.1 0 42 _ sM_0 (by decide)).trans ((dg_uf_F e_682 0 42).trans (m_2.1 0 42 _ sM_0 (by decide))))).trans f_dp) (by omega) om (((m_1618.1 0 45 _ sM_0 (by decide)).trans ((m_1614.1 0 45 _ sM_0 (by decide)).trans ((dg_uf_F e_682 0 45).trans (m_2.1 0 45 _ sM_0 (by decide))))).trans f_om) (by omega) on (((m_1618.1 0 43 _ sM_0 (by decide)).trans ((m_1614.1 0 43 _ sM_0 (by decide)).trans ((dg_uf_F e_682 0 43).trans (m_2.1 0 43 _ sM_0 (by decide))))).trans f_on) (by omega) (by omega) (by omega) (TKM.keep TK_1614 m_1618 (by decide) (by decide) (by decide) (by decide) (by decide) (by decide) (by decide) (by decide)) I_1618 H.size) (cwV 1 hts (bw_V wB_431 wB_432 wB_433 wB_297 wB_430) rfl rfl rfl (by decide +kernel) ⟨Nat.le_of_ble_eq_true rfl, Nat.le_of_ble_eq_true rfl⟩) (dg_preV sM_0 rfl K ST hP hS hA1 hA) rfl rfl hl.1 rfl (lv_room (Nat.le_of_ble_eq_true rfl)) dX12_operand_289 ⟨Nat.le_of_ble_eq_true rfl, Nat.le_of_ble_eq_true rfl⟩) (fun S_1651 hw_1651 H locs hP hS => ?_)
                      obtain ⟨I_1651, m_1651, w_1651_0, w_1651_1, w_1651_2, -⟩ := hw_1651
                      have M_1651 := dg_sm.tr M_1618 m_1651 (by decide) (by decide)
                      have hz_1652 : (6 : Int32).toInt = 6 := by decide +kernel
                      obtain ⟨y_1653, y_1654, y_1655, y_1656, y_1657, f_y_1653, f_y_1654, f_y_1655, f_y_1656, f_y_1657, w_1651_0⟩ := w_1651_0
                      have w_1651_0 : (((y_1654).toInt ≤ (y_1655).toInt ∧ (y_1655).toInt ≤ (sl).toInt ∧ ((y_1653).toInt ≠ 0 → (y_1654).toInt + 1 ≤ (y_1655).toInt)) ∧ (y_1616).toInt ≤ (y_1654).toInt ∧ ((y_1619).toInt ≠ 0 → (y_1656).toInt ≠ 0) ∧ (((y_1656).toInt = 0 → ((y_1616).toInt + 1 ≤ (y_1654).toInt ∧ (y_1657).toInt = (dp).toInt + 1)))) ∧ m_hid ((y_1619).toInt = 0 → (((y_1656).toInt = 0 → (t_ix tb tn (y_1654 : Int32).toNatClampNeg) = (t_ix tb tn (y_1616 : Int32).toNatClampNeg) + 1) ∧ ((y_1656).toInt ≠ 0 → (on).toInt = 7))) := w_1651_0
                      obtain ⟨⟨⟨w_1651_0_0, w_1651_0_1, w_1651_0_2⟩, w_1651_0_3, w_1651_0_4, w_1651_0_5⟩, w_1651_0_6⟩ := w_1651_0
                      have b_y_1653 : 0 ≤ (y_1653).toInt ∧ (y_1653).toInt ≤ 3 := dg_I.intb (lo := 0) (hi := 3) I_1651 sM_0 (by decide +kernel) f_y_1653
                      have b_y_1654 : 0 ≤ (y_1654).toInt ∧ (y_1654).toInt ≤ 1600 := dg_I.intb (lo := 0) (hi := 1600) I_1651 sM_0 (by decide +kernel) f_y_1654
                      have b_y_1655 : 0 ≤ (y_1655).toInt ∧ (y_1655).toInt ≤ 1600 := dg_I.intb (lo := 0) (hi := 1600) I_1651 sM_0 (by decide +kernel) f_y_1655
                      have b_y_1656 : 0 ≤ (y_1656).toInt ∧ (y_1656).toInt ≤ 6 := dg_I.intb (lo := 0) (hi := 6) I_1651 sM_0 (by decide +kernel) f_y_1656
                      have b_y_1657 : 0 ≤ (y_1657).toInt ∧ (y_1657).toInt ≤ 20 := dg_I.intb (lo := 0) (hi := 20) I_1651 sM_0 (by decide +kernel) f_y_1657
                      replace w_1651_1 : ∀ k9 : Int32, S_1651.1 0 8 = .int k9 → k9.toInt = 0 → FRM S_1618 S_1651 (6 : Int32) := w_1651_1
                      refine lv_aload_n hx hb dX12_operand_292 rfl (lv_at hl 3 rfl) ?_
                      refine dg_get (C := RX12) (T := TX12) (N := 77) hx hb hts (fun w h => bw_mem (wU_X12 w h)) hown K hP sM_0 rfl 8 (by decide) (hts _ (bw_mem wB_303)) (fun _ h9 => h9) (v := .int y_1656) f_y_1656 dX12_operand_293 ?_
                      refine lv_if_ne (tgt := 311) hx hb dX12_operand_296 (by decide) (fun c_1658 => ?_) (fun c_1658 => ?_)
                      · have jc_1658 := dk_neqc (k := 0) (by decide +kernel) c_1658
                        have jbc_1658 : 1 ≤ (y_1656).toInt := by omega
                        clear jc_1658
                        clear w_1651_0_5
                        refine lv_iconst (v := 0) hx hb dX12_operand_311 (by decide +kernel) ?_
                        have hz_1659 : (0 : Int32).toInt = 0 := by decide +kernel
                        have hz_1660 : (0 : Int32).toInt = 0 := by decide +kernel
                        have hz_1661 : (0 : Int32).toInt = 0 := by decide +kernel
                        have hz_1662 : (0 : Int32).toInt = 0 := by decide +kernel
                        have hz_1663 : (0 : Int32).toInt = 0 := by decide +kernel
                        have hz_1664 : (0 : Int32).toInt = 0 := by decide +kernel
                        refine W.widen (k := 0) (n := 0) (Nat.le_of_ble_eq_true rfl) (Nat.le_of_ble_eq_true rfl) ?_
                        rw [hQ9]
                        exact dg_iret hx hb hr hlocks (by decide +kernel) hP hS ⟨I_1651, M_1651, (by decide +kernel), ⟨y_1653, y_1654, y_1655, y_1656, cd, y_1657, om, f_y_1653, f_y_1654, f_y_1655, f_y_1656, (((m_1651.1 0 34 _ sM_0 (by decide)).trans ((m_1618.1 0 34 _ sM_0 (by decide)).trans ((m_1614.1 0 34 _ sM_0 (by decide)).trans ((dg_uf_F e_682 0 34).trans (m_2.1 0 34 _ sM_0 (by decide)))))).trans f_cd), f_y_1657, (((m_1651.1 0 45 _ sM_0 (by decide)).trans ((m_1618.1 0 45 _ sM_0 (by decide)).trans ((m_1614.1 0 45 _ sM_0 (by decide)).trans ((dg_uf_F e_682 0 45).trans (m_2.1 0 45 _ sM_0 (by decide)))))).trans f_om), (by omega)⟩, (fun k9 hk9 hk0 => by have q9 := (f_y_1656).symm.trans hk9; cases q9; omega), (OPK.no f_sa f_fk f_y_1656 (by omega) (fun h0 => by rw [hM0]; exact m_st_f.trans ((m_opd_if h171.out (h249.out.1 (by omega))).trans (m_mm_bad (by by_cases q5 : (T_kd tb tn (t_ix tb tn (y_1616 : Int32).toNatClampNeg)).toInt = 5; exact Or.inl (by rw [show (t_ix tb tn (sa : Int32).toNatClampNeg) + 1 = (t_ix tb tn (y_1616 : Int32).toNatClampNeg) from by omega]; exact g_s_5 q5); first | exact Or.inl (by rw [show (t_ix tb tn (sa : Int32).toNatClampNeg) + 1 = (t_ix tb tn (y_1616 : Int32).toNatClampNeg) from by omega]; exact qw_1622_1.out q5) | exact Or.inr (by have h9 := (w_1651_0_6.out (by omega)).2 (by omega); have h8 := dk_clN on; omega)))))), w_1651_2, (ZWM.keep (ZWM.keep (ZWM.keep (ZWM.keep (ZWM.keep ZW m_2 (by decide) (by decide) (by decide) (by decide)) (dg_sm.uf (WF := []) (WA := [24]) dg_sm.rf e_682 sM_24 (by decide)) (by decide) (by decide) (by decide) (by decide)) m_1614 (by decide) (by decide) (by decide) (by decide)) m_1618 (by decide) (by decide) (by decide) (by decide)) m_1651 (by decide) (by decide) (by decide) (by decide)), trivial⟩ dX12_operand_312
                      · have jc_1658 := dk_eqc (k := 0) (by decide +kernel) c_1658
                        have w_1651_0_4c : (y_1619).toInt = 0 := by omega
                        clear w_1651_0_4
                        have w_1651_0_5r := w_1651_0_5 (by omega)
                        clear w_1651_0_5
                        obtain ⟨w_1651_0_5r_0, w_1651_0_5r_1⟩ := w_1651_0_5r
                        refine lv_aload_n hx hb dX12_operand_299 rfl (lv_at hl 3 rfl) ?_
                        refine dg_get (C := RX12) (T := TX12) (N := 77) hx hb hts (fun w h => bw_mem (wU_X12 w h)) hown K hP sM_0 rfl 40 (by decide) (hts _ (bw_mem wB_435)) (fun _ h9 => h9) (v := .ref (o + 25)) (show S_1651.1 0 40 = .ref (o + 25) from dg_I.rel (d := 25) I_1651 sM_0 (by decide +kernel)) dX12_operand_300 ?_
                        refine lv_aload_n hx hb dX12_operand_303 rfl (lv_at hl 3 rfl) ?_
                        refine dg_get (C := RX12) (T := TX12) (N := 77) hx hb hts (fun w h => bw_mem (wU_X12 w h)) hown K hP sM_0 rfl 42 (by decide) (hts _ (bw_mem wB_406)) (fun _ h9 => h9) (v := .int y_1657) f_y_1657 dX12_operand_304 ?_
                        refine lv_iconst (v := 1) hx hb dX12_operand_307 (by decide +kernel) ?_
                        refine lv_isub hx hb dX12_operand_308 ?_
                        refine lv_topi (fun x_1665 ex_1665 => ?_)
                        have jx_1665 : (x_1665).toInt = (y_1657).toInt - 1 := by rw [ex_1665]; exact dk_subT rfl (by decide +kernel) (by omega) (by omega)
                        refine lv_iload_n hx hb dX12_operand_309 rfl (lv_at hl 0 rfl) ?_
                        have hin_1666 : vp_in x_1665 20 := (dk_inv (by omega) (by omega))
                        refine dg_iast hx hb K hP hS hA1 sM_25 hin_1666 dX12_operand_310 (fun S_1667 e_1667 H locs hP hS => ?_)
                        have I_1667 := dg_I.uf0 I_1651 e_1667 sM_25 (by decide +kernel)
                        have M_1667 := dg_sm.uf M_1651 e_1667 sM_25 (by decide)
                        have P0_1667 : P0M S_1667 := PBM.openp (PBM.keep (PBM.keep PB_682 m_1614 (by decide) (by decide) (by decide) (by decide) (by decide) (by decide) (by decide) (by decide) (by decide) (by decide) (by decide) (by decide) (by decide) (by decide) (by decide)) m_1618 (by decide) (by decide) (by decide) (by decide) (by decide) (by decide) (by decide) (by decide) (by decide) (by decide) (by decide) (by decide) (by decide) (by decide) (by decide)) (((m_1618.1 0 42 _ sM_0 (by decide)).trans ((m_1614.1 0 42 _ sM_0 (by decide)).trans ((dg_uf_F e_682 0 42).trans (m_2.1 0 42 _ sM_0 (by decide))))).trans f_dp) (((m_1618.1 0 43 _ sM_0 (by decide)).trans ((m_1614.1 0 43 _ sM_0 (by decide)).trans ((dg_uf_F e_682 0 43).trans (m_2.1 0 43 _ sM_0 (by decide))))).trans f_on) (((m_1618.1 0 45 _ sM_0 (by decide)).trans ((m_1614.1 0 45 _ sM_0 (by decide)).trans ((dg_uf_F e_682 0 45).trans (m_2.1 0 45 _ sM_0 (by decide))))).trans f_om) (w_1651_1 _ f_y_1656 (by omega)) m_1651 (by decide) (by decide) (by decide) (by decide) (by omega) f_y_1657 (by omega) e_1667
                        refine lv_iconst (v := 0) hx hb dX12_operand_311 (by decide +kernel) ?_
                        have hz_1668 : (0 : Int32).toInt = 0 := by decide +kernel
                        have hz_1669 : (0 : Int32).toInt = 0 := by decide +kernel
                        have hz_1670 : (0 : Int32).toInt = 0 := by decide +kernel
                        have hz_1671 : (0 : Int32).toInt = 0 := by decide +kernel
                        have hz_1672 : (0 : Int32).toInt = 0 := by decide +kernel
                        have hz_1673 : (0 : Int32).toInt = 0 := by decide +kernel
                        refine W.widen (k := 0) (n := 0) (Nat.le_of_ble_eq_true rfl) (Nat.le_of_ble_eq_true rfl) ?_
                        rw [hQ9]
                        exact dg_iret hx hb hr hlocks (by decide +kernel) hP hS ⟨I_1667, M_1667, (by decide +kernel), ⟨y_1653, y_1654, y_1655, y_1656, cd, y_1657, om, ((dg_uf_F e_1667 0 3).trans f_y_1653), ((dg_uf_F e_1667 0 4).trans f_y_1654), ((dg_uf_F e_1667 0 5).trans f_y_1655), ((dg_uf_F e_1667 0 8).trans f_y_1656), (((dg_uf_F e_1667 0 34).trans ((m_1651.1 0 34 _ sM_0 (by decide)).trans ((m_1618.1 0 34 _ sM_0 (by decide)).trans ((m_1614.1 0 34 _ sM_0 (by decide)).trans ((dg_uf_F e_682 0 34).trans (m_2.1 0 34 _ sM_0 (by decide))))))).trans f_cd), ((dg_uf_F e_1667 0 42).trans f_y_1657), (((dg_uf_F e_1667 0 45).trans ((m_1651.1 0 45 _ sM_0 (by decide)).trans ((m_1618.1 0 45 _ sM_0 (by decide)).trans ((m_1614.1 0 45 _ sM_0 (by decide)).trans ((dg_uf_F e_682 0 45).trans (m_2.1 0 45 _ sM_0 (by decide))))))).trans f_om), (by omega)⟩, (fun k9 hk9 hk0 => ⟨fun h9 => absurd h9 (by decide +kernel), fun _ => P0_1667⟩), (OPK.ok f_sa ((dg_uf_F e_1667 0 8).trans f_y_1656) ((dg_uf_F e_1667 0 4).trans f_y_1654) (by omega) hM0 (by have h9 := TFM.frm (TFM.keep (TFM.keep TF_682 m_1614 (by decide) (by decide) (by decide) (by decide) (by decide) (by decide) (by decide) (by decide)) m_1618 (by decide) (by decide) (by decide) (by decide) (by decide) (by decide) (by decide) (by decide)) (((m_1618.1 0 42 _ sM_0 (by decide)).trans ((m_1614.1 0 42 _ sM_0 (by decide)).trans ((dg_uf_F e_682 0 42).trans (m_2.1 0 42 _ sM_0 (by decide))))).trans f_dp) (((m_1618.1 0 43 _ sM_0 (by decide)).trans ((m_1614.1 0 43 _ sM_0 (by decide)).trans ((dg_uf_F e_682 0 43).trans (m_2.1 0 43 _ sM_0 (by decide))))).trans f_on) (((m_1618.1 0 45 _ sM_0 (by decide)).trans ((m_1614.1 0 45 _ sM_0 (by decide)).trans ((dg_uf_F e_682 0 45).trans (m_2.1 0 45 _ sM_0 (by decide))))).trans f_om) (by omega) (by omega) m_1651 (by decide) (by decide) (w_1651_1 _ f_y_1656 (by omega)); rw [show (6 : Int32).toInt = 6 from by decide +kernel] at h9; exact h9.keep (dg_sm.uf (WF := []) (WA := [25]) dg_sm.rf e_1667 sM_25 (by decide)) (by decide) (by decide) (by decide) (by decide) (by decide) (by decide) (by decide) (by decide)) (m_st_f.trans ((m_opd_if h171.out (h249.out.1 (by omega))).trans ((if_pos (by rw [show (t_ix tb tn (sa : Int32).toNatClampNeg) + 1 = (t_ix tb tn (y_1616 : Int32).toNatClampNeg) from by omega]; exact qw_1622_1.out (by omega))).trans (if_neg (by have h9 := ((w_1651_1 _ f_y_1656 (by omega)).2 _ (((m_1618.1 0 43 _ sM_0 (by decide)).trans ((m_1614.1 0 43 _ sM_0 (by decide)).trans ((dg_uf_F e_682 0 43).trans (m_2.1 0 43 _ sM_0 (by decide))))).trans f_on)).1; have h8 := dk_clN on; omega))))) (by have h9 := (w_1651_0_6.out (by omega)).1 (by omega); omega) (by decide +kernel)), (TKM.keep w_1651_2 (dg_sm.uf (WF := []) (WA := [25]) dg_sm.rf e_1667 sM_25 (by decide)) (by decide) (by decide) (by decide) (by decide) (by decide) (by decide) (by decide) (by decide)), (ZWM.keep (ZWM.keep (ZWM.keep (ZWM.keep (ZWM.keep (ZWM.keep ZW m_2 (by decide) (by decide) (by decide) (by decide)) (dg_sm.uf (WF := []) (WA := [24]) dg_sm.rf e_682 sM_24 (by decide)) (by decide) (by decide) (by decide) (by decide)) m_1614 (by decide) (by decide) (by decide) (by decide)) m_1618 (by decide) (by decide) (by decide) (by decide)) m_1651 (by decide) (by decide) (by decide) (by decide)) (dg_sm.uf (WF := []) (WA := [25]) dg_sm.rf e_1667 sM_25 (by decide)) (by decide) (by decide) (by decide) (by decide)), trivial⟩ dX12_operand_312
                  · have jc_1624 := dk_eqc (k := 0) (by decide +kernel) c_1624
                    have qw_1622_1 : m_hid ((T_kd tb tn (t_ix tb tn (y_1616 : Int32).toNatClampNeg)).toInt ≠ 5 → g_s (T_kd tb tn) (T_vl tb tn) 40 (t_ix tb tn (y_1616 : Int32).toNatClampNeg) = false) := m_hid.mk (fun h5 => g_iff_f (TKM.iss (TKM.keep TK_1614 m_1618 (by decide) (by decide) (by decide) (by decide) (by decide) (by decide) (by decide) (by decide)) ((m_1618.1 0 3 _ sM_0 (by decide)).trans f_y_1615) ((m_1618.1 0 4 _ sM_0 (by decide)).trans f_y_1616) f_x_1620 h5 (c := 40) (by have h9 := w_1622_1; rw [show (40 : Int32).toInt = 40 from by decide +kernel] at h9; exact h9)) (by omega))
                    clear w_1622_1
                    refine lv_aload_n hx hb dX12_operand_267 rfl (lv_at hl 3 rfl) ?_
                    refine lv_iconst (v := 1) hx hb dX12_operand_268 (by decide +kernel) ?_
                    refine lv_aload_n hx hb dX12_operand_269 rfl (lv_at hl 3 rfl) ?_
                    refine dg_get (C := RX12) (T := TX12) (N := 77) hx hb hts (fun w h => bw_mem (wU_X12 w h)) hown K hP sM_0 rfl 4 (by decide) (hts _ (bw_mem wB_291)) (fun _ h9 => h9) (v := .int y_1616) ((m_1618.1 0 4 _ sM_0 (by decide)).trans f_y_1616) dX12_operand_270 ?_
                    have hz_1674 : (1 : Int32).toInt = 1 := by decide +kernel
                    refine dg_callv hS hA1 hA (va_runV (As := [.int 1, .int y_1616]) (rest := []) F (c_m_blame l g D o S_1618 1 (by decide +kernel) y_1616 y_1619 f_y_1619 (by omega) I_1618 H.size) (cwV 2 hts (bw_V wB_306 wB_307 wB_308 wB_297 wB_305) rfl rfl rfl (by decide +kernel) ⟨Nat.le_of_ble_eq_true rfl, Nat.le_of_ble_eq_true rfl⟩) (dg_preV sM_0 rfl K ST hP hS hA1 hA) rfl rfl hl.1 rfl (lv_room (Nat.le_of_ble_eq_true rfl)) dX12_operand_273 ⟨Nat.le_of_ble_eq_true rfl, Nat.le_of_ble_eq_true rfl⟩) (fun S_1675 hw_1675 H locs hP hS => ?_)
                    obtain ⟨I_1675, m_1675, w_1675_0, -⟩ := hw_1675
                    have M_1675 := dg_sm.tr M_1618 m_1675 (by decide) (by decide)
                    have hz_1676 : (1 : Int32).toInt = 1 := by decide +kernel
                    obtain ⟨y_1677, f_y_1677, w_1675_0⟩ := w_1675_0
                    have w_1675_0 : ((y_1619).toInt ≠ 0 → (y_1677).toInt = (y_1619).toInt) ∧ ((y_1619).toInt = 0 → (y_1677).toInt = ((1 : Int32)).toInt) := w_1675_0
                    obtain ⟨w_1675_0_0, w_1675_0_1⟩ := w_1675_0
                    have b_y_1677 : 0 ≤ (y_1677).toInt ∧ (y_1677).toInt ≤ 6 := dg_I.intb (lo := 0) (hi := 6) I_1675 sM_0 (by decide +kernel) f_y_1677
                    have hbl_y_1677 : 1 ≤ (y_1677).toInt := by omega
                    refine lv_aload_n hx hb dX12_operand_276 rfl (lv_at hl 3 rfl) ?_
                    refine lv_iload_n hx hb dX12_operand_277 rfl (lv_at hl 0 rfl) ?_
                    refine lv_bipush (v := 44) hx hb dX12_operand_278 (by decide +kernel) ?_
                    refine lv_icmp_ne (tgt := 288) hx hb dX12_operand_280 (by decide) (fun c_1678 => ?_) (fun c_1678 => ?_)
                    · have jc_1678 := dk_neqc (k := 44) (by decide +kernel) c_1678
                      have jtc_1678 : (x_1499).toInt ≤ 43 := by omega
                      clear jc_1678
                      refine lv_iconst (v := 3) hx hb dX12_operand_288 (by decide +kernel) ?_
                      have hz_1679 : (3 : Int32).toInt = 3 := by decide +kernel
                      refine dg_callv hS hA1 hA (va_runV (As := [.int 3]) (rest := []) F (c_m_frames l g D o S_1675 3 (by decide +kernel) tb tn y_1615 (((m_1675.1 0 3 _ sM_0 (by decide)).trans (m_1618.1 0 3 _ sM_0 (by decide))).trans f_y_1615) (by omega) y_1616 (((m_1675.1 0 4 _ sM_0 (by decide)).trans (m_1618.1 0 4 _ sM_0 (by decide))).trans f_y_1616) (by omega) y_1617 (((m_1675.1 0 5 _ sM_0 (by decide)).trans (m_1618.1 0 5 _ sM_0 (by decide))).trans f_y_1617) (by omega) sl (((m_1675.1 0 2 _ sM_0 (by decide)).trans ((m_1618.1 0 2 _ sM_0 (by decide)).trans ((m_1614.1 0 2 _ sM_0 (by decide)).trans ((dg_uf_F e_682 0 2).trans (m_2.1 0 2 _ sM_0 (by decide)))))).trans f_sl) (by omega) y_1677 f_y_1677 (by omega) dp (((m_1675.1 0 42 _ sM_0 (by decide)).trans ((m_1618.1 0 42 _ sM_0 (by decide)).trans ((m_1614.1 0 42 _ sM_0 (by decide)).trans ((dg_uf_F e_682 0 42).trans (m_2.1 0 42 _ sM_0 (by decide)))))).trans f_dp) (by omega) om (((m_1675.1 0 45 _ sM_0 (by decide)).trans ((m_1618.1 0 45 _ sM_0 (by decide)).trans ((m_1614.1 0 45 _ sM_0 (by decide)).trans ((dg_uf_F e_682 0 45).trans (m_2.1 0 45 _ sM_0 (by decide)))))).trans f_om) (by omega) on (((m_1675.1 0 43 _ sM_0 (by decide)).trans ((m_1618.1 0 43 _ sM_0 (by decide)).trans ((m_1614.1 0 43 _ sM_0 (by decide)).trans ((dg_uf_F e_682 0 43).trans (m_2.1 0 43 _ sM_0 (by decide)))))).trans f_on) (by omega) (by omega) (by omega) (TKM.keep (TKM.keep TK_1614 m_1618 (by decide) (by decide) (by decide) (by decide) (by decide) (by decide) (by decide) (by decide)) m_1675 (by decide) (by decide) (by decide) (by decide) (by decide) (by decide) (by decide) (by decide)) I_1675 H.size) (cwV 1 hts (bw_V wB_431 wB_432 wB_433 wB_297 wB_430) rfl rfl rfl (by decide +kernel) ⟨Nat.le_of_ble_eq_true rfl, Nat.le_of_ble_eq_true rfl⟩) (dg_preV sM_0 rfl K ST hP hS hA1 hA) rfl rfl hl.1 rfl (lv_room (Nat.le_of_ble_eq_true rfl)) dX12_operand_289 ⟨Nat.le_of_ble_eq_true rfl, Nat.le_of_ble_eq_true rfl⟩) (fun S_1680 hw_1680 H locs hP hS => ?_)
                      obtain ⟨I_1680, m_1680, w_1680_0, w_1680_1, w_1680_2, -⟩ := hw_1680
                      have M_1680 := dg_sm.tr M_1675 m_1680 (by decide) (by decide)
                      have hz_1681 : (3 : Int32).toInt = 3 := by decide +kernel
                      obtain ⟨y_1682, y_1683, y_1684, y_1685, y_1686, f_y_1682, f_y_1683, f_y_1684, f_y_1685, f_y_1686, w_1680_0⟩ := w_1680_0
                      have w_1680_0 : (((y_1683).toInt ≤ (y_1684).toInt ∧ (y_1684).toInt ≤ (sl).toInt ∧ ((y_1682).toInt ≠ 0 → (y_1683).toInt + 1 ≤ (y_1684).toInt)) ∧ (y_1616).toInt ≤ (y_1683).toInt ∧ ((y_1677).toInt ≠ 0 → (y_1685).toInt ≠ 0) ∧ (((y_1685).toInt = 0 → ((y_1616).toInt + 1 ≤ (y_1683).toInt ∧ (y_1686).toInt = (dp).toInt + 1)))) ∧ m_hid ((y_1677).toInt = 0 → (((y_1685).toInt = 0 → (t_ix tb tn (y_1683 : Int32).toNatClampNeg) = (t_ix tb tn (y_1616 : Int32).toNatClampNeg) + 1) ∧ ((y_1685).toInt ≠ 0 → (on).toInt = 7))) := w_1680_0
                      obtain ⟨⟨⟨w_1680_0_0, w_1680_0_1, w_1680_0_2⟩, w_1680_0_3, w_1680_0_4, w_1680_0_5⟩, w_1680_0_6⟩ := w_1680_0
                      have w_1680_0_4r := w_1680_0_4 (by omega)
                      clear w_1680_0_4
                      have b_y_1682 : 0 ≤ (y_1682).toInt ∧ (y_1682).toInt ≤ 3 := dg_I.intb (lo := 0) (hi := 3) I_1680 sM_0 (by decide +kernel) f_y_1682
                      have b_y_1683 : 0 ≤ (y_1683).toInt ∧ (y_1683).toInt ≤ 1600 := dg_I.intb (lo := 0) (hi := 1600) I_1680 sM_0 (by decide +kernel) f_y_1683
                      have b_y_1684 : 0 ≤ (y_1684).toInt ∧ (y_1684).toInt ≤ 1600 := dg_I.intb (lo := 0) (hi := 1600) I_1680 sM_0 (by decide +kernel) f_y_1684
                      have b_y_1685 : 0 ≤ (y_1685).toInt ∧ (y_1685).toInt ≤ 6 := dg_I.intb (lo := 0) (hi := 6) I_1680 sM_0 (by decide +kernel) f_y_1685
                      have b_y_1686 : 0 ≤ (y_1686).toInt ∧ (y_1686).toInt ≤ 20 := dg_I.intb (lo := 0) (hi := 20) I_1680 sM_0 (by decide +kernel) f_y_1686
                      replace w_1680_1 : ∀ k9 : Int32, S_1680.1 0 8 = .int k9 → k9.toInt = 0 → FRM S_1675 S_1680 (3 : Int32) := w_1680_1
                      refine lv_aload_n hx hb dX12_operand_292 rfl (lv_at hl 3 rfl) ?_
                      refine dg_get (C := RX12) (T := TX12) (N := 77) hx hb hts (fun w h => bw_mem (wU_X12 w h)) hown K hP sM_0 rfl 8 (by decide) (hts _ (bw_mem wB_303)) (fun _ h9 => h9) (v := .int y_1685) f_y_1685 dX12_operand_293 ?_
                      refine lv_if_ne (tgt := 311) hx hb dX12_operand_296 (by decide) (fun c_1687 => ?_) (fun c_1687 => ?_)
                      · have jc_1687 := dk_neqc (k := 0) (by decide +kernel) c_1687
                        have jbc_1687 : 1 ≤ (y_1685).toInt := by omega
                        clear jc_1687
                        clear w_1680_0_5
                        refine lv_iconst (v := 0) hx hb dX12_operand_311 (by decide +kernel) ?_
                        have hz_1688 : (0 : Int32).toInt = 0 := by decide +kernel
                        have hz_1689 : (0 : Int32).toInt = 0 := by decide +kernel
                        have hz_1690 : (0 : Int32).toInt = 0 := by decide +kernel
                        have hz_1691 : (0 : Int32).toInt = 0 := by decide +kernel
                        have hz_1692 : (0 : Int32).toInt = 0 := by decide +kernel
                        have hz_1693 : (0 : Int32).toInt = 0 := by decide +kernel
                        refine W.widen (k := 0) (n := 0) (Nat.le_of_ble_eq_true rfl) (Nat.le_of_ble_eq_true rfl) ?_
                        rw [hQ9]
                        exact dg_iret hx hb hr hlocks (by decide +kernel) hP hS ⟨I_1680, M_1680, (by decide +kernel), ⟨y_1682, y_1683, y_1684, y_1685, cd, y_1686, om, f_y_1682, f_y_1683, f_y_1684, f_y_1685, (((m_1680.1 0 34 _ sM_0 (by decide)).trans ((m_1675.1 0 34 _ sM_0 (by decide)).trans ((m_1618.1 0 34 _ sM_0 (by decide)).trans ((m_1614.1 0 34 _ sM_0 (by decide)).trans ((dg_uf_F e_682 0 34).trans (m_2.1 0 34 _ sM_0 (by decide))))))).trans f_cd), f_y_1686, (((m_1680.1 0 45 _ sM_0 (by decide)).trans ((m_1675.1 0 45 _ sM_0 (by decide)).trans ((m_1618.1 0 45 _ sM_0 (by decide)).trans ((m_1614.1 0 45 _ sM_0 (by decide)).trans ((dg_uf_F e_682 0 45).trans (m_2.1 0 45 _ sM_0 (by decide))))))).trans f_om), (by omega)⟩, (fun k9 hk9 hk0 => by have q9 := (f_y_1685).symm.trans hk9; cases q9; omega), (OPK.no f_sa f_fk f_y_1685 (by omega) (fun h0 => by rw [hM0]; exact m_st_f.trans ((m_opd_mm h171.out (h249.out.2 (by omega))).trans (m_mm_bad (by by_cases q5 : (T_kd tb tn (t_ix tb tn (y_1616 : Int32).toNatClampNeg)).toInt = 5; exact Or.inl (by rw [show (t_ix tb tn (sa : Int32).toNatClampNeg) + 1 = (t_ix tb tn (y_1616 : Int32).toNatClampNeg) from by omega]; exact g_s_5 q5); first | exact Or.inl (by rw [show (t_ix tb tn (sa : Int32).toNatClampNeg) + 1 = (t_ix tb tn (y_1616 : Int32).toNatClampNeg) from by omega]; exact qw_1622_1.out q5) | exact Or.inr (by have h9 := (w_1680_0_6.out (by omega)).2 (by omega); have h8 := dk_clN on; omega)))))), w_1680_2, (ZWM.keep (ZWM.keep (ZWM.keep (ZWM.keep (ZWM.keep (ZWM.keep ZW m_2 (by decide) (by decide) (by decide) (by decide)) (dg_sm.uf (WF := []) (WA := [24]) dg_sm.rf e_682 sM_24 (by decide)) (by decide) (by decide) (by decide) (by decide)) m_1614 (by decide) (by decide) (by decide) (by decide)) m_1618 (by decide) (by decide) (by decide) (by decide)) m_1675 (by decide) (by decide) (by decide) (by decide)) m_1680 (by decide) (by decide) (by decide) (by decide)), trivial⟩ dX12_operand_312
                      · have jc_1687 := dk_eqc (k := 0) (by decide +kernel) c_1687
                        have w_1680_0_5r := w_1680_0_5 (by omega)
                        clear w_1680_0_5
                        obtain ⟨w_1680_0_5r_0, w_1680_0_5r_1⟩ := w_1680_0_5r
                        refine lv_aload_n hx hb dX12_operand_299 rfl (lv_at hl 3 rfl) ?_
                        refine dg_get (C := RX12) (T := TX12) (N := 77) hx hb hts (fun w h => bw_mem (wU_X12 w h)) hown K hP sM_0 rfl 40 (by decide) (hts _ (bw_mem wB_435)) (fun _ h9 => h9) (v := .ref (o + 25)) (show S_1680.1 0 40 = .ref (o + 25) from dg_I.rel (d := 25) I_1680 sM_0 (by decide +kernel)) dX12_operand_300 ?_
                        refine lv_aload_n hx hb dX12_operand_303 rfl (lv_at hl 3 rfl) ?_
                        refine dg_get (C := RX12) (T := TX12) (N := 77) hx hb hts (fun w h => bw_mem (wU_X12 w h)) hown K hP sM_0 rfl 42 (by decide) (hts _ (bw_mem wB_406)) (fun _ h9 => h9) (v := .int y_1686) f_y_1686 dX12_operand_304 ?_
                        refine lv_iconst (v := 1) hx hb dX12_operand_307 (by decide +kernel) ?_
                        refine lv_isub hx hb dX12_operand_308 ?_
                        refine lv_topi (fun x_1694 ex_1694 => ?_)
                        have jx_1694 : (x_1694).toInt = (y_1686).toInt - 1 := by rw [ex_1694]; exact dk_subT rfl (by decide +kernel) (by omega) (by omega)
                        refine lv_iload_n hx hb dX12_operand_309 rfl (lv_at hl 0 rfl) ?_
                        have hin_1695 : vp_in x_1694 20 := (dk_inv (by omega) (by omega))
                        refine dg_iast hx hb K hP hS hA1 sM_25 hin_1695 dX12_operand_310 (fun S_1696 e_1696 H locs hP hS => ?_)
                        have I_1696 := dg_I.uf0 I_1680 e_1696 sM_25 (by decide +kernel)
                        have M_1696 := dg_sm.uf M_1680 e_1696 sM_25 (by decide)
                        have P0_1696 : P0M S_1696 := PBM.openp (PBM.keep (PBM.keep (PBM.keep PB_682 m_1614 (by decide) (by decide) (by decide) (by decide) (by decide) (by decide) (by decide) (by decide) (by decide) (by decide) (by decide) (by decide) (by decide) (by decide) (by decide)) m_1618 (by decide) (by decide) (by decide) (by decide) (by decide) (by decide) (by decide) (by decide) (by decide) (by decide) (by decide) (by decide) (by decide) (by decide) (by decide)) m_1675 (by decide) (by decide) (by decide) (by decide) (by decide) (by decide) (by decide) (by decide) (by decide) (by decide) (by decide) (by decide) (by decide) (by decide) (by decide)) (((m_1675.1 0 42 _ sM_0 (by decide)).trans ((m_1618.1 0 42 _ sM_0 (by decide)).trans ((m_1614.1 0 42 _ sM_0 (by decide)).trans ((dg_uf_F e_682 0 42).trans (m_2.1 0 42 _ sM_0 (by decide)))))).trans f_dp) (((m_1675.1 0 43 _ sM_0 (by decide)).trans ((m_1618.1 0 43 _ sM_0 (by decide)).trans ((m_1614.1 0 43 _ sM_0 (by decide)).trans ((dg_uf_F e_682 0 43).trans (m_2.1 0 43 _ sM_0 (by decide)))))).trans f_on) (((m_1675.1 0 45 _ sM_0 (by decide)).trans ((m_1618.1 0 45 _ sM_0 (by decide)).trans ((m_1614.1 0 45 _ sM_0 (by decide)).trans ((dg_uf_F e_682 0 45).trans (m_2.1 0 45 _ sM_0 (by decide)))))).trans f_om) (w_1680_1 _ f_y_1685 (by omega)) m_1680 (by decide) (by decide) (by decide) (by decide) (by omega) f_y_1686 (by omega) e_1696
                        refine lv_iconst (v := 0) hx hb dX12_operand_311 (by decide +kernel) ?_
                        have hz_1697 : (0 : Int32).toInt = 0 := by decide +kernel
                        have hz_1698 : (0 : Int32).toInt = 0 := by decide +kernel
                        have hz_1699 : (0 : Int32).toInt = 0 := by decide +kernel
                        have hz_1700 : (0 : Int32).toInt = 0 := by decide +kernel
                        have hz_1701 : (0 : Int32).toInt = 0 := by decide +kernel
                        have hz_1702 : (0 : Int32).toInt = 0 := by decide +kernel
                        refine W.widen (k := 0) (n := 0) (Nat.le_of_ble_eq_true rfl) (Nat.le_of_ble_eq_true rfl) ?_
                        rw [hQ9]
                        exact dg_iret hx hb hr hlocks (by decide +kernel) hP hS ⟨I_1696, M_1696, (by decide +kernel), ⟨y_1682, y_1683, y_1684, y_1685, cd, y_1686, om, ((dg_uf_F e_1696 0 3).trans f_y_1682), ((dg_uf_F e_1696 0 4).trans f_y_1683), ((dg_uf_F e_1696 0 5).trans f_y_1684), ((dg_uf_F e_1696 0 8).trans f_y_1685), (((dg_uf_F e_1696 0 34).trans ((m_1680.1 0 34 _ sM_0 (by decide)).trans ((m_1675.1 0 34 _ sM_0 (by decide)).trans ((m_1618.1 0 34 _ sM_0 (by decide)).trans ((m_1614.1 0 34 _ sM_0 (by decide)).trans ((dg_uf_F e_682 0 34).trans (m_2.1 0 34 _ sM_0 (by decide)))))))).trans f_cd), ((dg_uf_F e_1696 0 42).trans f_y_1686), (((dg_uf_F e_1696 0 45).trans ((m_1680.1 0 45 _ sM_0 (by decide)).trans ((m_1675.1 0 45 _ sM_0 (by decide)).trans ((m_1618.1 0 45 _ sM_0 (by decide)).trans ((m_1614.1 0 45 _ sM_0 (by decide)).trans ((dg_uf_F e_682 0 45).trans (m_2.1 0 45 _ sM_0 (by decide)))))))).trans f_om), (by omega)⟩, (fun k9 hk9 hk0 => ⟨fun h9 => absurd h9 (by decide +kernel), fun _ => P0_1696⟩), (by exfalso; omega), (TKM.keep w_1680_2 (dg_sm.uf (WF := []) (WA := [25]) dg_sm.rf e_1696 sM_25 (by decide)) (by decide) (by decide) (by decide) (by decide) (by decide) (by decide) (by decide) (by decide)), (ZWM.keep (ZWM.keep (ZWM.keep (ZWM.keep (ZWM.keep (ZWM.keep (ZWM.keep ZW m_2 (by decide) (by decide) (by decide) (by decide)) (dg_sm.uf (WF := []) (WA := [24]) dg_sm.rf e_682 sM_24 (by decide)) (by decide) (by decide) (by decide) (by decide)) m_1614 (by decide) (by decide) (by decide) (by decide)) m_1618 (by decide) (by decide) (by decide) (by decide)) m_1675 (by decide) (by decide) (by decide) (by decide)) m_1680 (by decide) (by decide) (by decide) (by decide)) (dg_sm.uf (WF := []) (WA := [25]) dg_sm.rf e_1696 sM_25 (by decide)) (by decide) (by decide) (by decide) (by decide)), trivial⟩ dX12_operand_312
                    · have jc_1678 := dk_eqc (k := 44) (by decide +kernel) c_1678
                      refine lv_bipush (v := 6) hx hb dX12_operand_283 (by decide +kernel) ?_
                      refine lv_goto (tgt := 289) hx hb dX12_operand_285 (by decide) ?_
                      have hz_1703 : (6 : Int32).toInt = 6 := by decide +kernel
                      refine dg_callv hS hA1 hA (va_runV (As := [.int 6]) (rest := []) F (c_m_frames l g D o S_1675 6 (by decide +kernel) tb tn y_1615 (((m_1675.1 0 3 _ sM_0 (by decide)).trans (m_1618.1 0 3 _ sM_0 (by decide))).trans f_y_1615) (by omega) y_1616 (((m_1675.1 0 4 _ sM_0 (by decide)).trans (m_1618.1 0 4 _ sM_0 (by decide))).trans f_y_1616) (by omega) y_1617 (((m_1675.1 0 5 _ sM_0 (by decide)).trans (m_1618.1 0 5 _ sM_0 (by decide))).trans f_y_1617) (by omega) sl (((m_1675.1 0 2 _ sM_0 (by decide)).trans ((m_1618.1 0 2 _ sM_0 (by decide)).trans ((m_1614.1 0 2 _ sM_0 (by decide)).trans ((dg_uf_F e_682 0 2).trans (m_2.1 0 2 _ sM_0 (by decide)))))).trans f_sl) (by omega) y_1677 f_y_1677 (by omega) dp (((m_1675.1 0 42 _ sM_0 (by decide)).trans ((m_1618.1 0 42 _ sM_0 (by decide)).trans ((m_1614.1 0 42 _ sM_0 (by decide)).trans ((dg_uf_F e_682 0 42).trans (m_2.1 0 42 _ sM_0 (by decide)))))).trans f_dp) (by omega) om (((m_1675.1 0 45 _ sM_0 (by decide)).trans ((m_1618.1 0 45 _ sM_0 (by decide)).trans ((m_1614.1 0 45 _ sM_0 (by decide)).trans ((dg_uf_F e_682 0 45).trans (m_2.1 0 45 _ sM_0 (by decide)))))).trans f_om) (by omega) on (((m_1675.1 0 43 _ sM_0 (by decide)).trans ((m_1618.1 0 43 _ sM_0 (by decide)).trans ((m_1614.1 0 43 _ sM_0 (by decide)).trans ((dg_uf_F e_682 0 43).trans (m_2.1 0 43 _ sM_0 (by decide)))))).trans f_on) (by omega) (by omega) (by omega) (TKM.keep (TKM.keep TK_1614 m_1618 (by decide) (by decide) (by decide) (by decide) (by decide) (by decide) (by decide) (by decide)) m_1675 (by decide) (by decide) (by decide) (by decide) (by decide) (by decide) (by decide) (by decide)) I_1675 H.size) (cwV 1 hts (bw_V wB_431 wB_432 wB_433 wB_297 wB_430) rfl rfl rfl (by decide +kernel) ⟨Nat.le_of_ble_eq_true rfl, Nat.le_of_ble_eq_true rfl⟩) (dg_preV sM_0 rfl K ST hP hS hA1 hA) rfl rfl hl.1 rfl (lv_room (Nat.le_of_ble_eq_true rfl)) dX12_operand_289 ⟨Nat.le_of_ble_eq_true rfl, Nat.le_of_ble_eq_true rfl⟩) (fun S_1704 hw_1704 H locs hP hS => ?_)
                      obtain ⟨I_1704, m_1704, w_1704_0, w_1704_1, w_1704_2, -⟩ := hw_1704
                      have M_1704 := dg_sm.tr M_1675 m_1704 (by decide) (by decide)
                      have hz_1705 : (6 : Int32).toInt = 6 := by decide +kernel
                      obtain ⟨y_1706, y_1707, y_1708, y_1709, y_1710, f_y_1706, f_y_1707, f_y_1708, f_y_1709, f_y_1710, w_1704_0⟩ := w_1704_0
                      have w_1704_0 : (((y_1707).toInt ≤ (y_1708).toInt ∧ (y_1708).toInt ≤ (sl).toInt ∧ ((y_1706).toInt ≠ 0 → (y_1707).toInt + 1 ≤ (y_1708).toInt)) ∧ (y_1616).toInt ≤ (y_1707).toInt ∧ ((y_1677).toInt ≠ 0 → (y_1709).toInt ≠ 0) ∧ (((y_1709).toInt = 0 → ((y_1616).toInt + 1 ≤ (y_1707).toInt ∧ (y_1710).toInt = (dp).toInt + 1)))) ∧ m_hid ((y_1677).toInt = 0 → (((y_1709).toInt = 0 → (t_ix tb tn (y_1707 : Int32).toNatClampNeg) = (t_ix tb tn (y_1616 : Int32).toNatClampNeg) + 1) ∧ ((y_1709).toInt ≠ 0 → (on).toInt = 7))) := w_1704_0
                      obtain ⟨⟨⟨w_1704_0_0, w_1704_0_1, w_1704_0_2⟩, w_1704_0_3, w_1704_0_4, w_1704_0_5⟩, w_1704_0_6⟩ := w_1704_0
                      have w_1704_0_4r := w_1704_0_4 (by omega)
                      clear w_1704_0_4
                      have b_y_1706 : 0 ≤ (y_1706).toInt ∧ (y_1706).toInt ≤ 3 := dg_I.intb (lo := 0) (hi := 3) I_1704 sM_0 (by decide +kernel) f_y_1706
                      have b_y_1707 : 0 ≤ (y_1707).toInt ∧ (y_1707).toInt ≤ 1600 := dg_I.intb (lo := 0) (hi := 1600) I_1704 sM_0 (by decide +kernel) f_y_1707
                      have b_y_1708 : 0 ≤ (y_1708).toInt ∧ (y_1708).toInt ≤ 1600 := dg_I.intb (lo := 0) (hi := 1600) I_1704 sM_0 (by decide +kernel) f_y_1708
                      have b_y_1709 : 0 ≤ (y_1709).toInt ∧ (y_1709).toInt ≤ 6 := dg_I.intb (lo := 0) (hi := 6) I_1704 sM_0 (by decide +kernel) f_y_1709
                      have b_y_1710 : 0 ≤ (y_1710).toInt ∧ (y_1710).toInt ≤ 20 := dg_I.intb (lo := 0) (hi := 20) I_1704 sM_0 (by decide +kernel) f_y_1710
                      replace w_1704_1 : ∀ k9 : Int32, S_1704.1 0 8 = .int k9 → k9.toInt = 0 → FRM S_1675 S_1704 (6 : Int32) := w_1704_1
                      refine lv_aload_n hx hb dX12_operand_292 rfl (lv_at hl 3 rfl) ?_
                      refine dg_get (C := RX12) (T := TX12) (N := 77) hx hb hts (fun w h => bw_mem (wU_X12 w h)) hown K hP sM_0 rfl 8 (by decide) (hts _ (bw_mem wB_303)) (fun _ h9 => h9) (v := .int y_1709) f_y_1709 dX12_operand_293 ?_
                      refine lv_if_ne (tgt := 311) hx hb dX12_operand_296 (by decide) (fun c_1711 => ?_) (fun c_1711 => ?_)
                      · have jc_1711 := dk_neqc (k := 0) (by decide +kernel) c_1711
                        have jbc_1711 : 1 ≤ (y_1709).toInt := by omega
                        clear jc_1711
                        clear w_1704_0_5
                        refine lv_iconst (v := 0) hx hb dX12_operand_311 (by decide +kernel) ?_
                        have hz_1712 : (0 : Int32).toInt = 0 := by decide +kernel
                        have hz_1713 : (0 : Int32).toInt = 0 := by decide +kernel
                        have hz_1714 : (0 : Int32).toInt = 0 := by decide +kernel
                        have hz_1715 : (0 : Int32).toInt = 0 := by decide +kernel
                        have hz_1716 : (0 : Int32).toInt = 0 := by decide +kernel
                        have hz_1717 : (0 : Int32).toInt = 0 := by decide +kernel
                        refine W.widen (k := 0) (n := 0) (Nat.le_of_ble_eq_true rfl) (Nat.le_of_ble_eq_true rfl) ?_
                        rw [hQ9]
                        exact dg_iret hx hb hr hlocks (by decide +kernel) hP hS ⟨I_1704, M_1704, (by decide +kernel), ⟨y_1706, y_1707, y_1708, y_1709, cd, y_1710, om, f_y_1706, f_y_1707, f_y_1708, f_y_1709, (((m_1704.1 0 34 _ sM_0 (by decide)).trans ((m_1675.1 0 34 _ sM_0 (by decide)).trans ((m_1618.1 0 34 _ sM_0 (by decide)).trans ((m_1614.1 0 34 _ sM_0 (by decide)).trans ((dg_uf_F e_682 0 34).trans (m_2.1 0 34 _ sM_0 (by decide))))))).trans f_cd), f_y_1710, (((m_1704.1 0 45 _ sM_0 (by decide)).trans ((m_1675.1 0 45 _ sM_0 (by decide)).trans ((m_1618.1 0 45 _ sM_0 (by decide)).trans ((m_1614.1 0 45 _ sM_0 (by decide)).trans ((dg_uf_F e_682 0 45).trans (m_2.1 0 45 _ sM_0 (by decide))))))).trans f_om), (by omega)⟩, (fun k9 hk9 hk0 => by have q9 := (f_y_1709).symm.trans hk9; cases q9; omega), (OPK.no f_sa f_fk f_y_1709 (by omega) (fun h0 => by rw [hM0]; exact m_st_f.trans ((m_opd_if h171.out (h249.out.1 (by omega))).trans (m_mm_bad (by by_cases q5 : (T_kd tb tn (t_ix tb tn (y_1616 : Int32).toNatClampNeg)).toInt = 5; exact Or.inl (by rw [show (t_ix tb tn (sa : Int32).toNatClampNeg) + 1 = (t_ix tb tn (y_1616 : Int32).toNatClampNeg) from by omega]; exact g_s_5 q5); first | exact Or.inl (by rw [show (t_ix tb tn (sa : Int32).toNatClampNeg) + 1 = (t_ix tb tn (y_1616 : Int32).toNatClampNeg) from by omega]; exact qw_1622_1.out q5) | exact Or.inr (by have h9 := (w_1704_0_6.out (by omega)).2 (by omega); have h8 := dk_clN on; omega)))))), w_1704_2, (ZWM.keep (ZWM.keep (ZWM.keep (ZWM.keep (ZWM.keep (ZWM.keep ZW m_2 (by decide) (by decide) (by decide) (by decide)) (dg_sm.uf (WF := []) (WA := [24]) dg_sm.rf e_682 sM_24 (by decide)) (by decide) (by decide) (by decide) (by decide)) m_1614 (by decide) (by decide) (by decide) (by decide)) m_1618 (by decide) (by decide) (by decide) (by decide)) m_1675 (by decide) (by decide) (by decide) (by decide)) m_1704 (by decide) (by decide) (by decide) (by decide)), trivial⟩ dX12_operand_312
                      · have jc_1711 := dk_eqc (k := 0) (by decide +kernel) c_1711
                        have w_1704_0_5r := w_1704_0_5 (by omega)
                        clear w_1704_0_5
                        obtain ⟨w_1704_0_5r_0, w_1704_0_5r_1⟩ := w_1704_0_5r
                        refine lv_aload_n hx hb dX12_operand_299 rfl (lv_at hl 3 rfl) ?_
                        refine dg_get (C := RX12) (T := TX12) (N := 77) hx hb hts (fun w h => bw_mem (wU_X12 w h)) hown K hP sM_0 rfl 40 (by decide) (hts _ (bw_mem wB_435)) (fun _ h9 => h9) (v := .ref (o + 25)) (show S_1704.1 0 40 = .ref (o + 25) from dg_I.rel (d := 25) I_1704 sM_0 (by decide +kernel)) dX12_operand_300 ?_
                        refine lv_aload_n hx hb dX12_operand_303 rfl (lv_at hl 3 rfl) ?_
                        refine dg_get (C := RX12) (T := TX12) (N := 77) hx hb hts (fun w h => bw_mem (wU_X12 w h)) hown K hP sM_0 rfl 42 (by decide) (hts _ (bw_mem wB_406)) (fun _ h9 => h9) (v := .int y_1710) f_y_1710 dX12_operand_304 ?_
                        refine lv_iconst (v := 1) hx hb dX12_operand_307 (by decide +kernel) ?_
                        refine lv_isub hx hb dX12_operand_308 ?_
                        refine lv_topi (fun x_1718 ex_1718 => ?_)
                        have jx_1718 : (x_1718).toInt = (y_1710).toInt - 1 := by rw [ex_1718]; exact dk_subT rfl (by decide +kernel) (by omega) (by omega)
                        refine lv_iload_n hx hb dX12_operand_309 rfl (lv_at hl 0 rfl) ?_
                        have hin_1719 : vp_in x_1718 20 := (dk_inv (by omega) (by omega))
                        refine dg_iast hx hb K hP hS hA1 sM_25 hin_1719 dX12_operand_310 (fun S_1720 e_1720 H locs hP hS => ?_)
                        have I_1720 := dg_I.uf0 I_1704 e_1720 sM_25 (by decide +kernel)
                        have M_1720 := dg_sm.uf M_1704 e_1720 sM_25 (by decide)
                        have P0_1720 : P0M S_1720 := PBM.openp (PBM.keep (PBM.keep (PBM.keep PB_682 m_1614 (by decide) (by decide) (by decide) (by decide) (by decide) (by decide) (by decide) (by decide) (by decide) (by decide) (by decide) (by decide) (by decide) (by decide) (by decide)) m_1618 (by decide) (by decide) (by decide) (by decide) (by decide) (by decide) (by decide) (by decide) (by decide) (by decide) (by decide) (by decide) (by decide) (by decide) (by decide)) m_1675 (by decide) (by decide) (by decide) (by decide) (by decide) (by decide) (by decide) (by decide) (by decide) (by decide) (by decide) (by decide) (by decide) (by decide) (by decide)) (((m_1675.1 0 42 _ sM_0 (by decide)).trans ((m_1618.1 0 42 _ sM_0 (by decide)).trans ((m_1614.1 0 42 _ sM_0 (by decide)).trans ((dg_uf_F e_682 0 42).trans (m_2.1 0 42 _ sM_0 (by decide)))))).trans f_dp) (((m_1675.1 0 43 _ sM_0 (by decide)).trans ((m_1618.1 0 43 _ sM_0 (by decide)).trans ((m_1614.1 0 43 _ sM_0 (by decide)).trans ((dg_uf_F e_682 0 43).trans (m_2.1 0 43 _ sM_0 (by decide)))))).trans f_on) (((m_1675.1 0 45 _ sM_0 (by decide)).trans ((m_1618.1 0 45 _ sM_0 (by decide)).trans ((m_1614.1 0 45 _ sM_0 (by decide)).trans ((dg_uf_F e_682 0 45).trans (m_2.1 0 45 _ sM_0 (by decide)))))).trans f_om) (w_1704_1 _ f_y_1709 (by omega)) m_1704 (by decide) (by decide) (by decide) (by decide) (by omega) f_y_1710 (by omega) e_1720
                        refine lv_iconst (v := 0) hx hb dX12_operand_311 (by decide +kernel) ?_
                        have hz_1721 : (0 : Int32).toInt = 0 := by decide +kernel
                        have hz_1722 : (0 : Int32).toInt = 0 := by decide +kernel
                        have hz_1723 : (0 : Int32).toInt = 0 := by decide +kernel
                        have hz_1724 : (0 : Int32).toInt = 0 := by decide +kernel
                        have hz_1725 : (0 : Int32).toInt = 0 := by decide +kernel
                        have hz_1726 : (0 : Int32).toInt = 0 := by decide +kernel
                        refine W.widen (k := 0) (n := 0) (Nat.le_of_ble_eq_true rfl) (Nat.le_of_ble_eq_true rfl) ?_
                        rw [hQ9]
                        exact dg_iret hx hb hr hlocks (by decide +kernel) hP hS ⟨I_1720, M_1720, (by decide +kernel), ⟨y_1706, y_1707, y_1708, y_1709, cd, y_1710, om, ((dg_uf_F e_1720 0 3).trans f_y_1706), ((dg_uf_F e_1720 0 4).trans f_y_1707), ((dg_uf_F e_1720 0 5).trans f_y_1708), ((dg_uf_F e_1720 0 8).trans f_y_1709), (((dg_uf_F e_1720 0 34).trans ((m_1704.1 0 34 _ sM_0 (by decide)).trans ((m_1675.1 0 34 _ sM_0 (by decide)).trans ((m_1618.1 0 34 _ sM_0 (by decide)).trans ((m_1614.1 0 34 _ sM_0 (by decide)).trans ((dg_uf_F e_682 0 34).trans (m_2.1 0 34 _ sM_0 (by decide)))))))).trans f_cd), ((dg_uf_F e_1720 0 42).trans f_y_1710), (((dg_uf_F e_1720 0 45).trans ((m_1704.1 0 45 _ sM_0 (by decide)).trans ((m_1675.1 0 45 _ sM_0 (by decide)).trans ((m_1618.1 0 45 _ sM_0 (by decide)).trans ((m_1614.1 0 45 _ sM_0 (by decide)).trans ((dg_uf_F e_682 0 45).trans (m_2.1 0 45 _ sM_0 (by decide)))))))).trans f_om), (by omega)⟩, (fun k9 hk9 hk0 => ⟨fun h9 => absurd h9 (by decide +kernel), fun _ => P0_1720⟩), (by exfalso; omega), (TKM.keep w_1704_2 (dg_sm.uf (WF := []) (WA := [25]) dg_sm.rf e_1720 sM_25 (by decide)) (by decide) (by decide) (by decide) (by decide) (by decide) (by decide) (by decide) (by decide)), (ZWM.keep (ZWM.keep (ZWM.keep (ZWM.keep (ZWM.keep (ZWM.keep (ZWM.keep ZW m_2 (by decide) (by decide) (by decide) (by decide)) (dg_sm.uf (WF := []) (WA := [24]) dg_sm.rf e_682 sM_24 (by decide)) (by decide) (by decide) (by decide) (by decide)) m_1614 (by decide) (by decide) (by decide) (by decide)) m_1618 (by decide) (by decide) (by decide) (by decide)) m_1675 (by decide) (by decide) (by decide) (by decide)) m_1704 (by decide) (by decide) (by decide) (by decide)) (dg_sm.uf (WF := []) (WA := [25]) dg_sm.rf e_1720 sM_25 (by decide)) (by decide) (by decide) (by decide) (by decide)), trivial⟩ dX12_operand_312
                refine lv_if_eq (tgt := 232) hx hb dX12_operand_224 (by decide) (fun c_1727 => ?_) (fun c_1727 => ?_)
                · have jc_1727 := dk_eqc (k := 0) (by decide +kernel) c_1727
                  have qw_1492_1 : g_o (T_kd tb tn) (T_vl tb tn) 25 (t_ix tb tn (sa : Int32).toNatClampNeg) = false := g_iff_f (TKM.isw (TKM.keep (TKM.keep TK m_2 (by decide) (by decide) (by decide) (by decide) (by decide) (by decide) (by decide) (by decide)) (dg_sm.uf (WF := []) (WA := [24]) dg_sm.rf e_682 sM_24 (by decide)) (by decide) (by decide) (by decide) (by decide) (by decide) (by decide) (by decide) (by decide)) (((dg_uf_F e_682 0 3).trans (m_2.1 0 3 _ sM_0 (by decide))).trans f_sg) (((dg_uf_F e_682 0 4).trans (m_2.1 0 4 _ sM_0 (by decide))).trans f_sa) hk5.out (j := 25) (C := 7170414) (by decide) (by decide +kernel) w_1492_1) (by omega)
                  clear w_1492_1
                  refine lv_aload_n hx hb dX12_operand_232 rfl (lv_at hl 2 rfl) ?_
                  refine lv_ldc2 hx hb hown (hts _ (bw_mem wB_351)) dX12_operand_233 ?_
                  refine dg_calli hS hA1 hA (va_runV (As := [.long 7168376]) (rest := []) F (c_m_isWord l g D o S_682 7168376 sg (((dg_uf_F e_682 0 3).trans (m_2.1 0 3 _ sM_0 (by decide))).trans f_sg) (by omega) I_682 H.size) (cwV 1 hts (bw_V wB_322 wB_323 wB_324 wB_297 wB_321) rfl rfl rfl (by decide +kernel) ⟨Nat.le_of_ble_eq_true rfl, Nat.le_of_ble_eq_true rfl⟩) (dg_preV sM_0 rfl K ST hP hS hA1 hA) rfl rfl hl.1 rfl (lv_room (Nat.le_of_ble_eq_true rfl)) dX12_operand_236 ⟨Nat.le_of_ble_eq_true rfl, Nat.le_of_ble_eq_true rfl⟩) (fun x_1728 S_1729 hw_1729 H locs hP hS => ?_)
                  rw [hw_1729.1] at hP
                  obtain ⟨hq_1729, w_1729_0, w_1729_1, -⟩ := hw_1729
                  try rw [hq_1729] at w_1729_1
                  have w_1729_0 : 0 ≤ (x_1728).toInt ∧ (x_1728).toInt ≤ 1 := w_1729_0
                  replace w_1729_1 : ∀ w9 : Int64, S_682.1 0 7 = .long w9 → ((x_1728).toInt = 1 ↔ ((sg).toInt = 1 ∧ w9.toInt = ((7168376 : Int64)).toInt)) := w_1729_1
                  refine lv_if_eq (tgt := 247) hx hb dX12_operand_239 (by decide) (fun c_1730 => ?_) (fun c_1730 => ?_)
                  · have jc_1730 := dk_eqc (k := 0) (by decide +kernel) c_1730
                    have qw_1729_1 : g_o (T_kd tb tn) (T_vl tb tn) 26 (t_ix tb tn (sa : Int32).toNatClampNeg) = false := g_iff_f (TKM.isw (TKM.keep (TKM.keep TK m_2 (by decide) (by decide) (by decide) (by decide) (by decide) (by decide) (by decide) (by decide)) (dg_sm.uf (WF := []) (WA := [24]) dg_sm.rf e_682 sM_24 (by decide)) (by decide) (by decide) (by decide) (by decide) (by decide) (by decide) (by decide) (by decide)) (((dg_uf_F e_682 0 3).trans (m_2.1 0 3 _ sM_0 (by decide))).trans f_sg) (((dg_uf_F e_682 0 4).trans (m_2.1 0 4 _ sM_0 (by decide))).trans f_sa) hk5.out (j := 26) (C := 7168376) (by decide) (by decide +kernel) w_1729_1) (by omega)
                    clear w_1729_1
                    refine lv_bipush (v := 44) hx hb dX12_operand_247 (by decide +kernel) ?_
                    have hz_1731 : (44 : Int32).toInt = 44 := by decide +kernel
                    have hz_1732 : (44 : Int32).toInt = 44 := by decide +kernel
                    have hz_1733 : (44 : Int32).toInt = 44 := by decide +kernel
                    exact J_1613 44 (by decide +kernel) (by omega) (m_hid.mk ⟨fun _ => by rcases h217.out with q9 | q9 | q9; exact absurd (qw_1492_1.symm.trans q9) (by decide); exact absurd (qw_1729_1.symm.trans q9) (by decide); exact q9, fun q9 => absurd (by decide +kernel) q9⟩) _ _ hP hS _ (lv_sub hl [0, 1, 2] rfl)
                  · have jc_1730 := dk_neqc (k := 0) (by decide +kernel) c_1730
                    have jbc_1730 : 1 ≤ (x_1728).toInt := by omega
                    clear jc_1730
                    have qw_1729_1 : g_o (T_kd tb tn) (T_vl tb tn) 26 (t_ix tb tn (sa : Int32).toNatClampNeg) = true := (TKM.isw (TKM.keep (TKM.keep TK m_2 (by decide) (by decide) (by decide) (by decide) (by decide) (by decide) (by decide) (by decide)) (dg_sm.uf (WF := []) (WA := [24]) dg_sm.rf e_682 sM_24 (by decide)) (by decide) (by decide) (by decide) (by decide) (by decide) (by decide) (by decide) (by decide)) (((dg_uf_F e_682 0 3).trans (m_2.1 0 3 _ sM_0 (by decide))).trans f_sg) (((dg_uf_F e_682 0 4).trans (m_2.1 0 4 _ sM_0 (by decide))).trans f_sa) hk5.out (j := 26) (C := 7168376) (by decide) (by decide +kernel) w_1729_1).mp (by omega)
                    obtain ⟨x_1734, f_x_1734⟩ := dg_I.long (i := 0) (k := 7) I_682 sM_0 (by decide +kernel)
                    have w_1729_1_r : (sg).toInt = 1 := by obtain ⟨w9, hw9⟩ : ∃ w9, S_682.1 0 7 = .long w9 := ⟨_, f_x_1734⟩; exact ((w_1729_1 w9 hw9).mp (by omega)).1
                    clear w_1729_1
                    have hlx_2r := hlx_2 (by omega)
                    clear hlx_2
                    refine lv_bipush (v := 37) hx hb dX12_operand_242 (by decide +kernel) ?_
                    refine lv_goto (tgt := 249) hx hb dX12_operand_244 (by decide) ?_
                    have hz_1735 : (37 : Int32).toInt = 37 := by decide +kernel
                    have hz_1736 : (37 : Int32).toInt = 37 := by decide +kernel
                    have hz_1737 : (37 : Int32).toInt = 37 := by decide +kernel
                    exact J_1613 37 (by decide +kernel) (by omega) (m_hid.mk ⟨fun q9 => absurd q9 (by decide +kernel), fun _ => Or.inr qw_1729_1⟩) _ _ hP hS _ (lv_sub hl [0, 1, 2] rfl)
                · have jc_1727 := dk_neqc (k := 0) (by decide +kernel) c_1727
                  have jbc_1727 : 1 ≤ (x_1491).toInt := by omega
                  clear jc_1727
                  have qw_1492_1 : g_o (T_kd tb tn) (T_vl tb tn) 25 (t_ix tb tn (sa : Int32).toNatClampNeg) = true := (TKM.isw (TKM.keep (TKM.keep TK m_2 (by decide) (by decide) (by decide) (by decide) (by decide) (by decide) (by decide) (by decide)) (dg_sm.uf (WF := []) (WA := [24]) dg_sm.rf e_682 sM_24 (by decide)) (by decide) (by decide) (by decide) (by decide) (by decide) (by decide) (by decide) (by decide)) (((dg_uf_F e_682 0 3).trans (m_2.1 0 3 _ sM_0 (by decide))).trans f_sg) (((dg_uf_F e_682 0 4).trans (m_2.1 0 4 _ sM_0 (by decide))).trans f_sa) hk5.out (j := 25) (C := 7170414) (by decide) (by decide +kernel) w_1492_1).mp (by omega)
                  obtain ⟨x_1738, f_x_1738⟩ := dg_I.long (i := 0) (k := 7) I_682 sM_0 (by decide +kernel)
                  have w_1492_1_r : (sg).toInt = 1 := by obtain ⟨w9, hw9⟩ : ∃ w9, S_682.1 0 7 = .long w9 := ⟨_, f_x_1738⟩; exact ((w_1492_1 w9 hw9).mp (by omega)).1
                  clear w_1492_1
                  have hlx_2r := hlx_2 (by omega)
                  clear hlx_2
                  refine lv_bipush (v := 36) hx hb dX12_operand_227 (by decide +kernel) ?_
                  refine lv_goto (tgt := 249) hx hb dX12_operand_229 (by decide) ?_
                  have hz_1739 : (36 : Int32).toInt = 36 := by decide +kernel
                  have hz_1740 : (36 : Int32).toInt = 36 := by decide +kernel
                  have hz_1741 : (36 : Int32).toInt = 36 := by decide +kernel
                  exact J_1613 36 (by decide +kernel) (by omega) (m_hid.mk ⟨fun q9 => absurd q9 (by decide +kernel), fun _ => Or.inl qw_1492_1⟩) _ _ hP hS _ (lv_sub hl [0, 1, 2] rfl)
              refine lv_if_ne (tgt := 217) hx hb dX12_operand_194 (by decide) (fun c_1742 => ?_) (fun c_1742 => ?_)
              · have jc_1742 := dk_neqc (k := 0) (by decide +kernel) c_1742
                have jbc_1742 : 1 ≤ (x_1259).toInt := by omega
                clear jc_1742
                have qw_1260_1 : g_o (T_kd tb tn) (T_vl tb tn) 25 (t_ix tb tn (sa : Int32).toNatClampNeg) = true := (TKM.isw (TKM.keep (TKM.keep TK m_2 (by decide) (by decide) (by decide) (by decide) (by decide) (by decide) (by decide) (by decide)) (dg_sm.uf (WF := []) (WA := [24]) dg_sm.rf e_682 sM_24 (by decide)) (by decide) (by decide) (by decide) (by decide) (by decide) (by decide) (by decide) (by decide)) (((dg_uf_F e_682 0 3).trans (m_2.1 0 3 _ sM_0 (by decide))).trans f_sg) (((dg_uf_F e_682 0 4).trans (m_2.1 0 4 _ sM_0 (by decide))).trans f_sa) hk5.out (j := 25) (C := 7170414) (by decide) (by decide +kernel) w_1260_1).mp (by omega)
                obtain ⟨x_1743, f_x_1743⟩ := dg_I.long (i := 0) (k := 7) I_682 sM_0 (by decide +kernel)
                have w_1260_1_r : (sg).toInt = 1 := by obtain ⟨w9, hw9⟩ : ∃ w9, S_682.1 0 7 = .long w9 := ⟨_, f_x_1743⟩; exact ((w_1260_1 w9 hw9).mp (by omega)).1
                clear w_1260_1
                have hlx_2r := hlx_2 (by omega)
                clear hlx_2
                exact J_1490 ()  (by omega) (m_hid.mk (Or.inl qw_1260_1)) _ _ hP hS _ (lv_sub hl [0, 1, 2] rfl)
              · have jc_1742 := dk_eqc (k := 0) (by decide +kernel) c_1742
                have qw_1260_1 : g_o (T_kd tb tn) (T_vl tb tn) 25 (t_ix tb tn (sa : Int32).toNatClampNeg) = false := g_iff_f (TKM.isw (TKM.keep (TKM.keep TK m_2 (by decide) (by decide) (by decide) (by decide) (by decide) (by decide) (by decide) (by decide)) (dg_sm.uf (WF := []) (WA := [24]) dg_sm.rf e_682 sM_24 (by decide)) (by decide) (by decide) (by decide) (by decide) (by decide) (by decide) (by decide) (by decide)) (((dg_uf_F e_682 0 3).trans (m_2.1 0 3 _ sM_0 (by decide))).trans f_sg) (((dg_uf_F e_682 0 4).trans (m_2.1 0 4 _ sM_0 (by decide))).trans f_sa) hk5.out (j := 25) (C := 7170414) (by decide) (by decide +kernel) w_1260_1) (by omega)
                clear w_1260_1
                refine lv_aload_n hx hb dX12_operand_197 rfl (lv_at hl 2 rfl) ?_
                refine lv_ldc2 hx hb hown (hts _ (bw_mem wB_351)) dX12_operand_198 ?_
                refine dg_calli hS hA1 hA (va_runV (As := [.long 7168376]) (rest := []) F (c_m_isWord l g D o S_682 7168376 sg (((dg_uf_F e_682 0 3).trans (m_2.1 0 3 _ sM_0 (by decide))).trans f_sg) (by omega) I_682 H.size) (cwV 1 hts (bw_V wB_322 wB_323 wB_324 wB_297 wB_321) rfl rfl rfl (by decide +kernel) ⟨Nat.le_of_ble_eq_true rfl, Nat.le_of_ble_eq_true rfl⟩) (dg_preV sM_0 rfl K ST hP hS hA1 hA) rfl rfl hl.1 rfl (lv_room (Nat.le_of_ble_eq_true rfl)) dX12_operand_201 ⟨Nat.le_of_ble_eq_true rfl, Nat.le_of_ble_eq_true rfl⟩) (fun x_1744 S_1745 hw_1745 H locs hP hS => ?_)
                rw [hw_1745.1] at hP
                obtain ⟨hq_1745, w_1745_0, w_1745_1, -⟩ := hw_1745
                try rw [hq_1745] at w_1745_1
                have w_1745_0 : 0 ≤ (x_1744).toInt ∧ (x_1744).toInt ≤ 1 := w_1745_0
                replace w_1745_1 : ∀ w9 : Int64, S_682.1 0 7 = .long w9 → ((x_1744).toInt = 1 ↔ ((sg).toInt = 1 ∧ w9.toInt = ((7168376 : Int64)).toInt)) := w_1745_1
                refine lv_if_ne (tgt := 217) hx hb dX12_operand_204 (by decide) (fun c_1746 => ?_) (fun c_1746 => ?_)
                · have jc_1746 := dk_neqc (k := 0) (by decide +kernel) c_1746
                  have jbc_1746 : 1 ≤ (x_1744).toInt := by omega
                  clear jc_1746
                  have qw_1745_1 : g_o (T_kd tb tn) (T_vl tb tn) 26 (t_ix tb tn (sa : Int32).toNatClampNeg) = true := (TKM.isw (TKM.keep (TKM.keep TK m_2 (by decide) (by decide) (by decide) (by decide) (by decide) (by decide) (by decide) (by decide)) (dg_sm.uf (WF := []) (WA := [24]) dg_sm.rf e_682 sM_24 (by decide)) (by decide) (by decide) (by decide) (by decide) (by decide) (by decide) (by decide) (by decide)) (((dg_uf_F e_682 0 3).trans (m_2.1 0 3 _ sM_0 (by decide))).trans f_sg) (((dg_uf_F e_682 0 4).trans (m_2.1 0 4 _ sM_0 (by decide))).trans f_sa) hk5.out (j := 26) (C := 7168376) (by decide) (by decide +kernel) w_1745_1).mp (by omega)
                  obtain ⟨x_1747, f_x_1747⟩ := dg_I.long (i := 0) (k := 7) I_682 sM_0 (by decide +kernel)
                  have w_1745_1_r : (sg).toInt = 1 := by obtain ⟨w9, hw9⟩ : ∃ w9, S_682.1 0 7 = .long w9 := ⟨_, f_x_1747⟩; exact ((w_1745_1 w9 hw9).mp (by omega)).1
                  clear w_1745_1
                  have hlx_2r := hlx_2 (by omega)
                  clear hlx_2
                  exact J_1490 ()  (by omega) (m_hid.mk (Or.inr (Or.inl qw_1745_1))) _ _ hP hS _ (lv_sub hl [0, 1, 2] rfl)
                · have jc_1746 := dk_eqc (k := 0) (by decide +kernel) c_1746
                  have qw_1745_1 : g_o (T_kd tb tn) (T_vl tb tn) 26 (t_ix tb tn (sa : Int32).toNatClampNeg) = false := g_iff_f (TKM.isw (TKM.keep (TKM.keep TK m_2 (by decide) (by decide) (by decide) (by decide) (by decide) (by decide) (by decide) (by decide)) (dg_sm.uf (WF := []) (WA := [24]) dg_sm.rf e_682 sM_24 (by decide)) (by decide) (by decide) (by decide) (by decide) (by decide) (by decide) (by decide) (by decide)) (((dg_uf_F e_682 0 3).trans (m_2.1 0 3 _ sM_0 (by decide))).trans f_sg) (((dg_uf_F e_682 0 4).trans (m_2.1 0 4 _ sM_0 (by decide))).trans f_sa) hk5.out (j := 26) (C := 7168376) (by decide) (by decide +kernel) w_1745_1) (by omega)
                  clear w_1745_1
                  refine lv_aload_n hx hb dX12_operand_207 rfl (lv_at hl 2 rfl) ?_
                  refine lv_ldc2 hx hb hown (hts _ (bw_mem wB_345)) dX12_operand_208 ?_
                  refine dg_calli hS hA1 hA (va_runV (As := [.long 26982]) (rest := []) F (c_m_isWord l g D o S_682 26982 sg (((dg_uf_F e_682 0 3).trans (m_2.1 0 3 _ sM_0 (by decide))).trans f_sg) (by omega) I_682 H.size) (cwV 1 hts (bw_V wB_322 wB_323 wB_324 wB_297 wB_321) rfl rfl rfl (by decide +kernel) ⟨Nat.le_of_ble_eq_true rfl, Nat.le_of_ble_eq_true rfl⟩) (dg_preV sM_0 rfl K ST hP hS hA1 hA) rfl rfl hl.1 rfl (lv_room (Nat.le_of_ble_eq_true rfl)) dX12_operand_211 ⟨Nat.le_of_ble_eq_true rfl, Nat.le_of_ble_eq_true rfl⟩) (fun x_1748 S_1749 hw_1749 H locs hP hS => ?_)
                  rw [hw_1749.1] at hP
                  obtain ⟨hq_1749, w_1749_0, w_1749_1, -⟩ := hw_1749
                  try rw [hq_1749] at w_1749_1
                  have w_1749_0 : 0 ≤ (x_1748).toInt ∧ (x_1748).toInt ≤ 1 := w_1749_0
                  replace w_1749_1 : ∀ w9 : Int64, S_682.1 0 7 = .long w9 → ((x_1748).toInt = 1 ↔ ((sg).toInt = 1 ∧ w9.toInt = ((26982 : Int64)).toInt)) := w_1749_1
                  refine lv_if_eq (tgt := 313) hx hb dX12_operand_214 (by decide) (fun c_1750 => ?_) (fun c_1750 => ?_)
                  · have jc_1750 := dk_eqc (k := 0) (by decide +kernel) c_1750
                    have qw_1749_1 : g_o (T_kd tb tn) (T_vl tb tn) 20 (t_ix tb tn (sa : Int32).toNatClampNeg) = false := g_iff_f (TKM.isw (TKM.keep (TKM.keep TK m_2 (by decide) (by decide) (by decide) (by decide) (by decide) (by decide) (by decide) (by decide)) (dg_sm.uf (WF := []) (WA := [24]) dg_sm.rf e_682 sM_24 (by decide)) (by decide) (by decide) (by decide) (by decide) (by decide) (by decide) (by decide) (by decide)) (((dg_uf_F e_682 0 3).trans (m_2.1 0 3 _ sM_0 (by decide))).trans f_sg) (((dg_uf_F e_682 0 4).trans (m_2.1 0 4 _ sM_0 (by decide))).trans f_sa) hk5.out (j := 20) (C := 26982) (by decide) (by decide +kernel) w_1749_1) (by omega)
                    clear w_1749_1
                    refine lv_aload_n hx hb dX12_operand_313 rfl (lv_at hl 2 rfl) ?_
                    refine dg_get (C := RX12) (T := TX12) (N := 77) hx hb hts (fun w h => bw_mem (wU_X12 w h)) hown K hP sM_0 rfl 3 (by decide) (hts _ (bw_mem wB_292)) (fun _ h9 => h9) (v := .int sg) (((dg_uf_F e_682 0 3).trans (m_2.1 0 3 _ sM_0 (by decide))).trans f_sg) dX12_operand_314 ?_
                    refine lv_iconst (v := 2) hx hb dX12_operand_317 (by decide +kernel) ?_
                    have J_1848 : ∀ (x_1776 : Int32), ((-1) ≤ (x_1776).toInt ∧ (x_1776).toInt ≤ 6) → ((x_1776 : Int32).toInt ≠ -1 → (sg).toInt ≠ 0) → (m_hid (SRT (T_kd tb tn) (T_vl tb tn) (t_ix tb tn (sa : Int32).toNatClampNeg) (x_1776 : Int32).toInt)) → ∀ (H : Heap) (locs : List Loc), va_P D vwCl (dg_w g shM o rfM S_682) H → va_S A s.heap H locs → ∀ ls : Array Slot, lv_has ls 4 [(2, .int x_14), (1, .int x_5), (0, .ref (o + 0))] → W p l e ({ frames := 4, cells := 0, slots := 0, locals := 98 } : Room) s m args below meth c H locs 0 0 Q9 (F0 m 411 ls [.int x_1776]) := by
                      intro x_1776 b_x_1776 rel_0 rel_1 H locs hP hS ls hl
                      have h411 := rel_1
                      refine lv_istore_n (lv' := [(3, .int x_1776), (2, .int x_14), (1, .int x_5), (0, .ref (o + 0))]) hx hb dX12_operand_411 rfl hl (by decide) rfl (fun ls hl => ?_)
                      refine lv_iload_n hx hb dX12_operand_412 rfl (lv_at hl 0 rfl) ?_
                      refine lv_iconst (v := 4) hx hb dX12_operand_413 (by decide +kernel) ?_
                      refine lv_icmp_lt (tgt := 444) hx hb dX12_operand_414 (by decide) (fun c_1849 => ?_) (fun c_1849 => ?_)
                      · have jc_1849 := dk_ltc (k := 4) (by decide +kernel) c_1849
                        refine lv_iload_n hx hb dX12_operand_444 rfl (lv_at hl 0 rfl) ?_
                        refine lv_iconst (v := (-1)) hx hb dX12_operand_445 (by decide +kernel) ?_
                        refine lv_icmp_ne (tgt := 458) hx hb dX12_operand_446 (by decide) (fun c_1850 => ?_) (fun c_1850 => ?_)
                        · have jc_1850 := dk_neqc (k := (-1)) (by decide +kernel) c_1850
                          have jbc_1850 : 0 ≤ (x_1776).toInt := by omega
                          clear jc_1850
                          have rel_0r := rel_0 (by omega)
                          clear rel_0
                          have rel_0rb : 1 ≤ (sg).toInt := by omega
                          clear rel_0r
                          have hlx_2r := hlx_2 (by omega)
                          clear hlx_2
                          refine lv_aload_n hx hb dX12_operand_458 rfl (lv_at hl 3 rfl) ?_
                          refine dg_get (C := RX12) (T := TX12) (N := 77) hx hb hts (fun w h => bw_mem (wU_X12 w h)) hown K hP sM_0 rfl 8 (by decide) (hts _ (bw_mem wB_303)) (fun _ h9 => h9) (v := .int y_3) ((dg_uf_F e_682 0 8).trans f_y_3) dX12_operand_459 ?_
                          refine lv_if_le (tgt := 467) hx hb dX12_operand_462 (by decide) (fun _ => ?_) (fun c => absurd (dk_lep (k := 0) (by decide +kernel) (by omega)) c)
                          refine lv_aload_n hx hb dX12_operand_467 rfl (lv_at hl 3 rfl) ?_
                          refine lv_iload_n hx hb dX12_operand_468 rfl (lv_at hl 0 rfl) ?_
                          refine lv_aload_n hx hb dX12_operand_469 rfl (lv_at hl 3 rfl) ?_
                          refine dg_get (C := RX12) (T := TX12) (N := 77) hx hb hts (fun w h => bw_mem (wU_X12 w h)) hown K hP sM_0 rfl 6 (by decide) (hts _ (bw_mem wB_301)) (fun _ h9 => h9) (v := .int va) (((dg_uf_F e_682 0 6).trans (m_2.1 0 6 _ sM_0 (by decide))).trans f_va) dX12_operand_470 ?_
                          refine dg_callv hS hA1 hA (va_runV (As := [.int x_1776, .int va]) (rest := []) F (c_m_add l g D o S_682 x_1776 (by omega) va cd (((dg_uf_F e_682 0 34).trans (m_2.1 0 34 _ sM_0 (by decide))).trans f_cd) (by omega) (ZWM.keep (ZWM.keep ZW m_2 (by decide) (by decide) (by decide) (by decide)) (dg_sm.uf (WF := []) (WA := [24]) dg_sm.rf e_682 sM_24 (by decide)) (by decide) (by decide) (by decide) (by decide)) (ZKM.keep (ZKM.keep ZK m_2 (by decide) (by decide)) (dg_sm.uf (WF := []) (WA := [24]) dg_sm.rf e_682 sM_24 (by decide)) (by decide) (by decide)) I_682 H.size) (cwV 2 hts (bw_V wB_412 wB_413 wB_414 wB_297 wB_411) rfl rfl rfl (by decide +kernel) ⟨Nat.le_of_ble_eq_true rfl, Nat.le_of_ble_eq_true rfl⟩) (dg_preV sM_0 rfl K ST hP hS hA1 hA) rfl rfl hl.1 rfl (lv_room (Nat.le_of_ble_eq_true rfl)) dX12_operand_473 ⟨Nat.le_of_ble_eq_true rfl, Nat.le_of_ble_eq_true rfl⟩) (fun S_1851 hw_1851 H locs hP hS => ?_)
                          obtain ⟨I_1851, m_1851, w_1851_0, w_1851_1, w_1851_2, -⟩ := hw_1851
                          have M_1851 := dg_sm.tr M_682 m_1851 (by decide) (by decide)
                          obtain ⟨y_1852, f_y_1852, w_1851_0⟩ := w_1851_0
                          have w_1851_0 : (y_1852).toInt = (cd).toInt + 1 := w_1851_0
                          have b_y_1852 : 0 ≤ (y_1852).toInt ∧ (y_1852).toInt ≤ 1600 := dg_I.intb (lo := 0) (hi := 1600) I_1851 sM_0 (by decide +kernel) f_y_1852
                          replace w_1851_1 : ADM S_682 S_1851 x_1776 := w_1851_1
                          have P1_1851 : P1M S_1851 := PBM.leaf PB_682 (((dg_uf_F e_682 0 42).trans (m_2.1 0 42 _ sM_0 (by decide))).trans f_dp) (((dg_uf_F e_682 0 43).trans (m_2.1 0 43 _ sM_0 (by decide))).trans f_on) (((dg_uf_F e_682 0 45).trans (m_2.1 0 45 _ sM_0 (by decide))).trans f_om) m_1851 w_1851_1 (by omega)
                          refine lv_aload_n hx hb dX12_operand_476 rfl (lv_at hl 3 rfl) ?_
                          refine dg_callv hS hA1 hA (va_runV (As := []) (rest := []) F (c_m_ahead l g D o S_1851 tb tn se (((m_1851.1 0 5 _ sM_0 (by decide)).trans ((dg_uf_F e_682 0 5).trans (m_2.1 0 5 _ sM_0 (by decide)))).trans f_se) (by omega) sl (((m_1851.1 0 2 _ sM_0 (by decide)).trans ((dg_uf_F e_682 0 2).trans (m_2.1 0 2 _ sM_0 (by decide)))).trans f_sl) (by omega) (by omega) (TKM.keep (TKM.keep (TKM.keep TK m_2 (by decide) (by decide) (by decide) (by decide) (by decide) (by decide) (by decide) (by decide)) (dg_sm.uf (WF := []) (WA := [24]) dg_sm.rf e_682 sM_24 (by decide)) (by decide) (by decide) (by decide) (by decide) (by decide) (by decide) (by decide) (by decide)) m_1851 (by decide) (by decide) (by decide) (by decide) (by decide) (by decide) (by decide) (by decide)).1 I_1851 H.size) (cwV 0 hts (bw_V wB_318 wB_319 wB_320 wB_297 wB_317) rfl rfl rfl (by decide +kernel) ⟨Nat.le_of_ble_eq_true rfl, Nat.le_of_ble_eq_true rfl⟩) (dg_preV sM_0 rfl K ST hP hS hA1 hA) rfl rfl hl.1 rfl (lv_room (Nat.le_of_ble_eq_true rfl)) dX12_operand_477 ⟨Nat.le_of_ble_eq_true rfl, Nat.le_of_ble_eq_true rfl⟩) (fun S_1853 hw_1853 H locs hP hS => ?_)
                          obtain ⟨I_1853, m_1853, w_1853_0, w_1853_1, -⟩ := hw_1853
                          have M_1853 := dg_sm.tr M_1851 m_1853 (by decide) (by decide)
                          obtain ⟨y_1854, y_1855, y_1856, f_y_1854, f_y_1855, f_y_1856, w_1853_0⟩ := w_1853_0
                          have w_1853_0 : (se).toInt ≤ (y_1855).toInt ∧ (y_1855).toInt ≤ (y_1856).toInt ∧ (y_1856).toInt ≤ (sl).toInt ∧ ((y_1854).toInt ≠ 0 → (y_1855).toInt + 1 ≤ (y_1856).toInt) := w_1853_0
                          obtain ⟨w_1853_0_0, w_1853_0_1, w_1853_0_2, w_1853_0_3⟩ := w_1853_0
                          have b_y_1854 : 0 ≤ (y_1854).toInt ∧ (y_1854).toInt ≤ 3 := dg_I.intb (lo := 0) (hi := 3) I_1853 sM_0 (by decide +kernel) f_y_1854
                          have b_y_1855 : 0 ≤ (y_1855).toInt ∧ (y_1855).toInt ≤ 1600 := dg_I.intb (lo := 0) (hi := 1600) I_1853 sM_0 (by decide +kernel) f_y_1855
                          have b_y_1856 : 0 ≤ (y_1856).toInt ∧ (y_1856).toInt ≤ 1600 := dg_I.intb (lo := 0) (hi := 1600) I_1853 sM_0 (by decide +kernel) f_y_1856
                          replace w_1853_1 : TNX tb tn se S_1853 := w_1853_1
                          obtain ⟨TK_1853, nx_1853, -⟩ := TKM.nx (TKM.keep (TKM.keep (TKM.keep TK m_2 (by decide) (by decide) (by decide) (by decide) (by decide) (by decide) (by decide) (by decide)) (dg_sm.uf (WF := []) (WA := [24]) dg_sm.rf e_682 sM_24 (by decide)) (by decide) (by decide) (by decide) (by decide) (by decide) (by decide) (by decide) (by decide)) m_1851 (by decide) (by decide) (by decide) (by decide) (by decide) (by decide) (by decide) (by decide)) (((m_1851.1 0 4 _ sM_0 (by decide)).trans ((dg_uf_F e_682 0 4).trans (m_2.1 0 4 _ sM_0 (by decide)))).trans f_sa) (((m_1851.1 0 5 _ sM_0 (by decide)).trans ((dg_uf_F e_682 0 5).trans (m_2.1 0 5 _ sM_0 (by decide)))).trans f_se) w_1853_1 m_1853 (by decide) (by decide) f_y_1855
                          replace nx_1853 := nx_1853 (fun q9 => absurd ((TKM.zero (TKM.keep (TKM.keep (TKM.keep TK m_2 (by decide) (by decide) (by decide) (by decide) (by decide) (by decide) (by decide) (by decide)) (dg_sm.uf (WF := []) (WA := [24]) dg_sm.rf e_682 sM_24 (by decide)) (by decide) (by decide) (by decide) (by decide) (by decide) (by decide) (by decide) (by decide)) m_1851 (by decide) (by decide) (by decide) (by decide) (by decide) (by decide) (by decide) (by decide)) (((m_1851.1 0 3 _ sM_0 (by decide)).trans ((dg_uf_F e_682 0 3).trans (m_2.1 0 3 _ sM_0 (by decide)))).trans f_sg) (((m_1851.1 0 4 _ sM_0 (by decide)).trans ((dg_uf_F e_682 0 4).trans (m_2.1 0 4 _ sM_0 (by decide)))).trans f_sa)).mpr q9) (by omega))
                          refine lv_iconst (v := 1) hx hb dX12_operand_480 (by decide +kernel) ?_
                          have hz_1857 : (1 : Int32).toInt = 1 := by decide +kernel
                          have hz_1858 : (1 : Int32).toInt = 1 := by decide +kernel
                          have hz_1859 : (1 : Int32).toInt = 1 := by decide +kernel
                          have hz_1860 : (1 : Int32).toInt = 1 := by decide +kernel
                          have hz_1861 : (1 : Int32).toInt = 1 := by decide +kernel
                          have hz_1862 : (1 : Int32).toInt = 1 := by decide +kernel
                          refine W.widen (k := 0) (n := 0) (Nat.le_of_ble_eq_true rfl) (Nat.le_of_ble_eq_true rfl) ?_
                          rw [hQ9]
                          exact dg_iret hx hb hr hlocks (by decide +kernel) hP hS ⟨I_1853, M_1853, (by decide +kernel), ⟨y_1854, y_1855, y_1856, y_3, y_1852, dp, om, f_y_1854, f_y_1855, f_y_1856, (((m_1853.1 0 8 _ sM_0 (by decide)).trans ((m_1851.1 0 8 _ sM_0 (by decide)).trans (dg_uf_F e_682 0 8))).trans f_y_3), ((m_1853.1 0 34 _ sM_0 (by decide)).trans f_y_1852), (((m_1853.1 0 42 _ sM_0 (by decide)).trans ((m_1851.1 0 42 _ sM_0 (by decide)).trans ((dg_uf_F e_682 0 42).trans (m_2.1 0 42 _ sM_0 (by decide))))).trans f_dp), (((m_1853.1 0 45 _ sM_0 (by decide)).trans ((m_1851.1 0 45 _ sM_0 (by decide)).trans ((dg_uf_F e_682 0 45).trans (m_2.1 0 45 _ sM_0 (by decide))))).trans f_om), (by omega)⟩, (fun k9 hk9 hk0 => ⟨fun _ => (P1M.keep P1_1851 m_1853 (by decide) (by decide) (by decide) (by decide) (by decide) (by decide) (by decide) (by decide) (by decide) (by decide) (by decide) (by decide) (by decide) (by decide) (by decide)), fun h9 => absurd h9 (by decide +kernel)⟩), (OPK.ok f_sa (((m_1853.1 0 8 _ sM_0 (by decide)).trans ((m_1851.1 0 8 _ sM_0 (by decide)).trans (dg_uf_F e_682 0 8))).trans f_y_3) f_y_1855 (by omega) hM0 (TFM.keep (TFM.keep TF_682 m_1851 (by decide) (by decide) (by decide) (by decide) (by decide) (by decide) (by decide) (by decide)) m_1853 (by decide) (by decide) (by decide) (by decide) (by decide) (by decide) (by decide) (by decide)) (m_st_f.trans (m_opd_at h171.out h187.out qw_1749_1 qw_1260_1 qw_1745_1 (SRT.good h411.out (by omega)))) (by omega) (by decide +kernel)), TK_1853, (ZWM.keep w_1851_2 m_1853 (by decide) (by decide) (by decide) (by decide)), trivial⟩ dX12_operand_481
                        · have jc_1850 := dk_eqc (k := (-1)) (by decide +kernel) c_1850
                          clear rel_0
                          refine lv_aload_n hx hb dX12_operand_449 rfl (lv_at hl 3 rfl) ?_
                          refine lv_iconst (v := 1) hx hb dX12_operand_450 (by decide +kernel) ?_
                          refine lv_aload_n hx hb dX12_operand_451 rfl (lv_at hl 3 rfl) ?_
                          refine dg_get (C := RX12) (T := TX12) (N := 77) hx hb hts (fun w h => bw_mem (wU_X12 w h)) hown K hP sM_0 rfl 4 (by decide) (hts _ (bw_mem wB_291)) (fun _ h9 => h9) (v := .int sa) (((dg_uf_F e_682 0 4).trans (m_2.1 0 4 _ sM_0 (by decide))).trans f_sa) dX12_operand_452 ?_
                          have hz_1863 : (1 : Int32).toInt = 1 := by decide +kernel
                          refine dg_callv hS hA1 hA (va_runV (As := [.int 1, .int sa]) (rest := []) F (c_m_blame l g D o S_682 1 (by decide +kernel) sa y_3 ((dg_uf_F e_682 0 8).trans f_y_3) (by omega) I_682 H.size) (cwV 2 hts (bw_V wB_306 wB_307 wB_308 wB_297 wB_305) rfl rfl rfl (by decide +kernel) ⟨Nat.le_of_ble_eq_true rfl, Nat.le_of_ble_eq_true rfl⟩) (dg_preV sM_0 rfl K ST hP hS hA1 hA) rfl rfl hl.1 rfl (lv_room (Nat.le_of_ble_eq_true rfl)) dX12_operand_455 ⟨Nat.le_of_ble_eq_true rfl, Nat.le_of_ble_eq_true rfl⟩) (fun S_1864 hw_1864 H locs hP hS => ?_)
                          obtain ⟨I_1864, m_1864, w_1864_0, -⟩ := hw_1864
                          have M_1864 := dg_sm.tr M_682 m_1864 (by decide) (by decide)
                          have hz_1865 : (1 : Int32).toInt = 1 := by decide +kernel
                          obtain ⟨y_1866, f_y_1866, w_1864_0⟩ := w_1864_0
                          have w_1864_0 : ((y_3).toInt ≠ 0 → (y_1866).toInt = (y_3).toInt) ∧ ((y_3).toInt = 0 → (y_1866).toInt = ((1 : Int32)).toInt) := w_1864_0
                          obtain ⟨w_1864_0_0, w_1864_0_1⟩ := w_1864_0
                          clear w_1864_0_0
                          have w_1864_0_1r := w_1864_0_1 (by omega)
                          clear w_1864_0_1
                          have b_y_1866 : 0 ≤ (y_1866).toInt ∧ (y_1866).toInt ≤ 6 := dg_I.intb (lo := 0) (hi := 6) I_1864 sM_0 (by decide +kernel) f_y_1866
                          have hbl_y_1866 : 1 ≤ (y_1866).toInt := by omega
                          refine lv_aload_n hx hb dX12_operand_458 rfl (lv_at hl 3 rfl) ?_
                          refine dg_get (C := RX12) (T := TX12) (N := 77) hx hb hts (fun w h => bw_mem (wU_X12 w h)) hown K hP sM_0 rfl 8 (by decide) (hts _ (bw_mem wB_303)) (fun _ h9 => h9) (v := .int y_1866) f_y_1866 dX12_operand_459 ?_
                          refine lv_if_le (tgt := 467) hx hb dX12_operand_462 (by decide) (fun c => absurd c (fun z => absurd (dk_lec (k := 0) (by decide +kernel) z) (by omega))) (fun _ => ?_)
                          refine lv_iconst (v := 1) hx hb dX12_operand_465 (by decide +kernel) ?_
                          have hz_1867 : (1 : Int32).toInt = 1 := by decide +kernel
                          have hz_1868 : (1 : Int32).toInt = 1 := by decide +kernel
                          have hz_1869 : (1 : Int32).toInt = 1 := by decide +kernel
                          have hz_1870 : (1 : Int32).toInt = 1 := by decide +kernel
                          have hz_1871 : (1 : Int32).toInt = 1 := by decide +kernel
                          have hz_1872 : (1 : Int32).toInt = 1 := by decide +kernel
                          refine W.widen (k := 0) (n := 0) (Nat.le_of_ble_eq_true rfl) (Nat.le_of_ble_eq_true rfl) ?_
                          rw [hQ9]
                          exact dg_iret hx hb hr hlocks (by decide +kernel) hP hS ⟨I_1864, M_1864, (by decide +kernel), ⟨sg, sa, se, y_1866, cd, dp, om, (((m_1864.1 0 3 _ sM_0 (by decide)).trans ((dg_uf_F e_682 0 3).trans (m_2.1 0 3 _ sM_0 (by decide)))).trans f_sg), (((m_1864.1 0 4 _ sM_0 (by decide)).trans ((dg_uf_F e_682 0 4).trans (m_2.1 0 4 _ sM_0 (by decide)))).trans f_sa), (((m_1864.1 0 5 _ sM_0 (by decide)).trans ((dg_uf_F e_682 0 5).trans (m_2.1 0 5 _ sM_0 (by decide)))).trans f_se), f_y_1866, (((m_1864.1 0 34 _ sM_0 (by decide)).trans ((dg_uf_F e_682 0 34).trans (m_2.1 0 34 _ sM_0 (by decide)))).trans f_cd), (((m_1864.1 0 42 _ sM_0 (by decide)).trans ((dg_uf_F e_682 0 42).trans (m_2.1 0 42 _ sM_0 (by decide)))).trans f_dp), (((m_1864.1 0 45 _ sM_0 (by decide)).trans ((dg_uf_F e_682 0 45).trans (m_2.1 0 45 _ sM_0 (by decide)))).trans f_om), (by omega)⟩, (fun k9 hk9 hk0 => by have q9 := (f_y_1866).symm.trans hk9; cases q9; omega), (OPK.no f_sa f_fk f_y_1866 (by omega) (fun h0 => by rw [hM0]; exact m_st_f.trans (m_opd_no h171.out h187.out qw_1749_1 qw_1260_1 qw_1745_1 (SRT.bad h411.out (by omega))))), (TKM.keep (TKM.keep (TKM.keep TK m_2 (by decide) (by decide) (by decide) (by decide) (by decide) (by decide) (by decide) (by decide)) (dg_sm.uf (WF := []) (WA := [24]) dg_sm.rf e_682 sM_24 (by decide)) (by decide) (by decide) (by decide) (by decide) (by decide) (by decide) (by decide) (by decide)) m_1864 (by decide) (by decide) (by decide) (by decide) (by decide) (by decide) (by decide) (by decide)), (ZWM.keep (ZWM.keep (ZWM.keep ZW m_2 (by decide) (by decide) (by decide) (by decide)) (dg_sm.uf (WF := []) (WA := [24]) dg_sm.rf e_682 sM_24 (by decide)) (by decide) (by decide) (by decide) (by decide)) m_1864 (by decide) (by decide) (by decide) (by decide)), trivial⟩ dX12_operand_466
                      · have jc_1849 := dk_nltc (k := 4) (by decide +kernel) c_1849
                        have rel_0r := rel_0 (by omega)
                        clear rel_0
                        have rel_0rb : 1 ≤ (sg).toInt := by omega
                        clear rel_0r
                        have hlx_2r := hlx_2 (by omega)
                        clear hlx_2
                        refine lv_iload_n hx hb dX12_operand_417 rfl (lv_at hl 0 rfl) ?_
                        refine lv_iconst (v := 4) hx hb dX12_operand_418 (by decide +kernel) ?_
                        refine lv_icmp_ne (tgt := 426) hx hb dX12_operand_419 (by decide) (fun c_1873 => ?_) (fun c_1873 => ?_)
                        · have jc_1873 := dk_neqc (k := 4) (by decide +kernel) c_1873
                          have jbc_1873 : 5 ≤ (x_1776).toInt := by omega
                          clear jc_1873
                          refine lv_iconst (v := 0) hx hb dX12_operand_426 (by decide +kernel) ?_
                          refine lv_aload_n hx hb dX12_operand_427 rfl (lv_at hl 3 rfl) ?_
                          refine dg_get (C := RX12) (T := TX12) (N := 77) hx hb hts (fun w h => bw_mem (wU_X12 w h)) hown K hP sM_0 rfl 36 (by decide) (hts _ (bw_mem wB_434)) (fun _ h9 => h9) (v := .int lw) (((dg_uf_F e_682 0 36).trans (m_2.1 0 36 _ sM_0 (by decide))).trans f_lw) dX12_operand_428 ?_
                          refine lv_if_ne (tgt := 438) hx hb dX12_operand_431 (by decide) (fun c_1874 => ?_) (fun c_1874 => ?_)
                          · have jc_1874 := dk_neqc (k := 0) (by decide +kernel) c_1874
                            have jbc_1874 : 1 ≤ (lw).toInt := by omega
                            clear jc_1874
                            refine lv_iconst (v := 0) hx hb dX12_operand_438 (by decide +kernel) ?_
                            refine lv_icmp_eq (tgt := 444) hx hb dX12_operand_439 (by decide) (fun _ => ?_) (fun c => absurd (by decide +kernel) c)
                            refine lv_iload_n hx hb dX12_operand_444 rfl (lv_at hl 0 rfl) ?_
                            refine lv_iconst (v := (-1)) hx hb dX12_operand_445 (by decide +kernel) ?_
                            refine lv_icmp_ne (tgt := 458) hx hb dX12_operand_446 (by decide) (fun _ => ?_) (fun c => absurd c (fun z => absurd (dk_eqc (k := (-1)) (by decide +kernel) z) (by omega)))
                            refine lv_aload_n hx hb dX12_operand_458 rfl (lv_at hl 3 rfl) ?_
                            refine dg_get (C := RX12) (T := TX12) (N := 77) hx hb hts (fun w h => bw_mem (wU_X12 w h)) hown K hP sM_0 rfl 8 (by decide) (hts _ (bw_mem wB_303)) (fun _ h9 => h9) (v := .int y_3) ((dg_uf_F e_682 0 8).trans f_y_3) dX12_operand_459 ?_
                            refine lv_if_le (tgt := 467) hx hb dX12_operand_462 (by decide) (fun _ => ?_) (fun c => absurd (dk_lep (k := 0) (by decide +kernel) (by omega)) c)
                            refine lv_aload_n hx hb dX12_operand_467 rfl (lv_at hl 3 rfl) ?_
                            refine lv_iload_n hx hb dX12_operand_468 rfl (lv_at hl 0 rfl) ?_
                            refine lv_aload_n hx hb dX12_operand_469 rfl (lv_at hl 3 rfl) ?_
                            refine dg_get (C := RX12) (T := TX12) (N := 77) hx hb hts (fun w h => bw_mem (wU_X12 w h)) hown K hP sM_0 rfl 6 (by decide) (hts _ (bw_mem wB_301)) (fun _ h9 => h9) (v := .int va) (((dg_uf_F e_682 0 6).trans (m_2.1 0 6 _ sM_0 (by decide))).trans f_va) dX12_operand_470 ?_
                            refine dg_callv hS hA1 hA (va_runV (As := [.int x_1776, .int va]) (rest := []) F (c_m_add l g D o S_682 x_1776 (by omega) va cd (((dg_uf_F e_682 0 34).trans (m_2.1 0 34 _ sM_0 (by decide))).trans f_cd) (by omega) (ZWM.keep (ZWM.keep ZW m_2 (by decide) (by decide) (by decide) (by decide)) (dg_sm.uf (WF := []) (WA := [24]) dg_sm.rf e_682 sM_24 (by decide)) (by decide) (by decide) (by decide) (by decide)) (ZKM.keep (ZKM.keep ZK m_2 (by decide) (by decide)) (dg_sm.uf (WF := []) (WA := [24]) dg_sm.rf e_682 sM_24 (by decide)) (by decide) (by decide)) I_682 H.size) (cwV 2 hts (bw_V wB_412 wB_413 wB_414 wB_297 wB_411) rfl rfl rfl (by decide +kernel) ⟨Nat.le_of_ble_eq_true rfl, Nat.le_of_ble_eq_true rfl⟩) (dg_preV sM_0 rfl K ST hP hS hA1 hA) rfl rfl hl.1 rfl (lv_room (Nat.le_of_ble_eq_true rfl)) dX12_operand_473 ⟨Nat.le_of_ble_eq_true rfl, Nat.le_of_ble_eq_true rfl⟩) (fun S_1875 hw_1875 H locs hP hS => ?_)
                            obtain ⟨I_1875, m_1875, w_1875_0, w_1875_1, w_1875_2, -⟩ := hw_1875
                            have M_1875 := dg_sm.tr M_682 m_1875 (by decide) (by decide)
                            obtain ⟨y_1876, f_y_1876, w_1875_0⟩ := w_1875_0
                            have w_1875_0 : (y_1876).toInt = (cd).toInt + 1 := w_1875_0
                            have b_y_1876 : 0 ≤ (y_1876).toInt ∧ (y_1876).toInt ≤ 1600 := dg_I.intb (lo := 0) (hi := 1600) I_1875 sM_0 (by decide +kernel) f_y_1876
                            replace w_1875_1 : ADM S_682 S_1875 x_1776 := w_1875_1
                            have P1_1875 : P1M S_1875 := PBM.leaf PB_682 (((dg_uf_F e_682 0 42).trans (m_2.1 0 42 _ sM_0 (by decide))).trans f_dp) (((dg_uf_F e_682 0 43).trans (m_2.1 0 43 _ sM_0 (by decide))).trans f_on) (((dg_uf_F e_682 0 45).trans (m_2.1 0 45 _ sM_0 (by decide))).trans f_om) m_1875 w_1875_1 (by omega)
                            refine lv_aload_n hx hb dX12_operand_476 rfl (lv_at hl 3 rfl) ?_
                            refine dg_callv hS hA1 hA (va_runV (As := []) (rest := []) F (c_m_ahead l g D o S_1875 tb tn se (((m_1875.1 0 5 _ sM_0 (by decide)).trans ((dg_uf_F e_682 0 5).trans (m_2.1 0 5 _ sM_0 (by decide)))).trans f_se) (by omega) sl (((m_1875.1 0 2 _ sM_0 (by decide)).trans ((dg_uf_F e_682 0 2).trans (m_2.1 0 2 _ sM_0 (by decide)))).trans f_sl) (by omega) (by omega) (TKM.keep (TKM.keep (TKM.keep TK m_2 (by decide) (by decide) (by decide) (by decide) (by decide) (by decide) (by decide) (by decide)) (dg_sm.uf (WF := []) (WA := [24]) dg_sm.rf e_682 sM_24 (by decide)) (by decide) (by decide) (by decide) (by decide) (by decide) (by decide) (by decide) (by decide)) m_1875 (by decide) (by decide) (by decide) (by decide) (by decide) (by decide) (by decide) (by decide)).1 I_1875 H.size) (cwV 0 hts (bw_V wB_318 wB_319 wB_320 wB_297 wB_317) rfl rfl rfl (by decide +kernel) ⟨Nat.le_of_ble_eq_true rfl, Nat.le_of_ble_eq_true rfl⟩) (dg_preV sM_0 rfl K ST hP hS hA1 hA) rfl rfl hl.1 rfl (lv_room (Nat.le_of_ble_eq_true rfl)) dX12_operand_477 ⟨Nat.le_of_ble_eq_true rfl, Nat.le_of_ble_eq_true rfl⟩) (fun S_1877 hw_1877 H locs hP hS => ?_)
                            obtain ⟨I_1877, m_1877, w_1877_0, w_1877_1, -⟩ := hw_1877
                            have M_1877 := dg_sm.tr M_1875 m_1877 (by decide) (by decide)
                            obtain ⟨y_1878, y_1879, y_1880, f_y_1878, f_y_1879, f_y_1880, w_1877_0⟩ := w_1877_0
                            have w_1877_0 : (se).toInt ≤ (y_1879).toInt ∧ (y_1879).toInt ≤ (y_1880).toInt ∧ (y_1880).toInt ≤ (sl).toInt ∧ ((y_1878).toInt ≠ 0 → (y_1879).toInt + 1 ≤ (y_1880).toInt) := w_1877_0
                            obtain ⟨w_1877_0_0, w_1877_0_1, w_1877_0_2, w_1877_0_3⟩ := w_1877_0
                            have b_y_1878 : 0 ≤ (y_1878).toInt ∧ (y_1878).toInt ≤ 3 := dg_I.intb (lo := 0) (hi := 3) I_1877 sM_0 (by decide +kernel) f_y_1878
                            have b_y_1879 : 0 ≤ (y_1879).toInt ∧ (y_1879).toInt ≤ 1600 := dg_I.intb (lo := 0) (hi := 1600) I_1877 sM_0 (by decide +kernel) f_y_1879
                            have b_y_1880 : 0 ≤ (y_1880).toInt ∧ (y_1880).toInt ≤ 1600 := dg_I.intb (lo := 0) (hi := 1600) I_1877 sM_0 (by decide +kernel) f_y_1880
                            replace w_1877_1 : TNX tb tn se S_1877 := w_1877_1
                            obtain ⟨TK_1877, nx_1877, -⟩ := TKM.nx (TKM.keep (TKM.keep (TKM.keep TK m_2 (by decide) (by decide) (by decide) (by decide) (by decide) (by decide) (by decide) (by decide)) (dg_sm.uf (WF := []) (WA := [24]) dg_sm.rf e_682 sM_24 (by decide)) (by decide) (by decide) (by decide) (by decide) (by decide) (by decide) (by decide) (by decide)) m_1875 (by decide) (by decide) (by decide) (by decide) (by decide) (by decide) (by decide) (by decide)) (((m_1875.1 0 4 _ sM_0 (by decide)).trans ((dg_uf_F e_682 0 4).trans (m_2.1 0 4 _ sM_0 (by decide)))).trans f_sa) (((m_1875.1 0 5 _ sM_0 (by decide)).trans ((dg_uf_F e_682 0 5).trans (m_2.1 0 5 _ sM_0 (by decide)))).trans f_se) w_1877_1 m_1877 (by decide) (by decide) f_y_1879
                            replace nx_1877 := nx_1877 (fun q9 => absurd ((TKM.zero (TKM.keep (TKM.keep (TKM.keep TK m_2 (by decide) (by decide) (by decide) (by decide) (by decide) (by decide) (by decide) (by decide)) (dg_sm.uf (WF := []) (WA := [24]) dg_sm.rf e_682 sM_24 (by decide)) (by decide) (by decide) (by decide) (by decide) (by decide) (by decide) (by decide) (by decide)) m_1875 (by decide) (by decide) (by decide) (by decide) (by decide) (by decide) (by decide) (by decide)) (((m_1875.1 0 3 _ sM_0 (by decide)).trans ((dg_uf_F e_682 0 3).trans (m_2.1 0 3 _ sM_0 (by decide)))).trans f_sg) (((m_1875.1 0 4 _ sM_0 (by decide)).trans ((dg_uf_F e_682 0 4).trans (m_2.1 0 4 _ sM_0 (by decide)))).trans f_sa)).mpr q9) (by omega))
                            refine lv_iconst (v := 1) hx hb dX12_operand_480 (by decide +kernel) ?_
                            have hz_1881 : (1 : Int32).toInt = 1 := by decide +kernel
                            have hz_1882 : (1 : Int32).toInt = 1 := by decide +kernel
                            have hz_1883 : (1 : Int32).toInt = 1 := by decide +kernel
                            have hz_1884 : (1 : Int32).toInt = 1 := by decide +kernel
                            have hz_1885 : (1 : Int32).toInt = 1 := by decide +kernel
                            have hz_1886 : (1 : Int32).toInt = 1 := by decide +kernel
                            refine W.widen (k := 0) (n := 0) (Nat.le_of_ble_eq_true rfl) (Nat.le_of_ble_eq_true rfl) ?_
                            rw [hQ9]
                            exact dg_iret hx hb hr hlocks (by decide +kernel) hP hS ⟨I_1877, M_1877, (by decide +kernel), ⟨y_1878, y_1879, y_1880, y_3, y_1876, dp, om, f_y_1878, f_y_1879, f_y_1880, (((m_1877.1 0 8 _ sM_0 (by decide)).trans ((m_1875.1 0 8 _ sM_0 (by decide)).trans (dg_uf_F e_682 0 8))).trans f_y_3), ((m_1877.1 0 34 _ sM_0 (by decide)).trans f_y_1876), (((m_1877.1 0 42 _ sM_0 (by decide)).trans ((m_1875.1 0 42 _ sM_0 (by decide)).trans ((dg_uf_F e_682 0 42).trans (m_2.1 0 42 _ sM_0 (by decide))))).trans f_dp), (((m_1877.1 0 45 _ sM_0 (by decide)).trans ((m_1875.1 0 45 _ sM_0 (by decide)).trans ((dg_uf_F e_682 0 45).trans (m_2.1 0 45 _ sM_0 (by decide))))).trans f_om), (by omega)⟩, (fun k9 hk9 hk0 => ⟨fun _ => (P1M.keep P1_1875 m_1877 (by decide) (by decide) (by decide) (by decide) (by decide) (by decide) (by decide) (by decide) (by decide) (by decide) (by decide) (by decide) (by decide) (by decide) (by decide)), fun h9 => absurd h9 (by decide +kernel)⟩), (OPK.ok f_sa (((m_1877.1 0 8 _ sM_0 (by decide)).trans ((m_1875.1 0 8 _ sM_0 (by decide)).trans (dg_uf_F e_682 0 8))).trans f_y_3) f_y_1879 (by omega) hM0 (TFM.keep (TFM.keep TF_682 m_1875 (by decide) (by decide) (by decide) (by decide) (by decide) (by decide) (by decide) (by decide)) m_1877 (by decide) (by decide) (by decide) (by decide) (by decide) (by decide) (by decide) (by decide)) (m_st_f.trans (m_opd_at h171.out h187.out qw_1749_1 qw_1260_1 qw_1745_1 (SRT.good h411.out (by omega)))) (by omega) (by decide +kernel)), TK_1877, (ZWM.keep w_1875_2 m_1877 (by decide) (by decide) (by decide) (by decide)), trivial⟩ dX12_operand_481
                          · have jc_1874 := dk_eqc (k := 0) (by decide +kernel) c_1874
                            refine lv_iconst (v := 1) hx hb dX12_operand_434 (by decide +kernel) ?_
                            refine lv_goto (tgt := 439) hx hb dX12_operand_435 (by decide) ?_
                            refine lv_icmp_eq (tgt := 444) hx hb dX12_operand_439 (by decide) (fun c => absurd c (by decide +kernel)) (fun _ => ?_)
                            refine lv_iconst (v := (-1)) hx hb dX12_operand_442 (by decide +kernel) ?_
                            refine lv_istore_n (lv' := [(3, .int (-1)), (2, .int x_14), (1, .int x_5), (0, .ref (o + 0))]) hx hb dX12_operand_443 rfl hl (by decide) rfl (fun ls hl => ?_)
                            refine lv_iload_n hx hb dX12_operand_444 rfl (lv_at hl 0 rfl) ?_
                            refine lv_iconst (v := (-1)) hx hb dX12_operand_445 (by decide +kernel) ?_
                            refine lv_icmp_ne (tgt := 458) hx hb dX12_operand_446 (by decide) (fun c => absurd (by decide +kernel) c) (fun _ => ?_)
                            refine lv_aload_n hx hb dX12_operand_449 rfl (lv_at hl 3 rfl) ?_
                            refine lv_iconst (v := 1) hx hb dX12_operand_450 (by decide +kernel) ?_
                            refine lv_aload_n hx hb dX12_operand_451 rfl (lv_at hl 3 rfl) ?_
                            refine dg_get (C := RX12) (T := TX12) (N := 77) hx hb hts (fun w h => bw_mem (wU_X12 w h)) hown K hP sM_0 rfl 4 (by decide) (hts _ (bw_mem wB_291)) (fun _ h9 => h9) (v := .int sa) (((dg_uf_F e_682 0 4).trans (m_2.1 0 4 _ sM_0 (by decide))).trans f_sa) dX12_operand_452 ?_
                            have hz_1887 : (1 : Int32).toInt = 1 := by decide +kernel
                            refine dg_callv hS hA1 hA (va_runV (As := [.int 1, .int sa]) (rest := []) F (c_m_blame l g D o S_682 1 (by decide +kernel) sa y_3 ((dg_uf_F e_682 0 8).trans f_y_3) (by omega) I_682 H.size) (cwV 2 hts (bw_V wB_306 wB_307 wB_308 wB_297 wB_305) rfl rfl rfl (by decide +kernel) ⟨Nat.le_of_ble_eq_true rfl, Nat.le_of_ble_eq_true rfl⟩) (dg_preV sM_0 rfl K ST hP hS hA1 hA) rfl rfl hl.1 rfl (lv_room (Nat.le_of_ble_eq_true rfl)) dX12_operand_455 ⟨Nat.le_of_ble_eq_true rfl, Nat.le_of_ble_eq_true rfl⟩) (fun S_1888 hw_1888 H locs hP hS => ?_)
                            obtain ⟨I_1888, m_1888, w_1888_0, -⟩ := hw_1888
                            have M_1888 := dg_sm.tr M_682 m_1888 (by decide) (by decide)
                            have hz_1889 : (1 : Int32).toInt = 1 := by decide +kernel
                            obtain ⟨y_1890, f_y_1890, w_1888_0⟩ := w_1888_0
                            have w_1888_0 : ((y_3).toInt ≠ 0 → (y_1890).toInt = (y_3).toInt) ∧ ((y_3).toInt = 0 → (y_1890).toInt = ((1 : Int32)).toInt) := w_1888_0
                            obtain ⟨w_1888_0_0, w_1888_0_1⟩ := w_1888_0
                            clear w_1888_0_0
                            have w_1888_0_1r := w_1888_0_1 (by omega)
                            clear w_1888_0_1
                            have b_y_1890 : 0 ≤ (y_1890).toInt ∧ (y_1890).toInt ≤ 6 := dg_I.intb (lo := 0) (hi := 6) I_1888 sM_0 (by decide +kernel) f_y_1890
                            have hbl_y_1890 : 1 ≤ (y_1890).toInt := by omega
                            refine lv_aload_n hx hb dX12_operand_458 rfl (lv_at hl 3 rfl) ?_
                            refine dg_get (C := RX12) (T := TX12) (N := 77) hx hb hts (fun w h => bw_mem (wU_X12 w h)) hown K hP sM_0 rfl 8 (by decide) (hts _ (bw_mem wB_303)) (fun _ h9 => h9) (v := .int y_1890) f_y_1890 dX12_operand_459 ?_
                            refine lv_if_le (tgt := 467) hx hb dX12_operand_462 (by decide) (fun c => absurd c (fun z => absurd (dk_lec (k := 0) (by decide +kernel) z) (by omega))) (fun _ => ?_)
                            refine lv_iconst (v := 1) hx hb dX12_operand_465 (by decide +kernel) ?_
                            have hz_1891 : (1 : Int32).toInt = 1 := by decide +kernel
                            have hz_1892 : (1 : Int32).toInt = 1 := by decide +kernel
                            have hz_1893 : (1 : Int32).toInt = 1 := by decide +kernel
                            have hz_1894 : (1 : Int32).toInt = 1 := by decide +kernel
                            have hz_1895 : (1 : Int32).toInt = 1 := by decide +kernel
                            have hz_1896 : (1 : Int32).toInt = 1 := by decide +kernel
                            refine W.widen (k := 0) (n := 0) (Nat.le_of_ble_eq_true rfl) (Nat.le_of_ble_eq_true rfl) ?_
                            rw [hQ9]
                            exact dg_iret hx hb hr hlocks (by decide +kernel) hP hS ⟨I_1888, M_1888, (by decide +kernel), ⟨sg, sa, se, y_1890, cd, dp, om, (((m_1888.1 0 3 _ sM_0 (by decide)).trans ((dg_uf_F e_682 0 3).trans (m_2.1 0 3 _ sM_0 (by decide)))).trans f_sg), (((m_1888.1 0 4 _ sM_0 (by decide)).trans ((dg_uf_F e_682 0 4).trans (m_2.1 0 4 _ sM_0 (by decide)))).trans f_sa), (((m_1888.1 0 5 _ sM_0 (by decide)).trans ((dg_uf_F e_682 0 5).trans (m_2.1 0 5 _ sM_0 (by decide)))).trans f_se), f_y_1890, (((m_1888.1 0 34 _ sM_0 (by decide)).trans ((dg_uf_F e_682 0 34).trans (m_2.1 0 34 _ sM_0 (by decide)))).trans f_cd), (((m_1888.1 0 42 _ sM_0 (by decide)).trans ((dg_uf_F e_682 0 42).trans (m_2.1 0 42 _ sM_0 (by decide)))).trans f_dp), (((m_1888.1 0 45 _ sM_0 (by decide)).trans ((dg_uf_F e_682 0 45).trans (m_2.1 0 45 _ sM_0 (by decide)))).trans f_om), (by omega)⟩, (fun k9 hk9 hk0 => by have q9 := (f_y_1890).symm.trans hk9; cases q9; omega), (OPK.no f_sa f_fk f_y_1890 (by omega) (fun h0 => by rw [hM0]; exact m_st_f.trans (m_opd_no h171.out h187.out qw_1749_1 qw_1260_1 qw_1745_1 (SRT.bad h411.out (by omega))))), (TKM.keep (TKM.keep (TKM.keep TK m_2 (by decide) (by decide) (by decide) (by decide) (by decide) (by decide) (by decide) (by decide)) (dg_sm.uf (WF := []) (WA := [24]) dg_sm.rf e_682 sM_24 (by decide)) (by decide) (by decide) (by decide) (by decide) (by decide) (by decide) (by decide) (by decide)) m_1888 (by decide) (by decide) (by decide) (by decide) (by decide) (by decide) (by decide) (by decide)), (ZWM.keep (ZWM.keep (ZWM.keep ZW m_2 (by decide) (by decide) (by decide) (by decide)) (dg_sm.uf (WF := []) (WA := [24]) dg_sm.rf e_682 sM_24 (by decide)) (by decide) (by decide) (by decide) (by decide)) m_1888 (by decide) (by decide) (by decide) (by decide)), trivial⟩ dX12_operand_466
                        · have jc_1873 := dk_eqc (k := 4) (by decide +kernel) c_1873
                          refine lv_iconst (v := 1) hx hb dX12_operand_422 (by decide +kernel) ?_
                          refine lv_goto (tgt := 427) hx hb dX12_operand_423 (by decide) ?_
                          refine lv_aload_n hx hb dX12_operand_427 rfl (lv_at hl 3 rfl) ?_
                          refine dg_get (C := RX12) (T := TX12) (N := 77) hx hb hts (fun w h => bw_mem (wU_X12 w h)) hown K hP sM_0 rfl 36 (by decide) (hts _ (bw_mem wB_434)) (fun _ h9 => h9) (v := .int lw) (((dg_uf_F e_682 0 36).trans (m_2.1 0 36 _ sM_0 (by decide))).trans f_lw) dX12_operand_428 ?_
                          refine lv_if_ne (tgt := 438) hx hb dX12_operand_431 (by decide) (fun c_1897 => ?_) (fun c_1897 => ?_)
                          · have jc_1897 := dk_neqc (k := 0) (by decide +kernel) c_1897
                            have jbc_1897 : 1 ≤ (lw).toInt := by omega
                            clear jc_1897
                            refine lv_iconst (v := 0) hx hb dX12_operand_438 (by decide +kernel) ?_
                            refine lv_icmp_eq (tgt := 444) hx hb dX12_operand_439 (by decide) (fun c => absurd c (by decide +kernel)) (fun _ => ?_)
                            refine lv_iconst (v := (-1)) hx hb dX12_operand_442 (by decide +kernel) ?_
                            refine lv_istore_n (lv' := [(3, .int (-1)), (2, .int x_14), (1, .int x_5), (0, .ref (o + 0))]) hx hb dX12_operand_443 rfl hl (by decide) rfl (fun ls hl => ?_)
                            refine lv_iload_n hx hb dX12_operand_444 rfl (lv_at hl 0 rfl) ?_
                            refine lv_iconst (v := (-1)) hx hb dX12_operand_445 (by decide +kernel) ?_
                            refine lv_icmp_ne (tgt := 458) hx hb dX12_operand_446 (by decide) (fun c => absurd (by decide +kernel) c) (fun _ => ?_)
                            refine lv_aload_n hx hb dX12_operand_449 rfl (lv_at hl 3 rfl) ?_
                            refine lv_iconst (v := 1) hx hb dX12_operand_450 (by decide +kernel) ?_
                            refine lv_aload_n hx hb dX12_operand_451 rfl (lv_at hl 3 rfl) ?_
                            refine dg_get (C := RX12) (T := TX12) (N := 77) hx hb hts (fun w h => bw_mem (wU_X12 w h)) hown K hP sM_0 rfl 4 (by decide) (hts _ (bw_mem wB_291)) (fun _ h9 => h9) (v := .int sa) (((dg_uf_F e_682 0 4).trans (m_2.1 0 4 _ sM_0 (by decide))).trans f_sa) dX12_operand_452 ?_
                            have hz_1898 : (1 : Int32).toInt = 1 := by decide +kernel
                            refine dg_callv hS hA1 hA (va_runV (As := [.int 1, .int sa]) (rest := []) F (c_m_blame l g D o S_682 1 (by decide +kernel) sa y_3 ((dg_uf_F e_682 0 8).trans f_y_3) (by omega) I_682 H.size) (cwV 2 hts (bw_V wB_306 wB_307 wB_308 wB_297 wB_305) rfl rfl rfl (by decide +kernel) ⟨Nat.le_of_ble_eq_true rfl, Nat.le_of_ble_eq_true rfl⟩) (dg_preV sM_0 rfl K ST hP hS hA1 hA) rfl rfl hl.1 rfl (lv_room (Nat.le_of_ble_eq_true rfl)) dX12_operand_455 ⟨Nat.le_of_ble_eq_true rfl, Nat.le_of_ble_eq_true rfl⟩) (fun S_1899 hw_1899 H locs hP hS => ?_)
                            obtain ⟨I_1899, m_1899, w_1899_0, -⟩ := hw_1899
                            have M_1899 := dg_sm.tr M_682 m_1899 (by decide) (by decide)
                            have hz_1900 : (1 : Int32).toInt = 1 := by decide +kernel
                            obtain ⟨y_1901, f_y_1901, w_1899_0⟩ := w_1899_0
                            have w_1899_0 : ((y_3).toInt ≠ 0 → (y_1901).toInt = (y_3).toInt) ∧ ((y_3).toInt = 0 → (y_1901).toInt = ((1 : Int32)).toInt) := w_1899_0
                            obtain ⟨w_1899_0_0, w_1899_0_1⟩ := w_1899_0
                            clear w_1899_0_0
                            have w_1899_0_1r := w_1899_0_1 (by omega)
                            clear w_1899_0_1
                            have b_y_1901 : 0 ≤ (y_1901).toInt ∧ (y_1901).toInt ≤ 6 := dg_I.intb (lo := 0) (hi := 6) I_1899 sM_0 (by decide +kernel) f_y_1901
                            have hbl_y_1901 : 1 ≤ (y_1901).toInt := by omega
                            refine lv_aload_n hx hb dX12_operand_458 rfl (lv_at hl 3 rfl) ?_
                            refine dg_get (C := RX12) (T := TX12) (N := 77) hx hb hts (fun w h => bw_mem (wU_X12 w h)) hown K hP sM_0 rfl 8 (by decide) (hts _ (bw_mem wB_303)) (fun _ h9 => h9) (v := .int y_1901) f_y_1901 dX12_operand_459 ?_
                            refine lv_if_le (tgt := 467) hx hb dX12_operand_462 (by decide) (fun c => absurd c (fun z => absurd (dk_lec (k := 0) (by decide +kernel) z) (by omega))) (fun _ => ?_)
                            refine lv_iconst (v := 1) hx hb dX12_operand_465 (by decide +kernel) ?_
                            have hz_1902 : (1 : Int32).toInt = 1 := by decide +kernel
                            have hz_1903 : (1 : Int32).toInt = 1 := by decide +kernel
                            have hz_1904 : (1 : Int32).toInt = 1 := by decide +kernel
                            have hz_1905 : (1 : Int32).toInt = 1 := by decide +kernel
                            have hz_1906 : (1 : Int32).toInt = 1 := by decide +kernel
                            have hz_1907 : (1 : Int32).toInt = 1 := by decide +kernel
                            refine W.widen (k := 0) (n := 0) (Nat.le_of_ble_eq_true rfl) (Nat.le_of_ble_eq_true rfl) ?_
                            rw [hQ9]
                            exact dg_iret hx hb hr hlocks (by decide +kernel) hP hS ⟨I_1899, M_1899, (by decide +kernel), ⟨sg, sa, se, y_1901, cd, dp, om, (((m_1899.1 0 3 _ sM_0 (by decide)).trans ((dg_uf_F e_682 0 3).trans (m_2.1 0 3 _ sM_0 (by decide)))).trans f_sg), (((m_1899.1 0 4 _ sM_0 (by decide)).trans ((dg_uf_F e_682 0 4).trans (m_2.1 0 4 _ sM_0 (by decide)))).trans f_sa), (((m_1899.1 0 5 _ sM_0 (by decide)).trans ((dg_uf_F e_682 0 5).trans (m_2.1 0 5 _ sM_0 (by decide)))).trans f_se), f_y_1901, (((m_1899.1 0 34 _ sM_0 (by decide)).trans ((dg_uf_F e_682 0 34).trans (m_2.1 0 34 _ sM_0 (by decide)))).trans f_cd), (((m_1899.1 0 42 _ sM_0 (by decide)).trans ((dg_uf_F e_682 0 42).trans (m_2.1 0 42 _ sM_0 (by decide)))).trans f_dp), (((m_1899.1 0 45 _ sM_0 (by decide)).trans ((dg_uf_F e_682 0 45).trans (m_2.1 0 45 _ sM_0 (by decide)))).trans f_om), (by omega)⟩, (fun k9 hk9 hk0 => by have q9 := (f_y_1901).symm.trans hk9; cases q9; omega), (OPK.no f_sa f_fk f_y_1901 (by omega) (fun h0 => by rw [hM0]; exact m_st_f.trans (m_opd_no h171.out h187.out qw_1749_1 qw_1260_1 qw_1745_1 (SRT.bad h411.out (by omega))))), (TKM.keep (TKM.keep (TKM.keep TK m_2 (by decide) (by decide) (by decide) (by decide) (by decide) (by decide) (by decide) (by decide)) (dg_sm.uf (WF := []) (WA := [24]) dg_sm.rf e_682 sM_24 (by decide)) (by decide) (by decide) (by decide) (by decide) (by decide) (by decide) (by decide) (by decide)) m_1899 (by decide) (by decide) (by decide) (by decide) (by decide) (by decide) (by decide) (by decide)), (ZWM.keep (ZWM.keep (ZWM.keep ZW m_2 (by decide) (by decide) (by decide) (by decide)) (dg_sm.uf (WF := []) (WA := [24]) dg_sm.rf e_682 sM_24 (by decide)) (by decide) (by decide) (by decide) (by decide)) m_1899 (by decide) (by decide) (by decide) (by decide)), trivial⟩ dX12_operand_466
                          · have jc_1897 := dk_eqc (k := 0) (by decide +kernel) c_1897
                            refine lv_iconst (v := 1) hx hb dX12_operand_434 (by decide +kernel) ?_
                            refine lv_goto (tgt := 439) hx hb dX12_operand_435 (by decide) ?_
                            refine lv_icmp_eq (tgt := 444) hx hb dX12_operand_439 (by decide) (fun _ => ?_) (fun c => absurd (by decide +kernel) c)
                            refine lv_iload_n hx hb dX12_operand_444 rfl (lv_at hl 0 rfl) ?_
                            refine lv_iconst (v := (-1)) hx hb dX12_operand_445 (by decide +kernel) ?_
                            refine lv_icmp_ne (tgt := 458) hx hb dX12_operand_446 (by decide) (fun _ => ?_) (fun c => absurd c (fun z => absurd (dk_eqc (k := (-1)) (by decide +kernel) z) (by omega)))
                            refine lv_aload_n hx hb dX12_operand_458 rfl (lv_at hl 3 rfl) ?_
                            refine dg_get (C := RX12) (T := TX12) (N := 77) hx hb hts (fun w h => bw_mem (wU_X12 w h)) hown K hP sM_0 rfl 8 (by decide) (hts _ (bw_mem wB_303)) (fun _ h9 => h9) (v := .int y_3) ((dg_uf_F e_682 0 8).trans f_y_3) dX12_operand_459 ?_
                            refine lv_if_le (tgt := 467) hx hb dX12_operand_462 (by decide) (fun _ => ?_) (fun c => absurd (dk_lep (k := 0) (by decide +kernel) (by omega)) c)
                            refine lv_aload_n hx hb dX12_operand_467 rfl (lv_at hl 3 rfl) ?_
                            refine lv_iload_n hx hb dX12_operand_468 rfl (lv_at hl 0 rfl) ?_
                            refine lv_aload_n hx hb dX12_operand_469 rfl (lv_at hl 3 rfl) ?_
                            refine dg_get (C := RX12) (T := TX12) (N := 77) hx hb hts (fun w h => bw_mem (wU_X12 w h)) hown K hP sM_0 rfl 6 (by decide) (hts _ (bw_mem wB_301)) (fun _ h9 => h9) (v := .int va) (((dg_uf_F e_682 0 6).trans (m_2.1 0 6 _ sM_0 (by decide))).trans f_va) dX12_operand_470 ?_
                            refine dg_callv hS hA1 hA (va_runV (As := [.int x_1776, .int va]) (rest := []) F (c_m_add l g D o S_682 x_1776 (by omega) va cd (((dg_uf_F e_682 0 34).trans (m_2.1 0 34 _ sM_0 (by decide))).trans f_cd) (by omega) (ZWM.keep (ZWM.keep ZW m_2 (by decide) (by decide) (by decide) (by decide)) (dg_sm.uf (WF := []) (WA := [24]) dg_sm.rf e_682 sM_24 (by decide)) (by decide) (by decide) (by decide) (by decide)) (ZKM.keep (ZKM.keep ZK m_2 (by decide) (by decide)) (dg_sm.uf (WF := []) (WA := [24]) dg_sm.rf e_682 sM_24 (by decide)) (by decide) (by decide)) I_682 H.size) (cwV 2 hts (bw_V wB_412 wB_413 wB_414 wB_297 wB_411) rfl rfl rfl (by decide +kernel) ⟨Nat.le_of_ble_eq_true rfl, Nat.le_of_ble_eq_true rfl⟩) (dg_preV sM_0 rfl K ST hP hS hA1 hA) rfl rfl hl.1 rfl (lv_room (Nat.le_of_ble_eq_true rfl)) dX12_operand_473 ⟨Nat.le_of_ble_eq_true rfl, Nat.le_of_ble_eq_true rfl⟩) (fun S_1908 hw_1908 H locs hP hS => ?_)
                            obtain ⟨I_1908, m_1908, w_1908_0, w_1908_1, w_1908_2, -⟩ := hw_1908
                            have M_1908 := dg_sm.tr M_682 m_1908 (by decide) (by decide)
                            obtain ⟨y_1909, f_y_1909, w_1908_0⟩ := w_1908_0
                            have w_1908_0 : (y_1909).toInt = (cd).toInt + 1 := w_1908_0
                            have b_y_1909 : 0 ≤ (y_1909).toInt ∧ (y_1909).toInt ≤ 1600 := dg_I.intb (lo := 0) (hi := 1600) I_1908 sM_0 (by decide +kernel) f_y_1909
                            replace w_1908_1 : ADM S_682 S_1908 x_1776 := w_1908_1
                            have P1_1908 : P1M S_1908 := PBM.leaf PB_682 (((dg_uf_F e_682 0 42).trans (m_2.1 0 42 _ sM_0 (by decide))).trans f_dp) (((dg_uf_F e_682 0 43).trans (m_2.1 0 43 _ sM_0 (by decide))).trans f_on) (((dg_uf_F e_682 0 45).trans (m_2.1 0 45 _ sM_0 (by decide))).trans f_om) m_1908 w_1908_1 (by omega)
                            refine lv_aload_n hx hb dX12_operand_476 rfl (lv_at hl 3 rfl) ?_
                            refine dg_callv hS hA1 hA (va_runV (As := []) (rest := []) F (c_m_ahead l g D o S_1908 tb tn se (((m_1908.1 0 5 _ sM_0 (by decide)).trans ((dg_uf_F e_682 0 5).trans (m_2.1 0 5 _ sM_0 (by decide)))).trans f_se) (by omega) sl (((m_1908.1 0 2 _ sM_0 (by decide)).trans ((dg_uf_F e_682 0 2).trans (m_2.1 0 2 _ sM_0 (by decide)))).trans f_sl) (by omega) (by omega) (TKM.keep (TKM.keep (TKM.keep TK m_2 (by decide) (by decide) (by decide) (by decide) (by decide) (by decide) (by decide) (by decide)) (dg_sm.uf (WF := []) (WA := [24]) dg_sm.rf e_682 sM_24 (by decide)) (by decide) (by decide) (by decide) (by decide) (by decide) (by decide) (by decide) (by decide)) m_1908 (by decide) (by decide) (by decide) (by decide) (by decide) (by decide) (by decide) (by decide)).1 I_1908 H.size) (cwV 0 hts (bw_V wB_318 wB_319 wB_320 wB_297 wB_317) rfl rfl rfl (by decide +kernel) ⟨Nat.le_of_ble_eq_true rfl, Nat.le_of_ble_eq_true rfl⟩) (dg_preV sM_0 rfl K ST hP hS hA1 hA) rfl rfl hl.1 rfl (lv_room (Nat.le_of_ble_eq_true rfl)) dX12_operand_477 ⟨Nat.le_of_ble_eq_true rfl, Nat.le_of_ble_eq_true rfl⟩) (fun S_1910 hw_1910 H locs hP hS => ?_)
                            obtain ⟨I_1910, m_1910, w_1910_0, w_1910_1, -⟩ := hw_1910
                            have M_1910 := dg_sm.tr M_1908 m_1910 (by decide) (by decide)
                            obtain ⟨y_1911, y_1912, y_1913, f_y_1911, f_y_1912, f_y_1913, w_1910_0⟩ := w_1910_0
                            have w_1910_0 : (se).toInt ≤ (y_1912).toInt ∧ (y_1912).toInt ≤ (y_1913).toInt ∧ (y_1913).toInt ≤ (sl).toInt ∧ ((y_1911).toInt ≠ 0 → (y_1912).toInt + 1 ≤ (y_1913).toInt) := w_1910_0
                            obtain ⟨w_1910_0_0, w_1910_0_1, w_1910_0_2, w_1910_0_3⟩ := w_1910_0
                            have b_y_1911 : 0 ≤ (y_1911).toInt ∧ (y_1911).toInt ≤ 3 := dg_I.intb (lo := 0) (hi := 3) I_1910 sM_0 (by decide +kernel) f_y_1911
                            have b_y_1912 : 0 ≤ (y_1912).toInt ∧ (y_1912).toInt ≤ 1600 := dg_I.intb (lo := 0) (hi := 1600) I_1910 sM_0 (by decide +kernel) f_y_1912
                            have b_y_1913 : 0 ≤ (y_1913).toInt ∧ (y_1913).toInt ≤ 1600 := dg_I.intb (lo := 0) (hi := 1600) I_1910 sM_0 (by decide +kernel) f_y_1913
                            replace w_1910_1 : TNX tb tn se S_1910 := w_1910_1
                            obtain ⟨TK_1910, nx_1910, -⟩ := TKM.nx (TKM.keep (TKM.keep (TKM.keep TK m_2 (by decide) (by decide) (by decide) (by decide) (by decide) (by decide) (by decide) (by decide)) (dg_sm.uf (WF := []) (WA := [24]) dg_sm.rf e_682 sM_24 (by decide)) (by decide) (by decide) (by decide) (by decide) (by decide) (by decide) (by decide) (by decide)) m_1908 (by decide) (by decide) (by decide) (by decide) (by decide) (by decide) (by decide) (by decide)) (((m_1908.1 0 4 _ sM_0 (by decide)).trans ((dg_uf_F e_682 0 4).trans (m_2.1 0 4 _ sM_0 (by decide)))).trans f_sa) (((m_1908.1 0 5 _ sM_0 (by decide)).trans ((dg_uf_F e_682 0 5).trans (m_2.1 0 5 _ sM_0 (by decide)))).trans f_se) w_1910_1 m_1910 (by decide) (by decide) f_y_1912
                            replace nx_1910 := nx_1910 (fun q9 => absurd ((TKM.zero (TKM.keep (TKM.keep (TKM.keep TK m_2 (by decide) (by decide) (by decide) (by decide) (by decide) (by decide) (by decide) (by decide)) (dg_sm.uf (WF := []) (WA := [24]) dg_sm.rf e_682 sM_24 (by decide)) (by decide) (by decide) (by decide) (by decide) (by decide) (by decide) (by decide) (by decide)) m_1908 (by decide) (by decide) (by decide) (by decide) (by decide) (by decide) (by decide) (by decide)) (((m_1908.1 0 3 _ sM_0 (by decide)).trans ((dg_uf_F e_682 0 3).trans (m_2.1 0 3 _ sM_0 (by decide)))).trans f_sg) (((m_1908.1 0 4 _ sM_0 (by decide)).trans ((dg_uf_F e_682 0 4).trans (m_2.1 0 4 _ sM_0 (by decide)))).trans f_sa)).mpr q9) (by omega))
                            refine lv_iconst (v := 1) hx hb dX12_operand_480 (by decide +kernel) ?_
                            have hz_1914 : (1 : Int32).toInt = 1 := by decide +kernel
                            have hz_1915 : (1 : Int32).toInt = 1 := by decide +kernel
                            have hz_1916 : (1 : Int32).toInt = 1 := by decide +kernel
                            have hz_1917 : (1 : Int32).toInt = 1 := by decide +kernel
                            have hz_1918 : (1 : Int32).toInt = 1 := by decide +kernel
                            have hz_1919 : (1 : Int32).toInt = 1 := by decide +kernel
                            refine W.widen (k := 0) (n := 0) (Nat.le_of_ble_eq_true rfl) (Nat.le_of_ble_eq_true rfl) ?_
                            rw [hQ9]
                            exact dg_iret hx hb hr hlocks (by decide +kernel) hP hS ⟨I_1910, M_1910, (by decide +kernel), ⟨y_1911, y_1912, y_1913, y_3, y_1909, dp, om, f_y_1911, f_y_1912, f_y_1913, (((m_1910.1 0 8 _ sM_0 (by decide)).trans ((m_1908.1 0 8 _ sM_0 (by decide)).trans (dg_uf_F e_682 0 8))).trans f_y_3), ((m_1910.1 0 34 _ sM_0 (by decide)).trans f_y_1909), (((m_1910.1 0 42 _ sM_0 (by decide)).trans ((m_1908.1 0 42 _ sM_0 (by decide)).trans ((dg_uf_F e_682 0 42).trans (m_2.1 0 42 _ sM_0 (by decide))))).trans f_dp), (((m_1910.1 0 45 _ sM_0 (by decide)).trans ((m_1908.1 0 45 _ sM_0 (by decide)).trans ((dg_uf_F e_682 0 45).trans (m_2.1 0 45 _ sM_0 (by decide))))).trans f_om), (by omega)⟩, (fun k9 hk9 hk0 => ⟨fun _ => (P1M.keep P1_1908 m_1910 (by decide) (by decide) (by decide) (by decide) (by decide) (by decide) (by decide) (by decide) (by decide) (by decide) (by decide) (by decide) (by decide) (by decide) (by decide)), fun h9 => absurd h9 (by decide +kernel)⟩), (OPK.ok f_sa (((m_1910.1 0 8 _ sM_0 (by decide)).trans ((m_1908.1 0 8 _ sM_0 (by decide)).trans (dg_uf_F e_682 0 8))).trans f_y_3) f_y_1912 (by omega) hM0 (TFM.keep (TFM.keep TF_682 m_1908 (by decide) (by decide) (by decide) (by decide) (by decide) (by decide) (by decide) (by decide)) m_1910 (by decide) (by decide) (by decide) (by decide) (by decide) (by decide) (by decide) (by decide)) (m_st_f.trans (m_opd_at h171.out h187.out qw_1749_1 qw_1260_1 qw_1745_1 (SRT.good h411.out (by omega)))) (by omega) (by decide +kernel)), TK_1910, (ZWM.keep w_1908_2 m_1910 (by decide) (by decide) (by decide) (by decide)), trivial⟩ dX12_operand_481
                    refine lv_icmp_ne (tgt := 325) hx hb dX12_operand_318 (by decide) (fun c_1920 => ?_) (fun c_1920 => ?_)
                    · have jc_1920 := dk_neqc (k := 2) (by decide +kernel) c_1920
                      have hn2 := m_hid.mk (show (sg).toInt ≠ 2 from by omega)
                      clear jc_1920
                      refine lv_aload_n hx hb dX12_operand_325 rfl (lv_at hl 2 rfl) ?_
                      refine lv_ldc2 hx hb hown (hts _ (bw_mem wB_330)) dX12_operand_326 ?_
                      refine dg_calli hS hA1 hA (va_runV (As := [.long 444300616805]) (rest := []) F (c_m_isWord l g D o S_682 444300616805 sg (((dg_uf_F e_682 0 3).trans (m_2.1 0 3 _ sM_0 (by decide))).trans f_sg) (by omega) I_682 H.size) (cwV 1 hts (bw_V wB_322 wB_323 wB_324 wB_297 wB_321) rfl rfl rfl (by decide +kernel) ⟨Nat.le_of_ble_eq_true rfl, Nat.le_of_ble_eq_true rfl⟩) (dg_preV sM_0 rfl K ST hP hS hA1 hA) rfl rfl hl.1 rfl (lv_room (Nat.le_of_ble_eq_true rfl)) dX12_operand_329 ⟨Nat.le_of_ble_eq_true rfl, Nat.le_of_ble_eq_true rfl⟩) (fun x_1921 S_1922 hw_1922 H locs hP hS => ?_)
                      rw [hw_1922.1] at hP
                      obtain ⟨hq_1922, w_1922_0, w_1922_1, -⟩ := hw_1922
                      try rw [hq_1922] at w_1922_1
                      have w_1922_0 : 0 ≤ (x_1921).toInt ∧ (x_1921).toInt ≤ 1 := w_1922_0
                      replace w_1922_1 : ∀ w9 : Int64, S_682.1 0 7 = .long w9 → ((x_1921).toInt = 1 ↔ ((sg).toInt = 1 ∧ w9.toInt = ((444300616805 : Int64)).toInt)) := w_1922_1
                      refine lv_if_eq (tgt := 339) hx hb dX12_operand_332 (by decide) (fun c_1923 => ?_) (fun c_1923 => ?_)
                      · have jc_1923 := dk_eqc (k := 0) (by decide +kernel) c_1923
                        have qw_1922_1 : g_o (T_kd tb tn) (T_vl tb tn) 5 (t_ix tb tn (sa : Int32).toNatClampNeg) = false := g_iff_f (TKM.isw (TKM.keep (TKM.keep TK m_2 (by decide) (by decide) (by decide) (by decide) (by decide) (by decide) (by decide) (by decide)) (dg_sm.uf (WF := []) (WA := [24]) dg_sm.rf e_682 sM_24 (by decide)) (by decide) (by decide) (by decide) (by decide) (by decide) (by decide) (by decide) (by decide)) (((dg_uf_F e_682 0 3).trans (m_2.1 0 3 _ sM_0 (by decide))).trans f_sg) (((dg_uf_F e_682 0 4).trans (m_2.1 0 4 _ sM_0 (by decide))).trans f_sa) hk5.out (j := 5) (C := 444300616805) (by decide) (by decide +kernel) w_1922_1) (by omega)
                        clear w_1922_1
                        refine lv_aload_n hx hb dX12_operand_339 rfl (lv_at hl 2 rfl) ?_
                        refine lv_ldc2 hx hb hown (hts _ (bw_mem wB_340)) dX12_operand_340 ?_
                        refine dg_calli hS hA1 hA (va_runV (As := [.long 431198598248]) (rest := []) F (c_m_isWord l g D o S_682 431198598248 sg (((dg_uf_F e_682 0 3).trans (m_2.1 0 3 _ sM_0 (by decide))).trans f_sg) (by omega) I_682 H.size) (cwV 1 hts (bw_V wB_322 wB_323 wB_324 wB_297 wB_321) rfl rfl rfl (by decide +kernel) ⟨Nat.le_of_ble_eq_true rfl, Nat.le_of_ble_eq_true rfl⟩) (dg_preV sM_0 rfl K ST hP hS hA1 hA) rfl rfl hl.1 rfl (lv_room (Nat.le_of_ble_eq_true rfl)) dX12_operand_343 ⟨Nat.le_of_ble_eq_true rfl, Nat.le_of_ble_eq_true rfl⟩) (fun x_1924 S_1925 hw_1925 H locs hP hS => ?_)
                        rw [hw_1925.1] at hP
                        obtain ⟨hq_1925, w_1925_0, w_1925_1, -⟩ := hw_1925
                        try rw [hq_1925] at w_1925_1
                        have w_1925_0 : 0 ≤ (x_1924).toInt ∧ (x_1924).toInt ≤ 1 := w_1925_0
                        replace w_1925_1 : ∀ w9 : Int64, S_682.1 0 7 = .long w9 → ((x_1924).toInt = 1 ↔ ((sg).toInt = 1 ∧ w9.toInt = ((431198598248 : Int64)).toInt)) := w_1925_1
                        refine lv_if_eq (tgt := 353) hx hb dX12_operand_346 (by decide) (fun c_1926 => ?_) (fun c_1926 => ?_)
                        · have jc_1926 := dk_eqc (k := 0) (by decide +kernel) c_1926
                          have qw_1925_1 : g_o (T_kd tb tn) (T_vl tb tn) 15 (t_ix tb tn (sa : Int32).toNatClampNeg) = false := g_iff_f (TKM.isw (TKM.keep (TKM.keep TK m_2 (by decide) (by decide) (by decide) (by decide) (by decide) (by decide) (by decide) (by decide)) (dg_sm.uf (WF := []) (WA := [24]) dg_sm.rf e_682 sM_24 (by decide)) (by decide) (by decide) (by decide) (by decide) (by decide) (by decide) (by decide) (by decide)) (((dg_uf_F e_682 0 3).trans (m_2.1 0 3 _ sM_0 (by decide))).trans f_sg) (((dg_uf_F e_682 0 4).trans (m_2.1 0 4 _ sM_0 (by decide))).trans f_sa) hk5.out (j := 15) (C := 431198598248) (by decide) (by decide +kernel) w_1925_1) (by omega)
                          clear w_1925_1
                          refine lv_aload_n hx hb dX12_operand_353 rfl (lv_at hl 2 rfl) ?_
                          refine lv_ldc2 hx hb hown (hts _ (bw_mem wB_341)) dX12_operand_354 ?_
                          refine dg_calli hS hA1 hA (va_runV (As := [.long 495672977012]) (rest := []) F (c_m_isWord l g D o S_682 495672977012 sg (((dg_uf_F e_682 0 3).trans (m_2.1 0 3 _ sM_0 (by decide))).trans f_sg) (by omega) I_682 H.size) (cwV 1 hts (bw_V wB_322 wB_323 wB_324 wB_297 wB_321) rfl rfl rfl (by decide +kernel) ⟨Nat.le_of_ble_eq_true rfl, Nat.le_of_ble_eq_true rfl⟩) (dg_preV sM_0 rfl K ST hP hS hA1 hA) rfl rfl hl.1 rfl (lv_room (Nat.le_of_ble_eq_true rfl)) dX12_operand_357 ⟨Nat.le_of_ble_eq_true rfl, Nat.le_of_ble_eq_true rfl⟩) (fun x_1927 S_1928 hw_1928 H locs hP hS => ?_)
                          rw [hw_1928.1] at hP
                          obtain ⟨hq_1928, w_1928_0, w_1928_1, -⟩ := hw_1928
                          try rw [hq_1928] at w_1928_1
                          have w_1928_0 : 0 ≤ (x_1927).toInt ∧ (x_1927).toInt ≤ 1 := w_1928_0
                          replace w_1928_1 : ∀ w9 : Int64, S_682.1 0 7 = .long w9 → ((x_1927).toInt = 1 ↔ ((sg).toInt = 1 ∧ w9.toInt = ((495672977012 : Int64)).toInt)) := w_1928_1
                          refine lv_if_eq (tgt := 367) hx hb dX12_operand_360 (by decide) (fun c_1929 => ?_) (fun c_1929 => ?_)
                          · have jc_1929 := dk_eqc (k := 0) (by decide +kernel) c_1929
                            have qw_1928_1 : g_o (T_kd tb tn) (T_vl tb tn) 16 (t_ix tb tn (sa : Int32).toNatClampNeg) = false := g_iff_f (TKM.isw (TKM.keep (TKM.keep TK m_2 (by decide) (by decide) (by decide) (by decide) (by decide) (by decide) (by decide) (by decide)) (dg_sm.uf (WF := []) (WA := [24]) dg_sm.rf e_682 sM_24 (by decide)) (by decide) (by decide) (by decide) (by decide) (by decide) (by decide) (by decide) (by decide)) (((dg_uf_F e_682 0 3).trans (m_2.1 0 3 _ sM_0 (by decide))).trans f_sg) (((dg_uf_F e_682 0 4).trans (m_2.1 0 4 _ sM_0 (by decide))).trans f_sa) hk5.out (j := 16) (C := 495672977012) (by decide) (by decide +kernel) w_1928_1) (by omega)
                            clear w_1928_1
                            refine lv_aload_n hx hb dX12_operand_367 rfl (lv_at hl 2 rfl) ?_
                            refine lv_ldc2 hx hb hown (hts _ (bw_mem wB_342)) dX12_operand_368 ?_
                            refine dg_calli hS hA1 hA (va_runV (As := [.long 6709618]) (rest := []) F (c_m_isWord l g D o S_682 6709618 sg (((dg_uf_F e_682 0 3).trans (m_2.1 0 3 _ sM_0 (by decide))).trans f_sg) (by omega) I_682 H.size) (cwV 1 hts (bw_V wB_322 wB_323 wB_324 wB_297 wB_321) rfl rfl rfl (by decide +kernel) ⟨Nat.le_of_ble_eq_true rfl, Nat.le_of_ble_eq_true rfl⟩) (dg_preV sM_0 rfl K ST hP hS hA1 hA) rfl rfl hl.1 rfl (lv_room (Nat.le_of_ble_eq_true rfl)) dX12_operand_371 ⟨Nat.le_of_ble_eq_true rfl, Nat.le_of_ble_eq_true rfl⟩) (fun x_1930 S_1931 hw_1931 H locs hP hS => ?_)
                            rw [hw_1931.1] at hP
                            obtain ⟨hq_1931, w_1931_0, w_1931_1, -⟩ := hw_1931
                            try rw [hq_1931] at w_1931_1
                            have w_1931_0 : 0 ≤ (x_1930).toInt ∧ (x_1930).toInt ≤ 1 := w_1931_0
                            replace w_1931_1 : ∀ w9 : Int64, S_682.1 0 7 = .long w9 → ((x_1930).toInt = 1 ↔ ((sg).toInt = 1 ∧ w9.toInt = ((6709618 : Int64)).toInt)) := w_1931_1
                            refine lv_if_eq (tgt := 381) hx hb dX12_operand_374 (by decide) (fun c_1932 => ?_) (fun c_1932 => ?_)
                            · have jc_1932 := dk_eqc (k := 0) (by decide +kernel) c_1932
                              have qw_1931_1 : g_o (T_kd tb tn) (T_vl tb tn) 17 (t_ix tb tn (sa : Int32).toNatClampNeg) = false := g_iff_f (TKM.isw (TKM.keep (TKM.keep TK m_2 (by decide) (by decide) (by decide) (by decide) (by decide) (by decide) (by decide) (by decide)) (dg_sm.uf (WF := []) (WA := [24]) dg_sm.rf e_682 sM_24 (by decide)) (by decide) (by decide) (by decide) (by decide) (by decide) (by decide) (by decide) (by decide)) (((dg_uf_F e_682 0 3).trans (m_2.1 0 3 _ sM_0 (by decide))).trans f_sg) (((dg_uf_F e_682 0 4).trans (m_2.1 0 4 _ sM_0 (by decide))).trans f_sa) hk5.out (j := 17) (C := 6709618) (by decide) (by decide +kernel) w_1931_1) (by omega)
                              clear w_1931_1
                              refine lv_aload_n hx hb dX12_operand_381 rfl (lv_at hl 2 rfl) ?_
                              refine lv_ldc2 hx hb hown (hts _ (bw_mem wB_343)) dX12_operand_382 ?_
                              refine dg_calli hS hA1 hA (va_runV (As := [.long 1869636974]) (rest := []) F (c_m_isWord l g D o S_682 1869636974 sg (((dg_uf_F e_682 0 3).trans (m_2.1 0 3 _ sM_0 (by decide))).trans f_sg) (by omega) I_682 H.size) (cwV 1 hts (bw_V wB_322 wB_323 wB_324 wB_297 wB_321) rfl rfl rfl (by decide +kernel) ⟨Nat.le_of_ble_eq_true rfl, Nat.le_of_ble_eq_true rfl⟩) (dg_preV sM_0 rfl K ST hP hS hA1 hA) rfl rfl hl.1 rfl (lv_room (Nat.le_of_ble_eq_true rfl)) dX12_operand_385 ⟨Nat.le_of_ble_eq_true rfl, Nat.le_of_ble_eq_true rfl⟩) (fun x_1933 S_1934 hw_1934 H locs hP hS => ?_)
                              rw [hw_1934.1] at hP
                              obtain ⟨hq_1934, w_1934_0, w_1934_1, -⟩ := hw_1934
                              try rw [hq_1934] at w_1934_1
                              have w_1934_0 : 0 ≤ (x_1933).toInt ∧ (x_1933).toInt ≤ 1 := w_1934_0
                              replace w_1934_1 : ∀ w9 : Int64, S_682.1 0 7 = .long w9 → ((x_1933).toInt = 1 ↔ ((sg).toInt = 1 ∧ w9.toInt = ((1869636974 : Int64)).toInt)) := w_1934_1
                              refine lv_if_eq (tgt := 395) hx hb dX12_operand_388 (by decide) (fun c_1935 => ?_) (fun c_1935 => ?_)
                              · have jc_1935 := dk_eqc (k := 0) (by decide +kernel) c_1935
                                have qw_1934_1 : g_o (T_kd tb tn) (T_vl tb tn) 18 (t_ix tb tn (sa : Int32).toNatClampNeg) = false := g_iff_f (TKM.isw (TKM.keep (TKM.keep TK m_2 (by decide) (by decide) (by decide) (by decide) (by decide) (by decide) (by decide) (by decide)) (dg_sm.uf (WF := []) (WA := [24]) dg_sm.rf e_682 sM_24 (by decide)) (by decide) (by decide) (by decide) (by decide) (by decide) (by decide) (by decide) (by decide)) (((dg_uf_F e_682 0 3).trans (m_2.1 0 3 _ sM_0 (by decide))).trans f_sg) (((dg_uf_F e_682 0 4).trans (m_2.1 0 4 _ sM_0 (by decide))).trans f_sa) hk5.out (j := 18) (C := 1869636974) (by decide) (by decide +kernel) w_1934_1) (by omega)
                                clear w_1934_1
                                refine lv_aload_n hx hb dX12_operand_395 rfl (lv_at hl 2 rfl) ?_
                                refine lv_ldc2 hx hb hown (hts _ (bw_mem wB_344)) dX12_operand_396 ?_
                                refine dg_calli hS hA1 hA (va_runV (As := [.long 7104884]) (rest := []) F (c_m_isWord l g D o S_682 7104884 sg (((dg_uf_F e_682 0 3).trans (m_2.1 0 3 _ sM_0 (by decide))).trans f_sg) (by omega) I_682 H.size) (cwV 1 hts (bw_V wB_322 wB_323 wB_324 wB_297 wB_321) rfl rfl rfl (by decide +kernel) ⟨Nat.le_of_ble_eq_true rfl, Nat.le_of_ble_eq_true rfl⟩) (dg_preV sM_0 rfl K ST hP hS hA1 hA) rfl rfl hl.1 rfl (lv_room (Nat.le_of_ble_eq_true rfl)) dX12_operand_399 ⟨Nat.le_of_ble_eq_true rfl, Nat.le_of_ble_eq_true rfl⟩) (fun x_1936 S_1937 hw_1937 H locs hP hS => ?_)
                                rw [hw_1937.1] at hP
                                obtain ⟨hq_1937, w_1937_0, w_1937_1, -⟩ := hw_1937
                                try rw [hq_1937] at w_1937_1
                                have w_1937_0 : 0 ≤ (x_1936).toInt ∧ (x_1936).toInt ≤ 1 := w_1937_0
                                replace w_1937_1 : ∀ w9 : Int64, S_682.1 0 7 = .long w9 → ((x_1936).toInt = 1 ↔ ((sg).toInt = 1 ∧ w9.toInt = ((7104884 : Int64)).toInt)) := w_1937_1
                                refine lv_if_eq (tgt := 410) hx hb dX12_operand_402 (by decide) (fun c_1938 => ?_) (fun c_1938 => ?_)
                                · have jc_1938 := dk_eqc (k := 0) (by decide +kernel) c_1938
                                  have qw_1937_1 : g_o (T_kd tb tn) (T_vl tb tn) 19 (t_ix tb tn (sa : Int32).toNatClampNeg) = false := g_iff_f (TKM.isw (TKM.keep (TKM.keep TK m_2 (by decide) (by decide) (by decide) (by decide) (by decide) (by decide) (by decide) (by decide)) (dg_sm.uf (WF := []) (WA := [24]) dg_sm.rf e_682 sM_24 (by decide)) (by decide) (by decide) (by decide) (by decide) (by decide) (by decide) (by decide) (by decide)) (((dg_uf_F e_682 0 3).trans (m_2.1 0 3 _ sM_0 (by decide))).trans f_sg) (((dg_uf_F e_682 0 4).trans (m_2.1 0 4 _ sM_0 (by decide))).trans f_sa) hk5.out (j := 19) (C := 7104884) (by decide) (by decide +kernel) w_1937_1) (by omega)
                                  clear w_1937_1
                                  refine lv_iconst (v := (-1)) hx hb dX12_operand_410 (by decide +kernel) ?_
                                  have hz_1939 : (-1 : Int32).toInt = (-1) := by decide +kernel
                                  have hz_1940 : (-1 : Int32).toInt = (-1) := by decide +kernel
                                  have hz_1941 : (-1 : Int32).toInt = (-1) := by decide +kernel
                                  exact J_1848 (-1) (by decide +kernel) (by omega) (m_hid.mk (SRT.no (g_iff_f g_n_iff.symm (fun q9 => hn2.out ((TKM.num (TKM.keep (TKM.keep TK m_2 (by decide) (by decide) (by decide) (by decide) (by decide) (by decide) (by decide) (by decide)) (dg_sm.uf (WF := []) (WA := [24]) dg_sm.rf e_682 sM_24 (by decide)) (by decide) (by decide) (by decide) (by decide) (by decide) (by decide) (by decide) (by decide)) (((dg_uf_F e_682 0 3).trans (m_2.1 0 3 _ sM_0 (by decide))).trans f_sg) (((dg_uf_F e_682 0 4).trans (m_2.1 0 4 _ sM_0 (by decide))).trans f_sa) (((dg_uf_F e_682 0 6).trans (m_2.1 0 6 _ sM_0 (by decide))).trans f_va) hk5.out).1.mp q9))) qw_1922_1 qw_1925_1 qw_1928_1 qw_1931_1 qw_1934_1 qw_1937_1 (by decide +kernel))) _ _ hP hS _ (lv_sub hl [0, 1, 2] rfl)
                                · have jc_1938 := dk_neqc (k := 0) (by decide +kernel) c_1938
                                  have jbc_1938 : 1 ≤ (x_1936).toInt := by omega
                                  clear jc_1938
                                  have qw_1937_1 : g_o (T_kd tb tn) (T_vl tb tn) 19 (t_ix tb tn (sa : Int32).toNatClampNeg) = true := (TKM.isw (TKM.keep (TKM.keep TK m_2 (by decide) (by decide) (by decide) (by decide) (by decide) (by decide) (by decide) (by decide)) (dg_sm.uf (WF := []) (WA := [24]) dg_sm.rf e_682 sM_24 (by decide)) (by decide) (by decide) (by decide) (by decide) (by decide) (by decide) (by decide) (by decide)) (((dg_uf_F e_682 0 3).trans (m_2.1 0 3 _ sM_0 (by decide))).trans f_sg) (((dg_uf_F e_682 0 4).trans (m_2.1 0 4 _ sM_0 (by decide))).trans f_sa) hk5.out (j := 19) (C := 7104884) (by decide) (by decide +kernel) w_1937_1).mp (by omega)
                                  obtain ⟨x_1942, f_x_1942⟩ := dg_I.long (i := 0) (k := 7) I_682 sM_0 (by decide +kernel)
                                  have w_1937_1_r : (sg).toInt = 1 := by obtain ⟨w9, hw9⟩ : ∃ w9, S_682.1 0 7 = .long w9 := ⟨_, f_x_1942⟩; exact ((w_1937_1 w9 hw9).mp (by omega)).1
                                  clear w_1937_1
                                  have hlx_2r := hlx_2 (by omega)
                                  clear hlx_2
                                  refine lv_bipush (v := 6) hx hb dX12_operand_405 (by decide +kernel) ?_
                                  refine lv_goto (tgt := 411) hx hb dX12_operand_407 (by decide) ?_
                                  have hz_1943 : (6 : Int32).toInt = 6 := by decide +kernel
                                  have hz_1944 : (6 : Int32).toInt = 6 := by decide +kernel
                                  have hz_1945 : (6 : Int32).toInt = 6 := by decide +kernel
                                  exact J_1848 6 (by decide +kernel) (by omega) (m_hid.mk (SRT.k6 qw_1937_1 (by decide +kernel))) _ _ hP hS _ (lv_sub hl [0, 1, 2] rfl)
                              · have jc_1935 := dk_neqc (k := 0) (by decide +kernel) c_1935
                                have jbc_1935 : 1 ≤ (x_1933).toInt := by omega
                                clear jc_1935
                                have qw_1934_1 : g_o (T_kd tb tn) (T_vl tb tn) 18 (t_ix tb tn (sa : Int32).toNatClampNeg) = true := (TKM.isw (TKM.keep (TKM.keep TK m_2 (by decide) (by decide) (by decide) (by decide) (by decide) (by decide) (by decide) (by decide)) (dg_sm.uf (WF := []) (WA := [24]) dg_sm.rf e_682 sM_24 (by decide)) (by decide) (by decide) (by decide) (by decide) (by decide) (by decide) (by decide) (by decide)) (((dg_uf_F e_682 0 3).trans (m_2.1 0 3 _ sM_0 (by decide))).trans f_sg) (((dg_uf_F e_682 0 4).trans (m_2.1 0 4 _ sM_0 (by decide))).trans f_sa) hk5.out (j := 18) (C := 1869636974) (by decide) (by decide +kernel) w_1934_1).mp (by omega)
                                obtain ⟨x_1946, f_x_1946⟩ := dg_I.long (i := 0) (k := 7) I_682 sM_0 (by decide +kernel)
                                have w_1934_1_r : (sg).toInt = 1 := by obtain ⟨w9, hw9⟩ : ∃ w9, S_682.1 0 7 = .long w9 := ⟨_, f_x_1946⟩; exact ((w_1934_1 w9 hw9).mp (by omega)).1
                                clear w_1934_1
                                have hlx_2r := hlx_2 (by omega)
                                clear hlx_2
                                refine lv_iconst (v := 5) hx hb dX12_operand_391 (by decide +kernel) ?_
                                refine lv_goto (tgt := 411) hx hb dX12_operand_392 (by decide) ?_
                                have hz_1947 : (5 : Int32).toInt = 5 := by decide +kernel
                                have hz_1948 : (5 : Int32).toInt = 5 := by decide +kernel
                                have hz_1949 : (5 : Int32).toInt = 5 := by decide +kernel
                                exact J_1848 5 (by decide +kernel) (by omega) (m_hid.mk (SRT.k5 qw_1934_1 (by decide +kernel))) _ _ hP hS _ (lv_sub hl [0, 1, 2] rfl)
                            · have jc_1932 := dk_neqc (k := 0) (by decide +kernel) c_1932
                              have jbc_1932 : 1 ≤ (x_1930).toInt := by omega
                              clear jc_1932
                              have qw_1931_1 : g_o (T_kd tb tn) (T_vl tb tn) 17 (t_ix tb tn (sa : Int32).toNatClampNeg) = true := (TKM.isw (TKM.keep (TKM.keep TK m_2 (by decide) (by decide) (by decide) (by decide) (by decide) (by decide) (by decide) (by decide)) (dg_sm.uf (WF := []) (WA := [24]) dg_sm.rf e_682 sM_24 (by decide)) (by decide) (by decide) (by decide) (by decide) (by decide) (by decide) (by decide) (by decide)) (((dg_uf_F e_682 0 3).trans (m_2.1 0 3 _ sM_0 (by decide))).trans f_sg) (((dg_uf_F e_682 0 4).trans (m_2.1 0 4 _ sM_0 (by decide))).trans f_sa) hk5.out (j := 17) (C := 6709618) (by decide) (by decide +kernel) w_1931_1).mp (by omega)
                              obtain ⟨x_1950, f_x_1950⟩ := dg_I.long (i := 0) (k := 7) I_682 sM_0 (by decide +kernel)
                              have w_1931_1_r : (sg).toInt = 1 := by obtain ⟨w9, hw9⟩ : ∃ w9, S_682.1 0 7 = .long w9 := ⟨_, f_x_1950⟩; exact ((w_1931_1 w9 hw9).mp (by omega)).1
                              clear w_1931_1
                              have hlx_2r := hlx_2 (by omega)
                              clear hlx_2
                              refine lv_iconst (v := 4) hx hb dX12_operand_377 (by decide +kernel) ?_
                              refine lv_goto (tgt := 411) hx hb dX12_operand_378 (by decide) ?_
                              have hz_1951 : (4 : Int32).toInt = 4 := by decide +kernel
                              have hz_1952 : (4 : Int32).toInt = 4 := by decide +kernel
                              have hz_1953 : (4 : Int32).toInt = 4 := by decide +kernel
                              exact J_1848 4 (by decide +kernel) (by omega) (m_hid.mk (SRT.k4 qw_1931_1 (by decide +kernel))) _ _ hP hS _ (lv_sub hl [0, 1, 2] rfl)
                          · have jc_1929 := dk_neqc (k := 0) (by decide +kernel) c_1929
                            have jbc_1929 : 1 ≤ (x_1927).toInt := by omega
                            clear jc_1929
                            have qw_1928_1 : g_o (T_kd tb tn) (T_vl tb tn) 16 (t_ix tb tn (sa : Int32).toNatClampNeg) = true := (TKM.isw (TKM.keep (TKM.keep TK m_2 (by decide) (by decide) (by decide) (by decide) (by decide) (by decide) (by decide) (by decide)) (dg_sm.uf (WF := []) (WA := [24]) dg_sm.rf e_682 sM_24 (by decide)) (by decide) (by decide) (by decide) (by decide) (by decide) (by decide) (by decide) (by decide)) (((dg_uf_F e_682 0 3).trans (m_2.1 0 3 _ sM_0 (by decide))).trans f_sg) (((dg_uf_F e_682 0 4).trans (m_2.1 0 4 _ sM_0 (by decide))).trans f_sa) hk5.out (j := 16) (C := 495672977012) (by decide) (by decide +kernel) w_1928_1).mp (by omega)
                            obtain ⟨x_1954, f_x_1954⟩ := dg_I.long (i := 0) (k := 7) I_682 sM_0 (by decide +kernel)
                            have w_1928_1_r : (sg).toInt = 1 := by obtain ⟨w9, hw9⟩ : ∃ w9, S_682.1 0 7 = .long w9 := ⟨_, f_x_1954⟩; exact ((w_1928_1 w9 hw9).mp (by omega)).1
                            clear w_1928_1
                            have hlx_2r := hlx_2 (by omega)
                            clear hlx_2
                            refine lv_iconst (v := 3) hx hb dX12_operand_363 (by decide +kernel) ?_
                            refine lv_goto (tgt := 411) hx hb dX12_operand_364 (by decide) ?_
                            have hz_1955 : (3 : Int32).toInt = 3 := by decide +kernel
                            have hz_1956 : (3 : Int32).toInt = 3 := by decide +kernel
                            have hz_1957 : (3 : Int32).toInt = 3 := by decide +kernel
                            exact J_1848 3 (by decide +kernel) (by omega) (m_hid.mk (SRT.k3 qw_1928_1 (by decide +kernel))) _ _ hP hS _ (lv_sub hl [0, 1, 2] rfl)
                        · have jc_1926 := dk_neqc (k := 0) (by decide +kernel) c_1926
                          have jbc_1926 : 1 ≤ (x_1924).toInt := by omega
                          clear jc_1926
                          have qw_1925_1 : g_o (T_kd tb tn) (T_vl tb tn) 15 (t_ix tb tn (sa : Int32).toNatClampNeg) = true := (TKM.isw (TKM.keep (TKM.keep TK m_2 (by decide) (by decide) (by decide) (by decide) (by decide) (by decide) (by decide) (by decide)) (dg_sm.uf (WF := []) (WA := [24]) dg_sm.rf e_682 sM_24 (by decide)) (by decide) (by decide) (by decide) (by decide) (by decide) (by decide) (by decide) (by decide)) (((dg_uf_F e_682 0 3).trans (m_2.1 0 3 _ sM_0 (by decide))).trans f_sg) (((dg_uf_F e_682 0 4).trans (m_2.1 0 4 _ sM_0 (by decide))).trans f_sa) hk5.out (j := 15) (C := 431198598248) (by decide) (by decide +kernel) w_1925_1).mp (by omega)
                          obtain ⟨x_1958, f_x_1958⟩ := dg_I.long (i := 0) (k := 7) I_682 sM_0 (by decide +kernel)
                          have w_1925_1_r : (sg).toInt = 1 := by obtain ⟨w9, hw9⟩ : ∃ w9, S_682.1 0 7 = .long w9 := ⟨_, f_x_1958⟩; exact ((w_1925_1 w9 hw9).mp (by omega)).1
                          clear w_1925_1
                          have hlx_2r := hlx_2 (by omega)
                          clear hlx_2
                          refine lv_iconst (v := 2) hx hb dX12_operand_349 (by decide +kernel) ?_
                          refine lv_goto (tgt := 411) hx hb dX12_operand_350 (by decide) ?_
                          have hz_1959 : (2 : Int32).toInt = 2 := by decide +kernel
                          have hz_1960 : (2 : Int32).toInt = 2 := by decide +kernel
                          have hz_1961 : (2 : Int32).toInt = 2 := by decide +kernel
                          exact J_1848 2 (by decide +kernel) (by omega) (m_hid.mk (SRT.k2 qw_1925_1 (by decide +kernel))) _ _ hP hS _ (lv_sub hl [0, 1, 2] rfl)
                      · have jc_1923 := dk_neqc (k := 0) (by decide +kernel) c_1923
                        have jbc_1923 : 1 ≤ (x_1921).toInt := by omega
                        clear jc_1923
                        have qw_1922_1 : g_o (T_kd tb tn) (T_vl tb tn) 5 (t_ix tb tn (sa : Int32).toNatClampNeg) = true := (TKM.isw (TKM.keep (TKM.keep TK m_2 (by decide) (by decide) (by decide) (by decide) (by decide) (by decide) (by decide) (by decide)) (dg_sm.uf (WF := []) (WA := [24]) dg_sm.rf e_682 sM_24 (by decide)) (by decide) (by decide) (by decide) (by decide) (by decide) (by decide) (by decide) (by decide)) (((dg_uf_F e_682 0 3).trans (m_2.1 0 3 _ sM_0 (by decide))).trans f_sg) (((dg_uf_F e_682 0 4).trans (m_2.1 0 4 _ sM_0 (by decide))).trans f_sa) hk5.out (j := 5) (C := 444300616805) (by decide) (by decide +kernel) w_1922_1).mp (by omega)
                        obtain ⟨x_1962, f_x_1962⟩ := dg_I.long (i := 0) (k := 7) I_682 sM_0 (by decide +kernel)
                        have w_1922_1_r : (sg).toInt = 1 := by obtain ⟨w9, hw9⟩ : ∃ w9, S_682.1 0 7 = .long w9 := ⟨_, f_x_1962⟩; exact ((w_1922_1 w9 hw9).mp (by omega)).1
                        clear w_1922_1
                        have hlx_2r := hlx_2 (by omega)
                        clear hlx_2
                        refine lv_iconst (v := 1) hx hb dX12_operand_335 (by decide +kernel) ?_
                        refine lv_goto (tgt := 411) hx hb dX12_operand_336 (by decide) ?_
                        have hz_1963 : (1 : Int32).toInt = 1 := by decide +kernel
                        have hz_1964 : (1 : Int32).toInt = 1 := by decide +kernel
                        have hz_1965 : (1 : Int32).toInt = 1 := by decide +kernel
                        exact J_1848 1 (by decide +kernel) (by omega) (m_hid.mk (SRT.k1 qw_1922_1 (by decide +kernel))) _ _ hP hS _ (lv_sub hl [0, 1, 2] rfl)
                    · have jc_1920 := dk_eqc (k := 2) (by decide +kernel) c_1920
                      have hlx_2r := hlx_2 (by omega)
                      clear hlx_2
                      refine lv_iconst (v := 0) hx hb dX12_operand_321 (by decide +kernel) ?_
                      refine lv_goto (tgt := 411) hx hb dX12_operand_322 (by decide) ?_
                      have hz_1966 : (0 : Int32).toInt = 0 := by decide +kernel
                      have hz_1967 : (0 : Int32).toInt = 0 := by decide +kernel
                      have hz_1968 : (0 : Int32).toInt = 0 := by decide +kernel
                      exact J_1848 0 (by decide +kernel) (by omega) (m_hid.mk (SRT.n (g_n_iff.mpr ((TKM.num (TKM.keep (TKM.keep TK m_2 (by decide) (by decide) (by decide) (by decide) (by decide) (by decide) (by decide) (by decide)) (dg_sm.uf (WF := []) (WA := [24]) dg_sm.rf e_682 sM_24 (by decide)) (by decide) (by decide) (by decide) (by decide) (by decide) (by decide) (by decide) (by decide)) (((dg_uf_F e_682 0 3).trans (m_2.1 0 3 _ sM_0 (by decide))).trans f_sg) (((dg_uf_F e_682 0 4).trans (m_2.1 0 4 _ sM_0 (by decide))).trans f_sa) (((dg_uf_F e_682 0 6).trans (m_2.1 0 6 _ sM_0 (by decide))).trans f_va) hk5.out).1.mpr (by omega))) (by decide +kernel))) _ _ hP hS _ (lv_sub hl [0, 1, 2] rfl)
                  · have jc_1750 := dk_neqc (k := 0) (by decide +kernel) c_1750
                    have jbc_1750 : 1 ≤ (x_1748).toInt := by omega
                    clear jc_1750
                    have qw_1749_1 : g_o (T_kd tb tn) (T_vl tb tn) 20 (t_ix tb tn (sa : Int32).toNatClampNeg) = true := (TKM.isw (TKM.keep (TKM.keep TK m_2 (by decide) (by decide) (by decide) (by decide) (by decide) (by decide) (by decide) (by decide)) (dg_sm.uf (WF := []) (WA := [24]) dg_sm.rf e_682 sM_24 (by decide)) (by decide) (by decide) (by decide) (by decide) (by decide) (by decide) (by decide) (by decide)) (((dg_uf_F e_682 0 3).trans (m_2.1 0 3 _ sM_0 (by decide))).trans f_sg) (((dg_uf_F e_682 0 4).trans (m_2.1 0 4 _ sM_0 (by decide))).trans f_sa) hk5.out (j := 20) (C := 26982) (by decide) (by decide +kernel) w_1749_1).mp (by omega)
                    obtain ⟨x_1969, f_x_1969⟩ := dg_I.long (i := 0) (k := 7) I_682 sM_0 (by decide +kernel)
                    have w_1749_1_r : (sg).toInt = 1 := by obtain ⟨w9, hw9⟩ : ∃ w9, S_682.1 0 7 = .long w9 := ⟨_, f_x_1969⟩; exact ((w_1749_1 w9 hw9).mp (by omega)).1
                    clear w_1749_1
                    have hlx_2r := hlx_2 (by omega)
                    clear hlx_2
                    exact J_1490 ()  (by omega) (m_hid.mk (Or.inr (Or.inr qw_1749_1))) _ _ hP hS _ (lv_sub hl [0, 1, 2] rfl)
            · have jc_1258 := dk_neqc (k := 0) (by decide +kernel) c_1258
              have jbc_1258 : 1 ≤ (x_1255).toInt := by omega
              clear jc_1258
              have qw_1256_1 : g_s (T_kd tb tn) (T_vl tb tn) 40 (t_ix tb tn (sa : Int32).toNatClampNeg) = true := (TKM.iss (TKM.keep (TKM.keep TK m_2 (by decide) (by decide) (by decide) (by decide) (by decide) (by decide) (by decide) (by decide)) (dg_sm.uf (WF := []) (WA := [24]) dg_sm.rf e_682 sM_24 (by decide)) (by decide) (by decide) (by decide) (by decide) (by decide) (by decide) (by decide) (by decide)) (((dg_uf_F e_682 0 3).trans (m_2.1 0 3 _ sM_0 (by decide))).trans f_sg) (((dg_uf_F e_682 0 4).trans (m_2.1 0 4 _ sM_0 (by decide))).trans f_sa) (((dg_uf_F e_682 0 6).trans (m_2.1 0 6 _ sM_0 (by decide))).trans f_va) hk5.out (c := 40) (by have h9 := w_1256_1; rw [show (40 : Int32).toInt = 40 from by decide +kernel] at h9; exact h9)).mp (by omega)
              have w_1256_1_r := w_1256_1.mp (by omega)
              obtain ⟨w_1256_1_r1, w_1256_1_r2⟩ := w_1256_1_r
              clear w_1256_1
              have hlx_2r := hlx_2 (by omega)
              clear hlx_2
              refine lv_aload_n hx hb dX12_operand_180 rfl (lv_at hl 2 rfl) ?_
              refine lv_iconst (v := 2) hx hb dX12_operand_181 (by decide +kernel) ?_
              have hz_1970 : (2 : Int32).toInt = 2 := by decide +kernel
              refine dg_callv hS hA1 hA (va_runV (As := [.int 2]) (rest := []) F (c_m_frames l g D o S_682 2 (by decide +kernel) tb tn sg (((dg_uf_F e_682 0 3).trans (m_2.1 0 3 _ sM_0 (by decide))).trans f_sg) (by omega) sa (((dg_uf_F e_682 0 4).trans (m_2.1 0 4 _ sM_0 (by decide))).trans f_sa) (by omega) se (((dg_uf_F e_682 0 5).trans (m_2.1 0 5 _ sM_0 (by decide))).trans f_se) (by omega) sl (((dg_uf_F e_682 0 2).trans (m_2.1 0 2 _ sM_0 (by decide))).trans f_sl) (by omega) y_3 ((dg_uf_F e_682 0 8).trans f_y_3) (by omega) dp (((dg_uf_F e_682 0 42).trans (m_2.1 0 42 _ sM_0 (by decide))).trans f_dp) (by omega) om (((dg_uf_F e_682 0 45).trans (m_2.1 0 45 _ sM_0 (by decide))).trans f_om) (by omega) on (((dg_uf_F e_682 0 43).trans (m_2.1 0 43 _ sM_0 (by decide))).trans f_on) (by omega) (by omega) (by omega) (TKM.keep (TKM.keep TK m_2 (by decide) (by decide) (by decide) (by decide) (by decide) (by decide) (by decide) (by decide)) (dg_sm.uf (WF := []) (WA := [24]) dg_sm.rf e_682 sM_24 (by decide)) (by decide) (by decide) (by decide) (by decide) (by decide) (by decide) (by decide) (by decide)) I_682 H.size) (cwV 1 hts (bw_V wB_431 wB_432 wB_433 wB_297 wB_430) rfl rfl rfl (by decide +kernel) ⟨Nat.le_of_ble_eq_true rfl, Nat.le_of_ble_eq_true rfl⟩) (dg_preV sM_0 rfl K ST hP hS hA1 hA) rfl rfl hl.1 rfl (lv_room (Nat.le_of_ble_eq_true rfl)) dX12_operand_182 ⟨Nat.le_of_ble_eq_true rfl, Nat.le_of_ble_eq_true rfl⟩) (fun S_1971 hw_1971 H locs hP hS => ?_)
              obtain ⟨I_1971, m_1971, w_1971_0, w_1971_1, w_1971_2, -⟩ := hw_1971
              have M_1971 := dg_sm.tr M_682 m_1971 (by decide) (by decide)
              have hz_1972 : (2 : Int32).toInt = 2 := by decide +kernel
              obtain ⟨y_1973, y_1974, y_1975, y_1976, y_1977, f_y_1973, f_y_1974, f_y_1975, f_y_1976, f_y_1977, w_1971_0⟩ := w_1971_0
              have w_1971_0 : (((y_1974).toInt ≤ (y_1975).toInt ∧ (y_1975).toInt ≤ (sl).toInt ∧ ((y_1973).toInt ≠ 0 → (y_1974).toInt + 1 ≤ (y_1975).toInt)) ∧ (sa).toInt ≤ (y_1974).toInt ∧ ((y_3).toInt ≠ 0 → (y_1976).toInt ≠ 0) ∧ (((y_1976).toInt = 0 → ((sa).toInt + 1 ≤ (y_1974).toInt ∧ (y_1977).toInt = (dp).toInt + 1)))) ∧ m_hid ((y_3).toInt = 0 → (((y_1976).toInt = 0 → (t_ix tb tn (y_1974 : Int32).toNatClampNeg) = (t_ix tb tn (sa : Int32).toNatClampNeg) + 1) ∧ ((y_1976).toInt ≠ 0 → (on).toInt = 7))) := w_1971_0
              obtain ⟨⟨⟨w_1971_0_0, w_1971_0_1, w_1971_0_2⟩, w_1971_0_3, w_1971_0_4, w_1971_0_5⟩, w_1971_0_6⟩ := w_1971_0
              clear w_1971_0_4
              have b_y_1973 : 0 ≤ (y_1973).toInt ∧ (y_1973).toInt ≤ 3 := dg_I.intb (lo := 0) (hi := 3) I_1971 sM_0 (by decide +kernel) f_y_1973
              have b_y_1974 : 0 ≤ (y_1974).toInt ∧ (y_1974).toInt ≤ 1600 := dg_I.intb (lo := 0) (hi := 1600) I_1971 sM_0 (by decide +kernel) f_y_1974
              have b_y_1975 : 0 ≤ (y_1975).toInt ∧ (y_1975).toInt ≤ 1600 := dg_I.intb (lo := 0) (hi := 1600) I_1971 sM_0 (by decide +kernel) f_y_1975
              have b_y_1976 : 0 ≤ (y_1976).toInt ∧ (y_1976).toInt ≤ 6 := dg_I.intb (lo := 0) (hi := 6) I_1971 sM_0 (by decide +kernel) f_y_1976
              have b_y_1977 : 0 ≤ (y_1977).toInt ∧ (y_1977).toInt ≤ 20 := dg_I.intb (lo := 0) (hi := 20) I_1971 sM_0 (by decide +kernel) f_y_1977
              replace w_1971_1 : ∀ k9 : Int32, S_1971.1 0 8 = .int k9 → k9.toInt = 0 → FRM S_682 S_1971 (2 : Int32) := w_1971_1
              refine lv_iconst (v := 0) hx hb dX12_operand_185 (by decide +kernel) ?_
              have hz_1978 : (0 : Int32).toInt = 0 := by decide +kernel
              have hz_1979 : (0 : Int32).toInt = 0 := by decide +kernel
              have hz_1980 : (0 : Int32).toInt = 0 := by decide +kernel
              have hz_1981 : (0 : Int32).toInt = 0 := by decide +kernel
              have hz_1982 : (0 : Int32).toInt = 0 := by decide +kernel
              have hz_1983 : (0 : Int32).toInt = 0 := by decide +kernel
              refine W.widen (k := 0) (n := 0) (Nat.le_of_ble_eq_true rfl) (Nat.le_of_ble_eq_true rfl) ?_
              rw [hQ9]
              exact dg_iret hx hb hr hlocks (by decide +kernel) hP hS ⟨I_1971, M_1971, (by decide +kernel), ⟨y_1973, y_1974, y_1975, y_1976, cd, y_1977, om, f_y_1973, f_y_1974, f_y_1975, f_y_1976, (((m_1971.1 0 34 _ sM_0 (by decide)).trans ((dg_uf_F e_682 0 34).trans (m_2.1 0 34 _ sM_0 (by decide)))).trans f_cd), f_y_1977, (((m_1971.1 0 45 _ sM_0 (by decide)).trans ((dg_uf_F e_682 0 45).trans (m_2.1 0 45 _ sM_0 (by decide)))).trans f_om), (by omega)⟩, (fun k9 hk9 hk0 => ⟨fun h9 => absurd h9 (by decide +kernel), fun _ => by first | (exact PBM.opens PB_682 (((dg_uf_F e_682 0 42).trans (m_2.1 0 42 _ sM_0 (by decide))).trans f_dp) (((dg_uf_F e_682 0 43).trans (m_2.1 0 43 _ sM_0 (by decide))).trans f_on) (((dg_uf_F e_682 0 45).trans (m_2.1 0 45 _ sM_0 (by decide))).trans f_om) (w_1971_1 k9 hk9 hk0) m_1971 (by decide) (by decide) (by decide) (by decide) (by omega)) | (have q9 := (f_y_1976).symm.trans hk9; cases q9; omega)⟩), (OPK.fr f_sa f_y_1976 f_y_1974 hM0 TF_682 (((dg_uf_F e_682 0 42).trans (m_2.1 0 42 _ sM_0 (by decide))).trans f_dp) (((dg_uf_F e_682 0 43).trans (m_2.1 0 43 _ sM_0 (by decide))).trans f_on) (((dg_uf_F e_682 0 45).trans (m_2.1 0 45 _ sM_0 (by decide))).trans f_om) (by omega) (by omega) m_1971 (by decide) (by decide) w_1971_1 (by rw [show (2 : Int32).toInt = 2 from by decide +kernel]; exact m_st_f.trans (m_opd_par h171.out qw_1256_1)) (fun q9 => (w_1971_0_6.out (by omega)).1 q9) (fun q9 => by have h9 := (w_1971_0_6.out (by omega)).2 q9; have h8 := dk_clN on; omega) (by decide +kernel)), w_1971_2, (ZWM.keep (ZWM.keep (ZWM.keep ZW m_2 (by decide) (by decide) (by decide) (by decide)) (dg_sm.uf (WF := []) (WA := [24]) dg_sm.rf e_682 sM_24 (by decide)) (by decide) (by decide) (by decide) (by decide)) m_1971 (by decide) (by decide) (by decide) (by decide)), trivial⟩ dX12_operand_186
          refine lv_if_eq (tgt := 171) hx hb dX12_operand_138 (by decide) (fun c_1984 => ?_) (fun c_1984 => ?_)
          · have jc_1984 := dk_eqc (k := 0) (by decide +kernel) c_1984
            exact J_1254 ()  (m_hid.mk (m_fst_no (Or.inl (hff.out (by omega))))) _ _ hP hS _ (lv_sub hl [0, 1, 2] rfl)
          · have jc_1984 := dk_neqc (k := 0) (by decide +kernel) c_1984
            have jbc_1984 : 1 ≤ (x_14).toInt := by omega
            clear jc_1984
            refine lv_aload_n hx hb dX12_operand_141 rfl (lv_at hl 2 rfl) ?_
            refine lv_ldc2 hx hb hown (hts _ (bw_mem wB_349)) dX12_operand_142 ?_
            refine dg_calli hS hA1 hA (va_runV (As := [.long 6384748]) (rest := []) F (c_m_isWord l g D o S_682 6384748 sg (((dg_uf_F e_682 0 3).trans (m_2.1 0 3 _ sM_0 (by decide))).trans f_sg) (by omega) I_682 H.size) (cwV 1 hts (bw_V wB_322 wB_323 wB_324 wB_297 wB_321) rfl rfl rfl (by decide +kernel) ⟨Nat.le_of_ble_eq_true rfl, Nat.le_of_ble_eq_true rfl⟩) (dg_preV sM_0 rfl K ST hP hS hA1 hA) rfl rfl hl.1 rfl (lv_room (Nat.le_of_ble_eq_true rfl)) dX12_operand_145 ⟨Nat.le_of_ble_eq_true rfl, Nat.le_of_ble_eq_true rfl⟩) (fun x_1985 S_1986 hw_1986 H locs hP hS => ?_)
            rw [hw_1986.1] at hP
            obtain ⟨hq_1986, w_1986_0, w_1986_1, -⟩ := hw_1986
            try rw [hq_1986] at w_1986_1
            have w_1986_0 : 0 ≤ (x_1985).toInt ∧ (x_1985).toInt ≤ 1 := w_1986_0
            replace w_1986_1 : ∀ w9 : Int64, S_682.1 0 7 = .long w9 → ((x_1985).toInt = 1 ↔ ((sg).toInt = 1 ∧ w9.toInt = ((6384748 : Int64)).toInt)) := w_1986_1
            refine lv_if_eq (tgt := 171) hx hb dX12_operand_148 (by decide) (fun c_1987 => ?_) (fun c_1987 => ?_)
            · have jc_1987 := dk_eqc (k := 0) (by decide +kernel) c_1987
              have qw_1986_1 : g_o (T_kd tb tn) (T_vl tb tn) 24 (t_ix tb tn (sa : Int32).toNatClampNeg) = false := g_iff_f (TKM.isw (TKM.keep (TKM.keep TK m_2 (by decide) (by decide) (by decide) (by decide) (by decide) (by decide) (by decide) (by decide)) (dg_sm.uf (WF := []) (WA := [24]) dg_sm.rf e_682 sM_24 (by decide)) (by decide) (by decide) (by decide) (by decide) (by decide) (by decide) (by decide) (by decide)) (((dg_uf_F e_682 0 3).trans (m_2.1 0 3 _ sM_0 (by decide))).trans f_sg) (((dg_uf_F e_682 0 4).trans (m_2.1 0 4 _ sM_0 (by decide))).trans f_sa) hk5.out (j := 24) (C := 6384748) (by decide) (by decide +kernel) w_1986_1) (by omega)
              clear w_1986_1
              exact J_1254 ()  (m_hid.mk (m_fst_no (Or.inr ⟨(h137.out (by omega)).1, (h137.out (by omega)).2, qw_1986_1⟩))) _ _ hP hS _ (lv_sub hl [0, 1, 2] rfl)
            · have jc_1987 := dk_neqc (k := 0) (by decide +kernel) c_1987
              have jbc_1987 : 1 ≤ (x_1985).toInt := by omega
              clear jc_1987
              have qw_1986_1 : g_o (T_kd tb tn) (T_vl tb tn) 24 (t_ix tb tn (sa : Int32).toNatClampNeg) = true := (TKM.isw (TKM.keep (TKM.keep TK m_2 (by decide) (by decide) (by decide) (by decide) (by decide) (by decide) (by decide) (by decide)) (dg_sm.uf (WF := []) (WA := [24]) dg_sm.rf e_682 sM_24 (by decide)) (by decide) (by decide) (by decide) (by decide) (by decide) (by decide) (by decide) (by decide)) (((dg_uf_F e_682 0 3).trans (m_2.1 0 3 _ sM_0 (by decide))).trans f_sg) (((dg_uf_F e_682 0 4).trans (m_2.1 0 4 _ sM_0 (by decide))).trans f_sa) hk5.out (j := 24) (C := 6384748) (by decide) (by decide +kernel) w_1986_1).mp (by omega)
              obtain ⟨x_1988, f_x_1988⟩ := dg_I.long (i := 0) (k := 7) I_682 sM_0 (by decide +kernel)
              have w_1986_1_r : (sg).toInt = 1 := by obtain ⟨w9, hw9⟩ : ∃ w9, S_682.1 0 7 = .long w9 := ⟨_, f_x_1988⟩; exact ((w_1986_1 w9 hw9).mp (by omega)).1
              clear w_1986_1
              have hlx_2r := hlx_2 (by omega)
              clear hlx_2
              refine lv_aload_n hx hb dX12_operand_151 rfl (lv_at hl 2 rfl) ?_
              refine lv_bipush (v := 30) hx hb dX12_operand_152 (by decide +kernel) ?_
              refine lv_iconst (v := 0) hx hb dX12_operand_154 (by decide +kernel) ?_
              have hz_1989 : (30 : Int32).toInt = 30 := by decide +kernel
              refine dg_callv hS hA1 hA (va_runV (As := [.int 30, .int 0]) (rest := []) F (c_m_add l g D o S_682 30 (by decide +kernel) 0 cd (((dg_uf_F e_682 0 34).trans (m_2.1 0 34 _ sM_0 (by decide))).trans f_cd) (by omega) (ZWM.keep (ZWM.keep ZW m_2 (by decide) (by decide) (by decide) (by decide)) (dg_sm.uf (WF := []) (WA := [24]) dg_sm.rf e_682 sM_24 (by decide)) (by decide) (by decide) (by decide) (by decide)) (ZKM.keep (ZKM.keep ZK m_2 (by decide) (by decide)) (dg_sm.uf (WF := []) (WA := [24]) dg_sm.rf e_682 sM_24 (by decide)) (by decide) (by decide)) I_682 H.size) (cwV 2 hts (bw_V wB_412 wB_413 wB_414 wB_297 wB_411) rfl rfl rfl (by decide +kernel) ⟨Nat.le_of_ble_eq_true rfl, Nat.le_of_ble_eq_true rfl⟩) (dg_preV sM_0 rfl K ST hP hS hA1 hA) rfl rfl hl.1 rfl (lv_room (Nat.le_of_ble_eq_true rfl)) dX12_operand_155 ⟨Nat.le_of_ble_eq_true rfl, Nat.le_of_ble_eq_true rfl⟩) (fun S_1990 hw_1990 H locs hP hS => ?_)
              obtain ⟨I_1990, m_1990, w_1990_0, w_1990_1, w_1990_2, -⟩ := hw_1990
              have M_1990 := dg_sm.tr M_682 m_1990 (by decide) (by decide)
              have hz_1991 : (30 : Int32).toInt = 30 := by decide +kernel
              have hz_1992 : (0 : Int32).toInt = 0 := by decide +kernel
              obtain ⟨y_1993, f_y_1993, w_1990_0⟩ := w_1990_0
              have w_1990_0 : (y_1993).toInt = (cd).toInt + 1 := w_1990_0
              have b_y_1993 : 0 ≤ (y_1993).toInt ∧ (y_1993).toInt ≤ 1600 := dg_I.intb (lo := 0) (hi := 1600) I_1990 sM_0 (by decide +kernel) f_y_1993
              replace w_1990_1 : ADM S_682 S_1990 (30 : Int32) := w_1990_1
              have P1_1990 : P1M S_1990 := PBM.leaf PB_682 (((dg_uf_F e_682 0 42).trans (m_2.1 0 42 _ sM_0 (by decide))).trans f_dp) (((dg_uf_F e_682 0 43).trans (m_2.1 0 43 _ sM_0 (by decide))).trans f_on) (((dg_uf_F e_682 0 45).trans (m_2.1 0 45 _ sM_0 (by decide))).trans f_om) m_1990 w_1990_1 (by omega)
              refine lv_aload_n hx hb dX12_operand_158 rfl (lv_at hl 2 rfl) ?_
              refine dg_get (C := RX12) (T := TX12) (N := 77) hx hb hts (fun w h => bw_mem (wU_X12 w h)) hown K hP sM_0 rfl 38 (by decide) (hts _ (bw_mem wB_417)) (fun _ h9 => h9) (v := .ref (o + 23)) (show S_1990.1 0 38 = .ref (o + 23) from dg_I.rel (d := 23) I_1990 sM_0 (by decide +kernel)) dX12_operand_159 ?_
              refine lv_iload_n hx hb dX12_operand_162 rfl (lv_at hl 1 rfl) ?_
              refine lv_iconst (v := 2) hx hb dX12_operand_163 (by decide +kernel) ?_
              have hin_1994 : vp_in x_5 20 := (dk_inv (by omega) (by omega))
              have hz_1996 : (2 : Int32).toInt = 2 := by decide +kernel
              refine dg_iast hx hb K hP hS hA1 sM_23 hin_1994 dX12_operand_164 (fun S_1995 e_1995 H locs hP hS => ?_)
              have I_1995 := dg_I.ufu (lo := 0) (hi := 2) I_1990 e_1995 sM_23 (by decide +kernel) (show 0 ≤ ((2 : Int32)).toInt ∧ ((2 : Int32)).toInt ≤ 2 from (by decide +kernel))
              have M_1995 := dg_sm.uf M_1990 e_1995 sM_23 (by decide)
              have hz_1997 : (2 : Int32).toInt = 2 := by decide +kernel
              have P1_1995 : P1M S_1995 := P1M.close5 P1_1990 (((m_1990.1 0 42 _ sM_0 (by decide)).trans ((dg_uf_F e_682 0 42).trans (m_2.1 0 42 _ sM_0 (by decide)))).trans f_dp) (by omega) (by omega) (by omega) e_1995
              have hz_1998 : (2 : Int32).toInt = 2 := by decide +kernel
              have TF_1995 : TFM (x_7).toInt 2 false nt0 R0 (on).toNatClampNeg S_1995 := (by have h9 := (TFM.ph' (TFM.keep TF_682 m_1990 (by decide) (by decide) (by decide) (by decide) (by decide) (by decide) (by decide) (by decide)) (((m_1990.1 0 42 _ sM_0 (by decide)).trans ((dg_uf_F e_682 0 42).trans (m_2.1 0 42 _ sM_0 (by decide)))).trans f_dp) (((m_1990.1 0 43 _ sM_0 (by decide)).trans ((dg_uf_F e_682 0 43).trans (m_2.1 0 43 _ sM_0 (by decide)))).trans f_on) (((m_1990.1 0 45 _ sM_0 (by decide)).trans ((dg_uf_F e_682 0 45).trans (m_2.1 0 45 _ sM_0 (by decide)))).trans f_om) (fx := x_5) (by omega) (by omega) e_1995); rw [show (2 : Int32).toInt = 2 from by decide +kernel] at h9; exact h9)
              refine lv_aload_n hx hb dX12_operand_165 rfl (lv_at hl 2 rfl) ?_
              refine dg_callv hS hA1 hA (va_runV (As := []) (rest := []) F (c_m_ahead l g D o S_1995 tb tn se (((dg_uf_F e_1995 0 5).trans ((m_1990.1 0 5 _ sM_0 (by decide)).trans ((dg_uf_F e_682 0 5).trans (m_2.1 0 5 _ sM_0 (by decide))))).trans f_se) (by omega) sl (((dg_uf_F e_1995 0 2).trans ((m_1990.1 0 2 _ sM_0 (by decide)).trans ((dg_uf_F e_682 0 2).trans (m_2.1 0 2 _ sM_0 (by decide))))).trans f_sl) (by omega) (by omega) (TKM.keep (TKM.keep (TKM.keep (TKM.keep TK m_2 (by decide) (by decide) (by decide) (by decide) (by decide) (by decide) (by decide) (by decide)) (dg_sm.uf (WF := []) (WA := [24]) dg_sm.rf e_682 sM_24 (by decide)) (by decide) (by decide) (by decide) (by decide) (by decide) (by decide) (by decide) (by decide)) m_1990 (by decide) (by decide) (by decide) (by decide) (by decide) (by decide) (by decide) (by decide)) (dg_sm.uf (WF := []) (WA := [23]) dg_sm.rf e_1995 sM_23 (by decide)) (by decide) (by decide) (by decide) (by decide) (by decide) (by decide) (by decide) (by decide)).1 I_1995 H.size) (cwV 0 hts (bw_V wB_318 wB_319 wB_320 wB_297 wB_317) rfl rfl rfl (by decide +kernel) ⟨Nat.le_of_ble_eq_true rfl, Nat.le_of_ble_eq_true rfl⟩) (dg_preV sM_0 rfl K ST hP hS hA1 hA) rfl rfl hl.1 rfl (lv_room (Nat.le_of_ble_eq_true rfl)) dX12_operand_166 ⟨Nat.le_of_ble_eq_true rfl, Nat.le_of_ble_eq_true rfl⟩) (fun S_1999 hw_1999 H locs hP hS => ?_)
              obtain ⟨I_1999, m_1999, w_1999_0, w_1999_1, -⟩ := hw_1999
              have M_1999 := dg_sm.tr M_1995 m_1999 (by decide) (by decide)
              obtain ⟨y_2000, y_2001, y_2002, f_y_2000, f_y_2001, f_y_2002, w_1999_0⟩ := w_1999_0
              have w_1999_0 : (se).toInt ≤ (y_2001).toInt ∧ (y_2001).toInt ≤ (y_2002).toInt ∧ (y_2002).toInt ≤ (sl).toInt ∧ ((y_2000).toInt ≠ 0 → (y_2001).toInt + 1 ≤ (y_2002).toInt) := w_1999_0
              obtain ⟨w_1999_0_0, w_1999_0_1, w_1999_0_2, w_1999_0_3⟩ := w_1999_0
              have b_y_2000 : 0 ≤ (y_2000).toInt ∧ (y_2000).toInt ≤ 3 := dg_I.intb (lo := 0) (hi := 3) I_1999 sM_0 (by decide +kernel) f_y_2000
              have b_y_2001 : 0 ≤ (y_2001).toInt ∧ (y_2001).toInt ≤ 1600 := dg_I.intb (lo := 0) (hi := 1600) I_1999 sM_0 (by decide +kernel) f_y_2001
              have b_y_2002 : 0 ≤ (y_2002).toInt ∧ (y_2002).toInt ≤ 1600 := dg_I.intb (lo := 0) (hi := 1600) I_1999 sM_0 (by decide +kernel) f_y_2002
              replace w_1999_1 : TNX tb tn se S_1999 := w_1999_1
              obtain ⟨TK_1999, nx_1999, -⟩ := TKM.nx (TKM.keep (TKM.keep (TKM.keep (TKM.keep TK m_2 (by decide) (by decide) (by decide) (by decide) (by decide) (by decide) (by decide) (by decide)) (dg_sm.uf (WF := []) (WA := [24]) dg_sm.rf e_682 sM_24 (by decide)) (by decide) (by decide) (by decide) (by decide) (by decide) (by decide) (by decide) (by decide)) m_1990 (by decide) (by decide) (by decide) (by decide) (by decide) (by decide) (by decide) (by decide)) (dg_sm.uf (WF := []) (WA := [23]) dg_sm.rf e_1995 sM_23 (by decide)) (by decide) (by decide) (by decide) (by decide) (by decide) (by decide) (by decide) (by decide)) (((dg_uf_F e_1995 0 4).trans ((m_1990.1 0 4 _ sM_0 (by decide)).trans ((dg_uf_F e_682 0 4).trans (m_2.1 0 4 _ sM_0 (by decide))))).trans f_sa) (((dg_uf_F e_1995 0 5).trans ((m_1990.1 0 5 _ sM_0 (by decide)).trans ((dg_uf_F e_682 0 5).trans (m_2.1 0 5 _ sM_0 (by decide))))).trans f_se) w_1999_1 m_1999 (by decide) (by decide) f_y_2001
              replace nx_1999 := nx_1999 (fun q9 => absurd ((TKM.zero (TKM.keep (TKM.keep (TKM.keep (TKM.keep TK m_2 (by decide) (by decide) (by decide) (by decide) (by decide) (by decide) (by decide) (by decide)) (dg_sm.uf (WF := []) (WA := [24]) dg_sm.rf e_682 sM_24 (by decide)) (by decide) (by decide) (by decide) (by decide) (by decide) (by decide) (by decide) (by decide)) m_1990 (by decide) (by decide) (by decide) (by decide) (by decide) (by decide) (by decide) (by decide)) (dg_sm.uf (WF := []) (WA := [23]) dg_sm.rf e_1995 sM_23 (by decide)) (by decide) (by decide) (by decide) (by decide) (by decide) (by decide) (by decide) (by decide)) (((dg_uf_F e_1995 0 3).trans ((m_1990.1 0 3 _ sM_0 (by decide)).trans ((dg_uf_F e_682 0 3).trans (m_2.1 0 3 _ sM_0 (by decide))))).trans f_sg) (((dg_uf_F e_1995 0 4).trans ((m_1990.1 0 4 _ sM_0 (by decide)).trans ((dg_uf_F e_682 0 4).trans (m_2.1 0 4 _ sM_0 (by decide))))).trans f_sa)).mpr q9) (by omega))
              refine lv_iconst (v := 1) hx hb dX12_operand_169 (by decide +kernel) ?_
              have hz_2003 : (1 : Int32).toInt = 1 := by decide +kernel
              have hz_2004 : (1 : Int32).toInt = 1 := by decide +kernel
              have hz_2005 : (1 : Int32).toInt = 1 := by decide +kernel
              have hz_2006 : (1 : Int32).toInt = 1 := by decide +kernel
              have hz_2007 : (1 : Int32).toInt = 1 := by decide +kernel
              have hz_2008 : (1 : Int32).toInt = 1 := by decide +kernel
              refine W.widen (k := 0) (n := 0) (Nat.le_of_ble_eq_true rfl) (Nat.le_of_ble_eq_true rfl) ?_
              rw [hQ9]
              exact dg_iret hx hb hr hlocks (by decide +kernel) hP hS ⟨I_1999, M_1999, (by decide +kernel), ⟨y_2000, y_2001, y_2002, y_3, y_1993, dp, om, f_y_2000, f_y_2001, f_y_2002, (((m_1999.1 0 8 _ sM_0 (by decide)).trans ((dg_uf_F e_1995 0 8).trans ((m_1990.1 0 8 _ sM_0 (by decide)).trans (dg_uf_F e_682 0 8)))).trans f_y_3), (((m_1999.1 0 34 _ sM_0 (by decide)).trans (dg_uf_F e_1995 0 34)).trans f_y_1993), (((m_1999.1 0 42 _ sM_0 (by decide)).trans ((dg_uf_F e_1995 0 42).trans ((m_1990.1 0 42 _ sM_0 (by decide)).trans ((dg_uf_F e_682 0 42).trans (m_2.1 0 42 _ sM_0 (by decide)))))).trans f_dp), (((m_1999.1 0 45 _ sM_0 (by decide)).trans ((dg_uf_F e_1995 0 45).trans ((m_1990.1 0 45 _ sM_0 (by decide)).trans ((dg_uf_F e_682 0 45).trans (m_2.1 0 45 _ sM_0 (by decide)))))).trans f_om), (by omega)⟩, (fun k9 hk9 hk0 => ⟨fun _ => (P1M.keep P1_1995 m_1999 (by decide) (by decide) (by decide) (by decide) (by decide) (by decide) (by decide) (by decide) (by decide) (by decide) (by decide) (by decide) (by decide) (by decide) (by decide)), fun h9 => absurd h9 (by decide +kernel)⟩), (OPK.ok f_sa (((m_1999.1 0 8 _ sM_0 (by decide)).trans ((dg_uf_F e_1995 0 8).trans ((m_1990.1 0 8 _ sM_0 (by decide)).trans (dg_uf_F e_682 0 8)))).trans f_y_3) f_y_2001 (by omega) hM0 (TFM.keep TF_1995 m_1999 (by decide) (by decide) (by decide) (by decide) (by decide) (by decide) (by decide) (by decide)) (m_st_f.trans (m_opd_all (hft.out (by omega)).1 (hft.out (by omega)).2 qw_1986_1)) (by omega) (by decide +kernel)), TK_1999, (ZWM.keep (ZWM.keep w_1990_2 (dg_sm.uf (WF := []) (WA := [23]) dg_sm.rf e_1995 sM_23 (by decide)) (by decide) (by decide) (by decide) (by decide)) m_1999 (by decide) (by decide) (by decide) (by decide)), trivial⟩ dX12_operand_170
        refine lv_if_eq (tgt := 137) hx hb dX12_operand_118 (by decide) (fun c_2009 => ?_) (fun c_2009 => ?_)
        · have jc_2009 := dk_eqc (k := 0) (by decide +kernel) c_2009
          exact J_979 ()  (m_hid.mk (fun q9 => by exfalso; omega)) _ _ hP hS _ (lv_sub hl [0, 1, 2] rfl)
        · have jc_2009 := dk_neqc (k := 0) (by decide +kernel) c_2009
          have jbc_2009 : 1 ≤ (x_14).toInt := by omega
          clear jc_2009
          refine lv_aload_n hx hb dX12_operand_121 rfl (lv_at hl 2 rfl) ?_
          refine lv_bipush (v := 91) hx hb dX12_operand_122 (by decide +kernel) ?_
          refine dg_calli hS hA1 hA (va_runV (As := [.int 91]) (rest := []) F (c_m_isSign l g D o S_682 91 sg (((dg_uf_F e_682 0 3).trans (m_2.1 0 3 _ sM_0 (by decide))).trans f_sg) (by omega) va (((dg_uf_F e_682 0 6).trans (m_2.1 0 6 _ sM_0 (by decide))).trans f_va) (by omega) I_682 H.size) (cwV 1 hts (bw_V wB_314 wB_315 wB_316 wB_297 wB_313) rfl rfl rfl (by decide +kernel) ⟨Nat.le_of_ble_eq_true rfl, Nat.le_of_ble_eq_true rfl⟩) (dg_preV sM_0 rfl K ST hP hS hA1 hA) rfl rfl hl.1 rfl (lv_room (Nat.le_of_ble_eq_true rfl)) dX12_operand_124 ⟨Nat.le_of_ble_eq_true rfl, Nat.le_of_ble_eq_true rfl⟩) (fun x_2010 S_2011 hw_2011 H locs hP hS => ?_)
          rw [hw_2011.1] at hP
          obtain ⟨hq_2011, w_2011_0, w_2011_1, -⟩ := hw_2011
          have hz_2012 : (91 : Int32).toInt = 91 := by decide +kernel
          have w_2011_0 : 0 ≤ (x_2010).toInt ∧ (x_2010).toInt ≤ 1 := w_2011_0
          have w_2011_1 : (x_2010).toInt = 1 ↔ ((sg).toInt = 3 ∧ (va).toInt = ((91 : Int32)).toInt) := w_2011_1
          refine lv_if_eq (tgt := 137) hx hb dX12_operand_127 (by decide) (fun c_2013 => ?_) (fun c_2013 => ?_)
          · have jc_2013 := dk_eqc (k := 0) (by decide +kernel) c_2013
            have qw_2011_1 : g_s (T_kd tb tn) (T_vl tb tn) 91 (t_ix tb tn (sa : Int32).toNatClampNeg) = false := g_iff_f (TKM.iss (TKM.keep (TKM.keep TK m_2 (by decide) (by decide) (by decide) (by decide) (by decide) (by decide) (by decide) (by decide)) (dg_sm.uf (WF := []) (WA := [24]) dg_sm.rf e_682 sM_24 (by decide)) (by decide) (by decide) (by decide) (by decide) (by decide) (by decide) (by decide) (by decide)) (((dg_uf_F e_682 0 3).trans (m_2.1 0 3 _ sM_0 (by decide))).trans f_sg) (((dg_uf_F e_682 0 4).trans (m_2.1 0 4 _ sM_0 (by decide))).trans f_sa) (((dg_uf_F e_682 0 6).trans (m_2.1 0 6 _ sM_0 (by decide))).trans f_va) hk5.out (c := 91) (by have h9 := w_2011_1; rw [show (91 : Int32).toInt = 91 from by decide +kernel] at h9; exact h9)) (by omega)
            clear w_2011_1
            exact J_979 ()  (m_hid.mk (fun q9 => ⟨h110.out q9, qw_2011_1⟩)) _ _ hP hS _ (lv_sub hl [0, 1, 2] rfl)
          · have jc_2013 := dk_neqc (k := 0) (by decide +kernel) c_2013
            have jbc_2013 : 1 ≤ (x_2010).toInt := by omega
            clear jc_2013
            have qw_2011_1 : g_s (T_kd tb tn) (T_vl tb tn) 91 (t_ix tb tn (sa : Int32).toNatClampNeg) = true := (TKM.iss (TKM.keep (TKM.keep TK m_2 (by decide) (by decide) (by decide) (by decide) (by decide) (by decide) (by decide) (by decide)) (dg_sm.uf (WF := []) (WA := [24]) dg_sm.rf e_682 sM_24 (by decide)) (by decide) (by decide) (by decide) (by decide) (by decide) (by decide) (by decide) (by decide)) (((dg_uf_F e_682 0 3).trans (m_2.1 0 3 _ sM_0 (by decide))).trans f_sg) (((dg_uf_F e_682 0 4).trans (m_2.1 0 4 _ sM_0 (by decide))).trans f_sa) (((dg_uf_F e_682 0 6).trans (m_2.1 0 6 _ sM_0 (by decide))).trans f_va) hk5.out (c := 91) (by have h9 := w_2011_1; rw [show (91 : Int32).toInt = 91 from by decide +kernel] at h9; exact h9)).mp (by omega)
            have w_2011_1_r := w_2011_1.mp (by omega)
            obtain ⟨w_2011_1_r1, w_2011_1_r2⟩ := w_2011_1_r
            clear w_2011_1
            have hlx_2r := hlx_2 (by omega)
            clear hlx_2
            refine lv_aload_n hx hb dX12_operand_130 rfl (lv_at hl 2 rfl) ?_
            refine lv_iconst (v := 5) hx hb dX12_operand_131 (by decide +kernel) ?_
            have hz_2014 : (5 : Int32).toInt = 5 := by decide +kernel
            refine dg_callv hS hA1 hA (va_runV (As := [.int 5]) (rest := []) F (c_m_frames l g D o S_682 5 (by decide +kernel) tb tn sg (((dg_uf_F e_682 0 3).trans (m_2.1 0 3 _ sM_0 (by decide))).trans f_sg) (by omega) sa (((dg_uf_F e_682 0 4).trans (m_2.1 0 4 _ sM_0 (by decide))).trans f_sa) (by omega) se (((dg_uf_F e_682 0 5).trans (m_2.1 0 5 _ sM_0 (by decide))).trans f_se) (by omega) sl (((dg_uf_F e_682 0 2).trans (m_2.1 0 2 _ sM_0 (by decide))).trans f_sl) (by omega) y_3 ((dg_uf_F e_682 0 8).trans f_y_3) (by omega) dp (((dg_uf_F e_682 0 42).trans (m_2.1 0 42 _ sM_0 (by decide))).trans f_dp) (by omega) om (((dg_uf_F e_682 0 45).trans (m_2.1 0 45 _ sM_0 (by decide))).trans f_om) (by omega) on (((dg_uf_F e_682 0 43).trans (m_2.1 0 43 _ sM_0 (by decide))).trans f_on) (by omega) (by omega) (by omega) (TKM.keep (TKM.keep TK m_2 (by decide) (by decide) (by decide) (by decide) (by decide) (by decide) (by decide) (by decide)) (dg_sm.uf (WF := []) (WA := [24]) dg_sm.rf e_682 sM_24 (by decide)) (by decide) (by decide) (by decide) (by decide) (by decide) (by decide) (by decide) (by decide)) I_682 H.size) (cwV 1 hts (bw_V wB_431 wB_432 wB_433 wB_297 wB_430) rfl rfl rfl (by decide +kernel) ⟨Nat.le_of_ble_eq_true rfl, Nat.le_of_ble_eq_true rfl⟩) (dg_preV sM_0 rfl K ST hP hS hA1 hA) rfl rfl hl.1 rfl (lv_room (Nat.le_of_ble_eq_true rfl)) dX12_operand_132 ⟨Nat.le_of_ble_eq_true rfl, Nat.le_of_ble_eq_true rfl⟩) (fun S_2015 hw_2015 H locs hP hS => ?_)
            obtain ⟨I_2015, m_2015, w_2015_0, w_2015_1, w_2015_2, -⟩ := hw_2015
            have M_2015 := dg_sm.tr M_682 m_2015 (by decide) (by decide)
            have hz_2016 : (5 : Int32).toInt = 5 := by decide +kernel
            obtain ⟨y_2017, y_2018, y_2019, y_2020, y_2021, f_y_2017, f_y_2018, f_y_2019, f_y_2020, f_y_2021, w_2015_0⟩ := w_2015_0
            have w_2015_0 : (((y_2018).toInt ≤ (y_2019).toInt ∧ (y_2019).toInt ≤ (sl).toInt ∧ ((y_2017).toInt ≠ 0 → (y_2018).toInt + 1 ≤ (y_2019).toInt)) ∧ (sa).toInt ≤ (y_2018).toInt ∧ ((y_3).toInt ≠ 0 → (y_2020).toInt ≠ 0) ∧ (((y_2020).toInt = 0 → ((sa).toInt + 1 ≤ (y_2018).toInt ∧ (y_2021).toInt = (dp).toInt + 1)))) ∧ m_hid ((y_3).toInt = 0 → (((y_2020).toInt = 0 → (t_ix tb tn (y_2018 : Int32).toNatClampNeg) = (t_ix tb tn (sa : Int32).toNatClampNeg) + 1) ∧ ((y_2020).toInt ≠ 0 → (on).toInt = 7))) := w_2015_0
            obtain ⟨⟨⟨w_2015_0_0, w_2015_0_1, w_2015_0_2⟩, w_2015_0_3, w_2015_0_4, w_2015_0_5⟩, w_2015_0_6⟩ := w_2015_0
            clear w_2015_0_4
            have b_y_2017 : 0 ≤ (y_2017).toInt ∧ (y_2017).toInt ≤ 3 := dg_I.intb (lo := 0) (hi := 3) I_2015 sM_0 (by decide +kernel) f_y_2017
            have b_y_2018 : 0 ≤ (y_2018).toInt ∧ (y_2018).toInt ≤ 1600 := dg_I.intb (lo := 0) (hi := 1600) I_2015 sM_0 (by decide +kernel) f_y_2018
            have b_y_2019 : 0 ≤ (y_2019).toInt ∧ (y_2019).toInt ≤ 1600 := dg_I.intb (lo := 0) (hi := 1600) I_2015 sM_0 (by decide +kernel) f_y_2019
            have b_y_2020 : 0 ≤ (y_2020).toInt ∧ (y_2020).toInt ≤ 6 := dg_I.intb (lo := 0) (hi := 6) I_2015 sM_0 (by decide +kernel) f_y_2020
            have b_y_2021 : 0 ≤ (y_2021).toInt ∧ (y_2021).toInt ≤ 20 := dg_I.intb (lo := 0) (hi := 20) I_2015 sM_0 (by decide +kernel) f_y_2021
            replace w_2015_1 : ∀ k9 : Int32, S_2015.1 0 8 = .int k9 → k9.toInt = 0 → FRM S_682 S_2015 (5 : Int32) := w_2015_1
            refine lv_iconst (v := 0) hx hb dX12_operand_135 (by decide +kernel) ?_
            have hz_2022 : (0 : Int32).toInt = 0 := by decide +kernel
            have hz_2023 : (0 : Int32).toInt = 0 := by decide +kernel
            have hz_2024 : (0 : Int32).toInt = 0 := by decide +kernel
            have hz_2025 : (0 : Int32).toInt = 0 := by decide +kernel
            have hz_2026 : (0 : Int32).toInt = 0 := by decide +kernel
            have hz_2027 : (0 : Int32).toInt = 0 := by decide +kernel
            refine W.widen (k := 0) (n := 0) (Nat.le_of_ble_eq_true rfl) (Nat.le_of_ble_eq_true rfl) ?_
            rw [hQ9]
            exact dg_iret hx hb hr hlocks (by decide +kernel) hP hS ⟨I_2015, M_2015, (by decide +kernel), ⟨y_2017, y_2018, y_2019, y_2020, cd, y_2021, om, f_y_2017, f_y_2018, f_y_2019, f_y_2020, (((m_2015.1 0 34 _ sM_0 (by decide)).trans ((dg_uf_F e_682 0 34).trans (m_2.1 0 34 _ sM_0 (by decide)))).trans f_cd), f_y_2021, (((m_2015.1 0 45 _ sM_0 (by decide)).trans ((dg_uf_F e_682 0 45).trans (m_2.1 0 45 _ sM_0 (by decide)))).trans f_om), (by omega)⟩, (fun k9 hk9 hk0 => ⟨fun h9 => absurd h9 (by decide +kernel), fun _ => by first | (exact PBM.opens PB_682 (((dg_uf_F e_682 0 42).trans (m_2.1 0 42 _ sM_0 (by decide))).trans f_dp) (((dg_uf_F e_682 0 43).trans (m_2.1 0 43 _ sM_0 (by decide))).trans f_on) (((dg_uf_F e_682 0 45).trans (m_2.1 0 45 _ sM_0 (by decide))).trans f_om) (w_2015_1 k9 hk9 hk0) m_2015 (by decide) (by decide) (by decide) (by decide) (by omega)) | (have q9 := (f_y_2020).symm.trans hk9; cases q9; omega)⟩), (OPK.fr f_sa f_y_2020 f_y_2018 hM0 TF_682 (((dg_uf_F e_682 0 42).trans (m_2.1 0 42 _ sM_0 (by decide))).trans f_dp) (((dg_uf_F e_682 0 43).trans (m_2.1 0 43 _ sM_0 (by decide))).trans f_on) (((dg_uf_F e_682 0 45).trans (m_2.1 0 45 _ sM_0 (by decide))).trans f_om) (by omega) (by omega) m_2015 (by decide) (by decide) w_2015_1 (by rw [show (5 : Int32).toInt = 5 from by decide +kernel]; exact m_st_f.trans (m_opd_br (hft.out (by omega)).1 (hft.out (by omega)).2 qw_2011_1)) (fun q9 => (w_2015_0_6.out (by omega)).1 q9) (fun q9 => by have h9 := (w_2015_0_6.out (by omega)).2 q9; have h8 := dk_clN on; omega) (by decide +kernel)), w_2015_2, (ZWM.keep (ZWM.keep (ZWM.keep ZW m_2 (by decide) (by decide) (by decide) (by decide)) (dg_sm.uf (WF := []) (WA := [24]) dg_sm.rf e_682 sM_24 (by decide)) (by decide) (by decide) (by decide) (by decide)) m_2015 (by decide) (by decide) (by decide) (by decide)), trivial⟩ dX12_operand_136
      refine lv_if_eq (tgt := 110) hx hb dX12_operand_48 (by decide) (fun c_2028 => ?_) (fun c_2028 => ?_)
      · have jc_2028 := dk_eqc (k := 0) (by decide +kernel) c_2028
        clear rel_0
        exact J_680 ()  (m_hid.mk (fun q9 => by exfalso; omega)) _ _ hP hS _ (lv_sub hl [0, 1, 2] rfl)
      · have jc_2028 := dk_neqc (k := 0) (by decide +kernel) c_2028
        have jbc_2028 : 1 ≤ (x_14).toInt := by omega
        clear jc_2028
        have rel_0r := rel_0 (by omega)
        clear rel_0
        obtain ⟨rel_0r_0, rel_0r_1⟩ := rel_0r
        refine lv_aload_n hx hb dX12_operand_51 rfl (lv_at hl 2 rfl) ?_
        refine lv_ldc2 hx hb hown (hts _ (bw_mem wB_348)) dX12_operand_52 ?_
        refine dg_calli hS hA1 hA (va_runV (As := [.long 7237492]) (rest := []) F (c_m_isWord l g D o S_2 7237492 sg ((m_2.1 0 3 _ sM_0 (by decide)).trans f_sg) (by omega) I_2 H.size) (cwV 1 hts (bw_V wB_322 wB_323 wB_324 wB_297 wB_321) rfl rfl rfl (by decide +kernel) ⟨Nat.le_of_ble_eq_true rfl, Nat.le_of_ble_eq_true rfl⟩) (dg_preV sM_0 rfl K ST hP hS hA1 hA) rfl rfl hl.1 rfl (lv_room (Nat.le_of_ble_eq_true rfl)) dX12_operand_55 ⟨Nat.le_of_ble_eq_true rfl, Nat.le_of_ble_eq_true rfl⟩) (fun x_2029 S_2030 hw_2030 H locs hP hS => ?_)
        rw [hw_2030.1] at hP
        obtain ⟨hq_2030, w_2030_0, w_2030_1, -⟩ := hw_2030
        try rw [hq_2030] at w_2030_1
        have w_2030_0 : 0 ≤ (x_2029).toInt ∧ (x_2029).toInt ≤ 1 := w_2030_0
        replace w_2030_1 : ∀ w9 : Int64, S_2.1 0 7 = .long w9 → ((x_2029).toInt = 1 ↔ ((sg).toInt = 1 ∧ w9.toInt = ((7237492 : Int64)).toInt)) := w_2030_1
        refine lv_if_eq (tgt := 110) hx hb dX12_operand_58 (by decide) (fun c_2031 => ?_) (fun c_2031 => ?_)
        · have jc_2031 := dk_eqc (k := 0) (by decide +kernel) c_2031
          have qw_2030_1 : g_o (T_kd tb tn) (T_vl tb tn) 23 (t_ix tb tn (sa : Int32).toNatClampNeg) = false := g_iff_f (TKM.isw (TKM.keep TK m_2 (by decide) (by decide) (by decide) (by decide) (by decide) (by decide) (by decide) (by decide)) ((m_2.1 0 3 _ sM_0 (by decide)).trans f_sg) ((m_2.1 0 4 _ sM_0 (by decide)).trans f_sa) hk5.out (j := 23) (C := 7237492) (by decide) (by decide +kernel) w_2030_1) (by omega)
          clear w_2030_1
          exact J_680 ()  (m_hid.mk (fun _ => qw_2030_1)) _ _ hP hS _ (lv_sub hl [0, 1, 2] rfl)
        · have jc_2031 := dk_neqc (k := 0) (by decide +kernel) c_2031
          have jbc_2031 : 1 ≤ (x_2029).toInt := by omega
          clear jc_2031
          have qw_2030_1 : g_o (T_kd tb tn) (T_vl tb tn) 23 (t_ix tb tn (sa : Int32).toNatClampNeg) = true := (TKM.isw (TKM.keep TK m_2 (by decide) (by decide) (by decide) (by decide) (by decide) (by decide) (by decide) (by decide)) ((m_2.1 0 3 _ sM_0 (by decide)).trans f_sg) ((m_2.1 0 4 _ sM_0 (by decide)).trans f_sa) hk5.out (j := 23) (C := 7237492) (by decide) (by decide +kernel) w_2030_1).mp (by omega)
          obtain ⟨x_2032, f_x_2032⟩ := dg_I.long (i := 0) (k := 7) I_2 sM_0 (by decide +kernel)
          have w_2030_1_r : (sg).toInt = 1 := by obtain ⟨w9, hw9⟩ : ∃ w9, S_2.1 0 7 = .long w9 := ⟨_, f_x_2032⟩; exact ((w_2030_1 w9 hw9).mp (by omega)).1
          clear w_2030_1
          have hlx_2r := hlx_2 (by omega)
          clear hlx_2
          refine lv_aload_n hx hb dX12_operand_61 rfl (lv_at hl 2 rfl) ?_
          refine dg_get (C := RX12) (T := TX12) (N := 77) hx hb hts (fun w h => bw_mem (wU_X12 w h)) hown K hP sM_0 rfl 43 (by decide) (hts _ (bw_mem wB_415)) (fun _ h9 => h9) (v := .int on) ((m_2.1 0 43 _ sM_0 (by decide)).trans f_on) dX12_operand_62 ?_
          refine lv_bipush (v := 7) hx hb dX12_operand_65 (by decide +kernel) ?_
          refine lv_icmp_ne (tgt := 79) hx hb dX12_operand_67 (by decide) (fun c_2033 => ?_) (fun c_2033 => ?_)
          · have jc_2033 := dk_neqc (k := 7) (by decide +kernel) c_2033
            have jtc_2033 : (on).toInt ≤ 6 := by omega
            clear jc_2033
            refine lv_aload_n hx hb dX12_operand_79 rfl (lv_at hl 2 rfl) ?_
            refine dg_get (C := RX12) (T := TX12) (N := 77) hx hb hts (fun w h => bw_mem (wU_X12 w h)) hown K hP sM_0 rfl 8 (by decide) (hts _ (bw_mem wB_303)) (fun _ h9 => h9) (v := .int y_3) f_y_3 dX12_operand_80 ?_
            refine lv_if_le (tgt := 88) hx hb dX12_operand_83 (by decide) (fun _ => ?_) (fun c => absurd (dk_lep (k := 0) (by decide +kernel) (by omega)) c)
            refine lv_aload_n hx hb dX12_operand_88 rfl (lv_at hl 2 rfl) ?_
            refine lv_dup hx hb dX12_operand_89 rfl ?_
            refine dg_get (C := RX12) (T := TX12) (N := 77) hx hb hts (fun w h => bw_mem (wU_X12 w h)) hown K hP sM_0 rfl 43 (by decide) (hts _ (bw_mem wB_415)) (fun _ h9 => h9) (v := .int on) ((m_2.1 0 43 _ sM_0 (by decide)).trans f_on) dX12_operand_90 ?_
            refine lv_iconst (v := 1) hx hb dX12_operand_93 (by decide +kernel) ?_
            refine lv_iadd hx hb dX12_operand_94 ?_
            refine lv_topi (fun x_2034 ex_2034 => ?_)
            have jx_2034 : (x_2034).toInt = (on).toInt + 1 := by rw [ex_2034]; exact dk_addT rfl (by decide +kernel) (by omega) (by omega)
            refine dg_put (ci := 12) (v := .int x_2034) (ty := tyX12 43) (C := RX12) (T := TX12) (N := 77) hx hb hts (fun w h => bw_mem (wU_X12 w h)) tyX12 tyX12_ok nmX12 hown K hP hS hA1 sM_0 rfl 43 (by decide) (hts _ (bw_mem wB_415)) (fun _ h9 => h9) rfl (by decide +kernel) rfl rfl dX12_operand_95 (fun S_2035 e_2035 H locs hP hS => ?_)
            have I_2035 := dg_I.uFi (lo := (-2147483648)) (hi := 2147483647) I_2 e_2035 sM_0 (by decide +kernel) (show (-2147483648) ≤ (x_2034).toInt ∧ (x_2034).toInt ≤ 2147483647 from (dk_full _))
            have M_2035 := dg_sm.uF M_2 e_2035 sM_0 (by decide)
            have TF_2035 : TFM (x_7).toInt (x_348).toInt bg0 nt0 R0 ((on).toNatClampNeg + 1) S_2035 := TFM.opp TF0 ((m_2.1 0 43 _ sM_0 (by decide)).trans f_on) e_2035 (by omega) (by omega)
            refine lv_aload_n hx hb dX12_operand_98 rfl (lv_at hl 2 rfl) ?_
            refine lv_bipush (v := 43) hx hb dX12_operand_99 (by decide +kernel) ?_
            refine dg_callv hS hA1 hA (va_runV (As := [.int 43]) (rest := []) F (c_m_holdsBack l g D o S_2035 43 om (((dg_uF_ne e_2035 (fun z => absurd z.2 (by decide))).trans (m_2.1 0 45 _ sM_0 (by decide))).trans f_om) (by omega) I_2035 H.size) (cwV 1 hts (bw_V wB_427 wB_428 wB_429 wB_297 wB_426) rfl rfl rfl (by decide +kernel) ⟨Nat.le_of_ble_eq_true rfl, Nat.le_of_ble_eq_true rfl⟩) (dg_preV sM_0 rfl K ST hP hS hA1 hA) rfl rfl hl.1 rfl (lv_room (Nat.le_of_ble_eq_true rfl)) dX12_operand_101 ⟨Nat.le_of_ble_eq_true rfl, Nat.le_of_ble_eq_true rfl⟩) (fun S_2036 hw_2036 H locs hP hS => ?_)
            obtain ⟨I_2036, m_2036, w_2036_0, w_2036_1, -⟩ := hw_2036
            have M_2036 := dg_sm.tr M_2035 m_2036 (by decide) (by decide)
            have hz_2037 : (43 : Int32).toInt = 43 := by decide +kernel
            obtain ⟨y_2038, f_y_2038, w_2036_0⟩ := w_2036_0
            have w_2036_0 : (y_2038).toInt = (om).toInt + 1 := w_2036_0
            have b_y_2038 : 0 ≤ (y_2038).toInt ∧ (y_2038).toInt ≤ 500 := dg_I.intb (lo := 0) (hi := 500) I_2036 sM_0 (by decide +kernel) f_y_2038
            replace w_2036_1 : HBM S_2035 S_2036 (43 : Int32) := w_2036_1
            have P0_2036 : P0M S_2036 := P0M.not (P0M.keep P0 m_2 (by decide) (by decide) (by decide) (by decide) (by decide) (by decide) (by decide) (by decide) (by decide) (by decide) (by decide) (by decide) (by decide) (by decide) (by decide)) ((m_2.1 0 42 _ sM_0 (by decide)).trans f_dp) ((m_2.1 0 43 _ sM_0 (by decide)).trans f_on) ((m_2.1 0 45 _ sM_0 (by decide)).trans f_om) (fx := x_5) (by omega) ex_7.symm (by unfold dk_ts; omega) rel_0r_1 (by omega) e_2035 (by omega) m_2036 w_2036_1 (by omega)
            have hz_2039 : (43 : Int32).toInt = 43 := by decide +kernel
            have TF_2036 : TFM (x_7).toInt (x_348).toInt bg0 (nt0 + 1) R0 ((on).toNatClampNeg + 1) S_2036 := (by have h9 := TFM.hb TF_2035 (((dg_uF_ne e_2035 (fun z => absurd z.2 (by decide))).trans (m_2.1 0 42 _ sM_0 (by decide))).trans f_dp) (dg_uF_at e_2035) (((dg_uF_ne e_2035 (fun z => absurd z.2 (by decide))).trans (m_2.1 0 45 _ sM_0 (by decide))).trans f_om) (by omega) m_2036 w_2036_1; rw [if_pos (by decide +kernel)] at h9; exact h9)
            refine lv_aload_n hx hb dX12_operand_104 rfl (lv_at hl 2 rfl) ?_
            refine dg_callv hS hA1 hA (va_runV (As := []) (rest := []) F (c_m_ahead l g D o S_2036 tb tn se (((m_2036.1 0 5 _ sM_0 (by decide)).trans ((dg_uF_ne e_2035 (fun z => absurd z.2 (by decide))).trans (m_2.1 0 5 _ sM_0 (by decide)))).trans f_se) (by omega) sl (((m_2036.1 0 2 _ sM_0 (by decide)).trans ((dg_uF_ne e_2035 (fun z => absurd z.2 (by decide))).trans (m_2.1 0 2 _ sM_0 (by decide)))).trans f_sl) (by omega) (by omega) (TKM.keep (TKM.keep (TKM.keep TK m_2 (by decide) (by decide) (by decide) (by decide) (by decide) (by decide) (by decide) (by decide)) (dg_sm.uF (WF := [(0, 43)]) (WA := []) dg_sm.rf e_2035 sM_0 (by decide)) (by decide) (by decide) (by decide) (by decide) (by decide) (by decide) (by decide) (by decide)) m_2036 (by decide) (by decide) (by decide) (by decide) (by decide) (by decide) (by decide) (by decide)).1 I_2036 H.size) (cwV 0 hts (bw_V wB_318 wB_319 wB_320 wB_297 wB_317) rfl rfl rfl (by decide +kernel) ⟨Nat.le_of_ble_eq_true rfl, Nat.le_of_ble_eq_true rfl⟩) (dg_preV sM_0 rfl K ST hP hS hA1 hA) rfl rfl hl.1 rfl (lv_room (Nat.le_of_ble_eq_true rfl)) dX12_operand_105 ⟨Nat.le_of_ble_eq_true rfl, Nat.le_of_ble_eq_true rfl⟩) (fun S_2040 hw_2040 H locs hP hS => ?_)
            obtain ⟨I_2040, m_2040, w_2040_0, w_2040_1, -⟩ := hw_2040
            have M_2040 := dg_sm.tr M_2036 m_2040 (by decide) (by decide)
            obtain ⟨y_2041, y_2042, y_2043, f_y_2041, f_y_2042, f_y_2043, w_2040_0⟩ := w_2040_0
            have w_2040_0 : (se).toInt ≤ (y_2042).toInt ∧ (y_2042).toInt ≤ (y_2043).toInt ∧ (y_2043).toInt ≤ (sl).toInt ∧ ((y_2041).toInt ≠ 0 → (y_2042).toInt + 1 ≤ (y_2043).toInt) := w_2040_0
            obtain ⟨w_2040_0_0, w_2040_0_1, w_2040_0_2, w_2040_0_3⟩ := w_2040_0
            have b_y_2041 : 0 ≤ (y_2041).toInt ∧ (y_2041).toInt ≤ 3 := dg_I.intb (lo := 0) (hi := 3) I_2040 sM_0 (by decide +kernel) f_y_2041
            have b_y_2042 : 0 ≤ (y_2042).toInt ∧ (y_2042).toInt ≤ 1600 := dg_I.intb (lo := 0) (hi := 1600) I_2040 sM_0 (by decide +kernel) f_y_2042
            have b_y_2043 : 0 ≤ (y_2043).toInt ∧ (y_2043).toInt ≤ 1600 := dg_I.intb (lo := 0) (hi := 1600) I_2040 sM_0 (by decide +kernel) f_y_2043
            replace w_2040_1 : TNX tb tn se S_2040 := w_2040_1
            obtain ⟨TK_2040, nx_2040, -⟩ := TKM.nx (TKM.keep (TKM.keep (TKM.keep TK m_2 (by decide) (by decide) (by decide) (by decide) (by decide) (by decide) (by decide) (by decide)) (dg_sm.uF (WF := [(0, 43)]) (WA := []) dg_sm.rf e_2035 sM_0 (by decide)) (by decide) (by decide) (by decide) (by decide) (by decide) (by decide) (by decide) (by decide)) m_2036 (by decide) (by decide) (by decide) (by decide) (by decide) (by decide) (by decide) (by decide)) (((m_2036.1 0 4 _ sM_0 (by decide)).trans ((dg_uF_ne e_2035 (fun z => absurd z.2 (by decide))).trans (m_2.1 0 4 _ sM_0 (by decide)))).trans f_sa) (((m_2036.1 0 5 _ sM_0 (by decide)).trans ((dg_uF_ne e_2035 (fun z => absurd z.2 (by decide))).trans (m_2.1 0 5 _ sM_0 (by decide)))).trans f_se) w_2040_1 m_2040 (by decide) (by decide) f_y_2042
            replace nx_2040 := nx_2040 (fun q9 => absurd ((TKM.zero (TKM.keep (TKM.keep (TKM.keep TK m_2 (by decide) (by decide) (by decide) (by decide) (by decide) (by decide) (by decide) (by decide)) (dg_sm.uF (WF := [(0, 43)]) (WA := []) dg_sm.rf e_2035 sM_0 (by decide)) (by decide) (by decide) (by decide) (by decide) (by decide) (by decide) (by decide) (by decide)) m_2036 (by decide) (by decide) (by decide) (by decide) (by decide) (by decide) (by decide) (by decide)) (((m_2036.1 0 3 _ sM_0 (by decide)).trans ((dg_uF_ne e_2035 (fun z => absurd z.2 (by decide))).trans (m_2.1 0 3 _ sM_0 (by decide)))).trans f_sg) (((m_2036.1 0 4 _ sM_0 (by decide)).trans ((dg_uF_ne e_2035 (fun z => absurd z.2 (by decide))).trans (m_2.1 0 4 _ sM_0 (by decide)))).trans f_sa)).mpr q9) (by omega))
            refine lv_iconst (v := 0) hx hb dX12_operand_108 (by decide +kernel) ?_
            have hz_2044 : (0 : Int32).toInt = 0 := by decide +kernel
            have hz_2045 : (0 : Int32).toInt = 0 := by decide +kernel
            have hz_2046 : (0 : Int32).toInt = 0 := by decide +kernel
            have hz_2047 : (0 : Int32).toInt = 0 := by decide +kernel
            have hz_2048 : (0 : Int32).toInt = 0 := by decide +kernel
            have hz_2049 : (0 : Int32).toInt = 0 := by decide +kernel
            refine W.widen (k := 0) (n := 0) (Nat.le_of_ble_eq_true rfl) (Nat.le_of_ble_eq_true rfl) ?_
            rw [hQ9]
            exact dg_iret hx hb hr hlocks (by decide +kernel) hP hS ⟨I_2040, M_2040, (by decide +kernel), ⟨y_2041, y_2042, y_2043, y_3, cd, dp, y_2038, f_y_2041, f_y_2042, f_y_2043, (((m_2040.1 0 8 _ sM_0 (by decide)).trans ((m_2036.1 0 8 _ sM_0 (by decide)).trans (dg_uF_ne e_2035 (fun z => absurd z.2 (by decide))))).trans f_y_3), (((m_2040.1 0 34 _ sM_0 (by decide)).trans ((m_2036.1 0 34 _ sM_0 (by decide)).trans ((dg_uF_ne e_2035 (fun z => absurd z.2 (by decide))).trans (m_2.1 0 34 _ sM_0 (by decide))))).trans f_cd), (((m_2040.1 0 42 _ sM_0 (by decide)).trans ((m_2036.1 0 42 _ sM_0 (by decide)).trans ((dg_uF_ne e_2035 (fun z => absurd z.2 (by decide))).trans (m_2.1 0 42 _ sM_0 (by decide))))).trans f_dp), ((m_2040.1 0 45 _ sM_0 (by decide)).trans f_y_2038), (by omega)⟩, (fun k9 hk9 hk0 => ⟨fun h9 => absurd h9 (by decide +kernel), fun _ => (P0M.keep P0_2036 m_2040 (by decide) (by decide) (by decide) (by decide) (by decide) (by decide) (by decide) (by decide) (by decide) (by decide) (by decide) (by decide) (by decide) (by decide) (by decide))⟩), (OPK.ok f_sa (((m_2040.1 0 8 _ sM_0 (by decide)).trans ((m_2036.1 0 8 _ sM_0 (by decide)).trans (dg_uF_ne e_2035 (fun z => absurd z.2 (by decide))))).trans f_y_3) f_y_2042 (by omega) hM0 (by have h9 := (TFM.keep TF_2036 m_2040 (by decide) (by decide) (by decide) (by decide) (by decide) (by decide) (by decide) (by decide)); rw [(hft.out (by omega)).2] at h9; exact h9) (m_st_f.trans ((m_opd_not (hft.out (by omega)).1 (hft.out (by omega)).2 qw_2030_1).trans (if_neg (by have h9 := dk_clN on; omega)))) (by omega) (by decide +kernel)), TK_2040, (ZWM.keep (ZWM.keep (ZWM.keep (ZWM.keep ZW m_2 (by decide) (by decide) (by decide) (by decide)) (dg_sm.uF (WF := [(0, 43)]) (WA := []) dg_sm.rf e_2035 sM_0 (by decide)) (by decide) (by decide) (by decide) (by decide)) m_2036 (by decide) (by decide) (by decide) (by decide)) m_2040 (by decide) (by decide) (by decide) (by decide)), trivial⟩ dX12_operand_109
          · have jc_2033 := dk_eqc (k := 7) (by decide +kernel) c_2033
            refine lv_aload_n hx hb dX12_operand_70 rfl (lv_at hl 2 rfl) ?_
            refine lv_iconst (v := 5) hx hb dX12_operand_71 (by decide +kernel) ?_
            refine lv_aload_n hx hb dX12_operand_72 rfl (lv_at hl 2 rfl) ?_
            refine dg_get (C := RX12) (T := TX12) (N := 77) hx hb hts (fun w h => bw_mem (wU_X12 w h)) hown K hP sM_0 rfl 4 (by decide) (hts _ (bw_mem wB_291)) (fun _ h9 => h9) (v := .int sa) ((m_2.1 0 4 _ sM_0 (by decide)).trans f_sa) dX12_operand_73 ?_
            have hz_2050 : (5 : Int32).toInt = 5 := by decide +kernel
            refine dg_callv hS hA1 hA (va_runV (As := [.int 5, .int sa]) (rest := []) F (c_m_blame l g D o S_2 5 (by decide +kernel) sa y_3 f_y_3 (by omega) I_2 H.size) (cwV 2 hts (bw_V wB_306 wB_307 wB_308 wB_297 wB_305) rfl rfl rfl (by decide +kernel) ⟨Nat.le_of_ble_eq_true rfl, Nat.le_of_ble_eq_true rfl⟩) (dg_preV sM_0 rfl K ST hP hS hA1 hA) rfl rfl hl.1 rfl (lv_room (Nat.le_of_ble_eq_true rfl)) dX12_operand_76 ⟨Nat.le_of_ble_eq_true rfl, Nat.le_of_ble_eq_true rfl⟩) (fun S_2051 hw_2051 H locs hP hS => ?_)
            obtain ⟨I_2051, m_2051, w_2051_0, -⟩ := hw_2051
            have M_2051 := dg_sm.tr M_2 m_2051 (by decide) (by decide)
            have hz_2052 : (5 : Int32).toInt = 5 := by decide +kernel
            obtain ⟨y_2053, f_y_2053, w_2051_0⟩ := w_2051_0
            have w_2051_0 : ((y_3).toInt ≠ 0 → (y_2053).toInt = (y_3).toInt) ∧ ((y_3).toInt = 0 → (y_2053).toInt = ((5 : Int32)).toInt) := w_2051_0
            obtain ⟨w_2051_0_0, w_2051_0_1⟩ := w_2051_0
            clear w_2051_0_0
            have w_2051_0_1r := w_2051_0_1 (by omega)
            clear w_2051_0_1
            have b_y_2053 : 0 ≤ (y_2053).toInt ∧ (y_2053).toInt ≤ 6 := dg_I.intb (lo := 0) (hi := 6) I_2051 sM_0 (by decide +kernel) f_y_2053
            have hbl_y_2053 : 1 ≤ (y_2053).toInt := by omega
            refine lv_aload_n hx hb dX12_operand_79 rfl (lv_at hl 2 rfl) ?_
            refine dg_get (C := RX12) (T := TX12) (N := 77) hx hb hts (fun w h => bw_mem (wU_X12 w h)) hown K hP sM_0 rfl 8 (by decide) (hts _ (bw_mem wB_303)) (fun _ h9 => h9) (v := .int y_2053) f_y_2053 dX12_operand_80 ?_
            refine lv_if_le (tgt := 88) hx hb dX12_operand_83 (by decide) (fun c => absurd c (fun z => absurd (dk_lec (k := 0) (by decide +kernel) z) (by omega))) (fun _ => ?_)
            refine lv_iconst (v := 1) hx hb dX12_operand_86 (by decide +kernel) ?_
            have hz_2054 : (1 : Int32).toInt = 1 := by decide +kernel
            have hz_2055 : (1 : Int32).toInt = 1 := by decide +kernel
            have hz_2056 : (1 : Int32).toInt = 1 := by decide +kernel
            have hz_2057 : (1 : Int32).toInt = 1 := by decide +kernel
            have hz_2058 : (1 : Int32).toInt = 1 := by decide +kernel
            have hz_2059 : (1 : Int32).toInt = 1 := by decide +kernel
            refine W.widen (k := 0) (n := 0) (Nat.le_of_ble_eq_true rfl) (Nat.le_of_ble_eq_true rfl) ?_
            rw [hQ9]
            exact dg_iret hx hb hr hlocks (by decide +kernel) hP hS ⟨I_2051, M_2051, (by decide +kernel), ⟨sg, sa, se, y_2053, cd, dp, om, (((m_2051.1 0 3 _ sM_0 (by decide)).trans (m_2.1 0 3 _ sM_0 (by decide))).trans f_sg), (((m_2051.1 0 4 _ sM_0 (by decide)).trans (m_2.1 0 4 _ sM_0 (by decide))).trans f_sa), (((m_2051.1 0 5 _ sM_0 (by decide)).trans (m_2.1 0 5 _ sM_0 (by decide))).trans f_se), f_y_2053, (((m_2051.1 0 34 _ sM_0 (by decide)).trans (m_2.1 0 34 _ sM_0 (by decide))).trans f_cd), (((m_2051.1 0 42 _ sM_0 (by decide)).trans (m_2.1 0 42 _ sM_0 (by decide))).trans f_dp), (((m_2051.1 0 45 _ sM_0 (by decide)).trans (m_2.1 0 45 _ sM_0 (by decide))).trans f_om), (by omega)⟩, (fun k9 hk9 hk0 => by have q9 := (f_y_2053).symm.trans hk9; cases q9; omega), (OPK.no f_sa f_fk f_y_2053 (by omega) (fun h0 => by rw [hM0]; exact m_st_f.trans ((m_opd_not (hft.out (by omega)).1 (hft.out (by omega)).2 qw_2030_1).trans (if_pos (by have h9 := dk_clN on; omega))))), (TKM.keep (TKM.keep TK m_2 (by decide) (by decide) (by decide) (by decide) (by decide) (by decide) (by decide) (by decide)) m_2051 (by decide) (by decide) (by decide) (by decide) (by decide) (by decide) (by decide) (by decide)), (ZWM.keep (ZWM.keep ZW m_2 (by decide) (by decide) (by decide) (by decide)) m_2051 (by decide) (by decide) (by decide) (by decide)), trivial⟩ dX12_operand_87
    refine lv_if_eq (tgt := 45) hx hb dX12_operand_29 (by decide) (fun c_2060 => ?_) (fun c_2060 => ?_)
    · have jc_2060 := dk_eqc (k := 0) (by decide +kernel) c_2060
      clear w_9_1
      refine lv_iconst (v := 0) hx hb dX12_operand_45 (by decide +kernel) ?_
      have hz_2061 : (0 : Int32).toInt = 0 := by decide +kernel
      have hz_2062 : (0 : Int32).toInt = 0 := by decide +kernel
      have hz_2063 : (0 : Int32).toInt = 0 := by decide +kernel
      exact J_347 0 (by decide +kernel) (by omega) (m_hid.mk (fun q8 q9 => by omega)) _ _ hP hS _ (lv_sub hl [0, 1] rfl)
    · have jc_2060 := dk_neqc (k := 0) (by decide +kernel) c_2060
      have jbc_2060 : 1 ≤ (x_8).toInt := by omega
      clear jc_2060
      have w_9_1_r := w_9_1.mp (by omega)
      clear w_9_1
      refine lv_aload_n hx hb dX12_operand_32 rfl (lv_at hl 1 rfl) ?_
      refine dg_get (C := RX12) (T := TX12) (N := 77) hx hb hts (fun w h => bw_mem (wU_X12 w h)) hown K hP sM_0 rfl 39 (by decide) (hts _ (bw_mem wB_418)) (fun _ h9 => h9) (v := .ref (o + 24)) (show S_2.1 0 39 = .ref (o + 24) from dg_I.rel (d := 24) I_2 sM_0 (by decide +kernel)) dX12_operand_33 ?_
      refine lv_iload_n hx hb dX12_operand_36 rfl (lv_at hl 0 rfl) ?_
      have hin_2064 : vp_in x_5 20 := (dk_inv (by omega) (by omega))
      refine dg_zald hx hb K hP sM_24 hin_2064 dX12_operand_37 (fun x_2065 ex_2065 => ?_)
      have b_x_2065 := dk_all_at (dg_I.row (lo := 0) (hi := 1) I_2 sM_24 (by decide +kernel)) hin_2064 ex_2065
      have hb_x_2065 : (S_2.2.1 24 (x_5 : Int32).toNatClampNeg).toInt = (x_2065).toInt := by rw [ex_2065]
      refine lv_if_eq (tgt := 45) hx hb dX12_operand_38 (by decide) (fun c_2066 => ?_) (fun c_2066 => ?_)
      · have jc_2066 := dk_eqc (k := 0) (by decide +kernel) c_2066
        refine lv_iconst (v := 0) hx hb dX12_operand_45 (by decide +kernel) ?_
        have hz_2067 : (0 : Int32).toInt = 0 := by decide +kernel
        have hz_2068 : (0 : Int32).toInt = 0 := by decide +kernel
        have hz_2069 : (0 : Int32).toInt = 0 := by decide +kernel
        exact J_347 0 (by decide +kernel) (by omega) (m_hid.mk (fun q8 q9 => by omega)) _ _ hP hS _ (lv_sub hl [0, 1] rfl)
      · have jc_2066 := dk_neqc (k := 0) (by decide +kernel) c_2066
        have jbc_2066 : 1 ≤ (x_2065).toInt := by omega
        clear jc_2066
        refine lv_iconst (v := 1) hx hb dX12_operand_41 (by decide +kernel) ?_
        refine lv_goto (tgt := 46) hx hb dX12_operand_42 (by decide) ?_
        have hz_2070 : (1 : Int32).toInt = 1 := by decide +kernel
        have hz_2071 : (1 : Int32).toInt = 1 := by decide +kernel
        have hz_2072 : (1 : Int32).toInt = 1 := by decide +kernel
        exact J_347 1 (by decide +kernel) (by omega) (m_hid.mk (fun q8 q9 => by omega)) _ _ hP hS _ (lv_sub hl [0, 1] rfl)
  · have jc_4 := dk_nlec (k := 0) (by decide +kernel) c_4
    refine lv_iconst (v := 1) hx hb dX12_operand_11 (by decide +kernel) ?_
    have hz_2073 : (1 : Int32).toInt = 1 := by decide +kernel
    have hz_2074 : (1 : Int32).toInt = 1 := by decide +kernel
    have hz_2075 : (1 : Int32).toInt = 1 := by decide +kernel
    have hz_2076 : (1 : Int32).toInt = 1 := by decide +kernel
    have hz_2077 : (1 : Int32).toInt = 1 := by decide +kernel
    have hz_2078 : (1 : Int32).toInt = 1 := by decide +kernel
    refine W.widen (k := 0) (n := 0) (Nat.le_of_ble_eq_true rfl) (Nat.le_of_ble_eq_true rfl) ?_
    rw [hQ9]
    exact dg_iret hx hb hr hlocks (by decide +kernel) hP hS ⟨I_2, M_2, (by decide +kernel), ⟨sg, sa, se, y_3, cd, dp, om, ((m_2.1 0 3 _ sM_0 (by decide)).trans f_sg), ((m_2.1 0 4 _ sM_0 (by decide)).trans f_sa), ((m_2.1 0 5 _ sM_0 (by decide)).trans f_se), f_y_3, ((m_2.1 0 34 _ sM_0 (by decide)).trans f_cd), ((m_2.1 0 42 _ sM_0 (by decide)).trans f_dp), ((m_2.1 0 45 _ sM_0 (by decide)).trans f_om), (by omega)⟩, (fun k9 hk9 hk0 => by have q9 := (f_y_3).symm.trans hk9; cases q9; omega), (OPK.no f_sa f_fk f_y_3 (by omega) (fun h0 => MS5 P0 f_dp f_on f_om (by omega))), (TKM.keep TK m_2 (by decide) (by decide) (by decide) (by decide) (by decide) (by decide) (by decide) (by decide)), (ZWM.keep ZW m_2 (by decide) (by decide) (by decide) (by decide)), trivial⟩ dX12_operand_12
