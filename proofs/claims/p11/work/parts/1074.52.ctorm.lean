/-! 52.ctorm.lean.txt -/
theorem dX12_init_0 : decode cX12_init 0 = .ok (.aload_n 0, 1) := dk_o42 (by decide +kernel)
theorem dX12_init_1 : decode cX12_init 1 = .ok (.invokespecial 1, 3) := dk_o183 (by decide +kernel)
theorem dX12_init_4 : decode cX12_init 4 = .ok (.aload_n 0, 1) := dk_o42 (by decide +kernel)
theorem dX12_init_5 : decode cX12_init 5 = .ok (.sipush 1800, 3) := dk_o17 (by decide +kernel)
theorem dX12_init_8 : decode cX12_init 8 = .ok (.newarray .int, 2) := by decide +kernel
theorem dX12_init_10 : decode cX12_init 10 = .ok (.putfield 7, 3) := dk_o181 (by decide +kernel)
theorem dX12_init_13 : decode cX12_init 13 = .ok (.aload_n 0, 1) := dk_o42 (by decide +kernel)
theorem dX12_init_14 : decode cX12_init 14 = .ok (.iconst 0, 1) := dk_o3 (by decide +kernel)
theorem dX12_init_15 : decode cX12_init 15 = .ok (.putfield 13, 3) := dk_o181 (by decide +kernel)
theorem dX12_init_18 : decode cX12_init 18 = .ok (.aload_n 0, 1) := dk_o42 (by decide +kernel)
theorem dX12_init_19 : decode cX12_init 19 = .ok (.iconst 0, 1) := dk_o3 (by decide +kernel)
theorem dX12_init_20 : decode cX12_init 20 = .ok (.putfield 17, 3) := dk_o181 (by decide +kernel)
theorem dX12_init_23 : decode cX12_init 23 = .ok (.aload_n 0, 1) := dk_o42 (by decide +kernel)
theorem dX12_init_24 : decode cX12_init 24 = .ok (.iconst 0, 1) := dk_o3 (by decide +kernel)
theorem dX12_init_25 : decode cX12_init 25 = .ok (.putfield 20, 3) := dk_o181 (by decide +kernel)
theorem dX12_init_28 : decode cX12_init 28 = .ok (.aload_n 0, 1) := dk_o42 (by decide +kernel)
theorem dX12_init_29 : decode cX12_init 29 = .ok (.iconst 0, 1) := dk_o3 (by decide +kernel)
theorem dX12_init_30 : decode cX12_init 30 = .ok (.putfield 23, 3) := dk_o181 (by decide +kernel)
theorem dX12_init_33 : decode cX12_init 33 = .ok (.aload_n 0, 1) := dk_o42 (by decide +kernel)
theorem dX12_init_34 : decode cX12_init 34 = .ok (.iconst 0, 1) := dk_o3 (by decide +kernel)
theorem dX12_init_35 : decode cX12_init 35 = .ok (.putfield 26, 3) := dk_o181 (by decide +kernel)
theorem dX12_init_38 : decode cX12_init 38 = .ok (.aload_n 0, 1) := dk_o42 (by decide +kernel)
theorem dX12_init_39 : decode cX12_init 39 = .ok (.iconst 0, 1) := dk_o3 (by decide +kernel)
theorem dX12_init_40 : decode cX12_init 40 = .ok (.putfield 29, 3) := dk_o181 (by decide +kernel)
theorem dX12_init_43 : decode cX12_init 43 = .ok (.aload_n 0, 1) := dk_o42 (by decide +kernel)
theorem dX12_init_44 : decode cX12_init 44 = .ok (.lconst 0, 1) := dk_o9 (by decide +kernel)
theorem dX12_init_45 : decode cX12_init 45 = .ok (.putfield 32, 3) := dk_o181 (by decide +kernel)
theorem dX12_init_48 : decode cX12_init 48 = .ok (.aload_n 0, 1) := dk_o42 (by decide +kernel)
theorem dX12_init_49 : decode cX12_init 49 = .ok (.iconst 0, 1) := dk_o3 (by decide +kernel)
theorem dX12_init_50 : decode cX12_init 50 = .ok (.putfield 36, 3) := dk_o181 (by decide +kernel)
theorem dX12_init_53 : decode cX12_init 53 = .ok (.aload_n 0, 1) := dk_o42 (by decide +kernel)
theorem dX12_init_54 : decode cX12_init 54 = .ok (.iconst (-1), 1) := dk_o2 (by decide +kernel)
theorem dX12_init_55 : decode cX12_init 55 = .ok (.putfield 39, 3) := dk_o181 (by decide +kernel)
theorem dX12_init_58 : decode cX12_init 58 = .ok (.aload_n 0, 1) := dk_o42 (by decide +kernel)
theorem dX12_init_59 : decode cX12_init 59 = .ok (.iconst 0, 1) := dk_o3 (by decide +kernel)
theorem dX12_init_60 : decode cX12_init 60 = .ok (.putfield 42, 3) := dk_o181 (by decide +kernel)
theorem dX12_init_63 : decode cX12_init 63 = .ok (.aload_n 0, 1) := dk_o42 (by decide +kernel)
theorem dX12_init_64 : decode cX12_init 64 = .ok (.iconst (-1), 1) := dk_o2 (by decide +kernel)
theorem dX12_init_65 : decode cX12_init 65 = .ok (.putfield 45, 3) := dk_o181 (by decide +kernel)
theorem dX12_init_68 : decode cX12_init 68 = .ok (.aload_n 0, 1) := dk_o42 (by decide +kernel)
theorem dX12_init_69 : decode cX12_init 69 = .ok (.iconst (-1), 1) := dk_o2 (by decide +kernel)
theorem dX12_init_70 : decode cX12_init 70 = .ok (.putfield 48, 3) := dk_o181 (by decide +kernel)
theorem dX12_init_73 : decode cX12_init 73 = .ok (.aload_n 0, 1) := dk_o42 (by decide +kernel)
theorem dX12_init_74 : decode cX12_init 74 = .ok (.iconst 0, 1) := dk_o3 (by decide +kernel)
theorem dX12_init_75 : decode cX12_init 75 = .ok (.putfield 51, 3) := dk_o181 (by decide +kernel)
theorem dX12_init_78 : decode cX12_init 78 = .ok (.aload_n 0, 1) := dk_o42 (by decide +kernel)
theorem dX12_init_79 : decode cX12_init 79 = .ok (.iconst 2, 1) := dk_o5 (by decide +kernel)
theorem dX12_init_80 : decode cX12_init 80 = .ok (.newarray .int, 2) := by decide +kernel
theorem dX12_init_82 : decode cX12_init 82 = .ok (.putfield 54, 3) := dk_o181 (by decide +kernel)
theorem dX12_init_85 : decode cX12_init 85 = .ok (.aload_n 0, 1) := dk_o42 (by decide +kernel)
theorem dX12_init_86 : decode cX12_init 86 = .ok (.iconst 2, 1) := dk_o5 (by decide +kernel)
theorem dX12_init_87 : decode cX12_init 87 = .ok (.newarray .int, 2) := by decide +kernel
theorem dX12_init_89 : decode cX12_init 89 = .ok (.putfield 57, 3) := dk_o181 (by decide +kernel)
theorem dX12_init_92 : decode cX12_init 92 = .ok (.aload_n 0, 1) := dk_o42 (by decide +kernel)
theorem dX12_init_93 : decode cX12_init 93 = .ok (.iconst 2, 1) := dk_o5 (by decide +kernel)
theorem dX12_init_94 : decode cX12_init 94 = .ok (.newarray .int, 2) := by decide +kernel
theorem dX12_init_96 : decode cX12_init 96 = .ok (.putfield 60, 3) := dk_o181 (by decide +kernel)
theorem dX12_init_99 : decode cX12_init 99 = .ok (.aload_n 0, 1) := dk_o42 (by decide +kernel)
theorem dX12_init_100 : decode cX12_init 100 = .ok (.iconst 2, 1) := dk_o5 (by decide +kernel)
theorem dX12_init_101 : decode cX12_init 101 = .ok (.newarray .int, 2) := by decide +kernel
theorem dX12_init_103 : decode cX12_init 103 = .ok (.putfield 63, 3) := dk_o181 (by decide +kernel)
theorem dX12_init_106 : decode cX12_init 106 = .ok (.aload_n 0, 1) := dk_o42 (by decide +kernel)
theorem dX12_init_107 : decode cX12_init 107 = .ok (.iconst 2, 1) := dk_o5 (by decide +kernel)
theorem dX12_init_108 : decode cX12_init 108 = .ok (.newarray .int, 2) := by decide +kernel
theorem dX12_init_110 : decode cX12_init 110 = .ok (.putfield 66, 3) := dk_o181 (by decide +kernel)
theorem dX12_init_113 : decode cX12_init 113 = .ok (.aload_n 0, 1) := dk_o42 (by decide +kernel)
theorem dX12_init_114 : decode cX12_init 114 = .ok (.sipush 128, 3) := dk_o17 (by decide +kernel)
theorem dX12_init_117 : decode cX12_init 117 = .ok (.newarray .int, 2) := by decide +kernel
theorem dX12_init_119 : decode cX12_init 119 = .ok (.putfield 69, 3) := dk_o181 (by decide +kernel)
theorem dX12_init_122 : decode cX12_init 122 = .ok (.aload_n 0, 1) := dk_o42 (by decide +kernel)
theorem dX12_init_123 : decode cX12_init 123 = .ok (.iconst 2, 1) := dk_o5 (by decide +kernel)
theorem dX12_init_124 : decode cX12_init 124 = .ok (.newarray .int, 2) := by decide +kernel
theorem dX12_init_126 : decode cX12_init 126 = .ok (.putfield 72, 3) := dk_o181 (by decide +kernel)
theorem dX12_init_129 : decode cX12_init 129 = .ok (.aload_n 0, 1) := dk_o42 (by decide +kernel)
theorem dX12_init_130 : decode cX12_init 130 = .ok (.iconst 2, 1) := dk_o5 (by decide +kernel)
theorem dX12_init_131 : decode cX12_init 131 = .ok (.newarray .int, 2) := by decide +kernel
theorem dX12_init_133 : decode cX12_init 133 = .ok (.putfield 75, 3) := dk_o181 (by decide +kernel)
theorem dX12_init_136 : decode cX12_init 136 = .ok (.aload_n 0, 1) := dk_o42 (by decide +kernel)
theorem dX12_init_137 : decode cX12_init 137 = .ok (.bipush 32, 2) := dk_o16 (by decide +kernel)
theorem dX12_init_139 : decode cX12_init 139 = .ok (.newarray .int, 2) := by decide +kernel
theorem dX12_init_141 : decode cX12_init 141 = .ok (.putfield 78, 3) := dk_o181 (by decide +kernel)
theorem dX12_init_144 : decode cX12_init 144 = .ok (.aload_n 0, 1) := dk_o42 (by decide +kernel)
theorem dX12_init_145 : decode cX12_init 145 = .ok (.bipush 32, 2) := dk_o16 (by decide +kernel)
theorem dX12_init_147 : decode cX12_init 147 = .ok (.newarray .int, 2) := by decide +kernel
theorem dX12_init_149 : decode cX12_init 149 = .ok (.putfield 81, 3) := dk_o181 (by decide +kernel)
theorem dX12_init_152 : decode cX12_init 152 = .ok (.aload_n 0, 1) := dk_o42 (by decide +kernel)
theorem dX12_init_153 : decode cX12_init 153 = .ok (.iconst 2, 1) := dk_o5 (by decide +kernel)
theorem dX12_init_154 : decode cX12_init 154 = .ok (.newarray .int, 2) := by decide +kernel
theorem dX12_init_156 : decode cX12_init 156 = .ok (.putfield 84, 3) := dk_o181 (by decide +kernel)
theorem dX12_init_159 : decode cX12_init 159 = .ok (.aload_n 0, 1) := dk_o42 (by decide +kernel)
theorem dX12_init_160 : decode cX12_init 160 = .ok (.bipush 10, 2) := dk_o16 (by decide +kernel)
theorem dX12_init_162 : decode cX12_init 162 = .ok (.newarray .int, 2) := by decide +kernel
theorem dX12_init_164 : decode cX12_init 164 = .ok (.putfield 87, 3) := dk_o181 (by decide +kernel)
theorem dX12_init_167 : decode cX12_init 167 = .ok (.aload_n 0, 1) := dk_o42 (by decide +kernel)
theorem dX12_init_168 : decode cX12_init 168 = .ok (.bipush 10, 2) := dk_o16 (by decide +kernel)
theorem dX12_init_170 : decode cX12_init 170 = .ok (.newarray .int, 2) := by decide +kernel
theorem dX12_init_172 : decode cX12_init 172 = .ok (.putfield 90, 3) := dk_o181 (by decide +kernel)
theorem dX12_init_175 : decode cX12_init 175 = .ok (.aload_n 0, 1) := dk_o42 (by decide +kernel)
theorem dX12_init_176 : decode cX12_init 176 = .ok (.bipush 10, 2) := dk_o16 (by decide +kernel)
theorem dX12_init_178 : decode cX12_init 178 = .ok (.newarray .int, 2) := by decide +kernel
theorem dX12_init_180 : decode cX12_init 180 = .ok (.putfield 93, 3) := dk_o181 (by decide +kernel)
theorem dX12_init_183 : decode cX12_init 183 = .ok (.aload_n 0, 1) := dk_o42 (by decide +kernel)
theorem dX12_init_184 : decode cX12_init 184 = .ok (.bipush 6, 2) := dk_o16 (by decide +kernel)
theorem dX12_init_186 : decode cX12_init 186 = .ok (.newarray .int, 2) := by decide +kernel
theorem dX12_init_188 : decode cX12_init 188 = .ok (.putfield 96, 3) := dk_o181 (by decide +kernel)
theorem dX12_init_191 : decode cX12_init 191 = .ok (.aload_n 0, 1) := dk_o42 (by decide +kernel)
theorem dX12_init_192 : decode cX12_init 192 = .ok (.bipush 6, 2) := dk_o16 (by decide +kernel)
theorem dX12_init_194 : decode cX12_init 194 = .ok (.newarray .int, 2) := by decide +kernel
theorem dX12_init_196 : decode cX12_init 196 = .ok (.putfield 99, 3) := dk_o181 (by decide +kernel)
theorem dX12_init_199 : decode cX12_init 199 = .ok (.aload_n 0, 1) := dk_o42 (by decide +kernel)
theorem dX12_init_200 : decode cX12_init 200 = .ok (.sipush 3200, 3) := dk_o17 (by decide +kernel)
theorem dX12_init_203 : decode cX12_init 203 = .ok (.newarray .int, 2) := by decide +kernel
theorem dX12_init_205 : decode cX12_init 205 = .ok (.putfield 102, 3) := dk_o181 (by decide +kernel)
theorem dX12_init_208 : decode cX12_init 208 = .ok (.aload_n 0, 1) := dk_o42 (by decide +kernel)
theorem dX12_init_209 : decode cX12_init 209 = .ok (.sipush 3200, 3) := dk_o17 (by decide +kernel)
theorem dX12_init_212 : decode cX12_init 212 = .ok (.newarray .int, 2) := by decide +kernel
theorem dX12_init_214 : decode cX12_init 214 = .ok (.putfield 105, 3) := dk_o181 (by decide +kernel)
theorem dX12_init_217 : decode cX12_init 217 = .ok (.aload_n 0, 1) := dk_o42 (by decide +kernel)
theorem dX12_init_218 : decode cX12_init 218 = .ok (.bipush 12, 2) := dk_o16 (by decide +kernel)
theorem dX12_init_220 : decode cX12_init 220 = .ok (.newarray .long, 2) := by decide +kernel
theorem dX12_init_222 : decode cX12_init 222 = .ok (.putfield 108, 3) := dk_o181 (by decide +kernel)
theorem dX12_init_225 : decode cX12_init 225 = .ok (.aload_n 0, 1) := dk_o42 (by decide +kernel)
theorem dX12_init_226 : decode cX12_init 226 = .ok (.bipush 10, 2) := dk_o16 (by decide +kernel)
theorem dX12_init_228 : decode cX12_init 228 = .ok (.newarray .long, 2) := by decide +kernel
theorem dX12_init_230 : decode cX12_init 230 = .ok (.putfield 112, 3) := dk_o181 (by decide +kernel)
theorem dX12_init_233 : decode cX12_init 233 = .ok (.aload_n 0, 1) := dk_o42 (by decide +kernel)
theorem dX12_init_234 : decode cX12_init 234 = .ok (.iconst 0, 1) := dk_o3 (by decide +kernel)
theorem dX12_init_235 : decode cX12_init 235 = .ok (.putfield 115, 3) := dk_o181 (by decide +kernel)
theorem dX12_init_238 : decode cX12_init 238 = .ok (.aload_n 0, 1) := dk_o42 (by decide +kernel)
theorem dX12_init_239 : decode cX12_init 239 = .ok (.iconst 1, 1) := dk_o4 (by decide +kernel)
theorem dX12_init_240 : decode cX12_init 240 = .ok (.putfield 118, 3) := dk_o181 (by decide +kernel)
theorem dX12_init_243 : decode cX12_init 243 = .ok (.aload_n 0, 1) := dk_o42 (by decide +kernel)
theorem dX12_init_244 : decode cX12_init 244 = .ok (.iconst 0, 1) := dk_o3 (by decide +kernel)
theorem dX12_init_245 : decode cX12_init 245 = .ok (.putfield 121, 3) := dk_o181 (by decide +kernel)
theorem dX12_init_248 : decode cX12_init 248 = .ok (.aload_n 0, 1) := dk_o42 (by decide +kernel)
theorem dX12_init_249 : decode cX12_init 249 = .ok (.bipush 20, 2) := dk_o16 (by decide +kernel)
theorem dX12_init_251 : decode cX12_init 251 = .ok (.newarray .int, 2) := by decide +kernel
theorem dX12_init_253 : decode cX12_init 253 = .ok (.putfield 124, 3) := dk_o181 (by decide +kernel)
theorem dX12_init_256 : decode cX12_init 256 = .ok (.aload_n 0, 1) := dk_o42 (by decide +kernel)
theorem dX12_init_257 : decode cX12_init 257 = .ok (.bipush 20, 2) := dk_o16 (by decide +kernel)
theorem dX12_init_259 : decode cX12_init 259 = .ok (.newarray .int, 2) := by decide +kernel
theorem dX12_init_261 : decode cX12_init 261 = .ok (.putfield 127, 3) := dk_o181 (by decide +kernel)
theorem dX12_init_264 : decode cX12_init 264 = .ok (.aload_n 0, 1) := dk_o42 (by decide +kernel)
theorem dX12_init_265 : decode cX12_init 265 = .ok (.bipush 20, 2) := dk_o16 (by decide +kernel)
theorem dX12_init_267 : decode cX12_init 267 = .ok (.newarray .boolean, 2) := by decide +kernel
theorem dX12_init_269 : decode cX12_init 269 = .ok (.putfield 130, 3) := dk_o181 (by decide +kernel)
theorem dX12_init_272 : decode cX12_init 272 = .ok (.aload_n 0, 1) := dk_o42 (by decide +kernel)
theorem dX12_init_273 : decode cX12_init 273 = .ok (.bipush 20, 2) := dk_o16 (by decide +kernel)
theorem dX12_init_275 : decode cX12_init 275 = .ok (.newarray .int, 2) := by decide +kernel
theorem dX12_init_277 : decode cX12_init 277 = .ok (.putfield 134, 3) := dk_o181 (by decide +kernel)
theorem dX12_init_280 : decode cX12_init 280 = .ok (.aload_n 0, 1) := dk_o42 (by decide +kernel)
theorem dX12_init_281 : decode cX12_init 281 = .ok (.bipush 20, 2) := dk_o16 (by decide +kernel)
theorem dX12_init_283 : decode cX12_init 283 = .ok (.newarray .int, 2) := by decide +kernel
theorem dX12_init_285 : decode cX12_init 285 = .ok (.putfield 137, 3) := dk_o181 (by decide +kernel)
theorem dX12_init_288 : decode cX12_init 288 = .ok (.aload_n 0, 1) := dk_o42 (by decide +kernel)
theorem dX12_init_289 : decode cX12_init 289 = .ok (.iconst 0, 1) := dk_o3 (by decide +kernel)
theorem dX12_init_290 : decode cX12_init 290 = .ok (.putfield 140, 3) := dk_o181 (by decide +kernel)
theorem dX12_init_293 : decode cX12_init 293 = .ok (.aload_n 0, 1) := dk_o42 (by decide +kernel)
theorem dX12_init_294 : decode cX12_init 294 = .ok (.iconst 0, 1) := dk_o3 (by decide +kernel)
theorem dX12_init_295 : decode cX12_init 295 = .ok (.putfield 143, 3) := dk_o181 (by decide +kernel)
theorem dX12_init_298 : decode cX12_init 298 = .ok (.aload_n 0, 1) := dk_o42 (by decide +kernel)
theorem dX12_init_299 : decode cX12_init 299 = .ok (.sipush 500, 3) := dk_o17 (by decide +kernel)
theorem dX12_init_302 : decode cX12_init 302 = .ok (.newarray .int, 2) := by decide +kernel
theorem dX12_init_304 : decode cX12_init 304 = .ok (.putfield 146, 3) := dk_o181 (by decide +kernel)
theorem dX12_init_307 : decode cX12_init 307 = .ok (.aload_n 0, 1) := dk_o42 (by decide +kernel)
theorem dX12_init_308 : decode cX12_init 308 = .ok (.iconst 0, 1) := dk_o3 (by decide +kernel)
theorem dX12_init_309 : decode cX12_init 309 = .ok (.putfield 149, 3) := dk_o181 (by decide +kernel)
theorem dX12_init_312 : decode cX12_init 312 = .ok (.aload_n 0, 1) := dk_o42 (by decide +kernel)
theorem dX12_init_313 : decode cX12_init 313 = .ok (.iconst 0, 1) := dk_o3 (by decide +kernel)
theorem dX12_init_314 : decode cX12_init 314 = .ok (.putfield 152, 3) := dk_o181 (by decide +kernel)
theorem dX12_init_317 : decode cX12_init 317 = .ok (.aload_n 0, 1) := dk_o42 (by decide +kernel)
theorem dX12_init_318 : decode cX12_init 318 = .ok (.iconst 0, 1) := dk_o3 (by decide +kernel)
theorem dX12_init_319 : decode cX12_init 319 = .ok (.putfield 156, 3) := dk_o181 (by decide +kernel)
theorem dX12_init_322 : decode cX12_init 322 = .ok (.aload_n 0, 1) := dk_o42 (by decide +kernel)
theorem dX12_init_323 : decode cX12_init 323 = .ok (.bipush 6, 2) := dk_o16 (by decide +kernel)
theorem dX12_init_325 : decode cX12_init 325 = .ok (.newarray .int, 2) := by decide +kernel
theorem dX12_init_327 : decode cX12_init 327 = .ok (.putfield 159, 3) := dk_o181 (by decide +kernel)
theorem dX12_init_330 : decode cX12_init 330 = .ok (.aload_n 0, 1) := dk_o42 (by decide +kernel)
theorem dX12_init_331 : decode cX12_init 331 = .ok (.bipush 22, 2) := dk_o16 (by decide +kernel)
theorem dX12_init_333 : decode cX12_init 333 = .ok (.newarray .int, 2) := by decide +kernel
theorem dX12_init_335 : decode cX12_init 335 = .ok (.putfield 162, 3) := dk_o181 (by decide +kernel)
theorem dX12_init_338 : decode cX12_init 338 = .ok (.aload_n 0, 1) := dk_o42 (by decide +kernel)
theorem dX12_init_339 : decode cX12_init 339 = .ok (.bipush 22, 2) := dk_o16 (by decide +kernel)
theorem dX12_init_341 : decode cX12_init 341 = .ok (.newarray .int, 2) := by decide +kernel
theorem dX12_init_343 : decode cX12_init 343 = .ok (.putfield 165, 3) := dk_o181 (by decide +kernel)
theorem dX12_init_346 : decode cX12_init 346 = .ok (.aload_n 0, 1) := dk_o42 (by decide +kernel)
theorem dX12_init_347 : decode cX12_init 347 = .ok (.sipush 1408, 3) := dk_o17 (by decide +kernel)
theorem dX12_init_350 : decode cX12_init 350 = .ok (.newarray .int, 2) := by decide +kernel
theorem dX12_init_352 : decode cX12_init 352 = .ok (.putfield 168, 3) := dk_o181 (by decide +kernel)
theorem dX12_init_355 : decode cX12_init 355 = .ok (.aload_n 0, 1) := dk_o42 (by decide +kernel)
theorem dX12_init_356 : decode cX12_init 356 = .ok (.sipush 1408, 3) := dk_o17 (by decide +kernel)
theorem dX12_init_359 : decode cX12_init 359 = .ok (.newarray .int, 2) := by decide +kernel
theorem dX12_init_361 : decode cX12_init 361 = .ok (.putfield 171, 3) := dk_o181 (by decide +kernel)
theorem dX12_init_364 : decode cX12_init 364 = .ok (.aload_n 0, 1) := dk_o42 (by decide +kernel)
theorem dX12_init_365 : decode cX12_init 365 = .ok (.bipush 22, 2) := dk_o16 (by decide +kernel)
theorem dX12_init_367 : decode cX12_init 367 = .ok (.newarray .int, 2) := by decide +kernel
theorem dX12_init_369 : decode cX12_init 369 = .ok (.putfield 174, 3) := dk_o181 (by decide +kernel)
theorem dX12_init_372 : decode cX12_init 372 = .ok (.aload_n 0, 1) := dk_o42 (by decide +kernel)
theorem dX12_init_373 : decode cX12_init 373 = .ok (.bipush 22, 2) := dk_o16 (by decide +kernel)
theorem dX12_init_375 : decode cX12_init 375 = .ok (.newarray .int, 2) := by decide +kernel
theorem dX12_init_377 : decode cX12_init 377 = .ok (.putfield 177, 3) := dk_o181 (by decide +kernel)
theorem dX12_init_380 : decode cX12_init 380 = .ok (.aload_n 0, 1) := dk_o42 (by decide +kernel)
theorem dX12_init_381 : decode cX12_init 381 = .ok (.sipush 352, 3) := dk_o17 (by decide +kernel)
theorem dX12_init_384 : decode cX12_init 384 = .ok (.newarray .int, 2) := by decide +kernel
theorem dX12_init_386 : decode cX12_init 386 = .ok (.putfield 180, 3) := dk_o181 (by decide +kernel)
theorem dX12_init_389 : decode cX12_init 389 = .ok (.aload_n 0, 1) := dk_o42 (by decide +kernel)
theorem dX12_init_390 : decode cX12_init 390 = .ok (.sipush 352, 3) := dk_o17 (by decide +kernel)
theorem dX12_init_393 : decode cX12_init 393 = .ok (.newarray .int, 2) := by decide +kernel
theorem dX12_init_395 : decode cX12_init 395 = .ok (.putfield 183, 3) := dk_o181 (by decide +kernel)
theorem dX12_init_398 : decode cX12_init 398 = .ok (.aload_n 0, 1) := dk_o42 (by decide +kernel)
theorem dX12_init_399 : decode cX12_init 399 = .ok (.sipush 220, 3) := dk_o17 (by decide +kernel)
theorem dX12_init_402 : decode cX12_init 402 = .ok (.newarray .int, 2) := by decide +kernel
theorem dX12_init_404 : decode cX12_init 404 = .ok (.putfield 186, 3) := dk_o181 (by decide +kernel)
theorem dX12_init_407 : decode cX12_init 407 = .ok (.aload_n 0, 1) := dk_o42 (by decide +kernel)
theorem dX12_init_408 : decode cX12_init 408 = .ok (.bipush 22, 2) := dk_o16 (by decide +kernel)
theorem dX12_init_410 : decode cX12_init 410 = .ok (.newarray .int, 2) := by decide +kernel
theorem dX12_init_412 : decode cX12_init 412 = .ok (.putfield 189, 3) := dk_o181 (by decide +kernel)
theorem dX12_init_415 : decode cX12_init 415 = .ok (.aload_n 0, 1) := dk_o42 (by decide +kernel)
theorem dX12_init_416 : decode cX12_init 416 = .ok (.sipush 3520, 3) := dk_o17 (by decide +kernel)
theorem dX12_init_419 : decode cX12_init 419 = .ok (.newarray .int, 2) := by decide +kernel
theorem dX12_init_421 : decode cX12_init 421 = .ok (.putfield 192, 3) := dk_o181 (by decide +kernel)
theorem dX12_init_424 : decode cX12_init 424 = .ok (.aload_n 0, 1) := dk_o42 (by decide +kernel)
theorem dX12_init_425 : decode cX12_init 425 = .ok (.iconst 0, 1) := dk_o3 (by decide +kernel)
theorem dX12_init_426 : decode cX12_init 426 = .ok (.putfield 195, 3) := dk_o181 (by decide +kernel)
theorem dX12_init_429 : decode cX12_init 429 = .ok (.aload_n 0, 1) := dk_o42 (by decide +kernel)
theorem dX12_init_430 : decode cX12_init 430 = .ok (.iconst 0, 1) := dk_o3 (by decide +kernel)
theorem dX12_init_431 : decode cX12_init 431 = .ok (.putfield 198, 3) := dk_o181 (by decide +kernel)
theorem dX12_init_434 : decode cX12_init 434 = .ok (.aload_n 0, 1) := dk_o42 (by decide +kernel)
theorem dX12_init_435 : decode cX12_init 435 = .ok (.lconst 1, 1) := dk_o10 (by decide +kernel)
theorem dX12_init_436 : decode cX12_init 436 = .ok (.putfield 201, 3) := dk_o181 (by decide +kernel)
theorem dX12_init_439 : decode cX12_init 439 = .ok (.aload_n 0, 1) := dk_o42 (by decide +kernel)
theorem dX12_init_440 : decode cX12_init 440 = .ok (.iconst 0, 1) := dk_o3 (by decide +kernel)
theorem dX12_init_441 : decode cX12_init 441 = .ok (.putfield 204, 3) := dk_o181 (by decide +kernel)
theorem dX12_init_444 : decode cX12_init 444 = .ok (.aload_n 0, 1) := dk_o42 (by decide +kernel)
theorem dX12_init_445 : decode cX12_init 445 = .ok (.sipush 500, 3) := dk_o17 (by decide +kernel)
theorem dX12_init_448 : decode cX12_init 448 = .ok (.newarray .long, 2) := by decide +kernel
theorem dX12_init_450 : decode cX12_init 450 = .ok (.putfield 207, 3) := dk_o181 (by decide +kernel)
theorem dX12_init_453 : decode cX12_init 453 = .ok (.aload_n 0, 1) := dk_o42 (by decide +kernel)
theorem dX12_init_454 : decode cX12_init 454 = .ok (.bipush 10, 2) := dk_o16 (by decide +kernel)
theorem dX12_init_456 : decode cX12_init 456 = .ok (.newarray .int, 2) := by decide +kernel
theorem dX12_init_458 : decode cX12_init 458 = .ok (.putfield 210, 3) := dk_o181 (by decide +kernel)
theorem dX12_init_461 : decode cX12_init 461 = .ok (.aload_n 0, 1) := dk_o42 (by decide +kernel)
theorem dX12_init_462 : decode cX12_init 462 = .ok (.bipush 64, 2) := dk_o16 (by decide +kernel)
theorem dX12_init_464 : decode cX12_init 464 = .ok (.newarray .int, 2) := by decide +kernel
theorem dX12_init_466 : decode cX12_init 466 = .ok (.putfield 213, 3) := dk_o181 (by decide +kernel)
theorem dX12_init_469 : decode cX12_init 469 = .ok (.aload_n 0, 1) := dk_o42 (by decide +kernel)
theorem dX12_init_470 : decode cX12_init 470 = .ok (.bipush 64, 2) := dk_o16 (by decide +kernel)
theorem dX12_init_472 : decode cX12_init 472 = .ok (.newarray .int, 2) := by decide +kernel
theorem dX12_init_474 : decode cX12_init 474 = .ok (.putfield 216, 3) := dk_o181 (by decide +kernel)
theorem dX12_init_477 : decode cX12_init 477 = .ok (.aload_n 0, 1) := dk_o42 (by decide +kernel)
theorem dX12_init_478 : decode cX12_init 478 = .ok (.bipush 64, 2) := dk_o16 (by decide +kernel)
theorem dX12_init_480 : decode cX12_init 480 = .ok (.newarray .int, 2) := by decide +kernel
theorem dX12_init_482 : decode cX12_init 482 = .ok (.putfield 219, 3) := dk_o181 (by decide +kernel)
theorem dX12_init_485 : decode cX12_init 485 = .ok (.aload_n 0, 1) := dk_o42 (by decide +kernel)
theorem dX12_init_486 : decode cX12_init 486 = .ok (.iconst 0, 1) := dk_o3 (by decide +kernel)
theorem dX12_init_487 : decode cX12_init 487 = .ok (.putfield 222, 3) := dk_o181 (by decide +kernel)
theorem dX12_init_490 : decode cX12_init 490 = .ok (.aload_n 0, 1) := dk_o42 (by decide +kernel)
theorem dX12_init_491 : decode cX12_init 491 = .ok (.bipush 16, 2) := dk_o16 (by decide +kernel)
theorem dX12_init_493 : decode cX12_init 493 = .ok (.newarray .int, 2) := by decide +kernel
theorem dX12_init_495 : decode cX12_init 495 = .ok (.putfield 225, 3) := dk_o181 (by decide +kernel)
theorem dX12_init_498 : decode cX12_init 498 = .ok (.aload_n 0, 1) := dk_o42 (by decide +kernel)
theorem dX12_init_499 : decode cX12_init 499 = .ok (.bipush 16, 2) := dk_o16 (by decide +kernel)
theorem dX12_init_501 : decode cX12_init 501 = .ok (.newarray .int, 2) := by decide +kernel
theorem dX12_init_503 : decode cX12_init 503 = .ok (.putfield 228, 3) := dk_o181 (by decide +kernel)
theorem dX12_init_506 : decode cX12_init 506 = .ok (.aload_n 0, 1) := dk_o42 (by decide +kernel)
theorem dX12_init_507 : decode cX12_init 507 = .ok (.bipush 16, 2) := dk_o16 (by decide +kernel)
theorem dX12_init_509 : decode cX12_init 509 = .ok (.newarray .int, 2) := by decide +kernel
theorem dX12_init_511 : decode cX12_init 511 = .ok (.putfield 231, 3) := dk_o181 (by decide +kernel)
theorem dX12_init_514 : decode cX12_init 514 = .ok (.aload_n 0, 1) := dk_o42 (by decide +kernel)
theorem dX12_init_515 : decode cX12_init 515 = .ok (.ldc 234, 2) := dk_o18 (by decide +kernel)
theorem dX12_init_517 : decode cX12_init 517 = .ok (.newarray .int, 2) := by decide +kernel
theorem dX12_init_519 : decode cX12_init 519 = .ok (.putfield 235, 3) := dk_o181 (by decide +kernel)
theorem dX12_init_522 : decode cX12_init 522 = .ok (.aload_n 0, 1) := dk_o42 (by decide +kernel)
theorem dX12_init_523 : decode cX12_init 523 = .ok (.bipush 11, 2) := dk_o16 (by decide +kernel)
theorem dX12_init_525 : decode cX12_init 525 = .ok (.newarray .int, 2) := by decide +kernel
theorem dX12_init_527 : decode cX12_init 527 = .ok (.putfield 238, 3) := dk_o181 (by decide +kernel)
theorem dX12_init_530 : decode cX12_init 530 = .ok (.aload_n 0, 1) := dk_o42 (by decide +kernel)
theorem dX12_init_531 : decode cX12_init 531 = .ok (.sipush 150, 3) := dk_o17 (by decide +kernel)
theorem dX12_init_534 : decode cX12_init 534 = .ok (.newarray .int, 2) := by decide +kernel
theorem dX12_init_536 : decode cX12_init 536 = .ok (.putfield 241, 3) := dk_o181 (by decide +kernel)
theorem dX12_init_539 : decode cX12_init 539 = .ok (.aload_n 0, 1) := dk_o42 (by decide +kernel)
theorem dX12_init_540 : decode cX12_init 540 = .ok (.iconst 0, 1) := dk_o3 (by decide +kernel)
theorem dX12_init_541 : decode cX12_init 541 = .ok (.putfield 244, 3) := dk_o181 (by decide +kernel)
theorem dX12_init_544 : decode cX12_init 544 = .ok (.iconst 0, 1) := dk_o3 (by decide +kernel)
theorem dX12_init_545 : decode cX12_init 545 = .ok (.istore_n 1, 1) := dk_o60 (by decide +kernel)
theorem dX12_init_546 : decode cX12_init 546 = .ok (.iload_n 1, 1) := dk_o27 (by decide +kernel)
theorem dX12_init_547 : decode cX12_init 547 = .ok (.bipush 6, 2) := dk_o16 (by decide +kernel)
theorem dX12_init_549 : decode cX12_init 549 = .ok (.if_icmp .ge 16, 3) := dk_o162 (by decide +kernel)
theorem dX12_init_552 : decode cX12_init 552 = .ok (.aload_n 0, 1) := dk_o42 (by decide +kernel)
theorem dX12_init_553 : decode cX12_init 553 = .ok (.getfield 96, 3) := dk_o180 (by decide +kernel)
theorem dX12_init_556 : decode cX12_init 556 = .ok (.iload_n 1, 1) := dk_o27 (by decide +kernel)
theorem dX12_init_557 : decode cX12_init 557 = .ok (.iconst (-1), 1) := dk_o2 (by decide +kernel)
theorem dX12_init_558 : decode cX12_init 558 = .ok (.iastore, 1) := dk_o79 (by decide +kernel)
theorem dX12_init_559 : decode cX12_init 559 = .ok (.iinc 1 1, 3) := dk_o132 (by decide +kernel)
theorem dX12_init_562 : decode cX12_init 562 = .ok (.goto (-16), 3) := dk_o167 (by decide +kernel)
theorem dX12_init_565 : decode cX12_init 565 = .ok (.return_, 1) := dk_o177 (by decide +kernel)
theorem wB_1397 : Cond.methodLink RX12 1 objectInit ∈ dgB := List.mem_filter.mpr ⟨tbl_6 _ (List.mem_of_getElem? (i := 161) (by decide +kernel)), by decide +kernel⟩
theorem wB_1398 : Cond.arrayClass .long ∈ dgB := List.mem_filter.mpr ⟨tbl_7 _ (List.mem_of_getElem? (i := 155) (by decide +kernel)), by decide +kernel⟩
theorem wB_1399 : Cond.arrayClass .boolean ∈ dgB := List.mem_filter.mpr ⟨tbl_7 _ (List.mem_of_getElem? (i := 156) (by decide +kernel)), by decide +kernel⟩
set_option maxHeartbeats 8000000 in
set_option maxRecDepth 100000 in
theorem c_n_model (l : Launch) (g : Nat → ClassId) (D : va_G) (o : Nat) (S : dg_S) (h0 : ∀ b, b < 77 → S.1 0 b = defaultValue (tyX12 b)) : Met l yX12_init (bw yX12_init cX12_init 2 none) ({ frames := 1, cells := 50, slots := 59023, locals := 32 } : Room) (dk_Pc g D (dg_w g (shM.take 1) o rfM S) (o + 1) [.ref (o + 0)]) (va_Qv (fun S' => CM o S' ∧ ZBM S' ∧ ZSM S' ∧ ZWM S' ∧ ZDM S' ∧ S'.1 0 1 = .int 0 ∧ GMv y_0 S' ∧ s_M1 S' ∧ True) (dg_B g D shM o rfM) (dg_A o (shM.take 1).length (o + 1))) 50 59023 (dg_A o (shM.take 1).length (o + 1)) := by
  refine dg_met (cc := cX12_init) (maxL := 2) (ret := none) (dk_dq rfl) rfl (Nat.le_of_ble_eq_true rfl) ?_
  intro p e s m args below meth c A hAe harg hx hb hr hml hts hown hlocks hin hP K hS hA1 hA ST hsz ls hl
  have hA1 := dg_Aall (hAe.trans (congrArg (fun n => dg_A o n (o + 1)) (dg_tlen (by first | decide +kernel | omega))))
  rw [← hAe]
  have F : CallFix p m c cX12_init 2 s args (bw yX12_init cX12_init 2 none) RX12 := ⟨hx, hb, hml, hown, hts⟩
  have hl : lv_has ls 2 [(0, .ref (o + 0))] := hl
  have hg_0 : dg_Ag S S 0 := dg_Ag.rf
  have hJ_0 : dg_Jr alM tFM tAM shM o S 1 1 := dg_Jr.nil
  refine lv_aload_n hx hb dX12_init_0 rfl (lv_at hl 0 rfl) ?_
  refine W.objInit hx hb hown (hts _ (bw_mem wB_1397)) (hts _ (bw_mem wB_1323)) (hts _ (bw_mem wB_1324)) rfl (by rw [hml]; exact hl.1) rfl dX12_init_1 (Nat.le_of_ble_eq_true rfl) (Nat.le_of_ble_eq_true rfl) ?_
  refine W.eq (g2 := F0 m 4 ls []) rfl ?_
  refine lv_aload_n hx hb dX12_init_4 rfl (lv_at hl 0 rfl) ?_
  refine lv_sipush (v := 1800) hx hb dX12_init_5 (by decide +kernel) ?_
  refine dg_size hP (dk_dq rfl) (by first | decide +kernel | (have h9 := hk9; omega)) hsz rfl (fun hz => ?_)
  refine dg_newi hx hb (hts _ (bw_mem wB_1325)) K hP hS hz sM_1 (by decide +kernel) (by decide +kernel) (dk_dq rfl) (Nat.le_of_ble_eq_true rfl) (Nat.le_of_ble_eq_true rfl) dX12_init_8 (fun S_1 e_1 H hP hS hz => ?_)
  refine W.widen (k := 1) (n := 1800) (Nat.le_of_ble_eq_true rfl) (Nat.le_of_ble_eq_true rfl) ?_
  have hP : va_P D vwCl (dg_w g (shM.take 2) o rfM S_1) H := hP
  have hg_1 : dg_Ag S S_1 0 := hg_0.tk (dg_Ag.uf e_1 (dk_dq rfl))
  have hJ_1 : dg_Jr alM tFM tAM shM o S_1 1 2 := (hJ_0.Ag (dg_Ag.uf e_1 (Nat.le_refl _)) (Nat.le_refl _)).ext (dg_Jr.one (dg_Jc.row sM_1 rfl (dg_uf_at e_1) (by intro t h; have h2 : tAM[1]? = some (1, 0, 255) := (by decide +kernel); rw [h2] at h; cases h; exact fun _ => (dk_dq rfl))))
  clear hg_0 hJ_0
  refine dg_putF (ci := 12) (v := .ref (o + 1)) (ty := tyX12 0) (C := RX12) (T := TX12) (N := 77) hx hb hts (fun w h => bw_mem (wU_X12 w h)) tyX12 tyX12_ok nmX12 hown K hP hS (hA1 _) (dg_tk sM_0 (dk_dq rfl)) rfl 0 (dk_dq rfl) (hts _ (bw_mem wB_290)) (fun _ h9 => h9) rfl hin rfl (by decide +kernel) rfl rfl dX12_init_10 (fun S_2 e_2 H locs hP hS => ?_)
  have hg_2 : dg_Ag S S_2 0 := hg_1.tk (dg_Ag.uF e_2 (dk_dq rfl))
  have hJ_2 : dg_Jr alM tFM tAM shM o S_2 1 2 := hJ_1.uF e_2 (dk_dq rfl)
  clear hg_1 hJ_1
  refine lv_aload_n hx hb dX12_init_13 rfl (lv_at hl 0 rfl) ?_
  refine lv_iconst (v := 0) hx hb dX12_init_14 (by decide +kernel) ?_
  refine dg_put (ci := 12) (v := .int 0) (ty := tyX12 1) (C := RX12) (T := TX12) (N := 77) hx hb hts (fun w h => bw_mem (wU_X12 w h)) tyX12 tyX12_ok nmX12 hown K hP hS (hA1 _) (dg_tk sM_0 (dk_dq rfl)) rfl 1 (dk_dq rfl) (hts _ (bw_mem wB_1072)) (fun _ h9 => h9) rfl (by decide +kernel) rfl rfl dX12_init_15 (fun S_3 e_3 H locs hP hS => ?_)
  have hg_3 : dg_Ag S S_3 0 := hg_2.tk (dg_Ag.uF e_3 (dk_dq rfl))
  have hJ_3 : dg_Jr alM tFM tAM shM o S_3 1 2 := hJ_2.uF e_3 (dk_dq rfl)
  clear hg_2 hJ_2
  refine lv_aload_n hx hb dX12_init_18 rfl (lv_at hl 0 rfl) ?_
  refine lv_iconst (v := 0) hx hb dX12_init_19 (by decide +kernel) ?_
  refine dg_put (ci := 12) (v := .int 0) (ty := tyX12 2) (C := RX12) (T := TX12) (N := 77) hx hb hts (fun w h => bw_mem (wU_X12 w h)) tyX12 tyX12_ok nmX12 hown K hP hS (hA1 _) (dg_tk sM_0 (dk_dq rfl)) rfl 2 (dk_dq rfl) (hts _ (bw_mem wB_289)) (fun _ h9 => h9) rfl (by decide +kernel) rfl rfl dX12_init_20 (fun S_4 e_4 H locs hP hS => ?_)
  have hg_4 : dg_Ag S S_4 0 := hg_3.tk (dg_Ag.uF e_4 (dk_dq rfl))
  have hJ_4 : dg_Jr alM tFM tAM shM o S_4 1 2 := hJ_3.uF e_4 (dk_dq rfl)
  clear hg_3 hJ_3
  refine lv_aload_n hx hb dX12_init_23 rfl (lv_at hl 0 rfl) ?_
  refine lv_iconst (v := 0) hx hb dX12_init_24 (by decide +kernel) ?_
  refine dg_put (ci := 12) (v := .int 0) (ty := tyX12 3) (C := RX12) (T := TX12) (N := 77) hx hb hts (fun w h => bw_mem (wU_X12 w h)) tyX12 tyX12_ok nmX12 hown K hP hS (hA1 _) (dg_tk sM_0 (dk_dq rfl)) rfl 3 (dk_dq rfl) (hts _ (bw_mem wB_292)) (fun _ h9 => h9) rfl (by decide +kernel) rfl rfl dX12_init_25 (fun S_5 e_5 H locs hP hS => ?_)
  have hg_5 : dg_Ag S S_5 0 := hg_4.tk (dg_Ag.uF e_5 (dk_dq rfl))
  have hJ_5 : dg_Jr alM tFM tAM shM o S_5 1 2 := hJ_4.uF e_5 (dk_dq rfl)
  clear hg_4 hJ_4
  as_aux_lemma =>
    refine lv_aload_n hx hb dX12_init_28 rfl (lv_at hl 0 rfl) ?_
    refine lv_iconst (v := 0) hx hb dX12_init_29 (by decide +kernel) ?_
    refine dg_put (ci := 12) (v := .int 0) (ty := tyX12 4) (C := RX12) (T := TX12) (N := 77) hx hb hts (fun w h => bw_mem (wU_X12 w h)) tyX12 tyX12_ok nmX12 hown K hP hS (hA1 _) (dg_tk sM_0 (dk_dq rfl)) rfl 4 (dk_dq rfl) (hts _ (bw_mem wB_291)) (fun _ h9 => h9) rfl (by decide +kernel) rfl rfl dX12_init_30 (fun S_6 e_6 H locs hP hS => ?_)
    have hg_6 : dg_Ag S S_6 0 := hg_5.tk (dg_Ag.uF e_6 (dk_dq rfl))
    have hJ_6 : dg_Jr alM tFM tAM shM o S_6 1 2 := hJ_5.uF e_6 (dk_dq rfl)
    clear hg_5 hJ_5
    refine lv_aload_n hx hb dX12_init_33 rfl (lv_at hl 0 rfl) ?_
    refine lv_iconst (v := 0) hx hb dX12_init_34 (by decide +kernel) ?_
    refine dg_put (ci := 12) (v := .int 0) (ty := tyX12 5) (C := RX12) (T := TX12) (N := 77) hx hb hts (fun w h => bw_mem (wU_X12 w h)) tyX12 tyX12_ok nmX12 hown K hP hS (hA1 _) (dg_tk sM_0 (dk_dq rfl)) rfl 5 (dk_dq rfl) (hts _ (bw_mem wB_288)) (fun _ h9 => h9) rfl (by decide +kernel) rfl rfl dX12_init_35 (fun S_7 e_7 H locs hP hS => ?_)
    have hg_7 : dg_Ag S S_7 0 := hg_6.tk (dg_Ag.uF e_7 (dk_dq rfl))
    have hJ_7 : dg_Jr alM tFM tAM shM o S_7 1 2 := hJ_6.uF e_7 (dk_dq rfl)
    clear hg_6 hJ_6
    refine lv_aload_n hx hb dX12_init_38 rfl (lv_at hl 0 rfl) ?_
    refine lv_iconst (v := 0) hx hb dX12_init_39 (by decide +kernel) ?_
    refine dg_put (ci := 12) (v := .int 0) (ty := tyX12 6) (C := RX12) (T := TX12) (N := 77) hx hb hts (fun w h => bw_mem (wU_X12 w h)) tyX12 tyX12_ok nmX12 hown K hP hS (hA1 _) (dg_tk sM_0 (dk_dq rfl)) rfl 6 (dk_dq rfl) (hts _ (bw_mem wB_301)) (fun _ h9 => h9) rfl (by decide +kernel) rfl rfl dX12_init_40 (fun S_8 e_8 H locs hP hS => ?_)
    have hg_8 : dg_Ag S S_8 0 := hg_7.tk (dg_Ag.uF e_8 (dk_dq rfl))
    have hJ_8 : dg_Jr alM tFM tAM shM o S_8 1 2 := hJ_7.uF e_8 (dk_dq rfl)
    clear hg_7 hJ_7
    refine lv_aload_n hx hb dX12_init_43 rfl (lv_at hl 0 rfl) ?_
    refine lv_lconst (v := 0) hx hb dX12_init_44 (by decide +kernel) ?_
    refine dg_put (ci := 12) (v := .long 0) (ty := tyX12 7) (C := RX12) (T := TX12) (N := 77) hx hb hts (fun w h => bw_mem (wU_X12 w h)) tyX12 tyX12_ok nmX12 hown K hP hS (hA1 _) (dg_tk sM_0 (dk_dq rfl)) rfl 7 (dk_dq rfl) (hts _ (bw_mem wB_302)) (fun _ h9 => h9) rfl (by decide +kernel) rfl rfl dX12_init_45 (fun S_9 e_9 H locs hP hS => ?_)
    have hg_9 : dg_Ag S S_9 0 := hg_8.tk (dg_Ag.uF e_9 (dk_dq rfl))
    have hJ_9 : dg_Jr alM tFM tAM shM o S_9 1 2 := hJ_8.uF e_9 (dk_dq rfl)
    clear hg_8 hJ_8
    refine lv_aload_n hx hb dX12_init_48 rfl (lv_at hl 0 rfl) ?_
    refine lv_iconst (v := 0) hx hb dX12_init_49 (by decide +kernel) ?_
    refine dg_put (ci := 12) (v := .int 0) (ty := tyX12 8) (C := RX12) (T := TX12) (N := 77) hx hb hts (fun w h => bw_mem (wU_X12 w h)) tyX12 tyX12_ok nmX12 hown K hP hS (hA1 _) (dg_tk sM_0 (dk_dq rfl)) rfl 8 (dk_dq rfl) (hts _ (bw_mem wB_303)) (fun _ h9 => h9) rfl (by decide +kernel) rfl rfl dX12_init_50 (fun S_10 e_10 H locs hP hS => ?_)
    have hg_10 : dg_Ag S S_10 0 := hg_9.tk (dg_Ag.uF e_10 (dk_dq rfl))
    have hJ_10 : dg_Jr alM tFM tAM shM o S_10 1 2 := hJ_9.uF e_10 (dk_dq rfl)
    clear hg_9 hJ_9
    refine lv_aload_n hx hb dX12_init_53 rfl (lv_at hl 0 rfl) ?_
    refine lv_iconst (v := (-1)) hx hb dX12_init_54 (by decide +kernel) ?_
    refine dg_put (ci := 12) (v := .int (-1)) (ty := tyX12 9) (C := RX12) (T := TX12) (N := 77) hx hb hts (fun w h => bw_mem (wU_X12 w h)) tyX12 tyX12_ok nmX12 hown K hP hS (hA1 _) (dg_tk sM_0 (dk_dq rfl)) rfl 9 (dk_dq rfl) (hts _ (bw_mem wB_304)) (fun _ h9 => h9) rfl (by decide +kernel) rfl rfl dX12_init_55 (fun S_11 e_11 H locs hP hS => ?_)
    have hg_11 : dg_Ag S S_11 0 := hg_10.tk (dg_Ag.uF e_11 (dk_dq rfl))
    have hJ_11 : dg_Jr alM tFM tAM shM o S_11 1 2 := hJ_10.uF e_11 (dk_dq rfl)
    clear hg_10 hJ_10
    refine lv_aload_n hx hb dX12_init_58 rfl (lv_at hl 0 rfl) ?_
    refine lv_iconst (v := 0) hx hb dX12_init_59 (by decide +kernel) ?_
    refine dg_put (ci := 12) (v := .int 0) (ty := tyX12 10) (C := RX12) (T := TX12) (N := 77) hx hb hts (fun w h => bw_mem (wU_X12 w h)) tyX12 tyX12_ok nmX12 hown K hP hS (hA1 _) (dg_tk sM_0 (dk_dq rfl)) rfl 10 (dk_dq rfl) (hts _ (bw_mem wB_1083)) (fun _ h9 => h9) rfl (by decide +kernel) rfl rfl dX12_init_60 (fun S_12 e_12 H locs hP hS => ?_)
    have hg_12 : dg_Ag S S_12 0 := hg_11.tk (dg_Ag.uF e_12 (dk_dq rfl))
    have hJ_12 : dg_Jr alM tFM tAM shM o S_12 1 2 := hJ_11.uF e_12 (dk_dq rfl)
    clear hg_11 hJ_11
    as_aux_lemma =>
      refine lv_aload_n hx hb dX12_init_63 rfl (lv_at hl 0 rfl) ?_
      refine lv_iconst (v := (-1)) hx hb dX12_init_64 (by decide +kernel) ?_
      refine dg_put (ci := 12) (v := .int (-1)) (ty := tyX12 11) (C := RX12) (T := TX12) (N := 77) hx hb hts (fun w h => bw_mem (wU_X12 w h)) tyX12 tyX12_ok nmX12 hown K hP hS (hA1 _) (dg_tk sM_0 (dk_dq rfl)) rfl 11 (dk_dq rfl) (hts _ (bw_mem wB_1082)) (fun _ h9 => h9) rfl (by decide +kernel) rfl rfl dX12_init_65 (fun S_13 e_13 H locs hP hS => ?_)
      have hg_13 : dg_Ag S S_13 0 := hg_12.tk (dg_Ag.uF e_13 (dk_dq rfl))
      have hJ_13 : dg_Jr alM tFM tAM shM o S_13 1 2 := hJ_12.uF e_13 (dk_dq rfl)
      clear hg_12 hJ_12
      refine lv_aload_n hx hb dX12_init_68 rfl (lv_at hl 0 rfl) ?_
      refine lv_iconst (v := (-1)) hx hb dX12_init_69 (by decide +kernel) ?_
      refine dg_put (ci := 12) (v := .int (-1)) (ty := tyX12 12) (C := RX12) (T := TX12) (N := 77) hx hb hts (fun w h => bw_mem (wU_X12 w h)) tyX12 tyX12_ok nmX12 hown K hP hS (hA1 _) (dg_tk sM_0 (dk_dq rfl)) rfl 12 (dk_dq rfl) (hts _ (bw_mem wB_293)) (fun _ h9 => h9) rfl (by decide +kernel) rfl rfl dX12_init_70 (fun S_14 e_14 H locs hP hS => ?_)
      have hg_14 : dg_Ag S S_14 0 := hg_13.tk (dg_Ag.uF e_14 (dk_dq rfl))
      have hJ_14 : dg_Jr alM tFM tAM shM o S_14 1 2 := hJ_13.uF e_14 (dk_dq rfl)
      clear hg_13 hJ_13
      refine lv_aload_n hx hb dX12_init_73 rfl (lv_at hl 0 rfl) ?_
      refine lv_iconst (v := 0) hx hb dX12_init_74 (by decide +kernel) ?_
      refine dg_put (ci := 12) (v := .int 0) (ty := tyX12 13) (C := RX12) (T := TX12) (N := 77) hx hb hts (fun w h => bw_mem (wU_X12 w h)) tyX12 tyX12_ok nmX12 hown K hP hS (hA1 _) (dg_tk sM_0 (dk_dq rfl)) rfl 13 (dk_dq rfl) (hts _ (bw_mem wB_1085)) (fun _ h9 => h9) rfl (by decide +kernel) rfl rfl dX12_init_75 (fun S_15 e_15 H locs hP hS => ?_)
      have hg_15 : dg_Ag S S_15 0 := hg_14.tk (dg_Ag.uF e_15 (dk_dq rfl))
      have hJ_15 : dg_Jr alM tFM tAM shM o S_15 1 2 := hJ_14.uF e_15 (dk_dq rfl)
      clear hg_14 hJ_14
      refine lv_aload_n hx hb dX12_init_78 rfl (lv_at hl 0 rfl) ?_
      refine lv_iconst (v := 2) hx hb dX12_init_79 (by decide +kernel) ?_
      refine dg_size hP (dk_dq rfl) (by first | decide +kernel | (have h9 := hk9; omega)) hsz rfl (fun hz => ?_)
      refine dg_newi hx hb (hts _ (bw_mem wB_1325)) K hP hS hz sM_2 (by decide +kernel) (by decide +kernel) (dk_dq rfl) (Nat.le_of_ble_eq_true rfl) (Nat.le_of_ble_eq_true rfl) dX12_init_80 (fun S_16 e_16 H hP hS hz => ?_)
      refine W.widen (k := 2) (n := 1802) (Nat.le_of_ble_eq_true rfl) (Nat.le_of_ble_eq_true rfl) ?_
      have hP : va_P D vwCl (dg_w g (shM.take 3) o rfM S_16) H := hP
      have hg_16 : dg_Ag S S_16 0 := hg_15.tk (dg_Ag.uf e_16 (dk_dq rfl))
      have hJ_16 : dg_Jr alM tFM tAM shM o S_16 1 3 := (hJ_15.Ag (dg_Ag.uf e_16 (Nat.le_refl _)) (Nat.le_refl _)).ext (dg_Jr.one (dg_Jc.row sM_2 rfl (dg_uf_at e_16) (by intro t h; have h2 : tAM[2]? = some (1, 0, 9999) := (by decide +kernel); rw [h2] at h; cases h; exact fun _ => (dk_dq rfl))))
      clear hg_15 hJ_15
      refine dg_putF (ci := 12) (v := .ref (o + 2)) (ty := tyX12 14) (C := RX12) (T := TX12) (N := 77) hx hb hts (fun w h => bw_mem (wU_X12 w h)) tyX12 tyX12_ok nmX12 hown K hP hS (hA1 _) (dg_tk sM_0 (dk_dq rfl)) rfl 14 (dk_dq rfl) (hts _ (bw_mem wB_372)) (fun _ h9 => h9) rfl hin rfl (by decide +kernel) rfl rfl dX12_init_82 (fun S_17 e_17 H locs hP hS => ?_)
      have hg_17 : dg_Ag S S_17 0 := hg_16.tk (dg_Ag.uF e_17 (dk_dq rfl))
      have hJ_17 : dg_Jr alM tFM tAM shM o S_17 1 3 := hJ_16.uF e_17 (dk_dq rfl)
      clear hg_16 hJ_16
      refine lv_aload_n hx hb dX12_init_85 rfl (lv_at hl 0 rfl) ?_
      refine lv_iconst (v := 2) hx hb dX12_init_86 (by decide +kernel) ?_
      refine dg_size hP (dk_dq rfl) (by first | decide +kernel | (have h9 := hk9; omega)) hsz rfl (fun hz => ?_)
      refine dg_newi hx hb (hts _ (bw_mem wB_1325)) K hP hS hz sM_3 (by decide +kernel) (by decide +kernel) (dk_dq rfl) (Nat.le_of_ble_eq_true rfl) (Nat.le_of_ble_eq_true rfl) dX12_init_87 (fun S_18 e_18 H hP hS hz => ?_)
      refine W.widen (k := 3) (n := 1804) (Nat.le_of_ble_eq_true rfl) (Nat.le_of_ble_eq_true rfl) ?_
      have hP : va_P D vwCl (dg_w g (shM.take 4) o rfM S_18) H := hP
      have hg_18 : dg_Ag S S_18 0 := hg_17.tk (dg_Ag.uf e_18 (dk_dq rfl))
      have hJ_18 : dg_Jr alM tFM tAM shM o S_18 1 4 := (hJ_17.Ag (dg_Ag.uf e_18 (Nat.le_refl _)) (Nat.le_refl _)).ext (dg_Jr.one (dg_Jc.row sM_3 rfl (dg_uf_at e_18) (by intro t h; have h2 : tAM[3]? = some (1, 0, 9999) := (by decide +kernel); rw [h2] at h; cases h; exact fun _ => (dk_dq rfl))))
      clear hg_17 hJ_17
      as_aux_lemma =>
        refine dg_putF (ci := 12) (v := .ref (o + 3)) (ty := tyX12 15) (C := RX12) (T := TX12) (N := 77) hx hb hts (fun w h => bw_mem (wU_X12 w h)) tyX12 tyX12_ok nmX12 hown K hP hS (hA1 _) (dg_tk sM_0 (dk_dq rfl)) rfl 15 (dk_dq rfl) (hts _ (bw_mem wB_377)) (fun _ h9 => h9) rfl hin rfl (by decide +kernel) rfl rfl dX12_init_89 (fun S_19 e_19 H locs hP hS => ?_)
        have hg_19 : dg_Ag S S_19 0 := hg_18.tk (dg_Ag.uF e_19 (dk_dq rfl))
        have hJ_19 : dg_Jr alM tFM tAM shM o S_19 1 4 := hJ_18.uF e_19 (dk_dq rfl)
        clear hg_18 hJ_18
        refine lv_aload_n hx hb dX12_init_92 rfl (lv_at hl 0 rfl) ?_
        refine lv_iconst (v := 2) hx hb dX12_init_93 (by decide +kernel) ?_
        refine dg_size hP (dk_dq rfl) (by first | decide +kernel | (have h9 := hk9; omega)) hsz rfl (fun hz => ?_)
        refine dg_newi hx hb (hts _ (bw_mem wB_1325)) K hP hS hz sM_4 (by decide +kernel) (by decide +kernel) (dk_dq rfl) (Nat.le_of_ble_eq_true rfl) (Nat.le_of_ble_eq_true rfl) dX12_init_94 (fun S_20 e_20 H hP hS hz => ?_)
        refine W.widen (k := 4) (n := 1806) (Nat.le_of_ble_eq_true rfl) (Nat.le_of_ble_eq_true rfl) ?_
        have hP : va_P D vwCl (dg_w g (shM.take 5) o rfM S_20) H := hP
        have hg_20 : dg_Ag S S_20 0 := hg_19.tk (dg_Ag.uf e_20 (dk_dq rfl))
        have hJ_20 : dg_Jr alM tFM tAM shM o S_20 1 5 := (hJ_19.Ag (dg_Ag.uf e_20 (Nat.le_refl _)) (Nat.le_refl _)).ext (dg_Jr.one (dg_Jc.row sM_4 rfl (dg_uf_at e_20) (by intro t h; have h2 : tAM[4]? = some (1, 0, 9999) := (by decide +kernel); rw [h2] at h; cases h; exact fun _ => (dk_dq rfl))))
        clear hg_19 hJ_19
        refine dg_putF (ci := 12) (v := .ref (o + 4)) (ty := tyX12 16) (C := RX12) (T := TX12) (N := 77) hx hb hts (fun w h => bw_mem (wU_X12 w h)) tyX12 tyX12_ok nmX12 hown K hP hS (hA1 _) (dg_tk sM_0 (dk_dq rfl)) rfl 16 (dk_dq rfl) (hts _ (bw_mem wB_481)) (fun _ h9 => h9) rfl hin rfl (by decide +kernel) rfl rfl dX12_init_96 (fun S_21 e_21 H locs hP hS => ?_)
        have hg_21 : dg_Ag S S_21 0 := hg_20.tk (dg_Ag.uF e_21 (dk_dq rfl))
        have hJ_21 : dg_Jr alM tFM tAM shM o S_21 1 5 := hJ_20.uF e_21 (dk_dq rfl)
        clear hg_20 hJ_20
        refine lv_aload_n hx hb dX12_init_99 rfl (lv_at hl 0 rfl) ?_
        refine lv_iconst (v := 2) hx hb dX12_init_100 (by decide +kernel) ?_
        refine dg_size hP (dk_dq rfl) (by first | decide +kernel | (have h9 := hk9; omega)) hsz rfl (fun hz => ?_)
        refine dg_newi hx hb (hts _ (bw_mem wB_1325)) K hP hS hz sM_5 (by decide +kernel) (by decide +kernel) (dk_dq rfl) (Nat.le_of_ble_eq_true rfl) (Nat.le_of_ble_eq_true rfl) dX12_init_101 (fun S_22 e_22 H hP hS hz => ?_)
        refine W.widen (k := 5) (n := 1808) (Nat.le_of_ble_eq_true rfl) (Nat.le_of_ble_eq_true rfl) ?_
        have hP : va_P D vwCl (dg_w g (shM.take 6) o rfM S_22) H := hP
        have hg_22 : dg_Ag S S_22 0 := hg_21.tk (dg_Ag.uf e_22 (dk_dq rfl))
        have hJ_22 : dg_Jr alM tFM tAM shM o S_22 1 6 := (hJ_21.Ag (dg_Ag.uf e_22 (Nat.le_refl _)) (Nat.le_refl _)).ext (dg_Jr.one (dg_Jc.row sM_5 rfl (dg_uf_at e_22) (by intro t h; have h2 : tAM[5]? = some (1, 0, 9999) := (by decide +kernel); rw [h2] at h; cases h; exact fun _ => (dk_dq rfl))))
        clear hg_21 hJ_21
        refine dg_putF (ci := 12) (v := .ref (o + 5)) (ty := tyX12 17) (C := RX12) (T := TX12) (N := 77) hx hb hts (fun w h => bw_mem (wU_X12 w h)) tyX12 tyX12_ok nmX12 hown K hP hS (hA1 _) (dg_tk sM_0 (dk_dq rfl)) rfl 17 (dk_dq rfl) (hts _ (bw_mem wB_480)) (fun _ h9 => h9) rfl hin rfl (by decide +kernel) rfl rfl dX12_init_103 (fun S_23 e_23 H locs hP hS => ?_)
        have hg_23 : dg_Ag S S_23 0 := hg_22.tk (dg_Ag.uF e_23 (dk_dq rfl))
        have hJ_23 : dg_Jr alM tFM tAM shM o S_23 1 6 := hJ_22.uF e_23 (dk_dq rfl)
        clear hg_22 hJ_22
        refine lv_aload_n hx hb dX12_init_106 rfl (lv_at hl 0 rfl) ?_
        refine lv_iconst (v := 2) hx hb dX12_init_107 (by decide +kernel) ?_
        refine dg_size hP (dk_dq rfl) (by first | decide +kernel | (have h9 := hk9; omega)) hsz rfl (fun hz => ?_)
        refine dg_newi hx hb (hts _ (bw_mem wB_1325)) K hP hS hz sM_6 (by decide +kernel) (by decide +kernel) (dk_dq rfl) (Nat.le_of_ble_eq_true rfl) (Nat.le_of_ble_eq_true rfl) dX12_init_108 (fun S_24 e_24 H hP hS hz => ?_)
        refine W.widen (k := 6) (n := 1810) (Nat.le_of_ble_eq_true rfl) (Nat.le_of_ble_eq_true rfl) ?_
        have hP : va_P D vwCl (dg_w g (shM.take 7) o rfM S_24) H := hP
        have hg_24 : dg_Ag S S_24 0 := hg_23.tk (dg_Ag.uf e_24 (dk_dq rfl))
        have hJ_24 : dg_Jr alM tFM tAM shM o S_24 1 7 := (hJ_23.Ag (dg_Ag.uf e_24 (Nat.le_refl _)) (Nat.le_refl _)).ext (dg_Jr.one (dg_Jc.row sM_6 rfl (dg_uf_at e_24) (by intro t h; have h2 : tAM[6]? = some (1, 0, 9999) := (by decide +kernel); rw [h2] at h; cases h; exact fun _ => (dk_dq rfl))))
        clear hg_23 hJ_23
        refine dg_putF (ci := 12) (v := .ref (o + 6)) (ty := tyX12 18) (C := RX12) (T := TX12) (N := 77) hx hb hts (fun w h => bw_mem (wU_X12 w h)) tyX12 tyX12_ok nmX12 hown K hP hS (hA1 _) (dg_tk sM_0 (dk_dq rfl)) rfl 18 (dk_dq rfl) (hts _ (bw_mem wB_475)) (fun _ h9 => h9) rfl hin rfl (by decide +kernel) rfl rfl dX12_init_110 (fun S_25 e_25 H locs hP hS => ?_)
        have hg_25 : dg_Ag S S_25 0 := hg_24.tk (dg_Ag.uF e_25 (dk_dq rfl))
        have hJ_25 : dg_Jr alM tFM tAM shM o S_25 1 7 := hJ_24.uF e_25 (dk_dq rfl)
        clear hg_24 hJ_24
        as_aux_lemma =>
          refine lv_aload_n hx hb dX12_init_113 rfl (lv_at hl 0 rfl) ?_
          refine lv_sipush (v := 128) hx hb dX12_init_114 (by decide +kernel) ?_
          refine dg_size hP (dk_dq rfl) (by first | decide +kernel | (have h9 := hk9; omega)) hsz rfl (fun hz => ?_)
          refine dg_newi hx hb (hts _ (bw_mem wB_1325)) K hP hS hz sM_7 (by decide +kernel) (by decide +kernel) (dk_dq rfl) (Nat.le_of_ble_eq_true rfl) (Nat.le_of_ble_eq_true rfl) dX12_init_117 (fun S_26 e_26 H hP hS hz => ?_)
          refine W.widen (k := 7) (n := 1938) (Nat.le_of_ble_eq_true rfl) (Nat.le_of_ble_eq_true rfl) ?_
          have hP : va_P D vwCl (dg_w g (shM.take 8) o rfM S_26) H := hP
          have hg_26 : dg_Ag S S_26 0 := hg_25.tk (dg_Ag.uf e_26 (dk_dq rfl))
          have hJ_26 : dg_Jr alM tFM tAM shM o S_26 1 8 := (hJ_25.Ag (dg_Ag.uf e_26 (Nat.le_refl _)) (Nat.le_refl _)).ext (dg_Jr.one (dg_Jc.row sM_7 rfl (dg_uf_at e_26) (by intro t h; have h2 : tAM[7]? = some (1, 0, 9) := (by decide +kernel); rw [h2] at h; cases h; exact fun _ => (dk_dq rfl))))
          clear hg_25 hJ_25
          refine dg_putF (ci := 12) (v := .ref (o + 7)) (ty := tyX12 19) (C := RX12) (T := TX12) (N := 77) hx hb hts (fun w h => bw_mem (wU_X12 w h)) tyX12 tyX12_ok nmX12 hown K hP hS (hA1 _) (dg_tk sM_0 (dk_dq rfl)) rfl 19 (dk_dq rfl) (hts _ (bw_mem wB_386)) (fun _ h9 => h9) rfl hin rfl (by decide +kernel) rfl rfl dX12_init_119 (fun S_27 e_27 H locs hP hS => ?_)
          have hg_27 : dg_Ag S S_27 0 := hg_26.tk (dg_Ag.uF e_27 (dk_dq rfl))
          have hJ_27 : dg_Jr alM tFM tAM shM o S_27 1 8 := hJ_26.uF e_27 (dk_dq rfl)
          clear hg_26 hJ_26
          refine lv_aload_n hx hb dX12_init_122 rfl (lv_at hl 0 rfl) ?_
          refine lv_iconst (v := 2) hx hb dX12_init_123 (by decide +kernel) ?_
          refine dg_size hP (dk_dq rfl) (by first | decide +kernel | (have h9 := hk9; omega)) hsz rfl (fun hz => ?_)
          refine dg_newi hx hb (hts _ (bw_mem wB_1325)) K hP hS hz sM_8 (by decide +kernel) (by decide +kernel) (dk_dq rfl) (Nat.le_of_ble_eq_true rfl) (Nat.le_of_ble_eq_true rfl) dX12_init_124 (fun S_28 e_28 H hP hS hz => ?_)
          refine W.widen (k := 8) (n := 1940) (Nat.le_of_ble_eq_true rfl) (Nat.le_of_ble_eq_true rfl) ?_
          have hP : va_P D vwCl (dg_w g (shM.take 9) o rfM S_28) H := hP
          have hg_28 : dg_Ag S S_28 0 := hg_27.tk (dg_Ag.uf e_28 (dk_dq rfl))
          have hJ_28 : dg_Jr alM tFM tAM shM o S_28 1 9 := (hJ_27.Ag (dg_Ag.uf e_28 (Nat.le_refl _)) (Nat.le_refl _)).ext (dg_Jr.one (dg_Jc.row sM_8 rfl (dg_uf_at e_28) (by intro t h; have h2 : tAM[8]? = some (1, 0, 6) := (by decide +kernel); rw [h2] at h; cases h; exact fun _ => (dk_dq rfl))))
          clear hg_27 hJ_27
          refine dg_putF (ci := 12) (v := .ref (o + 8)) (ty := tyX12 20) (C := RX12) (T := TX12) (N := 77) hx hb hts (fun w h => bw_mem (wU_X12 w h)) tyX12 tyX12_ok nmX12 hown K hP hS (hA1 _) (dg_tk sM_0 (dk_dq rfl)) rfl 20 (dk_dq rfl) (hts _ (bw_mem wB_352)) (fun _ h9 => h9) rfl hin rfl (by decide +kernel) rfl rfl dX12_init_126 (fun S_29 e_29 H locs hP hS => ?_)
          have hg_29 : dg_Ag S S_29 0 := hg_28.tk (dg_Ag.uF e_29 (dk_dq rfl))
          have hJ_29 : dg_Jr alM tFM tAM shM o S_29 1 9 := hJ_28.uF e_29 (dk_dq rfl)
          clear hg_28 hJ_28
          refine lv_aload_n hx hb dX12_init_129 rfl (lv_at hl 0 rfl) ?_
          refine lv_iconst (v := 2) hx hb dX12_init_130 (by decide +kernel) ?_
          refine dg_size hP (dk_dq rfl) (by first | decide +kernel | (have h9 := hk9; omega)) hsz rfl (fun hz => ?_)
          refine dg_newi hx hb (hts _ (bw_mem wB_1325)) K hP hS hz sM_9 (by decide +kernel) (by decide +kernel) (dk_dq rfl) (Nat.le_of_ble_eq_true rfl) (Nat.le_of_ble_eq_true rfl) dX12_init_131 (fun S_30 e_30 H hP hS hz => ?_)
          refine W.widen (k := 9) (n := 1942) (Nat.le_of_ble_eq_true rfl) (Nat.le_of_ble_eq_true rfl) ?_
          have hP : va_P D vwCl (dg_w g (shM.take 10) o rfM S_30) H := hP
          have hg_30 : dg_Ag S S_30 0 := hg_29.tk (dg_Ag.uf e_30 (dk_dq rfl))
          have hJ_30 : dg_Jr alM tFM tAM shM o S_30 1 10 := (hJ_29.Ag (dg_Ag.uf e_30 (Nat.le_refl _)) (Nat.le_refl _)).ext (dg_Jr.one (dg_Jc.row sM_9 rfl (dg_uf_at e_30) (by intro t h; have h2 : tAM[9]? = some (1, 0, 16) := (by decide +kernel); rw [h2] at h; cases h; exact fun _ => (dk_dq rfl))))
          clear hg_29 hJ_29
          refine dg_putF (ci := 12) (v := .ref (o + 9)) (ty := tyX12 21) (C := RX12) (T := TX12) (N := 77) hx hb hts (fun w h => bw_mem (wU_X12 w h)) tyX12 tyX12_ok nmX12 hown K hP hS (hA1 _) (dg_tk sM_0 (dk_dq rfl)) rfl 21 (dk_dq rfl) (hts _ (bw_mem wB_391)) (fun _ h9 => h9) rfl hin rfl (by decide +kernel) rfl rfl dX12_init_133 (fun S_31 e_31 H locs hP hS => ?_)
          have hg_31 : dg_Ag S S_31 0 := hg_30.tk (dg_Ag.uF e_31 (dk_dq rfl))
          have hJ_31 : dg_Jr alM tFM tAM shM o S_31 1 10 := hJ_30.uF e_31 (dk_dq rfl)
          clear hg_30 hJ_30
          refine lv_aload_n hx hb dX12_init_136 rfl (lv_at hl 0 rfl) ?_
          as_aux_lemma =>
            refine lv_bipush (v := 32) hx hb dX12_init_137 (by decide +kernel) ?_
            refine dg_size hP (dk_dq rfl) (by first | decide +kernel | (have h9 := hk9; omega)) hsz rfl (fun hz => ?_)
            refine dg_newi hx hb (hts _ (bw_mem wB_1325)) K hP hS hz sM_10 (by decide +kernel) (by decide +kernel) (dk_dq rfl) (Nat.le_of_ble_eq_true rfl) (Nat.le_of_ble_eq_true rfl) dX12_init_139 (fun S_32 e_32 H hP hS hz => ?_)
            refine W.widen (k := 10) (n := 1974) (Nat.le_of_ble_eq_true rfl) (Nat.le_of_ble_eq_true rfl) ?_
            have hP : va_P D vwCl (dg_w g (shM.take 11) o rfM S_32) H := hP
            have hg_32 : dg_Ag S S_32 0 := hg_31.tk (dg_Ag.uf e_32 (dk_dq rfl))
            have hJ_32 : dg_Jr alM tFM tAM shM o S_32 1 11 := (hJ_31.Ag (dg_Ag.uf e_32 (Nat.le_refl _)) (Nat.le_refl _)).ext (dg_Jr.one (dg_Jc.row sM_10 rfl (dg_uf_at e_32) (by intro t h; have h2 : tAM[10]? = some (0, 0, 0) := (by decide +kernel); rw [h2] at h; cases h; exact fun _ => (dk_dq rfl))))
            clear hg_31 hJ_31
            refine dg_putF (ci := 12) (v := .ref (o + 10)) (ty := tyX12 22) (C := RX12) (T := TX12) (N := 77) hx hb hts (fun w h => bw_mem (wU_X12 w h)) tyX12 tyX12_ok nmX12 hown K hP hS (hA1 _) (dg_tk sM_0 (dk_dq rfl)) rfl 22 (dk_dq rfl) (hts _ (bw_mem wB_396)) (fun _ h9 => h9) rfl hin rfl (by decide +kernel) rfl rfl dX12_init_141 (fun S_33 e_33 H locs hP hS => ?_)
            have hg_33 : dg_Ag S S_33 0 := hg_32.tk (dg_Ag.uF e_33 (dk_dq rfl))
            have hJ_33 : dg_Jr alM tFM tAM shM o S_33 1 11 := hJ_32.uF e_33 (dk_dq rfl)
            clear hg_32 hJ_32
            refine lv_aload_n hx hb dX12_init_144 rfl (lv_at hl 0 rfl) ?_
            refine lv_bipush (v := 32) hx hb dX12_init_145 (by decide +kernel) ?_
            refine dg_size hP (dk_dq rfl) (by first | decide +kernel | (have h9 := hk9; omega)) hsz rfl (fun hz => ?_)
            refine dg_newi hx hb (hts _ (bw_mem wB_1325)) K hP hS hz sM_11 (by decide +kernel) (by decide +kernel) (dk_dq rfl) (Nat.le_of_ble_eq_true rfl) (Nat.le_of_ble_eq_true rfl) dX12_init_147 (fun S_34 e_34 H hP hS hz => ?_)
            refine W.widen (k := 11) (n := 2006) (Nat.le_of_ble_eq_true rfl) (Nat.le_of_ble_eq_true rfl) ?_
            have hP : va_P D vwCl (dg_w g (shM.take 12) o rfM S_34) H := hP
            have hg_34 : dg_Ag S S_34 0 := hg_33.tk (dg_Ag.uf e_34 (dk_dq rfl))
            have hJ_34 : dg_Jr alM tFM tAM shM o S_34 1 12 := (hJ_33.Ag (dg_Ag.uf e_34 (Nat.le_refl _)) (Nat.le_refl _)).ext (dg_Jr.one (dg_Jc.row sM_11 rfl (dg_uf_at e_34) (by intro t h; have h2 : tAM[11]? = some (1, 0, 63) := (by decide +kernel); rw [h2] at h; cases h; exact fun _ => (dk_dq rfl))))
            clear hg_33 hJ_33
            refine dg_putF (ci := 12) (v := .ref (o + 11)) (ty := tyX12 23) (C := RX12) (T := TX12) (N := 77) hx hb hts (fun w h => bw_mem (wU_X12 w h)) tyX12 tyX12_ok nmX12 hown K hP hS (hA1 _) (dg_tk sM_0 (dk_dq rfl)) rfl 23 (dk_dq rfl) (hts _ (bw_mem wB_397)) (fun _ h9 => h9) rfl hin rfl (by decide +kernel) rfl rfl dX12_init_149 (fun S_35 e_35 H locs hP hS => ?_)
            have hg_35 : dg_Ag S S_35 0 := hg_34.tk (dg_Ag.uF e_35 (dk_dq rfl))
            have hJ_35 : dg_Jr alM tFM tAM shM o S_35 1 12 := hJ_34.uF e_35 (dk_dq rfl)
            clear hg_34 hJ_34
            refine lv_aload_n hx hb dX12_init_152 rfl (lv_at hl 0 rfl) ?_
            refine lv_iconst (v := 2) hx hb dX12_init_153 (by decide +kernel) ?_
            refine dg_size hP (dk_dq rfl) (by first | decide +kernel | (have h9 := hk9; omega)) hsz rfl (fun hz => ?_)
            refine dg_newi hx hb (hts _ (bw_mem wB_1325)) K hP hS hz sM_12 (by decide +kernel) (by decide +kernel) (dk_dq rfl) (Nat.le_of_ble_eq_true rfl) (Nat.le_of_ble_eq_true rfl) dX12_init_154 (fun S_36 e_36 H hP hS hz => ?_)
            refine W.widen (k := 12) (n := 2008) (Nat.le_of_ble_eq_true rfl) (Nat.le_of_ble_eq_true rfl) ?_
            have hP : va_P D vwCl (dg_w g (shM.take 13) o rfM S_36) H := hP
            have hg_36 : dg_Ag S S_36 0 := hg_35.tk (dg_Ag.uf e_36 (dk_dq rfl))
            have hJ_36 : dg_Jr alM tFM tAM shM o S_36 1 13 := (hJ_35.Ag (dg_Ag.uf e_36 (Nat.le_refl _)) (Nat.le_refl _)).ext (dg_Jr.one (dg_Jc.row sM_12 rfl (dg_uf_at e_36) (by intro t h; have h2 : tAM[12]? = some (1, 0, 5) := (by decide +kernel); rw [h2] at h; cases h; exact fun _ => (dk_dq rfl))))
            clear hg_35 hJ_35
            refine dg_putF (ci := 12) (v := .ref (o + 12)) (ty := tyX12 24) (C := RX12) (T := TX12) (N := 77) hx hb hts (fun w h => bw_mem (wU_X12 w h)) tyX12 tyX12_ok nmX12 hown K hP hS (hA1 _) (dg_tk sM_0 (dk_dq rfl)) rfl 24 (dk_dq rfl) (hts _ (bw_mem wB_355)) (fun _ h9 => h9) rfl hin rfl (by decide +kernel) rfl rfl dX12_init_156 (fun S_37 e_37 H locs hP hS => ?_)
            have hg_37 : dg_Ag S S_37 0 := hg_36.tk (dg_Ag.uF e_37 (dk_dq rfl))
            have hJ_37 : dg_Jr alM tFM tAM shM o S_37 1 13 := hJ_36.uF e_37 (dk_dq rfl)
            clear hg_36 hJ_36
            refine lv_aload_n hx hb dX12_init_159 rfl (lv_at hl 0 rfl) ?_
            refine lv_bipush (v := 10) hx hb dX12_init_160 (by decide +kernel) ?_
            as_aux_lemma =>
              refine dg_size hP (dk_dq rfl) (by first | decide +kernel | (have h9 := hk9; omega)) hsz rfl (fun hz => ?_)
              refine dg_newi hx hb (hts _ (bw_mem wB_1325)) K hP hS hz sM_13 (by decide +kernel) (by decide +kernel) (dk_dq rfl) (Nat.le_of_ble_eq_true rfl) (Nat.le_of_ble_eq_true rfl) dX12_init_162 (fun S_38 e_38 H hP hS hz => ?_)
              refine W.widen (k := 13) (n := 2018) (Nat.le_of_ble_eq_true rfl) (Nat.le_of_ble_eq_true rfl) ?_
              have hP : va_P D vwCl (dg_w g (shM.take 14) o rfM S_38) H := hP
              have hg_38 : dg_Ag S S_38 0 := hg_37.tk (dg_Ag.uf e_38 (dk_dq rfl))
              have hJ_38 : dg_Jr alM tFM tAM shM o S_38 1 14 := (hJ_37.Ag (dg_Ag.uf e_38 (Nat.le_refl _)) (Nat.le_refl _)).ext (dg_Jr.one (dg_Jc.row sM_13 rfl (dg_uf_at e_38) (by intro t h; have h2 : tAM[13]? = some (1, 0, 9999) := (by decide +kernel); rw [h2] at h; cases h; exact fun _ => (dk_dq rfl))))
              clear hg_37 hJ_37
              refine dg_putF (ci := 12) (v := .ref (o + 13)) (ty := tyX12 25) (C := RX12) (T := TX12) (N := 77) hx hb hts (fun w h => bw_mem (wU_X12 w h)) tyX12 tyX12_ok nmX12 hown K hP hS (hA1 _) (dg_tk sM_0 (dk_dq rfl)) rfl 25 (dk_dq rfl) (hts _ (bw_mem wB_398)) (fun _ h9 => h9) rfl hin rfl (by decide +kernel) rfl rfl dX12_init_164 (fun S_39 e_39 H locs hP hS => ?_)
              have hg_39 : dg_Ag S S_39 0 := hg_38.tk (dg_Ag.uF e_39 (dk_dq rfl))
              have hJ_39 : dg_Jr alM tFM tAM shM o S_39 1 14 := hJ_38.uF e_39 (dk_dq rfl)
              clear hg_38 hJ_38
              refine lv_aload_n hx hb dX12_init_167 rfl (lv_at hl 0 rfl) ?_
              refine lv_bipush (v := 10) hx hb dX12_init_168 (by decide +kernel) ?_
              refine dg_size hP (dk_dq rfl) (by first | decide +kernel | (have h9 := hk9; omega)) hsz rfl (fun hz => ?_)
              refine dg_newi hx hb (hts _ (bw_mem wB_1325)) K hP hS hz sM_14 (by decide +kernel) (by decide +kernel) (dk_dq rfl) (Nat.le_of_ble_eq_true rfl) (Nat.le_of_ble_eq_true rfl) dX12_init_170 (fun S_40 e_40 H hP hS hz => ?_)
              refine W.widen (k := 14) (n := 2028) (Nat.le_of_ble_eq_true rfl) (Nat.le_of_ble_eq_true rfl) ?_
              have hP : va_P D vwCl (dg_w g (shM.take 15) o rfM S_40) H := hP
              have hg_40 : dg_Ag S S_40 0 := hg_39.tk (dg_Ag.uf e_40 (dk_dq rfl))
              have hJ_40 : dg_Jr alM tFM tAM shM o S_40 1 15 := (hJ_39.Ag (dg_Ag.uf e_40 (Nat.le_refl _)) (Nat.le_refl _)).ext (dg_Jr.one (dg_Jc.row sM_14 rfl (dg_uf_at e_40) (by intro t h; have h2 : tAM[14]? = some (0, 0, 0) := (by decide +kernel); rw [h2] at h; cases h; exact fun _ => (dk_dq rfl))))
              clear hg_39 hJ_39
              refine dg_putF (ci := 12) (v := .ref (o + 14)) (ty := tyX12 26) (C := RX12) (T := TX12) (N := 77) hx hb hts (fun w h => bw_mem (wU_X12 w h)) tyX12 tyX12_ok nmX12 hown K hP hS (hA1 _) (dg_tk sM_0 (dk_dq rfl)) rfl 26 (dk_dq rfl) (hts _ (bw_mem wB_399)) (fun _ h9 => h9) rfl hin rfl (by decide +kernel) rfl rfl dX12_init_172 (fun S_41 e_41 H locs hP hS => ?_)
              have hg_41 : dg_Ag S S_41 0 := hg_40.tk (dg_Ag.uF e_41 (dk_dq rfl))
              have hJ_41 : dg_Jr alM tFM tAM shM o S_41 1 15 := hJ_40.uF e_41 (dk_dq rfl)
              clear hg_40 hJ_40
              refine lv_aload_n hx hb dX12_init_175 rfl (lv_at hl 0 rfl) ?_
              refine lv_bipush (v := 10) hx hb dX12_init_176 (by decide +kernel) ?_
              refine dg_size hP (dk_dq rfl) (by first | decide +kernel | (have h9 := hk9; omega)) hsz rfl (fun hz => ?_)
              refine dg_newi hx hb (hts _ (bw_mem wB_1325)) K hP hS hz sM_15 (by decide +kernel) (by decide +kernel) (dk_dq rfl) (Nat.le_of_ble_eq_true rfl) (Nat.le_of_ble_eq_true rfl) dX12_init_178 (fun S_42 e_42 H hP hS hz => ?_)
              refine W.widen (k := 15) (n := 2038) (Nat.le_of_ble_eq_true rfl) (Nat.le_of_ble_eq_true rfl) ?_
              have hP : va_P D vwCl (dg_w g (shM.take 16) o rfM S_42) H := hP
              have hg_42 : dg_Ag S S_42 0 := hg_41.tk (dg_Ag.uf e_42 (dk_dq rfl))
              have hJ_42 : dg_Jr alM tFM tAM shM o S_42 1 16 := (hJ_41.Ag (dg_Ag.uf e_42 (Nat.le_refl _)) (Nat.le_refl _)).ext (dg_Jr.one (dg_Jc.row sM_15 rfl (dg_uf_at e_42) (by intro t h; have h2 : tAM[15]? = some (0, 0, 0) := (by decide +kernel); rw [h2] at h; cases h; exact fun _ => (dk_dq rfl))))
              clear hg_41 hJ_41
              refine dg_putF (ci := 12) (v := .ref (o + 15)) (ty := tyX12 27) (C := RX12) (T := TX12) (N := 77) hx hb hts (fun w h => bw_mem (wU_X12 w h)) tyX12 tyX12_ok nmX12 hown K hP hS (hA1 _) (dg_tk sM_0 (dk_dq rfl)) rfl 27 (dk_dq rfl) (hts _ (bw_mem wB_400)) (fun _ h9 => h9) rfl hin rfl (by decide +kernel) rfl rfl dX12_init_180 (fun S_43 e_43 H locs hP hS => ?_)
              have hg_43 : dg_Ag S S_43 0 := hg_42.tk (dg_Ag.uF e_43 (dk_dq rfl))
              have hJ_43 : dg_Jr alM tFM tAM shM o S_43 1 16 := hJ_42.uF e_43 (dk_dq rfl)
              clear hg_42 hJ_42
              refine lv_aload_n hx hb dX12_init_183 rfl (lv_at hl 0 rfl) ?_
              refine lv_bipush (v := 6) hx hb dX12_init_184 (by decide +kernel) ?_
              refine dg_size hP (dk_dq rfl) (by first | decide +kernel | (have h9 := hk9; omega)) hsz rfl (fun hz => ?_)
              as_aux_lemma =>
                refine dg_newi hx hb (hts _ (bw_mem wB_1325)) K hP hS hz sM_16 (by decide +kernel) (by decide +kernel) (dk_dq rfl) (Nat.le_of_ble_eq_true rfl) (Nat.le_of_ble_eq_true rfl) dX12_init_186 (fun S_44 e_44 H hP hS hz => ?_)
                refine W.widen (k := 16) (n := 2044) (Nat.le_of_ble_eq_true rfl) (Nat.le_of_ble_eq_true rfl) ?_
                have hP : va_P D vwCl (dg_w g (shM.take 17) o rfM S_44) H := hP
                have hg_44 : dg_Ag S S_44 0 := hg_43.tk (dg_Ag.uf e_44 (dk_dq rfl))
                have hJ_44 : dg_Jr alM tFM tAM shM o S_44 1 17 := (hJ_43.Ag (dg_Ag.uf e_44 (Nat.le_refl _)) (Nat.le_refl _)).ext (dg_Jr.one (dg_Jc.row sM_16 rfl (dg_uf_at e_44) (by intro t h; have h2 : tAM[16]? = some (1, (-1), 1600) := (by decide +kernel); rw [h2] at h; cases h; exact fun _ => (dk_dq rfl))))
                clear hg_43 hJ_43
                refine dg_putF (ci := 12) (v := .ref (o + 16)) (ty := tyX12 28) (C := RX12) (T := TX12) (N := 77) hx hb hts (fun w h => bw_mem (wU_X12 w h)) tyX12 tyX12_ok nmX12 hown K hP hS (hA1 _) (dg_tk sM_0 (dk_dq rfl)) rfl 28 (dk_dq rfl) (hts _ (bw_mem wB_449)) (fun _ h9 => h9) rfl hin rfl (by decide +kernel) rfl rfl dX12_init_188 (fun S_45 e_45 H locs hP hS => ?_)
                have hg_45 : dg_Ag S S_45 0 := hg_44.tk (dg_Ag.uF e_45 (dk_dq rfl))
                have hJ_45 : dg_Jr alM tFM tAM shM o S_45 1 17 := hJ_44.uF e_45 (dk_dq rfl)
                clear hg_44 hJ_44
                refine lv_aload_n hx hb dX12_init_191 rfl (lv_at hl 0 rfl) ?_
                refine lv_bipush (v := 6) hx hb dX12_init_192 (by decide +kernel) ?_
                refine dg_size hP (dk_dq rfl) (by first | decide +kernel | (have h9 := hk9; omega)) hsz rfl (fun hz => ?_)
                refine dg_newi hx hb (hts _ (bw_mem wB_1325)) K hP hS hz sM_17 (by decide +kernel) (by decide +kernel) (dk_dq rfl) (Nat.le_of_ble_eq_true rfl) (Nat.le_of_ble_eq_true rfl) dX12_init_194 (fun S_46 e_46 H hP hS hz => ?_)
                refine W.widen (k := 17) (n := 2050) (Nat.le_of_ble_eq_true rfl) (Nat.le_of_ble_eq_true rfl) ?_
                have hP : va_P D vwCl (dg_w g (shM.take 18) o rfM S_46) H := hP
                have hg_46 : dg_Ag S S_46 0 := hg_45.tk (dg_Ag.uf e_46 (dk_dq rfl))
                have hJ_46 : dg_Jr alM tFM tAM shM o S_46 1 18 := (hJ_45.Ag (dg_Ag.uf e_46 (Nat.le_refl _)) (Nat.le_refl _)).ext (dg_Jr.one (dg_Jc.row sM_17 rfl (dg_uf_at e_46) (by intro t h; have h2 : tAM[17]? = some (1, 0, 1600) := (by decide +kernel); rw [h2] at h; cases h; exact fun _ => (dk_dq rfl))))
                clear hg_45 hJ_45
                refine dg_putF (ci := 12) (v := .ref (o + 17)) (ty := tyX12 29) (C := RX12) (T := TX12) (N := 77) hx hb hts (fun w h => bw_mem (wU_X12 w h)) tyX12 tyX12_ok nmX12 hown K hP hS (hA1 _) (dg_tk sM_0 (dk_dq rfl)) rfl 29 (dk_dq rfl) (hts _ (bw_mem wB_454)) (fun _ h9 => h9) rfl hin rfl (by decide +kernel) rfl rfl dX12_init_196 (fun S_47 e_47 H locs hP hS => ?_)
                have hg_47 : dg_Ag S S_47 0 := hg_46.tk (dg_Ag.uF e_47 (dk_dq rfl))
                have hJ_47 : dg_Jr alM tFM tAM shM o S_47 1 18 := hJ_46.uF e_47 (dk_dq rfl)
                clear hg_46 hJ_46
                refine lv_aload_n hx hb dX12_init_199 rfl (lv_at hl 0 rfl) ?_
                refine lv_sipush (v := 3200) hx hb dX12_init_200 (by decide +kernel) ?_
                refine dg_size hP (dk_dq rfl) (by first | decide +kernel | (have h9 := hk9; omega)) hsz rfl (fun hz => ?_)
                refine dg_newi hx hb (hts _ (bw_mem wB_1325)) K hP hS hz sM_18 (by decide +kernel) (by decide +kernel) (dk_dq rfl) (Nat.le_of_ble_eq_true rfl) (Nat.le_of_ble_eq_true rfl) dX12_init_203 (fun S_48 e_48 H hP hS hz => ?_)
                refine W.widen (k := 18) (n := 5250) (Nat.le_of_ble_eq_true rfl) (Nat.le_of_ble_eq_true rfl) ?_
                have hP : va_P D vwCl (dg_w g (shM.take 19) o rfM S_48) H := hP
                have hg_48 : dg_Ag S S_48 0 := hg_47.tk (dg_Ag.uf e_48 (dk_dq rfl))
                have hJ_48 : dg_Jr alM tFM tAM shM o S_48 1 19 := (hJ_47.Ag (dg_Ag.uf e_48 (Nat.le_refl _)) (Nat.le_refl _)).ext (dg_Jr.one (dg_Jc.row sM_18 rfl (dg_uf_at e_48) (by intro t h; have h2 : tAM[18]? = some (1, 0, 44) := (by decide +kernel); rw [h2] at h; cases h; exact fun _ => (dk_dq rfl))))
                clear hg_47 hJ_47
                refine dg_putF (ci := 12) (v := .ref (o + 18)) (ty := tyX12 30) (C := RX12) (T := TX12) (N := 77) hx hb hts (fun w h => bw_mem (wU_X12 w h)) tyX12 tyX12_ok nmX12 hown K hP hS (hA1 _) (dg_tk sM_0 (dk_dq rfl)) rfl 30 (dk_dq rfl) (hts _ (bw_mem wB_401)) (fun _ h9 => h9) rfl hin rfl (by decide +kernel) rfl rfl dX12_init_205 (fun S_49 e_49 H locs hP hS => ?_)
                have hg_49 : dg_Ag S S_49 0 := hg_48.tk (dg_Ag.uF e_49 (dk_dq rfl))
                have hJ_49 : dg_Jr alM tFM tAM shM o S_49 1 19 := hJ_48.uF e_49 (dk_dq rfl)
                clear hg_48 hJ_48
                refine lv_aload_n hx hb dX12_init_208 rfl (lv_at hl 0 rfl) ?_
                refine lv_sipush (v := 3200) hx hb dX12_init_209 (by decide +kernel) ?_
                refine dg_size hP (dk_dq rfl) (by first | decide +kernel | (have h9 := hk9; omega)) hsz rfl (fun hz => ?_)
                refine dg_newi hx hb (hts _ (bw_mem wB_1325)) K hP hS hz sM_19 (by decide +kernel) (by decide +kernel) (dk_dq rfl) (Nat.le_of_ble_eq_true rfl) (Nat.le_of_ble_eq_true rfl) dX12_init_212 (fun S_50 e_50 H hP hS hz => ?_)
                as_aux_lemma =>
                  refine W.widen (k := 19) (n := 8450) (Nat.le_of_ble_eq_true rfl) (Nat.le_of_ble_eq_true rfl) ?_
                  have hP : va_P D vwCl (dg_w g (shM.take 20) o rfM S_50) H := hP
                  have hg_50 : dg_Ag S S_50 0 := hg_49.tk (dg_Ag.uf e_50 (dk_dq rfl))
                  have hJ_50 : dg_Jr alM tFM tAM shM o S_50 1 20 := (hJ_49.Ag (dg_Ag.uf e_50 (Nat.le_refl _)) (Nat.le_refl _)).ext (dg_Jr.one (dg_Jc.row sM_19 rfl (dg_uf_at e_50) (by intro t h; have h2 : tAM[19]? = some (1, 0, 9999) := (by decide +kernel); rw [h2] at h; cases h; exact fun _ => (dk_dq rfl))))
                  clear hg_49 hJ_49
                  refine dg_putF (ci := 12) (v := .ref (o + 19)) (ty := tyX12 31) (C := RX12) (T := TX12) (N := 77) hx hb hts (fun w h => bw_mem (wU_X12 w h)) tyX12 tyX12_ok nmX12 hown K hP hS (hA1 _) (dg_tk sM_0 (dk_dq rfl)) rfl 31 (dk_dq rfl) (hts _ (bw_mem wB_403)) (fun _ h9 => h9) rfl hin rfl (by decide +kernel) rfl rfl dX12_init_214 (fun S_51 e_51 H locs hP hS => ?_)
                  have hg_51 : dg_Ag S S_51 0 := hg_50.tk (dg_Ag.uF e_51 (dk_dq rfl))
                  have hJ_51 : dg_Jr alM tFM tAM shM o S_51 1 20 := hJ_50.uF e_51 (dk_dq rfl)
                  clear hg_50 hJ_50
                  refine lv_aload_n hx hb dX12_init_217 rfl (lv_at hl 0 rfl) ?_
                  refine lv_bipush (v := 12) hx hb dX12_init_218 (by decide +kernel) ?_
                  refine dg_size hP (dk_dq rfl) (by first | decide +kernel | (have h9 := hk9; omega)) hsz rfl (fun hz => ?_)
                  refine dg_newl hx hb (hts _ (bw_mem wB_1398)) K hP hS hz sM_20 (by decide +kernel) (by decide +kernel) (dk_dq rfl) (Nat.le_of_ble_eq_true rfl) (Nat.le_of_ble_eq_true rfl) dX12_init_220 (fun S_52 e_52 H hP hS hz => ?_)
                  refine W.widen (k := 20) (n := 8462) (Nat.le_of_ble_eq_true rfl) (Nat.le_of_ble_eq_true rfl) ?_
                  have hP : va_P D vwCl (dg_w g (shM.take 21) o rfM S_52) H := hP
                  have hg_52 : dg_Ag S S_52 0 := hg_51.tk (dg_Ag.ul e_52 (dk_dq rfl))
                  have hJ_52 : dg_Jr alM tFM tAM shM o S_52 1 21 := (hJ_51.Ag (dg_Ag.ul e_52 (Nat.le_refl _)) (Nat.le_refl _)).ext (dg_Jr.one (dg_Jc.rowx sM_20 rfl (by intro t h; have h2 : tAM[20]? = some (0, 0, 0) := (by decide +kernel); rw [h2] at h; cases h; rfl)))
                  clear hg_51 hJ_51
                  refine dg_putF (ci := 12) (v := .ref (o + 20)) (ty := tyX12 32) (C := RX12) (T := TX12) (N := 77) hx hb hts (fun w h => bw_mem (wU_X12 w h)) tyX12 tyX12_ok nmX12 hown K hP hS (hA1 _) (dg_tk sM_0 (dk_dq rfl)) rfl 32 (dk_dq rfl) (hts _ (bw_mem wB_354)) (fun _ h9 => h9) rfl hin rfl (by decide +kernel) rfl rfl dX12_init_222 (fun S_53 e_53 H locs hP hS => ?_)
                  have hg_53 : dg_Ag S S_53 0 := hg_52.tk (dg_Ag.uF e_53 (dk_dq rfl))
                  have hJ_53 : dg_Jr alM tFM tAM shM o S_53 1 21 := hJ_52.uF e_53 (dk_dq rfl)
                  clear hg_52 hJ_52
                  refine lv_aload_n hx hb dX12_init_225 rfl (lv_at hl 0 rfl) ?_
                  refine lv_bipush (v := 10) hx hb dX12_init_226 (by decide +kernel) ?_
                  refine dg_size hP (dk_dq rfl) (by first | decide +kernel | (have h9 := hk9; omega)) hsz rfl (fun hz => ?_)
                  refine dg_newl hx hb (hts _ (bw_mem wB_1398)) K hP hS hz sM_21 (by decide +kernel) (by decide +kernel) (dk_dq rfl) (Nat.le_of_ble_eq_true rfl) (Nat.le_of_ble_eq_true rfl) dX12_init_228 (fun S_54 e_54 H hP hS hz => ?_)
                  refine W.widen (k := 21) (n := 8472) (Nat.le_of_ble_eq_true rfl) (Nat.le_of_ble_eq_true rfl) ?_
                  have hP : va_P D vwCl (dg_w g (shM.take 22) o rfM S_54) H := hP
                  have hg_54 : dg_Ag S S_54 0 := hg_53.tk (dg_Ag.ul e_54 (dk_dq rfl))
                  have hJ_54 : dg_Jr alM tFM tAM shM o S_54 1 22 := (hJ_53.Ag (dg_Ag.ul e_54 (Nat.le_refl _)) (Nat.le_refl _)).ext (dg_Jr.one (dg_Jc.rowx sM_21 rfl (by intro t h; have h2 : tAM[21]? = some (0, 0, 0) := (by decide +kernel); rw [h2] at h; cases h; rfl)))
                  clear hg_53 hJ_53
                  refine dg_putF (ci := 12) (v := .ref (o + 21)) (ty := tyX12 33) (C := RX12) (T := TX12) (N := 77) hx hb hts (fun w h => bw_mem (wU_X12 w h)) tyX12 tyX12_ok nmX12 hown K hP hS (hA1 _) (dg_tk sM_0 (dk_dq rfl)) rfl 33 (dk_dq rfl) (hts _ (bw_mem wB_360)) (fun _ h9 => h9) rfl hin rfl (by decide +kernel) rfl rfl dX12_init_230 (fun S_55 e_55 H locs hP hS => ?_)
                  have hg_55 : dg_Ag S S_55 0 := hg_54.tk (dg_Ag.uF e_55 (dk_dq rfl))
                  have hJ_55 : dg_Jr alM tFM tAM shM o S_55 1 22 := hJ_54.uF e_55 (dk_dq rfl)
                  clear hg_54 hJ_54
                  refine lv_aload_n hx hb dX12_init_233 rfl (lv_at hl 0 rfl) ?_
                  refine lv_iconst (v := 0) hx hb dX12_init_234 (by decide +kernel) ?_
                  refine dg_put (ci := 12) (v := .int 0) (ty := tyX12 34) (C := RX12) (T := TX12) (N := 77) hx hb hts (fun w h => bw_mem (wU_X12 w h)) tyX12 tyX12_ok nmX12 hown K hP hS (hA1 _) (dg_tk sM_0 (dk_dq rfl)) rfl 34 (dk_dq rfl) (hts _ (bw_mem wB_402)) (fun _ h9 => h9) rfl (by decide +kernel) rfl rfl dX12_init_235 (fun S_56 e_56 H locs hP hS => ?_)
                  have hg_56 : dg_Ag S S_56 0 := hg_55.tk (dg_Ag.uF e_56 (dk_dq rfl))
                  have hJ_56 : dg_Jr alM tFM tAM shM o S_56 1 22 := hJ_55.uF e_56 (dk_dq rfl)
                  clear hg_55 hJ_55
                  as_aux_lemma =>
                    refine lv_aload_n hx hb dX12_init_238 rfl (lv_at hl 0 rfl) ?_
                    refine lv_iconst (v := 1) hx hb dX12_init_239 (by decide +kernel) ?_
                    refine dg_put (ci := 12) (v := .int 1) (ty := tyX12 35) (C := RX12) (T := TX12) (N := 77) hx hb hts (fun w h => bw_mem (wU_X12 w h)) tyX12 tyX12_ok nmX12 hown K hP hS (hA1 _) (dg_tk sM_0 (dk_dq rfl)) rfl 35 (dk_dq rfl) (hts _ (bw_mem wB_353)) (fun _ h9 => h9) rfl (by decide +kernel) rfl rfl dX12_init_240 (fun S_57 e_57 H locs hP hS => ?_)
                    have hg_57 : dg_Ag S S_57 0 := hg_56.tk (dg_Ag.uF e_57 (dk_dq rfl))
                    have hJ_57 : dg_Jr alM tFM tAM shM o S_57 1 22 := hJ_56.uF e_57 (dk_dq rfl)
                    clear hg_56 hJ_56
                    refine lv_aload_n hx hb dX12_init_243 rfl (lv_at hl 0 rfl) ?_
                    refine lv_iconst (v := 0) hx hb dX12_init_244 (by decide +kernel) ?_
                    refine dg_put (ci := 12) (v := .int 0) (ty := tyX12 36) (C := RX12) (T := TX12) (N := 77) hx hb hts (fun w h => bw_mem (wU_X12 w h)) tyX12 tyX12_ok nmX12 hown K hP hS (hA1 _) (dg_tk sM_0 (dk_dq rfl)) rfl 36 (dk_dq rfl) (hts _ (bw_mem wB_434)) (fun _ h9 => h9) rfl (by decide +kernel) rfl rfl dX12_init_245 (fun S_58 e_58 H locs hP hS => ?_)
                    have hg_58 : dg_Ag S S_58 0 := hg_57.tk (dg_Ag.uF e_58 (dk_dq rfl))
                    have hJ_58 : dg_Jr alM tFM tAM shM o S_58 1 22 := hJ_57.uF e_58 (dk_dq rfl)
                    clear hg_57 hJ_57
                    refine lv_aload_n hx hb dX12_init_248 rfl (lv_at hl 0 rfl) ?_
                    refine lv_bipush (v := 20) hx hb dX12_init_249 (by decide +kernel) ?_
                    refine dg_size hP (dk_dq rfl) (by first | decide +kernel | (have h9 := hk9; omega)) hsz rfl (fun hz => ?_)
                    refine dg_newi hx hb (hts _ (bw_mem wB_1325)) K hP hS hz sM_22 (by decide +kernel) (by decide +kernel) (dk_dq rfl) (Nat.le_of_ble_eq_true rfl) (Nat.le_of_ble_eq_true rfl) dX12_init_251 (fun S_59 e_59 H hP hS hz => ?_)
                    refine W.widen (k := 22) (n := 8492) (Nat.le_of_ble_eq_true rfl) (Nat.le_of_ble_eq_true rfl) ?_
                    have hP : va_P D vwCl (dg_w g (shM.take 23) o rfM S_59) H := hP
                    have hg_59 : dg_Ag S S_59 0 := hg_58.tk (dg_Ag.uf e_59 (dk_dq rfl))
                    have hJ_59 : dg_Jr alM tFM tAM shM o S_59 1 23 := (hJ_58.Ag (dg_Ag.uf e_59 (Nat.le_refl _)) (Nat.le_refl _)).ext (dg_Jr.one (dg_Jc.row sM_22 rfl (dg_uf_at e_59) (by intro t h; have h2 : tAM[22]? = some (1, 0, 6) := (by decide +kernel); rw [h2] at h; cases h; exact fun _ => (dk_dq rfl))))
                    clear hg_58 hJ_58
                    refine dg_putF (ci := 12) (v := .ref (o + 22)) (ty := tyX12 37) (C := RX12) (T := TX12) (N := 77) hx hb hts (fun w h => bw_mem (wU_X12 w h)) tyX12 tyX12_ok nmX12 hown K hP hS (hA1 _) (dg_tk sM_0 (dk_dq rfl)) rfl 37 (dk_dq rfl) (hts _ (bw_mem wB_416)) (fun _ h9 => h9) rfl hin rfl (by decide +kernel) rfl rfl dX12_init_253 (fun S_60 e_60 H locs hP hS => ?_)
                    have hg_60 : dg_Ag S S_60 0 := hg_59.tk (dg_Ag.uF e_60 (dk_dq rfl))
                    have hJ_60 : dg_Jr alM tFM tAM shM o S_60 1 23 := hJ_59.uF e_60 (dk_dq rfl)
                    clear hg_59 hJ_59
                    refine lv_aload_n hx hb dX12_init_256 rfl (lv_at hl 0 rfl) ?_
                    refine lv_bipush (v := 20) hx hb dX12_init_257 (by decide +kernel) ?_
                    refine dg_size hP (dk_dq rfl) (by first | decide +kernel | (have h9 := hk9; omega)) hsz rfl (fun hz => ?_)
                    refine dg_newi hx hb (hts _ (bw_mem wB_1325)) K hP hS hz sM_23 (by decide +kernel) (by decide +kernel) (dk_dq rfl) (Nat.le_of_ble_eq_true rfl) (Nat.le_of_ble_eq_true rfl) dX12_init_259 (fun S_61 e_61 H hP hS hz => ?_)
                    refine W.widen (k := 23) (n := 8512) (Nat.le_of_ble_eq_true rfl) (Nat.le_of_ble_eq_true rfl) ?_
                    have hP : va_P D vwCl (dg_w g (shM.take 24) o rfM S_61) H := hP
                    have hg_61 : dg_Ag S S_61 0 := hg_60.tk (dg_Ag.uf e_61 (dk_dq rfl))
                    have hJ_61 : dg_Jr alM tFM tAM shM o S_61 1 24 := (hJ_60.Ag (dg_Ag.uf e_61 (Nat.le_refl _)) (Nat.le_refl _)).ext (dg_Jr.one (dg_Jc.row sM_23 rfl (dg_uf_at e_61) (by intro t h; have h2 : tAM[23]? = some (1, 0, 2) := (by decide +kernel); rw [h2] at h; cases h; exact fun _ => (dk_dq rfl))))
                    clear hg_60 hJ_60
                    refine dg_putF (ci := 12) (v := .ref (o + 23)) (ty := tyX12 38) (C := RX12) (T := TX12) (N := 77) hx hb hts (fun w h => bw_mem (wU_X12 w h)) tyX12 tyX12_ok nmX12 hown K hP hS (hA1 _) (dg_tk sM_0 (dk_dq rfl)) rfl 38 (dk_dq rfl) (hts _ (bw_mem wB_417)) (fun _ h9 => h9) rfl hin rfl (by decide +kernel) rfl rfl dX12_init_261 (fun S_62 e_62 H locs hP hS => ?_)
                    have hg_62 : dg_Ag S S_62 0 := hg_61.tk (dg_Ag.uF e_62 (dk_dq rfl))
                    have hJ_62 : dg_Jr alM tFM tAM shM o S_62 1 24 := hJ_61.uF e_62 (dk_dq rfl)
                    clear hg_61 hJ_61
                    refine lv_aload_n hx hb dX12_init_264 rfl (lv_at hl 0 rfl) ?_
                    refine lv_bipush (v := 20) hx hb dX12_init_265 (by decide +kernel) ?_
                    as_aux_lemma =>
                      refine dg_size hP (dk_dq rfl) (by first | decide +kernel | (have h9 := hk9; omega)) hsz rfl (fun hz => ?_)
                      refine dg_newz hx hb (hts _ (bw_mem wB_1399)) K hP hS hz sM_24 (by decide +kernel) (by decide +kernel) (dk_dq rfl) (Nat.le_of_ble_eq_true rfl) (Nat.le_of_ble_eq_true rfl) dX12_init_267 (fun S_63 e_63 H hP hS hz => ?_)
                      refine W.widen (k := 24) (n := 8532) (Nat.le_of_ble_eq_true rfl) (Nat.le_of_ble_eq_true rfl) ?_
                      have hP : va_P D vwCl (dg_w g (shM.take 25) o rfM S_63) H := hP
                      have hg_63 : dg_Ag S S_63 0 := hg_62.tk (dg_Ag.uf e_63 (dk_dq rfl))
                      have hJ_63 : dg_Jr alM tFM tAM shM o S_63 1 25 := (hJ_62.Ag (dg_Ag.uf e_63 (Nat.le_refl _)) (Nat.le_refl _)).ext (dg_Jr.one (dg_Jc.row sM_24 rfl (dg_uf_at e_63) (by intro t h; have h2 : tAM[24]? = some (1, 0, 1) := (by decide +kernel); rw [h2] at h; cases h; exact fun _ => (dk_dq rfl))))
                      clear hg_62 hJ_62
                      refine dg_putF (ci := 12) (v := .ref (o + 24)) (ty := tyX12 39) (C := RX12) (T := TX12) (N := 77) hx hb hts (fun w h => bw_mem (wU_X12 w h)) tyX12 tyX12_ok nmX12 hown K hP hS (hA1 _) (dg_tk sM_0 (dk_dq rfl)) rfl 39 (dk_dq rfl) (hts _ (bw_mem wB_418)) (fun _ h9 => h9) rfl hin rfl (by decide +kernel) rfl rfl dX12_init_269 (fun S_64 e_64 H locs hP hS => ?_)
                      have hg_64 : dg_Ag S S_64 0 := hg_63.tk (dg_Ag.uF e_64 (dk_dq rfl))
                      have hJ_64 : dg_Jr alM tFM tAM shM o S_64 1 25 := hJ_63.uF e_64 (dk_dq rfl)
                      clear hg_63 hJ_63
                      refine lv_aload_n hx hb dX12_init_272 rfl (lv_at hl 0 rfl) ?_
                      refine lv_bipush (v := 20) hx hb dX12_init_273 (by decide +kernel) ?_
                      refine dg_size hP (dk_dq rfl) (by first | decide +kernel | (have h9 := hk9; omega)) hsz rfl (fun hz => ?_)
                      refine dg_newi hx hb (hts _ (bw_mem wB_1325)) K hP hS hz sM_25 (by decide +kernel) (by decide +kernel) (dk_dq rfl) (Nat.le_of_ble_eq_true rfl) (Nat.le_of_ble_eq_true rfl) dX12_init_275 (fun S_65 e_65 H hP hS hz => ?_)
                      refine W.widen (k := 25) (n := 8552) (Nat.le_of_ble_eq_true rfl) (Nat.le_of_ble_eq_true rfl) ?_
                      have hP : va_P D vwCl (dg_w g (shM.take 26) o rfM S_65) H := hP
                      have hg_65 : dg_Ag S S_65 0 := hg_64.tk (dg_Ag.uf e_65 (dk_dq rfl))
                      have hJ_65 : dg_Jr alM tFM tAM shM o S_65 1 26 := (hJ_64.Ag (dg_Ag.uf e_65 (Nat.le_refl _)) (Nat.le_refl _)).ext (dg_Jr.one (dg_Jc.row sM_25 rfl (dg_uf_at e_65) (by intro t h; have h2 : tAM[25]? = some (0, 0, 0) := (by decide +kernel); rw [h2] at h; cases h; exact fun _ => (dk_dq rfl))))
                      clear hg_64 hJ_64
                      refine dg_putF (ci := 12) (v := .ref (o + 25)) (ty := tyX12 40) (C := RX12) (T := TX12) (N := 77) hx hb hts (fun w h => bw_mem (wU_X12 w h)) tyX12 tyX12_ok nmX12 hown K hP hS (hA1 _) (dg_tk sM_0 (dk_dq rfl)) rfl 40 (dk_dq rfl) (hts _ (bw_mem wB_435)) (fun _ h9 => h9) rfl hin rfl (by decide +kernel) rfl rfl dX12_init_277 (fun S_66 e_66 H locs hP hS => ?_)
                      have hg_66 : dg_Ag S S_66 0 := hg_65.tk (dg_Ag.uF e_66 (dk_dq rfl))
                      have hJ_66 : dg_Jr alM tFM tAM shM o S_66 1 26 := hJ_65.uF e_66 (dk_dq rfl)
                      clear hg_65 hJ_65
                      refine lv_aload_n hx hb dX12_init_280 rfl (lv_at hl 0 rfl) ?_
                      refine lv_bipush (v := 20) hx hb dX12_init_281 (by decide +kernel) ?_
                      refine dg_size hP (dk_dq rfl) (by first | decide +kernel | (have h9 := hk9; omega)) hsz rfl (fun hz => ?_)
                      refine dg_newi hx hb (hts _ (bw_mem wB_1325)) K hP hS hz sM_26 (by decide +kernel) (by decide +kernel) (dk_dq rfl) (Nat.le_of_ble_eq_true rfl) (Nat.le_of_ble_eq_true rfl) dX12_init_283 (fun S_67 e_67 H hP hS hz => ?_)
                      refine W.widen (k := 26) (n := 8572) (Nat.le_of_ble_eq_true rfl) (Nat.le_of_ble_eq_true rfl) ?_
                      have hP : va_P D vwCl (dg_w g (shM.take 27) o rfM S_67) H := hP
                      have hg_67 : dg_Ag S S_67 0 := hg_66.tk (dg_Ag.uf e_67 (dk_dq rfl))
                      have hJ_67 : dg_Jr alM tFM tAM shM o S_67 1 27 := (hJ_66.Ag (dg_Ag.uf e_67 (Nat.le_refl _)) (Nat.le_refl _)).ext (dg_Jr.one (dg_Jc.row sM_26 rfl (dg_uf_at e_67) (by intro t h; have h2 : tAM[26]? = some (1, 0, 500) := (by decide +kernel); rw [h2] at h; cases h; exact fun _ => (dk_dq rfl))))
                      clear hg_66 hJ_66
                      refine dg_putF (ci := 12) (v := .ref (o + 26)) (ty := tyX12 41) (C := RX12) (T := TX12) (N := 77) hx hb hts (fun w h => bw_mem (wU_X12 w h)) tyX12 tyX12_ok nmX12 hown K hP hS (hA1 _) (dg_tk sM_0 (dk_dq rfl)) rfl 41 (dk_dq rfl) (hts _ (bw_mem wB_405)) (fun _ h9 => h9) rfl hin rfl (by decide +kernel) rfl rfl dX12_init_285 (fun S_68 e_68 H locs hP hS => ?_)
                      have hg_68 : dg_Ag S S_68 0 := hg_67.tk (dg_Ag.uF e_68 (dk_dq rfl))
                      have hJ_68 : dg_Jr alM tFM tAM shM o S_68 1 27 := hJ_67.uF e_68 (dk_dq rfl)
                      clear hg_67 hJ_67
                      refine lv_aload_n hx hb dX12_init_288 rfl (lv_at hl 0 rfl) ?_
                      refine lv_iconst (v := 0) hx hb dX12_init_289 (by decide +kernel) ?_
                      refine dg_put (ci := 12) (v := .int 0) (ty := tyX12 42) (C := RX12) (T := TX12) (N := 77) hx hb hts (fun w h => bw_mem (wU_X12 w h)) tyX12 tyX12_ok nmX12 hown K hP hS (hA1 _) (dg_tk sM_0 (dk_dq rfl)) rfl 42 (dk_dq rfl) (hts _ (bw_mem wB_406)) (fun _ h9 => h9) rfl (by decide +kernel) rfl rfl dX12_init_290 (fun S_69 e_69 H locs hP hS => ?_)
                      have hg_69 : dg_Ag S S_69 0 := hg_68.tk (dg_Ag.uF e_69 (dk_dq rfl))
                      have hJ_69 : dg_Jr alM tFM tAM shM o S_69 1 27 := hJ_68.uF e_69 (dk_dq rfl)
                      clear hg_68 hJ_68
                      as_aux_lemma =>
                        refine lv_aload_n hx hb dX12_init_293 rfl (lv_at hl 0 rfl) ?_
                        refine lv_iconst (v := 0) hx hb dX12_init_294 (by decide +kernel) ?_
                        refine dg_put (ci := 12) (v := .int 0) (ty := tyX12 43) (C := RX12) (T := TX12) (N := 77) hx hb hts (fun w h => bw_mem (wU_X12 w h)) tyX12 tyX12_ok nmX12 hown K hP hS (hA1 _) (dg_tk sM_0 (dk_dq rfl)) rfl 43 (dk_dq rfl) (hts _ (bw_mem wB_415)) (fun _ h9 => h9) rfl (by decide +kernel) rfl rfl dX12_init_295 (fun S_70 e_70 H locs hP hS => ?_)
                        have hg_70 : dg_Ag S S_70 0 := hg_69.tk (dg_Ag.uF e_70 (dk_dq rfl))
                        have hJ_70 : dg_Jr alM tFM tAM shM o S_70 1 27 := hJ_69.uF e_70 (dk_dq rfl)
                        clear hg_69 hJ_69
                        refine lv_aload_n hx hb dX12_init_298 rfl (lv_at hl 0 rfl) ?_
                        refine lv_sipush (v := 500) hx hb dX12_init_299 (by decide +kernel) ?_
                        refine dg_size hP (dk_dq rfl) (by first | decide +kernel | (have h9 := hk9; omega)) hsz rfl (fun hz => ?_)
                        refine dg_newi hx hb (hts _ (bw_mem wB_1325)) K hP hS hz sM_27 (by decide +kernel) (by decide +kernel) (dk_dq rfl) (Nat.le_of_ble_eq_true rfl) (Nat.le_of_ble_eq_true rfl) dX12_init_302 (fun S_71 e_71 H hP hS hz => ?_)
                        refine W.widen (k := 27) (n := 9072) (Nat.le_of_ble_eq_true rfl) (Nat.le_of_ble_eq_true rfl) ?_
                        have hP : va_P D vwCl (dg_w g (shM.take 28) o rfM S_71) H := hP
                        have hg_71 : dg_Ag S S_71 0 := hg_70.tk (dg_Ag.uf e_71 (dk_dq rfl))
                        have hJ_71 : dg_Jr alM tFM tAM shM o S_71 1 28 := (hJ_70.Ag (dg_Ag.uf e_71 (Nat.le_refl _)) (Nat.le_refl _)).ext (dg_Jr.one (dg_Jc.row sM_27 rfl (dg_uf_at e_71) (by intro t h; have h2 : tAM[27]? = some (0, 0, 0) := (by decide +kernel); rw [h2] at h; cases h; exact fun _ => (dk_dq rfl))))
                        clear hg_70 hJ_70
                        refine dg_putF (ci := 12) (v := .ref (o + 27)) (ty := tyX12 44) (C := RX12) (T := TX12) (N := 77) hx hb hts (fun w h => bw_mem (wU_X12 w h)) tyX12 tyX12_ok nmX12 hown K hP hS (hA1 _) (dg_tk sM_0 (dk_dq rfl)) rfl 44 (dk_dq rfl) (hts _ (bw_mem wB_407)) (fun _ h9 => h9) rfl hin rfl (by decide +kernel) rfl rfl dX12_init_304 (fun S_72 e_72 H locs hP hS => ?_)
                        have hg_72 : dg_Ag S S_72 0 := hg_71.tk (dg_Ag.uF e_72 (dk_dq rfl))
                        have hJ_72 : dg_Jr alM tFM tAM shM o S_72 1 28 := hJ_71.uF e_72 (dk_dq rfl)
                        clear hg_71 hJ_71
                        refine lv_aload_n hx hb dX12_init_307 rfl (lv_at hl 0 rfl) ?_
                        refine lv_iconst (v := 0) hx hb dX12_init_308 (by decide +kernel) ?_
                        refine dg_put (ci := 12) (v := .int 0) (ty := tyX12 45) (C := RX12) (T := TX12) (N := 77) hx hb hts (fun w h => bw_mem (wU_X12 w h)) tyX12 tyX12_ok nmX12 hown K hP hS (hA1 _) (dg_tk sM_0 (dk_dq rfl)) rfl 45 (dk_dq rfl) (hts _ (bw_mem wB_404)) (fun _ h9 => h9) rfl (by decide +kernel) rfl rfl dX12_init_309 (fun S_73 e_73 H locs hP hS => ?_)
                        have hg_73 : dg_Ag S S_73 0 := hg_72.tk (dg_Ag.uF e_73 (dk_dq rfl))
                        have hJ_73 : dg_Jr alM tFM tAM shM o S_73 1 28 := hJ_72.uF e_73 (dk_dq rfl)
                        clear hg_72 hJ_72
                        refine lv_aload_n hx hb dX12_init_312 rfl (lv_at hl 0 rfl) ?_
                        refine lv_iconst (v := 0) hx hb dX12_init_313 (by decide +kernel) ?_
                        refine dg_put (ci := 12) (v := .int 0) (ty := tyX12 46) (C := RX12) (T := TX12) (N := 77) hx hb hts (fun w h => bw_mem (wU_X12 w h)) tyX12 tyX12_ok nmX12 hown K hP hS (hA1 _) (dg_tk sM_0 (dk_dq rfl)) rfl 46 (dk_dq rfl) (hts _ (bw_mem wB_440)) (fun _ h9 => h9) rfl (by decide +kernel) (by decide +kernel) (by decide +kernel) dX12_init_314 (fun S_74 e_74 H locs hP hS => ?_)
                        have hg_74 : dg_Ag S S_74 0 := hg_73.tk (dg_Ag.uF e_74 (dk_dq rfl))
                        have hJ_74 : dg_Jr alM tFM tAM shM o S_74 1 28 := hJ_73.uF e_74 (dk_dq rfl)
                        clear hg_73 hJ_73
                        refine lv_aload_n hx hb dX12_init_317 rfl (lv_at hl 0 rfl) ?_
                        refine lv_iconst (v := 0) hx hb dX12_init_318 (by decide +kernel) ?_
                        refine dg_put (ci := 12) (v := .int 0) (ty := tyX12 47) (C := RX12) (T := TX12) (N := 77) hx hb hts (fun w h => bw_mem (wU_X12 w h)) tyX12 tyX12_ok nmX12 hown K hP hS (hA1 _) (dg_tk sM_0 (dk_dq rfl)) rfl 47 (dk_dq rfl) (hts _ (bw_mem wB_1084)) (fun _ h9 => h9) rfl (by decide +kernel) (by decide +kernel) (by decide +kernel) dX12_init_319 (fun S_75 e_75 H locs hP hS => ?_)
                        have hg_75 : dg_Ag S S_75 0 := hg_74.tk (dg_Ag.uF e_75 (dk_dq rfl))
                        have hJ_75 : dg_Jr alM tFM tAM shM o S_75 1 28 := hJ_74.uF e_75 (dk_dq rfl)
                        clear hg_74 hJ_74
                        refine lv_aload_n hx hb dX12_init_322 rfl (lv_at hl 0 rfl) ?_
                        refine lv_bipush (v := 6) hx hb dX12_init_323 (by decide +kernel) ?_
                        refine dg_size hP (dk_dq rfl) (by first | decide +kernel | (have h9 := hk9; omega)) hsz rfl (fun hz => ?_)
                        as_aux_lemma =>
                          refine dg_newi hx hb (hts _ (bw_mem wB_1325)) K hP hS hz sM_28 (by decide +kernel) (by decide +kernel) (dk_dq rfl) (Nat.le_of_ble_eq_true rfl) (Nat.le_of_ble_eq_true rfl) dX12_init_325 (fun S_76 e_76 H hP hS hz => ?_)
                          refine W.widen (k := 28) (n := 9078) (Nat.le_of_ble_eq_true rfl) (Nat.le_of_ble_eq_true rfl) ?_
                          have hP : va_P D vwCl (dg_w g (shM.take 29) o rfM S_76) H := hP
                          have hg_76 : dg_Ag S S_76 0 := hg_75.tk (dg_Ag.uf e_76 (dk_dq rfl))
                          have hJ_76 : dg_Jr alM tFM tAM shM o S_76 1 29 := (hJ_75.Ag (dg_Ag.uf e_76 (Nat.le_refl _)) (Nat.le_refl _)).ext (dg_Jr.one (dg_Jc.row sM_28 rfl (dg_uf_at e_76) (by intro t h; have h2 : tAM[28]? = some (0, 0, 0) := (by decide +kernel); rw [h2] at h; cases h; exact fun _ => (dk_dq rfl))))
                          clear hg_75 hJ_75
                          refine dg_putF (ci := 12) (v := .ref (o + 28)) (ty := tyX12 48) (C := RX12) (T := TX12) (N := 77) hx hb hts (fun w h => bw_mem (wU_X12 w h)) tyX12 tyX12_ok nmX12 hown K hP hS (hA1 _) (dg_tk sM_0 (dk_dq rfl)) rfl 48 (dk_dq rfl) (hts _ (bw_mem wB_1073)) (fun _ h9 => h9) rfl hin rfl (by decide +kernel) rfl rfl dX12_init_327 (fun S_77 e_77 H locs hP hS => ?_)
                          have hg_77 : dg_Ag S S_77 0 := hg_76.tk (dg_Ag.uF e_77 (dk_dq rfl))
                          have hJ_77 : dg_Jr alM tFM tAM shM o S_77 1 29 := hJ_76.uF e_77 (dk_dq rfl)
                          clear hg_76 hJ_76
                          refine lv_aload_n hx hb dX12_init_330 rfl (lv_at hl 0 rfl) ?_
                          refine lv_bipush (v := 22) hx hb dX12_init_331 (by decide +kernel) ?_
                          refine dg_size hP (dk_dq rfl) (by first | decide +kernel | (have h9 := hk9; omega)) hsz rfl (fun hz => ?_)
                          refine dg_newi hx hb (hts _ (bw_mem wB_1325)) K hP hS hz sM_29 (by decide +kernel) (by decide +kernel) (dk_dq rfl) (Nat.le_of_ble_eq_true rfl) (Nat.le_of_ble_eq_true rfl) dX12_init_333 (fun S_78 e_78 H hP hS hz => ?_)
                          refine W.widen (k := 29) (n := 9100) (Nat.le_of_ble_eq_true rfl) (Nat.le_of_ble_eq_true rfl) ?_
                          have hP : va_P D vwCl (dg_w g (shM.take 30) o rfM S_78) H := hP
                          have hg_78 : dg_Ag S S_78 0 := hg_77.tk (dg_Ag.uf e_78 (dk_dq rfl))
                          have hJ_78 : dg_Jr alM tFM tAM shM o S_78 1 30 := (hJ_77.Ag (dg_Ag.uf e_78 (Nat.le_refl _)) (Nat.le_refl _)).ext (dg_Jr.one (dg_Jc.row sM_29 rfl (dg_uf_at e_78) (by intro t h; have h2 : tAM[29]? = some (1, 0, 2000) := (by decide +kernel); rw [h2] at h; cases h; exact fun _ => (dk_dq rfl))))
                          clear hg_77 hJ_77
                          refine dg_putF (ci := 12) (v := .ref (o + 29)) (ty := tyX12 49) (C := RX12) (T := TX12) (N := 77) hx hb hts (fun w h => bw_mem (wU_X12 w h)) tyX12 tyX12_ok nmX12 hown K hP hS (hA1 _) (dg_tk sM_0 (dk_dq rfl)) rfl 49 (dk_dq rfl) (hts _ (bw_mem wB_1108)) (fun _ h9 => h9) rfl hin rfl (by decide +kernel) rfl rfl dX12_init_335 (fun S_79 e_79 H locs hP hS => ?_)
                          have hg_79 : dg_Ag S S_79 0 := hg_78.tk (dg_Ag.uF e_79 (dk_dq rfl))
                          have hJ_79 : dg_Jr alM tFM tAM shM o S_79 1 30 := hJ_78.uF e_79 (dk_dq rfl)
                          clear hg_78 hJ_78
                          refine lv_aload_n hx hb dX12_init_338 rfl (lv_at hl 0 rfl) ?_
                          refine lv_bipush (v := 22) hx hb dX12_init_339 (by decide +kernel) ?_
                          refine dg_size hP (dk_dq rfl) (by first | decide +kernel | (have h9 := hk9; omega)) hsz rfl (fun hz => ?_)
                          refine dg_newi hx hb (hts _ (bw_mem wB_1325)) K hP hS hz sM_30 (by decide +kernel) (by decide +kernel) (dk_dq rfl) (Nat.le_of_ble_eq_true rfl) (Nat.le_of_ble_eq_true rfl) dX12_init_341 (fun S_80 e_80 H hP hS hz => ?_)
                          refine W.widen (k := 30) (n := 9122) (Nat.le_of_ble_eq_true rfl) (Nat.le_of_ble_eq_true rfl) ?_
                          have hP : va_P D vwCl (dg_w g (shM.take 31) o rfM S_80) H := hP
                          have hg_80 : dg_Ag S S_80 0 := hg_79.tk (dg_Ag.uf e_80 (dk_dq rfl))
                          have hJ_80 : dg_Jr alM tFM tAM shM o S_80 1 31 := (hJ_79.Ag (dg_Ag.uf e_80 (Nat.le_refl _)) (Nat.le_refl _)).ext (dg_Jr.one (dg_Jc.row sM_30 rfl (dg_uf_at e_80) (by intro t h; have h2 : tAM[30]? = some (0, 0, 0) := (by decide +kernel); rw [h2] at h; cases h; exact fun _ => (dk_dq rfl))))
                          clear hg_79 hJ_79
                          refine dg_putF (ci := 12) (v := .ref (o + 30)) (ty := tyX12 50) (C := RX12) (T := TX12) (N := 77) hx hb hts (fun w h => bw_mem (wU_X12 w h)) tyX12 tyX12_ok nmX12 hown K hP hS (hA1 _) (dg_tk sM_0 (dk_dq rfl)) rfl 50 (dk_dq rfl) (hts _ (bw_mem wB_1129)) (fun _ h9 => h9) rfl hin rfl (by decide +kernel) rfl rfl dX12_init_343 (fun S_81 e_81 H locs hP hS => ?_)
                          have hg_81 : dg_Ag S S_81 0 := hg_80.tk (dg_Ag.uF e_81 (dk_dq rfl))
                          have hJ_81 : dg_Jr alM tFM tAM shM o S_81 1 31 := hJ_80.uF e_81 (dk_dq rfl)
                          clear hg_80 hJ_80
                          refine lv_aload_n hx hb dX12_init_346 rfl (lv_at hl 0 rfl) ?_
                          refine lv_sipush (v := 1408) hx hb dX12_init_347 (by decide +kernel) ?_
                          refine dg_size hP (dk_dq rfl) (by first | decide +kernel | (have h9 := hk9; omega)) hsz rfl (fun hz => ?_)
                          refine dg_newi hx hb (hts _ (bw_mem wB_1325)) K hP hS hz sM_31 (by decide +kernel) (by decide +kernel) (dk_dq rfl) (Nat.le_of_ble_eq_true rfl) (Nat.le_of_ble_eq_true rfl) dX12_init_350 (fun S_82 e_82 H hP hS hz => ?_)
                          as_aux_lemma =>
                            refine W.widen (k := 31) (n := 10530) (Nat.le_of_ble_eq_true rfl) (Nat.le_of_ble_eq_true rfl) ?_
                            have hP : va_P D vwCl (dg_w g (shM.take 32) o rfM S_82) H := hP
                            have hg_82 : dg_Ag S S_82 0 := hg_81.tk (dg_Ag.uf e_82 (dk_dq rfl))
                            have hJ_82 : dg_Jr alM tFM tAM shM o S_82 1 32 := (hJ_81.Ag (dg_Ag.uf e_82 (Nat.le_refl _)) (Nat.le_refl _)).ext (dg_Jr.one (dg_Jc.row sM_31 rfl (dg_uf_at e_82) (by intro t h; have h2 : tAM[31]? = some (1, (-1), 9) := (by decide +kernel); rw [h2] at h; cases h; exact fun _ => (dk_dq rfl))))
                            clear hg_81 hJ_81
                            refine dg_putF (ci := 12) (v := .ref (o + 31)) (ty := tyX12 51) (C := RX12) (T := TX12) (N := 77) hx hb hts (fun w h => bw_mem (wU_X12 w h)) tyX12 tyX12_ok nmX12 hown K hP hS (hA1 _) (dg_tk sM_0 (dk_dq rfl)) rfl 51 (dk_dq rfl) (hts _ (bw_mem wB_1090)) (fun _ h9 => h9) rfl hin rfl (by decide +kernel) rfl rfl dX12_init_352 (fun S_83 e_83 H locs hP hS => ?_)
                            have hg_83 : dg_Ag S S_83 0 := hg_82.tk (dg_Ag.uF e_83 (dk_dq rfl))
                            have hJ_83 : dg_Jr alM tFM tAM shM o S_83 1 32 := hJ_82.uF e_83 (dk_dq rfl)
                            clear hg_82 hJ_82
                            refine lv_aload_n hx hb dX12_init_355 rfl (lv_at hl 0 rfl) ?_
                            refine lv_sipush (v := 1408) hx hb dX12_init_356 (by decide +kernel) ?_
                            refine dg_size hP (dk_dq rfl) (by first | decide +kernel | (have h9 := hk9; omega)) hsz rfl (fun hz => ?_)
                            refine dg_newi hx hb (hts _ (bw_mem wB_1325)) K hP hS hz sM_32 (by decide +kernel) (by decide +kernel) (dk_dq rfl) (Nat.le_of_ble_eq_true rfl) (Nat.le_of_ble_eq_true rfl) dX12_init_359 (fun S_84 e_84 H hP hS hz => ?_)
                            refine W.widen (k := 32) (n := 11938) (Nat.le_of_ble_eq_true rfl) (Nat.le_of_ble_eq_true rfl) ?_
                            have hP : va_P D vwCl (dg_w g (shM.take 33) o rfM S_84) H := hP
                            have hg_84 : dg_Ag S S_84 0 := hg_83.tk (dg_Ag.uf e_84 (dk_dq rfl))
                            have hJ_84 : dg_Jr alM tFM tAM shM o S_84 1 33 := (hJ_83.Ag (dg_Ag.uf e_84 (Nat.le_refl _)) (Nat.le_refl _)).ext (dg_Jr.one (dg_Jc.row sM_32 rfl (dg_uf_at e_84) (by intro t h; have h2 : tAM[32]? = some (0, 0, 0) := (by decide +kernel); rw [h2] at h; cases h; exact fun _ => (dk_dq rfl))))
                            clear hg_83 hJ_83
                            refine dg_putF (ci := 12) (v := .ref (o + 32)) (ty := tyX12 52) (C := RX12) (T := TX12) (N := 77) hx hb hts (fun w h => bw_mem (wU_X12 w h)) tyX12 tyX12_ok nmX12 hown K hP hS (hA1 _) (dg_tk sM_0 (dk_dq rfl)) rfl 52 (dk_dq rfl) (hts _ (bw_mem wB_1097)) (fun _ h9 => h9) rfl hin rfl (by decide +kernel) rfl rfl dX12_init_361 (fun S_85 e_85 H locs hP hS => ?_)
                            have hg_85 : dg_Ag S S_85 0 := hg_84.tk (dg_Ag.uF e_85 (dk_dq rfl))
                            have hJ_85 : dg_Jr alM tFM tAM shM o S_85 1 33 := hJ_84.uF e_85 (dk_dq rfl)
                            clear hg_84 hJ_84
                            refine lv_aload_n hx hb dX12_init_364 rfl (lv_at hl 0 rfl) ?_
                            refine lv_bipush (v := 22) hx hb dX12_init_365 (by decide +kernel) ?_
                            refine dg_size hP (dk_dq rfl) (by first | decide +kernel | (have h9 := hk9; omega)) hsz rfl (fun hz => ?_)
                            refine dg_newi hx hb (hts _ (bw_mem wB_1325)) K hP hS hz sM_33 (by decide +kernel) (by decide +kernel) (dk_dq rfl) (Nat.le_of_ble_eq_true rfl) (Nat.le_of_ble_eq_true rfl) dX12_init_367 (fun S_86 e_86 H hP hS hz => ?_)
                            refine W.widen (k := 33) (n := 11960) (Nat.le_of_ble_eq_true rfl) (Nat.le_of_ble_eq_true rfl) ?_
                            have hP : va_P D vwCl (dg_w g (shM.take 34) o rfM S_86) H := hP
                            have hg_86 : dg_Ag S S_86 0 := hg_85.tk (dg_Ag.uf e_86 (dk_dq rfl))
                            have hJ_86 : dg_Jr alM tFM tAM shM o S_86 1 34 := (hJ_85.Ag (dg_Ag.uf e_86 (Nat.le_refl _)) (Nat.le_refl _)).ext (dg_Jr.one (dg_Jc.row sM_33 rfl (dg_uf_at e_86) (by intro t h; have h2 : tAM[33]? = some (0, 0, 0) := (by decide +kernel); rw [h2] at h; cases h; exact fun _ => (dk_dq rfl))))
                            clear hg_85 hJ_85
                            refine dg_putF (ci := 12) (v := .ref (o + 33)) (ty := tyX12 53) (C := RX12) (T := TX12) (N := 77) hx hb hts (fun w h => bw_mem (wU_X12 w h)) tyX12 tyX12_ok nmX12 hown K hP hS (hA1 _) (dg_tk sM_0 (dk_dq rfl)) rfl 53 (dk_dq rfl) (hts _ (bw_mem wB_1130)) (fun _ h9 => h9) rfl hin rfl (by decide +kernel) rfl rfl dX12_init_369 (fun S_87 e_87 H locs hP hS => ?_)
                            have hg_87 : dg_Ag S S_87 0 := hg_86.tk (dg_Ag.uF e_87 (dk_dq rfl))
                            have hJ_87 : dg_Jr alM tFM tAM shM o S_87 1 34 := hJ_86.uF e_87 (dk_dq rfl)
                            clear hg_86 hJ_86
                            refine lv_aload_n hx hb dX12_init_372 rfl (lv_at hl 0 rfl) ?_
                            refine lv_bipush (v := 22) hx hb dX12_init_373 (by decide +kernel) ?_
                            refine dg_size hP (dk_dq rfl) (by first | decide +kernel | (have h9 := hk9; omega)) hsz rfl (fun hz => ?_)
                            refine dg_newi hx hb (hts _ (bw_mem wB_1325)) K hP hS hz sM_34 (by decide +kernel) (by decide +kernel) (dk_dq rfl) (Nat.le_of_ble_eq_true rfl) (Nat.le_of_ble_eq_true rfl) dX12_init_375 (fun S_88 e_88 H hP hS hz => ?_)
                            refine W.widen (k := 34) (n := 11982) (Nat.le_of_ble_eq_true rfl) (Nat.le_of_ble_eq_true rfl) ?_
                            have hP : va_P D vwCl (dg_w g (shM.take 35) o rfM S_88) H := hP
                            have hg_88 : dg_Ag S S_88 0 := hg_87.tk (dg_Ag.uf e_88 (dk_dq rfl))
                            have hJ_88 : dg_Jr alM tFM tAM shM o S_88 1 35 := (hJ_87.Ag (dg_Ag.uf e_88 (Nat.le_refl _)) (Nat.le_refl _)).ext (dg_Jr.one (dg_Jc.row sM_34 rfl (dg_uf_at e_88) (by intro t h; have h2 : tAM[34]? = some (0, 0, 0) := (by decide +kernel); rw [h2] at h; cases h; exact fun _ => (dk_dq rfl))))
                            clear hg_87 hJ_87
                            as_aux_lemma =>
                              refine dg_putF (ci := 12) (v := .ref (o + 34)) (ty := tyX12 54) (C := RX12) (T := TX12) (N := 77) hx hb hts (fun w h => bw_mem (wU_X12 w h)) tyX12 tyX12_ok nmX12 hown K hP hS (hA1 _) (dg_tk sM_0 (dk_dq rfl)) rfl 54 (dk_dq rfl) (hts _ (bw_mem wB_1131)) (fun _ h9 => h9) rfl hin rfl (by decide +kernel) rfl rfl dX12_init_377 (fun S_89 e_89 H locs hP hS => ?_)
                              have hg_89 : dg_Ag S S_89 0 := hg_88.tk (dg_Ag.uF e_89 (dk_dq rfl))
                              have hJ_89 : dg_Jr alM tFM tAM shM o S_89 1 35 := hJ_88.uF e_89 (dk_dq rfl)
                              clear hg_88 hJ_88
                              refine lv_aload_n hx hb dX12_init_380 rfl (lv_at hl 0 rfl) ?_
                              refine lv_sipush (v := 352) hx hb dX12_init_381 (by decide +kernel) ?_
                              refine dg_size hP (dk_dq rfl) (by first | decide +kernel | (have h9 := hk9; omega)) hsz rfl (fun hz => ?_)
                              refine dg_newi hx hb (hts _ (bw_mem wB_1325)) K hP hS hz sM_35 (by decide +kernel) (by decide +kernel) (dk_dq rfl) (Nat.le_of_ble_eq_true rfl) (Nat.le_of_ble_eq_true rfl) dX12_init_384 (fun S_90 e_90 H hP hS hz => ?_)
                              refine W.widen (k := 35) (n := 12334) (Nat.le_of_ble_eq_true rfl) (Nat.le_of_ble_eq_true rfl) ?_
                              have hP : va_P D vwCl (dg_w g (shM.take 36) o rfM S_90) H := hP
                              have hg_90 : dg_Ag S S_90 0 := hg_89.tk (dg_Ag.uf e_90 (dk_dq rfl))
                              have hJ_90 : dg_Jr alM tFM tAM shM o S_90 1 36 := (hJ_89.Ag (dg_Ag.uf e_90 (Nat.le_refl _)) (Nat.le_refl _)).ext (dg_Jr.one (dg_Jc.row sM_35 rfl (dg_uf_at e_90) (by intro t h; have h2 : tAM[35]? = some (0, 0, 0) := (by decide +kernel); rw [h2] at h; cases h; exact fun _ => (dk_dq rfl))))
                              clear hg_89 hJ_89
                              refine dg_putF (ci := 12) (v := .ref (o + 35)) (ty := tyX12 55) (C := RX12) (T := TX12) (N := 77) hx hb hts (fun w h => bw_mem (wU_X12 w h)) tyX12 tyX12_ok nmX12 hown K hP hS (hA1 _) (dg_tk sM_0 (dk_dq rfl)) rfl 55 (dk_dq rfl) (hts _ (bw_mem wB_1132)) (fun _ h9 => h9) rfl hin rfl (by decide +kernel) rfl rfl dX12_init_386 (fun S_91 e_91 H locs hP hS => ?_)
                              have hg_91 : dg_Ag S S_91 0 := hg_90.tk (dg_Ag.uF e_91 (dk_dq rfl))
                              have hJ_91 : dg_Jr alM tFM tAM shM o S_91 1 36 := hJ_90.uF e_91 (dk_dq rfl)
                              clear hg_90 hJ_90
                              refine lv_aload_n hx hb dX12_init_389 rfl (lv_at hl 0 rfl) ?_
                              refine lv_sipush (v := 352) hx hb dX12_init_390 (by decide +kernel) ?_
                              refine dg_size hP (dk_dq rfl) (by first | decide +kernel | (have h9 := hk9; omega)) hsz rfl (fun hz => ?_)
                              refine dg_newi hx hb (hts _ (bw_mem wB_1325)) K hP hS hz sM_36 (by decide +kernel) (by decide +kernel) (dk_dq rfl) (Nat.le_of_ble_eq_true rfl) (Nat.le_of_ble_eq_true rfl) dX12_init_393 (fun S_92 e_92 H hP hS hz => ?_)
                              refine W.widen (k := 36) (n := 12686) (Nat.le_of_ble_eq_true rfl) (Nat.le_of_ble_eq_true rfl) ?_
                              have hP : va_P D vwCl (dg_w g (shM.take 37) o rfM S_92) H := hP
                              have hg_92 : dg_Ag S S_92 0 := hg_91.tk (dg_Ag.uf e_92 (dk_dq rfl))
                              have hJ_92 : dg_Jr alM tFM tAM shM o S_92 1 37 := (hJ_91.Ag (dg_Ag.uf e_92 (Nat.le_refl _)) (Nat.le_refl _)).ext (dg_Jr.one (dg_Jc.row sM_36 rfl (dg_uf_at e_92) (by intro t h; have h2 : tAM[36]? = some (1, 0, 63) := (by decide +kernel); rw [h2] at h; cases h; exact fun _ => (dk_dq rfl))))
                              clear hg_91 hJ_91
                              refine dg_putF (ci := 12) (v := .ref (o + 36)) (ty := tyX12 56) (C := RX12) (T := TX12) (N := 77) hx hb hts (fun w h => bw_mem (wU_X12 w h)) tyX12 tyX12_ok nmX12 hown K hP hS (hA1 _) (dg_tk sM_0 (dk_dq rfl)) rfl 56 (dk_dq rfl) (hts _ (bw_mem wB_1133)) (fun _ h9 => h9) rfl hin rfl (by decide +kernel) rfl rfl dX12_init_395 (fun S_93 e_93 H locs hP hS => ?_)
                              have hg_93 : dg_Ag S S_93 0 := hg_92.tk (dg_Ag.uF e_93 (dk_dq rfl))
                              have hJ_93 : dg_Jr alM tFM tAM shM o S_93 1 37 := hJ_92.uF e_93 (dk_dq rfl)
                              clear hg_92 hJ_92
                              refine lv_aload_n hx hb dX12_init_398 rfl (lv_at hl 0 rfl) ?_
                              refine lv_sipush (v := 220) hx hb dX12_init_399 (by decide +kernel) ?_
                              refine dg_size hP (dk_dq rfl) (by first | decide +kernel | (have h9 := hk9; omega)) hsz rfl (fun hz => ?_)
                              refine dg_newi hx hb (hts _ (bw_mem wB_1325)) K hP hS hz sM_37 (by decide +kernel) (by decide +kernel) (dk_dq rfl) (Nat.le_of_ble_eq_true rfl) (Nat.le_of_ble_eq_true rfl) dX12_init_402 (fun S_94 e_94 H hP hS hz => ?_)
                              refine W.widen (k := 37) (n := 12906) (Nat.le_of_ble_eq_true rfl) (Nat.le_of_ble_eq_true rfl) ?_
                              have hP : va_P D vwCl (dg_w g (shM.take 38) o rfM S_94) H := hP
                              have hg_94 : dg_Ag S S_94 0 := hg_93.tk (dg_Ag.uf e_94 (dk_dq rfl))
                              have hJ_94 : dg_Jr alM tFM tAM shM o S_94 1 38 := (hJ_93.Ag (dg_Ag.uf e_94 (Nat.le_refl _)) (Nat.le_refl _)).ext (dg_Jr.one (dg_Jc.row sM_37 rfl (dg_uf_at e_94) (by intro t h; have h2 : tAM[37]? = some (0, 0, 0) := (by decide +kernel); rw [h2] at h; cases h; exact fun _ => (dk_dq rfl))))
                              clear hg_93 hJ_93
                              refine dg_putF (ci := 12) (v := .ref (o + 37)) (ty := tyX12 57) (C := RX12) (T := TX12) (N := 77) hx hb hts (fun w h => bw_mem (wU_X12 w h)) tyX12 tyX12_ok nmX12 hown K hP hS (hA1 _) (dg_tk sM_0 (dk_dq rfl)) rfl 57 (dk_dq rfl) (hts _ (bw_mem wB_1117)) (fun _ h9 => h9) rfl hin rfl (by decide +kernel) rfl rfl dX12_init_404 (fun S_95 e_95 H locs hP hS => ?_)
                              have hg_95 : dg_Ag S S_95 0 := hg_94.tk (dg_Ag.uF e_95 (dk_dq rfl))
                              have hJ_95 : dg_Jr alM tFM tAM shM o S_95 1 38 := hJ_94.uF e_95 (dk_dq rfl)
                              clear hg_94 hJ_94
                              as_aux_lemma =>
                                refine lv_aload_n hx hb dX12_init_407 rfl (lv_at hl 0 rfl) ?_
                                refine lv_bipush (v := 22) hx hb dX12_init_408 (by decide +kernel) ?_
                                refine dg_size hP (dk_dq rfl) (by first | decide +kernel | (have h9 := hk9; omega)) hsz rfl (fun hz => ?_)
                                refine dg_newi hx hb (hts _ (bw_mem wB_1325)) K hP hS hz sM_38 (by decide +kernel) (by decide +kernel) (dk_dq rfl) (Nat.le_of_ble_eq_true rfl) (Nat.le_of_ble_eq_true rfl) dX12_init_410 (fun S_96 e_96 H hP hS hz => ?_)
                                refine W.widen (k := 38) (n := 12928) (Nat.le_of_ble_eq_true rfl) (Nat.le_of_ble_eq_true rfl) ?_
                                have hP : va_P D vwCl (dg_w g (shM.take 39) o rfM S_96) H := hP
                                have hg_96 : dg_Ag S S_96 0 := hg_95.tk (dg_Ag.uf e_96 (dk_dq rfl))
                                have hJ_96 : dg_Jr alM tFM tAM shM o S_96 1 39 := (hJ_95.Ag (dg_Ag.uf e_96 (Nat.le_refl _)) (Nat.le_refl _)).ext (dg_Jr.one (dg_Jc.row sM_38 rfl (dg_uf_at e_96) (by intro t h; have h2 : tAM[38]? = some (1, 0, 40) := (by decide +kernel); rw [h2] at h; cases h; exact fun _ => (dk_dq rfl))))
                                clear hg_95 hJ_95
                                refine dg_putF (ci := 12) (v := .ref (o + 38)) (ty := tyX12 58) (C := RX12) (T := TX12) (N := 77) hx hb hts (fun w h => bw_mem (wU_X12 w h)) tyX12 tyX12_ok nmX12 hown K hP hS (hA1 _) (dg_tk sM_0 (dk_dq rfl)) rfl 58 (dk_dq rfl) (hts _ (bw_mem wB_1127)) (fun _ h9 => h9) rfl hin rfl (by decide +kernel) rfl rfl dX12_init_412 (fun S_97 e_97 H locs hP hS => ?_)
                                have hg_97 : dg_Ag S S_97 0 := hg_96.tk (dg_Ag.uF e_97 (dk_dq rfl))
                                have hJ_97 : dg_Jr alM tFM tAM shM o S_97 1 39 := hJ_96.uF e_97 (dk_dq rfl)
                                clear hg_96 hJ_96
                                refine lv_aload_n hx hb dX12_init_415 rfl (lv_at hl 0 rfl) ?_
                                refine lv_sipush (v := 3520) hx hb dX12_init_416 (by decide +kernel) ?_
                                refine dg_size hP (dk_dq rfl) (by first | decide +kernel | (have h9 := hk9; omega)) hsz rfl (fun hz => ?_)
                                refine dg_newi hx hb (hts _ (bw_mem wB_1325)) K hP hS hz sM_39 (by decide +kernel) (by decide +kernel) (dk_dq rfl) (Nat.le_of_ble_eq_true rfl) (Nat.le_of_ble_eq_true rfl) dX12_init_419 (fun S_98 e_98 H hP hS hz => ?_)
                                refine W.widen (k := 39) (n := 16448) (Nat.le_of_ble_eq_true rfl) (Nat.le_of_ble_eq_true rfl) ?_
                                have hP : va_P D vwCl (dg_w g (shM.take 40) o rfM S_98) H := hP
                                have hg_98 : dg_Ag S S_98 0 := hg_97.tk (dg_Ag.uf e_98 (dk_dq rfl))
                                have hJ_98 : dg_Jr alM tFM tAM shM o S_98 1 40 := (hJ_97.Ag (dg_Ag.uf e_98 (Nat.le_refl _)) (Nat.le_refl _)).ext (dg_Jr.one (dg_Jc.row sM_39 rfl (dg_uf_at e_98) (by intro t h; have h2 : tAM[39]? = some (0, 0, 0) := (by decide +kernel); rw [h2] at h; cases h; exact fun _ => (dk_dq rfl))))
                                clear hg_97 hJ_97
                                refine dg_putF (ci := 12) (v := .ref (o + 39)) (ty := tyX12 59) (C := RX12) (T := TX12) (N := 77) hx hb hts (fun w h => bw_mem (wU_X12 w h)) tyX12 tyX12_ok nmX12 hown K hP hS (hA1 _) (dg_tk sM_0 (dk_dq rfl)) rfl 59 (dk_dq rfl) (hts _ (bw_mem wB_1128)) (fun _ h9 => h9) rfl hin rfl (by decide +kernel) rfl rfl dX12_init_421 (fun S_99 e_99 H locs hP hS => ?_)
                                have hg_99 : dg_Ag S S_99 0 := hg_98.tk (dg_Ag.uF e_99 (dk_dq rfl))
                                have hJ_99 : dg_Jr alM tFM tAM shM o S_99 1 40 := hJ_98.uF e_99 (dk_dq rfl)
                                clear hg_98 hJ_98
                                refine lv_aload_n hx hb dX12_init_424 rfl (lv_at hl 0 rfl) ?_
                                refine lv_iconst (v := 0) hx hb dX12_init_425 (by decide +kernel) ?_
                                refine dg_put (ci := 12) (v := .int 0) (ty := tyX12 60) (C := RX12) (T := TX12) (N := 77) hx hb hts (fun w h => bw_mem (wU_X12 w h)) tyX12 tyX12_ok nmX12 hown K hP hS (hA1 _) (dg_tk sM_0 (dk_dq rfl)) rfl 60 (dk_dq rfl) (hts _ (bw_mem wB_1126)) (fun _ h9 => h9) rfl (by decide +kernel) rfl rfl dX12_init_426 (fun S_100 e_100 H locs hP hS => ?_)
                                have hg_100 : dg_Ag S S_100 0 := hg_99.tk (dg_Ag.uF e_100 (dk_dq rfl))
                                have hJ_100 : dg_Jr alM tFM tAM shM o S_100 1 40 := hJ_99.uF e_100 (dk_dq rfl)
                                clear hg_99 hJ_99
                                refine lv_aload_n hx hb dX12_init_429 rfl (lv_at hl 0 rfl) ?_
                                refine lv_iconst (v := 0) hx hb dX12_init_430 (by decide +kernel) ?_
                                refine dg_put (ci := 12) (v := .int 0) (ty := tyX12 61) (C := RX12) (T := TX12) (N := 77) hx hb hts (fun w h => bw_mem (wU_X12 w h)) tyX12 tyX12_ok nmX12 hown K hP hS (hA1 _) (dg_tk sM_0 (dk_dq rfl)) rfl 61 (dk_dq rfl) (hts _ (bw_mem wB_1192)) (fun _ h9 => h9) rfl (by decide +kernel) rfl rfl dX12_init_431 (fun S_101 e_101 H locs hP hS => ?_)
                                have hg_101 : dg_Ag S S_101 0 := hg_100.tk (dg_Ag.uF e_101 (dk_dq rfl))
                                have hJ_101 : dg_Jr alM tFM tAM shM o S_101 1 40 := hJ_100.uF e_101 (dk_dq rfl)
                                clear hg_100 hJ_100
                                refine lv_aload_n hx hb dX12_init_434 rfl (lv_at hl 0 rfl) ?_
                                refine lv_lconst (v := 1) hx hb dX12_init_435 (by decide +kernel) ?_
                                as_aux_lemma =>
                                  refine dg_put (ci := 12) (v := .long 1) (ty := tyX12 62) (C := RX12) (T := TX12) (N := 77) hx hb hts (fun w h => bw_mem (wU_X12 w h)) tyX12 tyX12_ok nmX12 hown K hP hS (hA1 _) (dg_tk sM_0 (dk_dq rfl)) rfl 62 (dk_dq rfl) (hts _ (bw_mem wB_1201)) (fun _ h9 => h9) rfl (by decide +kernel) rfl rfl dX12_init_436 (fun S_102 e_102 H locs hP hS => ?_)
                                  have hg_102 : dg_Ag S S_102 0 := hg_101.tk (dg_Ag.uF e_102 (dk_dq rfl))
                                  have hJ_102 : dg_Jr alM tFM tAM shM o S_102 1 40 := hJ_101.uF e_102 (dk_dq rfl)
                                  clear hg_101 hJ_101
                                  refine lv_aload_n hx hb dX12_init_439 rfl (lv_at hl 0 rfl) ?_
                                  refine lv_iconst (v := 0) hx hb dX12_init_440 (by decide +kernel) ?_
                                  refine dg_put (ci := 12) (v := .int 0) (ty := tyX12 63) (C := RX12) (T := TX12) (N := 77) hx hb hts (fun w h => bw_mem (wU_X12 w h)) tyX12 tyX12_ok nmX12 hown K hP hS (hA1 _) (dg_tk sM_0 (dk_dq rfl)) rfl 63 (dk_dq rfl) (hts _ (bw_mem wB_1096)) (fun _ h9 => h9) rfl (by decide +kernel) rfl rfl dX12_init_441 (fun S_103 e_103 H locs hP hS => ?_)
                                  have hg_103 : dg_Ag S S_103 0 := hg_102.tk (dg_Ag.uF e_103 (dk_dq rfl))
                                  have hJ_103 : dg_Jr alM tFM tAM shM o S_103 1 40 := hJ_102.uF e_103 (dk_dq rfl)
                                  clear hg_102 hJ_102
                                  refine lv_aload_n hx hb dX12_init_444 rfl (lv_at hl 0 rfl) ?_
                                  refine lv_sipush (v := 500) hx hb dX12_init_445 (by decide +kernel) ?_
                                  refine dg_size hP (dk_dq rfl) (by first | decide +kernel | (have h9 := hk9; omega)) hsz rfl (fun hz => ?_)
                                  refine dg_newl hx hb (hts _ (bw_mem wB_1398)) K hP hS hz sM_40 (by decide +kernel) (by decide +kernel) (dk_dq rfl) (Nat.le_of_ble_eq_true rfl) (Nat.le_of_ble_eq_true rfl) dX12_init_448 (fun S_104 e_104 H hP hS hz => ?_)
                                  refine W.widen (k := 40) (n := 16948) (Nat.le_of_ble_eq_true rfl) (Nat.le_of_ble_eq_true rfl) ?_
                                  have hP : va_P D vwCl (dg_w g (shM.take 41) o rfM S_104) H := hP
                                  have hg_104 : dg_Ag S S_104 0 := hg_103.tk (dg_Ag.ul e_104 (dk_dq rfl))
                                  have hJ_104 : dg_Jr alM tFM tAM shM o S_104 1 41 := (hJ_103.Ag (dg_Ag.ul e_104 (Nat.le_refl _)) (Nat.le_refl _)).ext (dg_Jr.one (dg_Jc.rowx sM_40 rfl (by intro t h; have h2 : tAM[40]? = some (0, 0, 0) := (by decide +kernel); rw [h2] at h; cases h; rfl)))
                                  clear hg_103 hJ_103
                                  refine dg_putF (ci := 12) (v := .ref (o + 40)) (ty := tyX12 64) (C := RX12) (T := TX12) (N := 77) hx hb hts (fun w h => bw_mem (wU_X12 w h)) tyX12 tyX12_ok nmX12 hown K hP hS (hA1 _) (dg_tk sM_0 (dk_dq rfl)) rfl 64 (dk_dq rfl) (hts _ (bw_mem wB_1143)) (fun _ h9 => h9) rfl hin rfl (by decide +kernel) rfl rfl dX12_init_450 (fun S_105 e_105 H locs hP hS => ?_)
                                  have hg_105 : dg_Ag S S_105 0 := hg_104.tk (dg_Ag.uF e_105 (dk_dq rfl))
                                  have hJ_105 : dg_Jr alM tFM tAM shM o S_105 1 41 := hJ_104.uF e_105 (dk_dq rfl)
                                  clear hg_104 hJ_104
                                  refine lv_aload_n hx hb dX12_init_453 rfl (lv_at hl 0 rfl) ?_
                                  refine lv_bipush (v := 10) hx hb dX12_init_454 (by decide +kernel) ?_
                                  refine dg_size hP (dk_dq rfl) (by first | decide +kernel | (have h9 := hk9; omega)) hsz rfl (fun hz => ?_)
                                  refine dg_newi hx hb (hts _ (bw_mem wB_1325)) K hP hS hz sM_41 (by decide +kernel) (by decide +kernel) (dk_dq rfl) (Nat.le_of_ble_eq_true rfl) (Nat.le_of_ble_eq_true rfl) dX12_init_456 (fun S_106 e_106 H hP hS hz => ?_)
                                  refine W.widen (k := 41) (n := 16958) (Nat.le_of_ble_eq_true rfl) (Nat.le_of_ble_eq_true rfl) ?_
                                  have hP : va_P D vwCl (dg_w g (shM.take 42) o rfM S_106) H := hP
                                  have hg_106 : dg_Ag S S_106 0 := hg_105.tk (dg_Ag.uf e_106 (dk_dq rfl))
                                  have hJ_106 : dg_Jr alM tFM tAM shM o S_106 1 42 := (hJ_105.Ag (dg_Ag.uf e_106 (Nat.le_refl _)) (Nat.le_refl _)).ext (dg_Jr.one (dg_Jc.row sM_41 rfl (dg_uf_at e_106) (by intro t h; have h2 : tAM[41]? = some (0, 0, 0) := (by decide +kernel); rw [h2] at h; cases h; exact fun _ => (dk_dq rfl))))
                                  clear hg_105 hJ_105
                                  refine dg_putF (ci := 12) (v := .ref (o + 41)) (ty := tyX12 65) (C := RX12) (T := TX12) (N := 77) hx hb hts (fun w h => bw_mem (wU_X12 w h)) tyX12 tyX12_ok nmX12 hown K hP hS (hA1 _) (dg_tk sM_0 (dk_dq rfl)) rfl 65 (dk_dq rfl) (hts _ (bw_mem wB_1107)) (fun _ h9 => h9) rfl hin rfl (by decide +kernel) rfl rfl dX12_init_458 (fun S_107 e_107 H locs hP hS => ?_)
                                  have hg_107 : dg_Ag S S_107 0 := hg_106.tk (dg_Ag.uF e_107 (dk_dq rfl))
                                  have hJ_107 : dg_Jr alM tFM tAM shM o S_107 1 42 := hJ_106.uF e_107 (dk_dq rfl)
                                  clear hg_106 hJ_106
                                  refine lv_aload_n hx hb dX12_init_461 rfl (lv_at hl 0 rfl) ?_
                                  refine lv_bipush (v := 64) hx hb dX12_init_462 (by decide +kernel) ?_
                                  refine dg_size hP (dk_dq rfl) (by first | decide +kernel | (have h9 := hk9; omega)) hsz rfl (fun hz => ?_)
                                  refine dg_newi hx hb (hts _ (bw_mem wB_1325)) K hP hS hz sM_42 (by decide +kernel) (by decide +kernel) (dk_dq rfl) (Nat.le_of_ble_eq_true rfl) (Nat.le_of_ble_eq_true rfl) dX12_init_464 (fun S_108 e_108 H hP hS hz => ?_)
                                  as_aux_lemma =>
                                    refine W.widen (k := 42) (n := 17022) (Nat.le_of_ble_eq_true rfl) (Nat.le_of_ble_eq_true rfl) ?_
                                    have hP : va_P D vwCl (dg_w g (shM.take 43) o rfM S_108) H := hP
                                    have hg_108 : dg_Ag S S_108 0 := hg_107.tk (dg_Ag.uf e_108 (dk_dq rfl))
                                    have hJ_108 : dg_Jr alM tFM tAM shM o S_108 1 43 := (hJ_107.Ag (dg_Ag.uf e_108 (Nat.le_refl _)) (Nat.le_refl _)).ext (dg_Jr.one (dg_Jc.row sM_42 rfl (dg_uf_at e_108) (by intro t h; have h2 : tAM[42]? = some (0, 0, 0) := (by decide +kernel); rw [h2] at h; cases h; exact fun _ => (dk_dq rfl))))
                                    clear hg_107 hJ_107
                                    refine dg_putF (ci := 12) (v := .ref (o + 42)) (ty := tyX12 66) (C := RX12) (T := TX12) (N := 77) hx hb hts (fun w h => bw_mem (wU_X12 w h)) tyX12 tyX12_ok nmX12 hown K hP hS (hA1 _) (dg_tk sM_0 (dk_dq rfl)) rfl 66 (dk_dq rfl) (hts _ (bw_mem wB_1095)) (fun _ h9 => h9) rfl hin rfl (by decide +kernel) rfl rfl dX12_init_466 (fun S_109 e_109 H locs hP hS => ?_)
                                    have hg_109 : dg_Ag S S_109 0 := hg_108.tk (dg_Ag.uF e_109 (dk_dq rfl))
                                    have hJ_109 : dg_Jr alM tFM tAM shM o S_109 1 43 := hJ_108.uF e_109 (dk_dq rfl)
                                    clear hg_108 hJ_108
                                    refine lv_aload_n hx hb dX12_init_469 rfl (lv_at hl 0 rfl) ?_
                                    refine lv_bipush (v := 64) hx hb dX12_init_470 (by decide +kernel) ?_
                                    refine dg_size hP (dk_dq rfl) (by first | decide +kernel | (have h9 := hk9; omega)) hsz rfl (fun hz => ?_)
                                    refine dg_newi hx hb (hts _ (bw_mem wB_1325)) K hP hS hz sM_43 (by decide +kernel) (by decide +kernel) (dk_dq rfl) (Nat.le_of_ble_eq_true rfl) (Nat.le_of_ble_eq_true rfl) dX12_init_472 (fun S_110 e_110 H hP hS hz => ?_)
                                    refine W.widen (k := 43) (n := 17086) (Nat.le_of_ble_eq_true rfl) (Nat.le_of_ble_eq_true rfl) ?_
                                    have hP : va_P D vwCl (dg_w g (shM.take 44) o rfM S_110) H := hP
                                    have hg_110 : dg_Ag S S_110 0 := hg_109.tk (dg_Ag.uf e_110 (dk_dq rfl))
                                    have hJ_110 : dg_Jr alM tFM tAM shM o S_110 1 44 := (hJ_109.Ag (dg_Ag.uf e_110 (Nat.le_refl _)) (Nat.le_refl _)).ext (dg_Jr.one (dg_Jc.row sM_43 rfl (dg_uf_at e_110) (by intro t h; have h2 : tAM[43]? = some (1, 0, 63) := (by decide +kernel); rw [h2] at h; cases h; exact fun _ => (dk_dq rfl))))
                                    clear hg_109 hJ_109
                                    refine dg_putF (ci := 12) (v := .ref (o + 43)) (ty := tyX12 67) (C := RX12) (T := TX12) (N := 77) hx hb hts (fun w h => bw_mem (wU_X12 w h)) tyX12 tyX12_ok nmX12 hown K hP hS (hA1 _) (dg_tk sM_0 (dk_dq rfl)) rfl 67 (dk_dq rfl) (hts _ (bw_mem wB_1142)) (fun _ h9 => h9) rfl hin rfl (by decide +kernel) rfl rfl dX12_init_474 (fun S_111 e_111 H locs hP hS => ?_)
                                    have hg_111 : dg_Ag S S_111 0 := hg_110.tk (dg_Ag.uF e_111 (dk_dq rfl))
                                    have hJ_111 : dg_Jr alM tFM tAM shM o S_111 1 44 := hJ_110.uF e_111 (dk_dq rfl)
                                    clear hg_110 hJ_110
                                    refine lv_aload_n hx hb dX12_init_477 rfl (lv_at hl 0 rfl) ?_
                                    refine lv_bipush (v := 64) hx hb dX12_init_478 (by decide +kernel) ?_
                                    refine dg_size hP (dk_dq rfl) (by first | decide +kernel | (have h9 := hk9; omega)) hsz rfl (fun hz => ?_)
                                    refine dg_newi hx hb (hts _ (bw_mem wB_1325)) K hP hS hz sM_44 (by decide +kernel) (by decide +kernel) (dk_dq rfl) (Nat.le_of_ble_eq_true rfl) (Nat.le_of_ble_eq_true rfl) dX12_init_480 (fun S_112 e_112 H hP hS hz => ?_)
                                    refine W.widen (k := 44) (n := 17150) (Nat.le_of_ble_eq_true rfl) (Nat.le_of_ble_eq_true rfl) ?_
                                    have hP : va_P D vwCl (dg_w g (shM.take 45) o rfM S_112) H := hP
                                    have hg_112 : dg_Ag S S_112 0 := hg_111.tk (dg_Ag.uf e_112 (dk_dq rfl))
                                    have hJ_112 : dg_Jr alM tFM tAM shM o S_112 1 45 := (hJ_111.Ag (dg_Ag.uf e_112 (Nat.le_refl _)) (Nat.le_refl _)).ext (dg_Jr.one (dg_Jc.row sM_44 rfl (dg_uf_at e_112) (by intro t h; have h2 : tAM[44]? = some (1, 0, 9) := (by decide +kernel); rw [h2] at h; cases h; exact fun _ => (dk_dq rfl))))
                                    clear hg_111 hJ_111
                                    refine dg_putF (ci := 12) (v := .ref (o + 44)) (ty := tyX12 68) (C := RX12) (T := TX12) (N := 77) hx hb hts (fun w h => bw_mem (wU_X12 w h)) tyX12 tyX12_ok nmX12 hown K hP hS (hA1 _) (dg_tk sM_0 (dk_dq rfl)) rfl 68 (dk_dq rfl) (hts _ (bw_mem wB_1183)) (fun _ h9 => h9) rfl hin rfl (by decide +kernel) rfl rfl dX12_init_482 (fun S_113 e_113 H locs hP hS => ?_)
                                    have hg_113 : dg_Ag S S_113 0 := hg_112.tk (dg_Ag.uF e_113 (dk_dq rfl))
                                    have hJ_113 : dg_Jr alM tFM tAM shM o S_113 1 45 := hJ_112.uF e_113 (dk_dq rfl)
                                    clear hg_112 hJ_112
                                    refine lv_aload_n hx hb dX12_init_485 rfl (lv_at hl 0 rfl) ?_
                                    refine lv_iconst (v := 0) hx hb dX12_init_486 (by decide +kernel) ?_
                                    refine dg_put (ci := 12) (v := .int 0) (ty := tyX12 69) (C := RX12) (T := TX12) (N := 77) hx hb hts (fun w h => bw_mem (wU_X12 w h)) tyX12 tyX12_ok nmX12 hown K hP hS (hA1 _) (dg_tk sM_0 (dk_dq rfl)) rfl 69 (dk_dq rfl) (hts _ (bw_mem wB_1193)) (fun _ h9 => h9) rfl (by decide +kernel) rfl rfl dX12_init_487 (fun S_114 e_114 H locs hP hS => ?_)
                                    have hg_114 : dg_Ag S S_114 0 := hg_113.tk (dg_Ag.uF e_114 (dk_dq rfl))
                                    have hJ_114 : dg_Jr alM tFM tAM shM o S_114 1 45 := hJ_113.uF e_114 (dk_dq rfl)
                                    clear hg_113 hJ_113
                                    as_aux_lemma =>
                                      refine lv_aload_n hx hb dX12_init_490 rfl (lv_at hl 0 rfl) ?_
                                      refine lv_bipush (v := 16) hx hb dX12_init_491 (by decide +kernel) ?_
                                      refine dg_size hP (dk_dq rfl) (by first | decide +kernel | (have h9 := hk9; omega)) hsz rfl (fun hz => ?_)
                                      refine dg_newi hx hb (hts _ (bw_mem wB_1325)) K hP hS hz sM_45 (by decide +kernel) (by decide +kernel) (dk_dq rfl) (Nat.le_of_ble_eq_true rfl) (Nat.le_of_ble_eq_true rfl) dX12_init_493 (fun S_115 e_115 H hP hS hz => ?_)
                                      refine W.widen (k := 45) (n := 17166) (Nat.le_of_ble_eq_true rfl) (Nat.le_of_ble_eq_true rfl) ?_
                                      have hP : va_P D vwCl (dg_w g (shM.take 46) o rfM S_115) H := hP
                                      have hg_115 : dg_Ag S S_115 0 := hg_114.tk (dg_Ag.uf e_115 (dk_dq rfl))
                                      have hJ_115 : dg_Jr alM tFM tAM shM o S_115 1 46 := (hJ_114.Ag (dg_Ag.uf e_115 (Nat.le_refl _)) (Nat.le_refl _)).ext (dg_Jr.one (dg_Jc.row sM_45 rfl (dg_uf_at e_115) (by intro t h; have h2 : tAM[45]? = some (1, 0, 255) := (by decide +kernel); rw [h2] at h; cases h; exact fun _ => (dk_dq rfl))))
                                      clear hg_114 hJ_114
                                      refine dg_putF (ci := 12) (v := .ref (o + 45)) (ty := tyX12 70) (C := RX12) (T := TX12) (N := 77) hx hb hts (fun w h => bw_mem (wU_X12 w h)) tyX12 tyX12_ok nmX12 hown K hP hS (hA1 _) (dg_tk sM_0 (dk_dq rfl)) rfl 70 (dk_dq rfl) (hts _ (bw_mem wB_1275)) (fun _ h9 => h9) rfl hin rfl (by decide +kernel) rfl rfl dX12_init_495 (fun S_116 e_116 H locs hP hS => ?_)
                                      have hg_116 : dg_Ag S S_116 0 := hg_115.tk (dg_Ag.uF e_116 (dk_dq rfl))
                                      have hJ_116 : dg_Jr alM tFM tAM shM o S_116 1 46 := hJ_115.uF e_116 (dk_dq rfl)
                                      clear hg_115 hJ_115
                                      refine lv_aload_n hx hb dX12_init_498 rfl (lv_at hl 0 rfl) ?_
                                      refine lv_bipush (v := 16) hx hb dX12_init_499 (by decide +kernel) ?_
                                      refine dg_size hP (dk_dq rfl) (by first | decide +kernel | (have h9 := hk9; omega)) hsz rfl (fun hz => ?_)
                                      refine dg_newi hx hb (hts _ (bw_mem wB_1325)) K hP hS hz sM_46 (by decide +kernel) (by decide +kernel) (dk_dq rfl) (Nat.le_of_ble_eq_true rfl) (Nat.le_of_ble_eq_true rfl) dX12_init_501 (fun S_117 e_117 H hP hS hz => ?_)
                                      refine W.widen (k := 46) (n := 17182) (Nat.le_of_ble_eq_true rfl) (Nat.le_of_ble_eq_true rfl) ?_
                                      have hP : va_P D vwCl (dg_w g (shM.take 47) o rfM S_117) H := hP
                                      have hg_117 : dg_Ag S S_117 0 := hg_116.tk (dg_Ag.uf e_117 (dk_dq rfl))
                                      have hJ_117 : dg_Jr alM tFM tAM shM o S_117 1 47 := (hJ_116.Ag (dg_Ag.uf e_117 (Nat.le_refl _)) (Nat.le_refl _)).ext (dg_Jr.one (dg_Jc.row sM_46 rfl (dg_uf_at e_117) (by intro t h; have h2 : tAM[46]? = some (1, 0, 63) := (by decide +kernel); rw [h2] at h; cases h; exact fun _ => (dk_dq rfl))))
                                      clear hg_116 hJ_116
                                      refine dg_putF (ci := 12) (v := .ref (o + 46)) (ty := tyX12 71) (C := RX12) (T := TX12) (N := 77) hx hb hts (fun w h => bw_mem (wU_X12 w h)) tyX12 tyX12_ok nmX12 hown K hP hS (hA1 _) (dg_tk sM_0 (dk_dq rfl)) rfl 71 (dk_dq rfl) (hts _ (bw_mem wB_1276)) (fun _ h9 => h9) rfl hin rfl (by decide +kernel) rfl rfl dX12_init_503 (fun S_118 e_118 H locs hP hS => ?_)
                                      have hg_118 : dg_Ag S S_118 0 := hg_117.tk (dg_Ag.uF e_118 (dk_dq rfl))
                                      have hJ_118 : dg_Jr alM tFM tAM shM o S_118 1 47 := hJ_117.uF e_118 (dk_dq rfl)
                                      clear hg_117 hJ_117
                                      refine lv_aload_n hx hb dX12_init_506 rfl (lv_at hl 0 rfl) ?_
                                      refine lv_bipush (v := 16) hx hb dX12_init_507 (by decide +kernel) ?_
                                      refine dg_size hP (dk_dq rfl) (by first | decide +kernel | (have h9 := hk9; omega)) hsz rfl (fun hz => ?_)
                                      refine dg_newi hx hb (hts _ (bw_mem wB_1325)) K hP hS hz sM_47 (by decide +kernel) (by decide +kernel) (dk_dq rfl) (Nat.le_of_ble_eq_true rfl) (Nat.le_of_ble_eq_true rfl) dX12_init_509 (fun S_119 e_119 H hP hS hz => ?_)
                                      refine W.widen (k := 47) (n := 17198) (Nat.le_of_ble_eq_true rfl) (Nat.le_of_ble_eq_true rfl) ?_
                                      have hP : va_P D vwCl (dg_w g (shM.take 48) o rfM S_119) H := hP
                                      have hg_119 : dg_Ag S S_119 0 := hg_118.tk (dg_Ag.uf e_119 (dk_dq rfl))
                                      have hJ_119 : dg_Jr alM tFM tAM shM o S_119 1 48 := (hJ_118.Ag (dg_Ag.uf e_119 (Nat.le_refl _)) (Nat.le_refl _)).ext (dg_Jr.one (dg_Jc.row sM_47 rfl (dg_uf_at e_119) (by intro t h; have h2 : tAM[47]? = some (0, 0, 0) := (by decide +kernel); rw [h2] at h; cases h; exact fun _ => (dk_dq rfl))))
                                      clear hg_118 hJ_118
                                      refine dg_putF (ci := 12) (v := .ref (o + 47)) (ty := tyX12 72) (C := RX12) (T := TX12) (N := 77) hx hb hts (fun w h => bw_mem (wU_X12 w h)) tyX12 tyX12_ok nmX12 hown K hP hS (hA1 _) (dg_tk sM_0 (dk_dq rfl)) rfl 72 (dk_dq rfl) (hts _ (bw_mem wB_1277)) (fun _ h9 => h9) rfl hin rfl (by decide +kernel) rfl rfl dX12_init_511 (fun S_120 e_120 H locs hP hS => ?_)
                                      have hg_120 : dg_Ag S S_120 0 := hg_119.tk (dg_Ag.uF e_120 (dk_dq rfl))
                                      have hJ_120 : dg_Jr alM tFM tAM shM o S_120 1 48 := hJ_119.uF e_120 (dk_dq rfl)
                                      clear hg_119 hJ_119
                                      refine lv_aload_n hx hb dX12_init_514 rfl (lv_at hl 0 rfl) ?_
                                      as_aux_lemma =>
                                        refine lv_ldc hx hb hown (hts (.constant RX12 234 (41664)) (by decide +kernel)) dX12_init_515 ?_
                                        refine dg_size hP (dk_dq rfl) (by first | decide +kernel | (have h9 := hk9; omega)) hsz rfl (fun hz => ?_)
                                        refine dg_newi hx hb (hts _ (bw_mem wB_1325)) K hP hS hz sM_48 (by decide +kernel) (by decide +kernel) (dk_dq rfl) (Nat.le_of_ble_eq_true rfl) (Nat.le_of_ble_eq_true rfl) dX12_init_517 (fun S_121 e_121 H hP hS hz => ?_)
                                        refine W.widen (k := 48) (n := 58862) (Nat.le_of_ble_eq_true rfl) (Nat.le_of_ble_eq_true rfl) ?_
                                        have hP : va_P D vwCl (dg_w g (shM.take 49) o rfM S_121) H := hP
                                        have hg_121 : dg_Ag S S_121 0 := hg_120.tk (dg_Ag.uf e_121 (dk_dq rfl))
                                        have hJ_121 : dg_Jr alM tFM tAM shM o S_121 1 49 := (hJ_120.Ag (dg_Ag.uf e_121 (Nat.le_refl _)) (Nat.le_refl _)).ext (dg_Jr.one (dg_Jc.row sM_48 rfl (dg_uf_at e_121) (by intro t h; have h2 : tAM[48]? = some (1, (-1), 9) := (by decide +kernel); rw [h2] at h; cases h; exact fun _ => (dk_dq rfl))))
                                        clear hg_120 hJ_120
                                        refine dg_putF (ci := 12) (v := .ref (o + 48)) (ty := tyX12 73) (C := RX12) (T := TX12) (N := 77) hx hb hts (fun w h => bw_mem (wU_X12 w h)) tyX12 tyX12_ok nmX12 hown K hP hS (hA1 _) (dg_tk sM_0 (dk_dq rfl)) rfl 73 (dk_dq rfl) (hts _ (bw_mem wB_1262)) (fun _ h9 => h9) rfl hin rfl (by decide +kernel) rfl rfl dX12_init_519 (fun S_122 e_122 H locs hP hS => ?_)
                                        have hg_122 : dg_Ag S S_122 0 := hg_121.tk (dg_Ag.uF e_122 (dk_dq rfl))
                                        have hJ_122 : dg_Jr alM tFM tAM shM o S_122 1 49 := hJ_121.uF e_122 (dk_dq rfl)
                                        clear hg_121 hJ_121
                                        refine lv_aload_n hx hb dX12_init_522 rfl (lv_at hl 0 rfl) ?_
                                        refine lv_bipush (v := 11) hx hb dX12_init_523 (by decide +kernel) ?_
                                        refine dg_size hP (dk_dq rfl) (by first | decide +kernel | (have h9 := hk9; omega)) hsz rfl (fun hz => ?_)
                                        refine dg_newi hx hb (hts _ (bw_mem wB_1325)) K hP hS hz sM_49 (by decide +kernel) (by decide +kernel) (dk_dq rfl) (Nat.le_of_ble_eq_true rfl) (Nat.le_of_ble_eq_true rfl) dX12_init_525 (fun S_123 e_123 H hP hS hz => ?_)
                                        refine W.widen (k := 49) (n := 58873) (Nat.le_of_ble_eq_true rfl) (Nat.le_of_ble_eq_true rfl) ?_
                                        have hP : va_P D vwCl (dg_w g (shM.take 50) o rfM S_123) H := hP
                                        have hg_123 : dg_Ag S S_123 0 := hg_122.tk (dg_Ag.uf e_123 (dk_dq rfl))
                                        have hJ_123 : dg_Jr alM tFM tAM shM o S_123 1 50 := (hJ_122.Ag (dg_Ag.uf e_123 (Nat.le_refl _)) (Nat.le_refl _)).ext (dg_Jr.one (dg_Jc.row sM_49 rfl (dg_uf_at e_123) (by intro t h; have h2 : tAM[49]? = some (0, 0, 0) := (by decide +kernel); rw [h2] at h; cases h; exact fun _ => (dk_dq rfl))))
                                        clear hg_122 hJ_122
                                        refine dg_putF (ci := 12) (v := .ref (o + 49)) (ty := tyX12 74) (C := RX12) (T := TX12) (N := 77) hx hb hts (fun w h => bw_mem (wU_X12 w h)) tyX12 tyX12_ok nmX12 hown K hP hS (hA1 _) (dg_tk sM_0 (dk_dq rfl)) rfl 74 (dk_dq rfl) (hts _ (bw_mem wB_1261)) (fun _ h9 => h9) rfl hin rfl (by decide +kernel) rfl rfl dX12_init_527 (fun S_124 e_124 H locs hP hS => ?_)
                                        have hg_124 : dg_Ag S S_124 0 := hg_123.tk (dg_Ag.uF e_124 (dk_dq rfl))
                                        have hJ_124 : dg_Jr alM tFM tAM shM o S_124 1 50 := hJ_123.uF e_124 (dk_dq rfl)
                                        clear hg_123 hJ_123
                                        refine lv_aload_n hx hb dX12_init_530 rfl (lv_at hl 0 rfl) ?_
                                        refine lv_sipush (v := 150) hx hb dX12_init_531 (by decide +kernel) ?_
                                        refine dg_size hP (dk_dq rfl) (by first | decide +kernel | (have h9 := hk9; omega)) hsz rfl (fun hz => ?_)
                                        refine dg_newi hx hb (hts _ (bw_mem wB_1325)) K hP hS hz sM_50 (by decide +kernel) (by decide +kernel) (dk_dq rfl) (Nat.le_of_ble_eq_true rfl) (Nat.le_of_ble_eq_true rfl) dX12_init_534 (fun S_125 e_125 H hP hS hz => ?_)
                                        refine W.widen (k := 50) (n := 59023) (Nat.le_of_ble_eq_true rfl) (Nat.le_of_ble_eq_true rfl) ?_
                                        have hP : va_P D vwCl (dg_w g (shM.take 51) o rfM S_125) H := hP
                                        have hg_125 : dg_Ag S S_125 0 := hg_124.tk (dg_Ag.uf e_125 (dk_dq rfl))
                                        have hJ_125 : dg_Jr alM tFM tAM shM o S_125 1 51 := (hJ_124.Ag (dg_Ag.uf e_125 (Nat.le_refl _)) (Nat.le_refl _)).ext (dg_Jr.one (dg_Jc.row sM_50 rfl (dg_uf_at e_125) (by intro t h; have h2 : tAM[50]? = some (0, 0, 0) := (by decide +kernel); rw [h2] at h; cases h; exact fun _ => (dk_dq rfl))))
                                        clear hg_124 hJ_124
                                        refine dg_putF (ci := 12) (v := .ref (o + 50)) (ty := tyX12 75) (C := RX12) (T := TX12) (N := 77) hx hb hts (fun w h => bw_mem (wU_X12 w h)) tyX12 tyX12_ok nmX12 hown K hP hS (hA1 _) (dg_tk sM_0 (dk_dq rfl)) rfl 75 (dk_dq rfl) (hts _ (bw_mem wB_1254)) (fun _ h9 => h9) rfl hin rfl (by decide +kernel) rfl rfl dX12_init_536 (fun S_126 e_126 H locs hP hS => ?_)
                                        have hg_126 : dg_Ag S S_126 0 := hg_125.tk (dg_Ag.uF e_126 (dk_dq rfl))
                                        have hJ_126 : dg_Jr alM tFM tAM shM o S_126 1 51 := hJ_125.uF e_126 (dk_dq rfl)
                                        clear hg_125 hJ_125
                                        refine lv_aload_n hx hb dX12_init_539 rfl (lv_at hl 0 rfl) ?_
                                        refine lv_iconst (v := 0) hx hb dX12_init_540 (by decide +kernel) ?_
                                        as_aux_lemma =>
                                          refine dg_put (ci := 12) (v := .int 0) (ty := tyX12 76) (C := RX12) (T := TX12) (N := 77) hx hb hts (fun w h => bw_mem (wU_X12 w h)) tyX12 tyX12_ok nmX12 hown K hP hS (hA1 _) (dg_tk sM_0 (dk_dq rfl)) rfl 76 (dk_dq rfl) (hts _ (bw_mem wB_1255)) (fun _ h9 => h9) rfl (by decide +kernel) rfl rfl dX12_init_541 (fun S_127 e_127 H locs hP hS => ?_)
                                          have hg_127 : dg_Ag S S_127 0 := hg_126.tk (dg_Ag.uF e_127 (dk_dq rfl))
                                          have hJ_127 : dg_Jr alM tFM tAM shM o S_127 1 51 := hJ_126.uF e_127 (dk_dq rfl)
                                          clear hg_126 hJ_126
                                          refine lv_iconst (v := 0) hx hb dX12_init_544 (by decide +kernel) ?_
                                          refine lv_istore_n (lv' := [(1, .int 0), (0, .ref (o + 0))]) hx hb dX12_init_545 rfl hl (dk_dq rfl) rfl (fun ls hl => ?_)
                                          have kp_127 : dg_kp [] [] S_127 S_127 := dg_kp.rf
                                          have kp_126 : dg_kp [76] [] S_126 S_127 := kp_127.F e_127
                                          have kp_125 : dg_kp [75, 76] [] S_125 S_127 := kp_126.F e_126
                                          have kp_124 : dg_kp [75, 76] [50] S_124 S_127 := kp_125.f e_125
                                          have kp_123 : dg_kp [74, 75, 76] [50] S_123 S_127 := kp_124.F e_124
                                          have kp_122 : dg_kp [74, 75, 76] [49, 50] S_122 S_127 := kp_123.f e_123
                                          have kp_121 : dg_kp [73, 74, 75, 76] [49, 50] S_121 S_127 := kp_122.F e_122
                                          have kp_120 : dg_kp [73, 74, 75, 76] [48, 49, 50] S_120 S_127 := kp_121.f e_121
                                          have kp_119 : dg_kp [72, 73, 74, 75, 76] [48, 49, 50] S_119 S_127 := kp_120.F e_120
                                          have kp_118 : dg_kp [72, 73, 74, 75, 76] [47, 48, 49, 50] S_118 S_127 := kp_119.f e_119
                                          have kp_117 : dg_kp [71, 72, 73, 74, 75, 76] [47, 48, 49, 50] S_117 S_127 := kp_118.F e_118
                                          have kp_116 : dg_kp [71, 72, 73, 74, 75, 76] [46, 47, 48, 49, 50] S_116 S_127 := kp_117.f e_117
                                          have kp_115 : dg_kp [70, 71, 72, 73, 74, 75, 76] [46, 47, 48, 49, 50] S_115 S_127 := kp_116.F e_116
                                          have kp_114 : dg_kp [70, 71, 72, 73, 74, 75, 76] [45, 46, 47, 48, 49, 50] S_114 S_127 := kp_115.f e_115
                                          have kp_113 : dg_kp [69, 70, 71, 72, 73, 74, 75, 76] [45, 46, 47, 48, 49, 50] S_113 S_127 := kp_114.F e_114
                                          have kp_112 : dg_kp [68, 69, 70, 71, 72, 73, 74, 75, 76] [45, 46, 47, 48, 49, 50] S_112 S_127 := kp_113.F e_113
                                          have kp_111 : dg_kp [68, 69, 70, 71, 72, 73, 74, 75, 76] [44, 45, 46, 47, 48, 49, 50] S_111 S_127 := kp_112.f e_112
                                          have kp_110 : dg_kp [67, 68, 69, 70, 71, 72, 73, 74, 75, 76] [44, 45, 46, 47, 48, 49, 50] S_110 S_127 := kp_111.F e_111
                                          have kp_109 : dg_kp [67, 68, 69, 70, 71, 72, 73, 74, 75, 76] [43, 44, 45, 46, 47, 48, 49, 50] S_109 S_127 := kp_110.f e_110
                                          have kp_108 : dg_kp [66, 67, 68, 69, 70, 71, 72, 73, 74, 75, 76] [43, 44, 45, 46, 47, 48, 49, 50] S_108 S_127 := kp_109.F e_109
                                          have kp_107 : dg_kp [66, 67, 68, 69, 70, 71, 72, 73, 74, 75, 76] [42, 43, 44, 45, 46, 47, 48, 49, 50] S_107 S_127 := kp_108.f e_108
                                          have kp_106 : dg_kp [65, 66, 67, 68, 69, 70, 71, 72, 73, 74, 75, 76] [42, 43, 44, 45, 46, 47, 48, 49, 50] S_106 S_127 := kp_107.F e_107
                                          have kp_105 : dg_kp [65, 66, 67, 68, 69, 70, 71, 72, 73, 74, 75, 76] [41, 42, 43, 44, 45, 46, 47, 48, 49, 50] S_105 S_127 := kp_106.f e_106
                                          have kp_104 : dg_kp [64, 65, 66, 67, 68, 69, 70, 71, 72, 73, 74, 75, 76] [41, 42, 43, 44, 45, 46, 47, 48, 49, 50] S_104 S_127 := kp_105.F e_105
                                          have kp_103 : dg_kp [64, 65, 66, 67, 68, 69, 70, 71, 72, 73, 74, 75, 76] [41, 42, 43, 44, 45, 46, 47, 48, 49, 50] S_103 S_127 := kp_104.l e_104
                                          have kp_102 : dg_kp [63, 64, 65, 66, 67, 68, 69, 70, 71, 72, 73, 74, 75, 76] [41, 42, 43, 44, 45, 46, 47, 48, 49, 50] S_102 S_127 := kp_103.F e_103
                                          have kp_101 : dg_kp [62, 63, 64, 65, 66, 67, 68, 69, 70, 71, 72, 73, 74, 75, 76] [41, 42, 43, 44, 45, 46, 47, 48, 49, 50] S_101 S_127 := kp_102.F e_102
                                          have kp_100 : dg_kp [61, 62, 63, 64, 65, 66, 67, 68, 69, 70, 71, 72, 73, 74, 75, 76] [41, 42, 43, 44, 45, 46, 47, 48, 49, 50] S_100 S_127 := kp_101.F e_101
                                          have kp_99 : dg_kp [60, 61, 62, 63, 64, 65, 66, 67, 68, 69, 70, 71, 72, 73, 74, 75, 76] [41, 42, 43, 44, 45, 46, 47, 48, 49, 50] S_99 S_127 := kp_100.F e_100
                                          have kp_98 : dg_kp [59, 60, 61, 62, 63, 64, 65, 66, 67, 68, 69, 70, 71, 72, 73, 74, 75, 76] [41, 42, 43, 44, 45, 46, 47, 48, 49, 50] S_98 S_127 := kp_99.F e_99
                                          have kp_97 : dg_kp [59, 60, 61, 62, 63, 64, 65, 66, 67, 68, 69, 70, 71, 72, 73, 74, 75, 76] [39, 41, 42, 43, 44, 45, 46, 47, 48, 49, 50] S_97 S_127 := kp_98.f e_98
                                          have kp_96 : dg_kp [58, 59, 60, 61, 62, 63, 64, 65, 66, 67, 68, 69, 70, 71, 72, 73, 74, 75, 76] [39, 41, 42, 43, 44, 45, 46, 47, 48, 49, 50] S_96 S_127 := kp_97.F e_97
                                          have kp_95 : dg_kp [58, 59, 60, 61, 62, 63, 64, 65, 66, 67, 68, 69, 70, 71, 72, 73, 74, 75, 76] [38, 39, 41, 42, 43, 44, 45, 46, 47, 48, 49, 50] S_95 S_127 := kp_96.f e_96
                                          have kp_94 : dg_kp [57, 58, 59, 60, 61, 62, 63, 64, 65, 66, 67, 68, 69, 70, 71, 72, 73, 74, 75, 76] [38, 39, 41, 42, 43, 44, 45, 46, 47, 48, 49, 50] S_94 S_127 := kp_95.F e_95
                                          have kp_93 : dg_kp [57, 58, 59, 60, 61, 62, 63, 64, 65, 66, 67, 68, 69, 70, 71, 72, 73, 74, 75, 76] [37, 38, 39, 41, 42, 43, 44, 45, 46, 47, 48, 49, 50] S_93 S_127 := kp_94.f e_94
                                          have kp_92 : dg_kp [56, 57, 58, 59, 60, 61, 62, 63, 64, 65, 66, 67, 68, 69, 70, 71, 72, 73, 74, 75, 76] [37, 38, 39, 41, 42, 43, 44, 45, 46, 47, 48, 49, 50] S_92 S_127 := kp_93.F e_93
                                          have kp_91 : dg_kp [56, 57, 58, 59, 60, 61, 62, 63, 64, 65, 66, 67, 68, 69, 70, 71, 72, 73, 74, 75, 76] [36, 37, 38, 39, 41, 42, 43, 44, 45, 46, 47, 48, 49, 50] S_91 S_127 := kp_92.f e_92
                                          have kp_90 : dg_kp [55, 56, 57, 58, 59, 60, 61, 62, 63, 64, 65, 66, 67, 68, 69, 70, 71, 72, 73, 74, 75, 76] [36, 37, 38, 39, 41, 42, 43, 44, 45, 46, 47, 48, 49, 50] S_90 S_127 := kp_91.F e_91
                                          have kp_89 : dg_kp [55, 56, 57, 58, 59, 60, 61, 62, 63, 64, 65, 66, 67, 68, 69, 70, 71, 72, 73, 74, 75, 76] [35, 36, 37, 38, 39, 41, 42, 43, 44, 45, 46, 47, 48, 49, 50] S_89 S_127 := kp_90.f e_90
                                          have kp_88 : dg_kp [54, 55, 56, 57, 58, 59, 60, 61, 62, 63, 64, 65, 66, 67, 68, 69, 70, 71, 72, 73, 74, 75, 76] [35, 36, 37, 38, 39, 41, 42, 43, 44, 45, 46, 47, 48, 49, 50] S_88 S_127 := kp_89.F e_89
                                          have kp_87 : dg_kp [54, 55, 56, 57, 58, 59, 60, 61, 62, 63, 64, 65, 66, 67, 68, 69, 70, 71, 72, 73, 74, 75, 76] [34, 35, 36, 37, 38, 39, 41, 42, 43, 44, 45, 46, 47, 48, 49, 50] S_87 S_127 := kp_88.f e_88
                                          have kp_86 : dg_kp [53, 54, 55, 56, 57, 58, 59, 60, 61, 62, 63, 64, 65, 66, 67, 68, 69, 70, 71, 72, 73, 74, 75, 76] [34, 35, 36, 37, 38, 39, 41, 42, 43, 44, 45, 46, 47, 48, 49, 50] S_86 S_127 := kp_87.F e_87
                                          have kp_85 : dg_kp [53, 54, 55, 56, 57, 58, 59, 60, 61, 62, 63, 64, 65, 66, 67, 68, 69, 70, 71, 72, 73, 74, 75, 76] [33, 34, 35, 36, 37, 38, 39, 41, 42, 43, 44, 45, 46, 47, 48, 49, 50] S_85 S_127 := kp_86.f e_86
                                          have kp_84 : dg_kp [52, 53, 54, 55, 56, 57, 58, 59, 60, 61, 62, 63, 64, 65, 66, 67, 68, 69, 70, 71, 72, 73, 74, 75, 76] [33, 34, 35, 36, 37, 38, 39, 41, 42, 43, 44, 45, 46, 47, 48, 49, 50] S_84 S_127 := kp_85.F e_85
                                          have kp_83 : dg_kp [52, 53, 54, 55, 56, 57, 58, 59, 60, 61, 62, 63, 64, 65, 66, 67, 68, 69, 70, 71, 72, 73, 74, 75, 76] [32, 33, 34, 35, 36, 37, 38, 39, 41, 42, 43, 44, 45, 46, 47, 48, 49, 50] S_83 S_127 := kp_84.f e_84
                                          have kp_82 : dg_kp [51, 52, 53, 54, 55, 56, 57, 58, 59, 60, 61, 62, 63, 64, 65, 66, 67, 68, 69, 70, 71, 72, 73, 74, 75, 76] [32, 33, 34, 35, 36, 37, 38, 39, 41, 42, 43, 44, 45, 46, 47, 48, 49, 50] S_82 S_127 := kp_83.F e_83
                                          have kp_81 : dg_kp [51, 52, 53, 54, 55, 56, 57, 58, 59, 60, 61, 62, 63, 64, 65, 66, 67, 68, 69, 70, 71, 72, 73, 74, 75, 76] [31, 32, 33, 34, 35, 36, 37, 38, 39, 41, 42, 43, 44, 45, 46, 47, 48, 49, 50] S_81 S_127 := kp_82.f e_82
                                          have kp_80 : dg_kp [50, 51, 52, 53, 54, 55, 56, 57, 58, 59, 60, 61, 62, 63, 64, 65, 66, 67, 68, 69, 70, 71, 72, 73, 74, 75, 76] [31, 32, 33, 34, 35, 36, 37, 38, 39, 41, 42, 43, 44, 45, 46, 47, 48, 49, 50] S_80 S_127 := kp_81.F e_81
                                          have kp_79 : dg_kp [50, 51, 52, 53, 54, 55, 56, 57, 58, 59, 60, 61, 62, 63, 64, 65, 66, 67, 68, 69, 70, 71, 72, 73, 74, 75, 76] [30, 31, 32, 33, 34, 35, 36, 37, 38, 39, 41, 42, 43, 44, 45, 46, 47, 48, 49, 50] S_79 S_127 := kp_80.f e_80
                                          have kp_78 : dg_kp [49, 50, 51, 52, 53, 54, 55, 56, 57, 58, 59, 60, 61, 62, 63, 64, 65, 66, 67, 68, 69, 70, 71, 72, 73, 74, 75, 76] [30, 31, 32, 33, 34, 35, 36, 37, 38, 39, 41, 42, 43, 44, 45, 46, 47, 48, 49, 50] S_78 S_127 := kp_79.F e_79
                                          have kp_77 : dg_kp [49, 50, 51, 52, 53, 54, 55, 56, 57, 58, 59, 60, 61, 62, 63, 64, 65, 66, 67, 68, 69, 70, 71, 72, 73, 74, 75, 76] [29, 30, 31, 32, 33, 34, 35, 36, 37, 38, 39, 41, 42, 43, 44, 45, 46, 47, 48, 49, 50] S_77 S_127 := kp_78.f e_78
                                          have kp_76 : dg_kp [48, 49, 50, 51, 52, 53, 54, 55, 56, 57, 58, 59, 60, 61, 62, 63, 64, 65, 66, 67, 68, 69, 70, 71, 72, 73, 74, 75, 76] [29, 30, 31, 32, 33, 34, 35, 36, 37, 38, 39, 41, 42, 43, 44, 45, 46, 47, 48, 49, 50] S_76 S_127 := kp_77.F e_77
                                          have kp_75 : dg_kp [48, 49, 50, 51, 52, 53, 54, 55, 56, 57, 58, 59, 60, 61, 62, 63, 64, 65, 66, 67, 68, 69, 70, 71, 72, 73, 74, 75, 76] [28, 29, 30, 31, 32, 33, 34, 35, 36, 37, 38, 39, 41, 42, 43, 44, 45, 46, 47, 48, 49, 50] S_75 S_127 := kp_76.f e_76
                                          have kp_74 : dg_kp [47, 48, 49, 50, 51, 52, 53, 54, 55, 56, 57, 58, 59, 60, 61, 62, 63, 64, 65, 66, 67, 68, 69, 70, 71, 72, 73, 74, 75, 76] [28, 29, 30, 31, 32, 33, 34, 35, 36, 37, 38, 39, 41, 42, 43, 44, 45, 46, 47, 48, 49, 50] S_74 S_127 := kp_75.F e_75
                                          have kp_73 : dg_kp [46, 47, 48, 49, 50, 51, 52, 53, 54, 55, 56, 57, 58, 59, 60, 61, 62, 63, 64, 65, 66, 67, 68, 69, 70, 71, 72, 73, 74, 75, 76] [28, 29, 30, 31, 32, 33, 34, 35, 36, 37, 38, 39, 41, 42, 43, 44, 45, 46, 47, 48, 49, 50] S_73 S_127 := kp_74.F e_74
                                          have kp_72 : dg_kp [45, 46, 47, 48, 49, 50, 51, 52, 53, 54, 55, 56, 57, 58, 59, 60, 61, 62, 63, 64, 65, 66, 67, 68, 69, 70, 71, 72, 73, 74, 75, 76] [28, 29, 30, 31, 32, 33, 34, 35, 36, 37, 38, 39, 41, 42, 43, 44, 45, 46, 47, 48, 49, 50] S_72 S_127 := kp_73.F e_73
                                          have kp_71 : dg_kp [44, 45, 46, 47, 48, 49, 50, 51, 52, 53, 54, 55, 56, 57, 58, 59, 60, 61, 62, 63, 64, 65, 66, 67, 68, 69, 70, 71, 72, 73, 74, 75, 76] [28, 29, 30, 31, 32, 33, 34, 35, 36, 37, 38, 39, 41, 42, 43, 44, 45, 46, 47, 48, 49, 50] S_71 S_127 := kp_72.F e_72
                                          have kp_70 : dg_kp [44, 45, 46, 47, 48, 49, 50, 51, 52, 53, 54, 55, 56, 57, 58, 59, 60, 61, 62, 63, 64, 65, 66, 67, 68, 69, 70, 71, 72, 73, 74, 75, 76] [27, 28, 29, 30, 31, 32, 33, 34, 35, 36, 37, 38, 39, 41, 42, 43, 44, 45, 46, 47, 48, 49, 50] S_70 S_127 := kp_71.f e_71
                                          have kp_69 : dg_kp [43, 44, 45, 46, 47, 48, 49, 50, 51, 52, 53, 54, 55, 56, 57, 58, 59, 60, 61, 62, 63, 64, 65, 66, 67, 68, 69, 70, 71, 72, 73, 74, 75, 76] [27, 28, 29, 30, 31, 32, 33, 34, 35, 36, 37, 38, 39, 41, 42, 43, 44, 45, 46, 47, 48, 49, 50] S_69 S_127 := kp_70.F e_70
                                          have kp_68 : dg_kp [42, 43, 44, 45, 46, 47, 48, 49, 50, 51, 52, 53, 54, 55, 56, 57, 58, 59, 60, 61, 62, 63, 64, 65, 66, 67, 68, 69, 70, 71, 72, 73, 74, 75, 76] [27, 28, 29, 30, 31, 32, 33, 34, 35, 36, 37, 38, 39, 41, 42, 43, 44, 45, 46, 47, 48, 49, 50] S_68 S_127 := kp_69.F e_69
                                          have kp_67 : dg_kp [41, 42, 43, 44, 45, 46, 47, 48, 49, 50, 51, 52, 53, 54, 55, 56, 57, 58, 59, 60, 61, 62, 63, 64, 65, 66, 67, 68, 69, 70, 71, 72, 73, 74, 75, 76] [27, 28, 29, 30, 31, 32, 33, 34, 35, 36, 37, 38, 39, 41, 42, 43, 44, 45, 46, 47, 48, 49, 50] S_67 S_127 := kp_68.F e_68
                                          have kp_66 : dg_kp [41, 42, 43, 44, 45, 46, 47, 48, 49, 50, 51, 52, 53, 54, 55, 56, 57, 58, 59, 60, 61, 62, 63, 64, 65, 66, 67, 68, 69, 70, 71, 72, 73, 74, 75, 76] [26, 27, 28, 29, 30, 31, 32, 33, 34, 35, 36, 37, 38, 39, 41, 42, 43, 44, 45, 46, 47, 48, 49, 50] S_66 S_127 := kp_67.f e_67
                                          have kp_65 : dg_kp [40, 41, 42, 43, 44, 45, 46, 47, 48, 49, 50, 51, 52, 53, 54, 55, 56, 57, 58, 59, 60, 61, 62, 63, 64, 65, 66, 67, 68, 69, 70, 71, 72, 73, 74, 75, 76] [26, 27, 28, 29, 30, 31, 32, 33, 34, 35, 36, 37, 38, 39, 41, 42, 43, 44, 45, 46, 47, 48, 49, 50] S_65 S_127 := kp_66.F e_66
                                          have kp_64 : dg_kp [40, 41, 42, 43, 44, 45, 46, 47, 48, 49, 50, 51, 52, 53, 54, 55, 56, 57, 58, 59, 60, 61, 62, 63, 64, 65, 66, 67, 68, 69, 70, 71, 72, 73, 74, 75, 76] [25, 26, 27, 28, 29, 30, 31, 32, 33, 34, 35, 36, 37, 38, 39, 41, 42, 43, 44, 45, 46, 47, 48, 49, 50] S_64 S_127 := kp_65.f e_65
                                          have kp_63 : dg_kp [39, 40, 41, 42, 43, 44, 45, 46, 47, 48, 49, 50, 51, 52, 53, 54, 55, 56, 57, 58, 59, 60, 61, 62, 63, 64, 65, 66, 67, 68, 69, 70, 71, 72, 73, 74, 75, 76] [25, 26, 27, 28, 29, 30, 31, 32, 33, 34, 35, 36, 37, 38, 39, 41, 42, 43, 44, 45, 46, 47, 48, 49, 50] S_63 S_127 := kp_64.F e_64
                                          have kp_62 : dg_kp [39, 40, 41, 42, 43, 44, 45, 46, 47, 48, 49, 50, 51, 52, 53, 54, 55, 56, 57, 58, 59, 60, 61, 62, 63, 64, 65, 66, 67, 68, 69, 70, 71, 72, 73, 74, 75, 76] [24, 25, 26, 27, 28, 29, 30, 31, 32, 33, 34, 35, 36, 37, 38, 39, 41, 42, 43, 44, 45, 46, 47, 48, 49, 50] S_62 S_127 := kp_63.f e_63
                                          have kp_61 : dg_kp [38, 39, 40, 41, 42, 43, 44, 45, 46, 47, 48, 49, 50, 51, 52, 53, 54, 55, 56, 57, 58, 59, 60, 61, 62, 63, 64, 65, 66, 67, 68, 69, 70, 71, 72, 73, 74, 75, 76] [24, 25, 26, 27, 28, 29, 30, 31, 32, 33, 34, 35, 36, 37, 38, 39, 41, 42, 43, 44, 45, 46, 47, 48, 49, 50] S_61 S_127 := kp_62.F e_62
                                          have kp_60 : dg_kp [38, 39, 40, 41, 42, 43, 44, 45, 46, 47, 48, 49, 50, 51, 52, 53, 54, 55, 56, 57, 58, 59, 60, 61, 62, 63, 64, 65, 66, 67, 68, 69, 70, 71, 72, 73, 74, 75, 76] [23, 24, 25, 26, 27, 28, 29, 30, 31, 32, 33, 34, 35, 36, 37, 38, 39, 41, 42, 43, 44, 45, 46, 47, 48, 49, 50] S_60 S_127 := kp_61.f e_61
                                          have kp_59 : dg_kp [37, 38, 39, 40, 41, 42, 43, 44, 45, 46, 47, 48, 49, 50, 51, 52, 53, 54, 55, 56, 57, 58, 59, 60, 61, 62, 63, 64, 65, 66, 67, 68, 69, 70, 71, 72, 73, 74, 75, 76] [23, 24, 25, 26, 27, 28, 29, 30, 31, 32, 33, 34, 35, 36, 37, 38, 39, 41, 42, 43, 44, 45, 46, 47, 48, 49, 50] S_59 S_127 := kp_60.F e_60
                                          have kp_58 : dg_kp [37, 38, 39, 40, 41, 42, 43, 44, 45, 46, 47, 48, 49, 50, 51, 52, 53, 54, 55, 56, 57, 58, 59, 60, 61, 62, 63, 64, 65, 66, 67, 68, 69, 70, 71, 72, 73, 74, 75, 76] [22, 23, 24, 25, 26, 27, 28, 29, 30, 31, 32, 33, 34, 35, 36, 37, 38, 39, 41, 42, 43, 44, 45, 46, 47, 48, 49, 50] S_58 S_127 := kp_59.f e_59
                                          have kp_57 : dg_kp [36, 37, 38, 39, 40, 41, 42, 43, 44, 45, 46, 47, 48, 49, 50, 51, 52, 53, 54, 55, 56, 57, 58, 59, 60, 61, 62, 63, 64, 65, 66, 67, 68, 69, 70, 71, 72, 73, 74, 75, 76] [22, 23, 24, 25, 26, 27, 28, 29, 30, 31, 32, 33, 34, 35, 36, 37, 38, 39, 41, 42, 43, 44, 45, 46, 47, 48, 49, 50] S_57 S_127 := kp_58.F e_58
                                          have kp_56 : dg_kp [35, 36, 37, 38, 39, 40, 41, 42, 43, 44, 45, 46, 47, 48, 49, 50, 51, 52, 53, 54, 55, 56, 57, 58, 59, 60, 61, 62, 63, 64, 65, 66, 67, 68, 69, 70, 71, 72, 73, 74, 75, 76] [22, 23, 24, 25, 26, 27, 28, 29, 30, 31, 32, 33, 34, 35, 36, 37, 38, 39, 41, 42, 43, 44, 45, 46, 47, 48, 49, 50] S_56 S_127 := kp_57.F e_57
                                          have kp_55 : dg_kp [34, 35, 36, 37, 38, 39, 40, 41, 42, 43, 44, 45, 46, 47, 48, 49, 50, 51, 52, 53, 54, 55, 56, 57, 58, 59, 60, 61, 62, 63, 64, 65, 66, 67, 68, 69, 70, 71, 72, 73, 74, 75, 76] [22, 23, 24, 25, 26, 27, 28, 29, 30, 31, 32, 33, 34, 35, 36, 37, 38, 39, 41, 42, 43, 44, 45, 46, 47, 48, 49, 50] S_55 S_127 := kp_56.F e_56
                                          have kp_54 : dg_kp [33, 34, 35, 36, 37, 38, 39, 40, 41, 42, 43, 44, 45, 46, 47, 48, 49, 50, 51, 52, 53, 54, 55, 56, 57, 58, 59, 60, 61, 62, 63, 64, 65, 66, 67, 68, 69, 70, 71, 72, 73, 74, 75, 76] [22, 23, 24, 25, 26, 27, 28, 29, 30, 31, 32, 33, 34, 35, 36, 37, 38, 39, 41, 42, 43, 44, 45, 46, 47, 48, 49, 50] S_54 S_127 := kp_55.F e_55
                                          have kp_53 : dg_kp [33, 34, 35, 36, 37, 38, 39, 40, 41, 42, 43, 44, 45, 46, 47, 48, 49, 50, 51, 52, 53, 54, 55, 56, 57, 58, 59, 60, 61, 62, 63, 64, 65, 66, 67, 68, 69, 70, 71, 72, 73, 74, 75, 76] [22, 23, 24, 25, 26, 27, 28, 29, 30, 31, 32, 33, 34, 35, 36, 37, 38, 39, 41, 42, 43, 44, 45, 46, 47, 48, 49, 50] S_53 S_127 := kp_54.l e_54
                                          have kp_52 : dg_kp [32, 33, 34, 35, 36, 37, 38, 39, 40, 41, 42, 43, 44, 45, 46, 47, 48, 49, 50, 51, 52, 53, 54, 55, 56, 57, 58, 59, 60, 61, 62, 63, 64, 65, 66, 67, 68, 69, 70, 71, 72, 73, 74, 75, 76] [22, 23, 24, 25, 26, 27, 28, 29, 30, 31, 32, 33, 34, 35, 36, 37, 38, 39, 41, 42, 43, 44, 45, 46, 47, 48, 49, 50] S_52 S_127 := kp_53.F e_53
                                          have kp_51 : dg_kp [32, 33, 34, 35, 36, 37, 38, 39, 40, 41, 42, 43, 44, 45, 46, 47, 48, 49, 50, 51, 52, 53, 54, 55, 56, 57, 58, 59, 60, 61, 62, 63, 64, 65, 66, 67, 68, 69, 70, 71, 72, 73, 74, 75, 76] [22, 23, 24, 25, 26, 27, 28, 29, 30, 31, 32, 33, 34, 35, 36, 37, 38, 39, 41, 42, 43, 44, 45, 46, 47, 48, 49, 50] S_51 S_127 := kp_52.l e_52
                                          have kp_50 : dg_kp [31, 32, 33, 34, 35, 36, 37, 38, 39, 40, 41, 42, 43, 44, 45, 46, 47, 48, 49, 50, 51, 52, 53, 54, 55, 56, 57, 58, 59, 60, 61, 62, 63, 64, 65, 66, 67, 68, 69, 70, 71, 72, 73, 74, 75, 76] [22, 23, 24, 25, 26, 27, 28, 29, 30, 31, 32, 33, 34, 35, 36, 37, 38, 39, 41, 42, 43, 44, 45, 46, 47, 48, 49, 50] S_50 S_127 := kp_51.F e_51
                                          have kp_49 : dg_kp [31, 32, 33, 34, 35, 36, 37, 38, 39, 40, 41, 42, 43, 44, 45, 46, 47, 48, 49, 50, 51, 52, 53, 54, 55, 56, 57, 58, 59, 60, 61, 62, 63, 64, 65, 66, 67, 68, 69, 70, 71, 72, 73, 74, 75, 76] [19, 22, 23, 24, 25, 26, 27, 28, 29, 30, 31, 32, 33, 34, 35, 36, 37, 38, 39, 41, 42, 43, 44, 45, 46, 47, 48, 49, 50] S_49 S_127 := kp_50.f e_50
                                          have kp_48 : dg_kp [30, 31, 32, 33, 34, 35, 36, 37, 38, 39, 40, 41, 42, 43, 44, 45, 46, 47, 48, 49, 50, 51, 52, 53, 54, 55, 56, 57, 58, 59, 60, 61, 62, 63, 64, 65, 66, 67, 68, 69, 70, 71, 72, 73, 74, 75, 76] [19, 22, 23, 24, 25, 26, 27, 28, 29, 30, 31, 32, 33, 34, 35, 36, 37, 38, 39, 41, 42, 43, 44, 45, 46, 47, 48, 49, 50] S_48 S_127 := kp_49.F e_49
                                          have kp_47 : dg_kp [30, 31, 32, 33, 34, 35, 36, 37, 38, 39, 40, 41, 42, 43, 44, 45, 46, 47, 48, 49, 50, 51, 52, 53, 54, 55, 56, 57, 58, 59, 60, 61, 62, 63, 64, 65, 66, 67, 68, 69, 70, 71, 72, 73, 74, 75, 76] [18, 19, 22, 23, 24, 25, 26, 27, 28, 29, 30, 31, 32, 33, 34, 35, 36, 37, 38, 39, 41, 42, 43, 44, 45, 46, 47, 48, 49, 50] S_47 S_127 := kp_48.f e_48
                                          have kp_46 : dg_kp [29, 30, 31, 32, 33, 34, 35, 36, 37, 38, 39, 40, 41, 42, 43, 44, 45, 46, 47, 48, 49, 50, 51, 52, 53, 54, 55, 56, 57, 58, 59, 60, 61, 62, 63, 64, 65, 66, 67, 68, 69, 70, 71, 72, 73, 74, 75, 76] [18, 19, 22, 23, 24, 25, 26, 27, 28, 29, 30, 31, 32, 33, 34, 35, 36, 37, 38, 39, 41, 42, 43, 44, 45, 46, 47, 48, 49, 50] S_46 S_127 := kp_47.F e_47
                                          have kp_45 : dg_kp [29, 30, 31, 32, 33, 34, 35, 36, 37, 38, 39, 40, 41, 42, 43, 44, 45, 46, 47, 48, 49, 50, 51, 52, 53, 54, 55, 56, 57, 58, 59, 60, 61, 62, 63, 64, 65, 66, 67, 68, 69, 70, 71, 72, 73, 74, 75, 76] [17, 18, 19, 22, 23, 24, 25, 26, 27, 28, 29, 30, 31, 32, 33, 34, 35, 36, 37, 38, 39, 41, 42, 43, 44, 45, 46, 47, 48, 49, 50] S_45 S_127 := kp_46.f e_46
                                          have kp_44 : dg_kp [28, 29, 30, 31, 32, 33, 34, 35, 36, 37, 38, 39, 40, 41, 42, 43, 44, 45, 46, 47, 48, 49, 50, 51, 52, 53, 54, 55, 56, 57, 58, 59, 60, 61, 62, 63, 64, 65, 66, 67, 68, 69, 70, 71, 72, 73, 74, 75, 76] [17, 18, 19, 22, 23, 24, 25, 26, 27, 28, 29, 30, 31, 32, 33, 34, 35, 36, 37, 38, 39, 41, 42, 43, 44, 45, 46, 47, 48, 49, 50] S_44 S_127 := kp_45.F e_45
                                          have kp_43 : dg_kp [28, 29, 30, 31, 32, 33, 34, 35, 36, 37, 38, 39, 40, 41, 42, 43, 44, 45, 46, 47, 48, 49, 50, 51, 52, 53, 54, 55, 56, 57, 58, 59, 60, 61, 62, 63, 64, 65, 66, 67, 68, 69, 70, 71, 72, 73, 74, 75, 76] [16, 17, 18, 19, 22, 23, 24, 25, 26, 27, 28, 29, 30, 31, 32, 33, 34, 35, 36, 37, 38, 39, 41, 42, 43, 44, 45, 46, 47, 48, 49, 50] S_43 S_127 := kp_44.f e_44
                                          have kp_42 : dg_kp [27, 28, 29, 30, 31, 32, 33, 34, 35, 36, 37, 38, 39, 40, 41, 42, 43, 44, 45, 46, 47, 48, 49, 50, 51, 52, 53, 54, 55, 56, 57, 58, 59, 60, 61, 62, 63, 64, 65, 66, 67, 68, 69, 70, 71, 72, 73, 74, 75, 76] [16, 17, 18, 19, 22, 23, 24, 25, 26, 27, 28, 29, 30, 31, 32, 33, 34, 35, 36, 37, 38, 39, 41, 42, 43, 44, 45, 46, 47, 48, 49, 50] S_42 S_127 := kp_43.F e_43
                                          have kp_41 : dg_kp [27, 28, 29, 30, 31, 32, 33, 34, 35, 36, 37, 38, 39, 40, 41, 42, 43, 44, 45, 46, 47, 48, 49, 50, 51, 52, 53, 54, 55, 56, 57, 58, 59, 60, 61, 62, 63, 64, 65, 66, 67, 68, 69, 70, 71, 72, 73, 74, 75, 76] [15, 16, 17, 18, 19, 22, 23, 24, 25, 26, 27, 28, 29, 30, 31, 32, 33, 34, 35, 36, 37, 38, 39, 41, 42, 43, 44, 45, 46, 47, 48, 49, 50] S_41 S_127 := kp_42.f e_42
                                          have kp_40 : dg_kp [26, 27, 28, 29, 30, 31, 32, 33, 34, 35, 36, 37, 38, 39, 40, 41, 42, 43, 44, 45, 46, 47, 48, 49, 50, 51, 52, 53, 54, 55, 56, 57, 58, 59, 60, 61, 62, 63, 64, 65, 66, 67, 68, 69, 70, 71, 72, 73, 74, 75, 76] [15, 16, 17, 18, 19, 22, 23, 24, 25, 26, 27, 28, 29, 30, 31, 32, 33, 34, 35, 36, 37, 38, 39, 41, 42, 43, 44, 45, 46, 47, 48, 49, 50] S_40 S_127 := kp_41.F e_41
                                          have kp_39 : dg_kp [26, 27, 28, 29, 30, 31, 32, 33, 34, 35, 36, 37, 38, 39, 40, 41, 42, 43, 44, 45, 46, 47, 48, 49, 50, 51, 52, 53, 54, 55, 56, 57, 58, 59, 60, 61, 62, 63, 64, 65, 66, 67, 68, 69, 70, 71, 72, 73, 74, 75, 76] [14, 15, 16, 17, 18, 19, 22, 23, 24, 25, 26, 27, 28, 29, 30, 31, 32, 33, 34, 35, 36, 37, 38, 39, 41, 42, 43, 44, 45, 46, 47, 48, 49, 50] S_39 S_127 := kp_40.f e_40
                                          have kp_38 : dg_kp [25, 26, 27, 28, 29, 30, 31, 32, 33, 34, 35, 36, 37, 38, 39, 40, 41, 42, 43, 44, 45, 46, 47, 48, 49, 50, 51, 52, 53, 54, 55, 56, 57, 58, 59, 60, 61, 62, 63, 64, 65, 66, 67, 68, 69, 70, 71, 72, 73, 74, 75, 76] [14, 15, 16, 17, 18, 19, 22, 23, 24, 25, 26, 27, 28, 29, 30, 31, 32, 33, 34, 35, 36, 37, 38, 39, 41, 42, 43, 44, 45, 46, 47, 48, 49, 50] S_38 S_127 := kp_39.F e_39
                                          have kp_37 : dg_kp [25, 26, 27, 28, 29, 30, 31, 32, 33, 34, 35, 36, 37, 38, 39, 40, 41, 42, 43, 44, 45, 46, 47, 48, 49, 50, 51, 52, 53, 54, 55, 56, 57, 58, 59, 60, 61, 62, 63, 64, 65, 66, 67, 68, 69, 70, 71, 72, 73, 74, 75, 76] [13, 14, 15, 16, 17, 18, 19, 22, 23, 24, 25, 26, 27, 28, 29, 30, 31, 32, 33, 34, 35, 36, 37, 38, 39, 41, 42, 43, 44, 45, 46, 47, 48, 49, 50] S_37 S_127 := kp_38.f e_38
                                          have kp_36 : dg_kp [24, 25, 26, 27, 28, 29, 30, 31, 32, 33, 34, 35, 36, 37, 38, 39, 40, 41, 42, 43, 44, 45, 46, 47, 48, 49, 50, 51, 52, 53, 54, 55, 56, 57, 58, 59, 60, 61, 62, 63, 64, 65, 66, 67, 68, 69, 70, 71, 72, 73, 74, 75, 76] [13, 14, 15, 16, 17, 18, 19, 22, 23, 24, 25, 26, 27, 28, 29, 30, 31, 32, 33, 34, 35, 36, 37, 38, 39, 41, 42, 43, 44, 45, 46, 47, 48, 49, 50] S_36 S_127 := kp_37.F e_37
                                          have kp_35 : dg_kp [24, 25, 26, 27, 28, 29, 30, 31, 32, 33, 34, 35, 36, 37, 38, 39, 40, 41, 42, 43, 44, 45, 46, 47, 48, 49, 50, 51, 52, 53, 54, 55, 56, 57, 58, 59, 60, 61, 62, 63, 64, 65, 66, 67, 68, 69, 70, 71, 72, 73, 74, 75, 76] [12, 13, 14, 15, 16, 17, 18, 19, 22, 23, 24, 25, 26, 27, 28, 29, 30, 31, 32, 33, 34, 35, 36, 37, 38, 39, 41, 42, 43, 44, 45, 46, 47, 48, 49, 50] S_35 S_127 := kp_36.f e_36
                                          have kp_34 : dg_kp [23, 24, 25, 26, 27, 28, 29, 30, 31, 32, 33, 34, 35, 36, 37, 38, 39, 40, 41, 42, 43, 44, 45, 46, 47, 48, 49, 50, 51, 52, 53, 54, 55, 56, 57, 58, 59, 60, 61, 62, 63, 64, 65, 66, 67, 68, 69, 70, 71, 72, 73, 74, 75, 76] [12, 13, 14, 15, 16, 17, 18, 19, 22, 23, 24, 25, 26, 27, 28, 29, 30, 31, 32, 33, 34, 35, 36, 37, 38, 39, 41, 42, 43, 44, 45, 46, 47, 48, 49, 50] S_34 S_127 := kp_35.F e_35
                                          have kp_33 : dg_kp [23, 24, 25, 26, 27, 28, 29, 30, 31, 32, 33, 34, 35, 36, 37, 38, 39, 40, 41, 42, 43, 44, 45, 46, 47, 48, 49, 50, 51, 52, 53, 54, 55, 56, 57, 58, 59, 60, 61, 62, 63, 64, 65, 66, 67, 68, 69, 70, 71, 72, 73, 74, 75, 76] [11, 12, 13, 14, 15, 16, 17, 18, 19, 22, 23, 24, 25, 26, 27, 28, 29, 30, 31, 32, 33, 34, 35, 36, 37, 38, 39, 41, 42, 43, 44, 45, 46, 47, 48, 49, 50] S_33 S_127 := kp_34.f e_34
                                          have kp_32 : dg_kp [22, 23, 24, 25, 26, 27, 28, 29, 30, 31, 32, 33, 34, 35, 36, 37, 38, 39, 40, 41, 42, 43, 44, 45, 46, 47, 48, 49, 50, 51, 52, 53, 54, 55, 56, 57, 58, 59, 60, 61, 62, 63, 64, 65, 66, 67, 68, 69, 70, 71, 72, 73, 74, 75, 76] [11, 12, 13, 14, 15, 16, 17, 18, 19, 22, 23, 24, 25, 26, 27, 28, 29, 30, 31, 32, 33, 34, 35, 36, 37, 38, 39, 41, 42, 43, 44, 45, 46, 47, 48, 49, 50] S_32 S_127 := kp_33.F e_33
                                          have kp_31 : dg_kp [22, 23, 24, 25, 26, 27, 28, 29, 30, 31, 32, 33, 34, 35, 36, 37, 38, 39, 40, 41, 42, 43, 44, 45, 46, 47, 48, 49, 50, 51, 52, 53, 54, 55, 56, 57, 58, 59, 60, 61, 62, 63, 64, 65, 66, 67, 68, 69, 70, 71, 72, 73, 74, 75, 76] [10, 11, 12, 13, 14, 15, 16, 17, 18, 19, 22, 23, 24, 25, 26, 27, 28, 29, 30, 31, 32, 33, 34, 35, 36, 37, 38, 39, 41, 42, 43, 44, 45, 46, 47, 48, 49, 50] S_31 S_127 := kp_32.f e_32
                                          have kp_30 : dg_kp [21, 22, 23, 24, 25, 26, 27, 28, 29, 30, 31, 32, 33, 34, 35, 36, 37, 38, 39, 40, 41, 42, 43, 44, 45, 46, 47, 48, 49, 50, 51, 52, 53, 54, 55, 56, 57, 58, 59, 60, 61, 62, 63, 64, 65, 66, 67, 68, 69, 70, 71, 72, 73, 74, 75, 76] [10, 11, 12, 13, 14, 15, 16, 17, 18, 19, 22, 23, 24, 25, 26, 27, 28, 29, 30, 31, 32, 33, 34, 35, 36, 37, 38, 39, 41, 42, 43, 44, 45, 46, 47, 48, 49, 50] S_30 S_127 := kp_31.F e_31
                                          have kp_29 : dg_kp [21, 22, 23, 24, 25, 26, 27, 28, 29, 30, 31, 32, 33, 34, 35, 36, 37, 38, 39, 40, 41, 42, 43, 44, 45, 46, 47, 48, 49, 50, 51, 52, 53, 54, 55, 56, 57, 58, 59, 60, 61, 62, 63, 64, 65, 66, 67, 68, 69, 70, 71, 72, 73, 74, 75, 76] [9, 10, 11, 12, 13, 14, 15, 16, 17, 18, 19, 22, 23, 24, 25, 26, 27, 28, 29, 30, 31, 32, 33, 34, 35, 36, 37, 38, 39, 41, 42, 43, 44, 45, 46, 47, 48, 49, 50] S_29 S_127 := kp_30.f e_30
                                          have kp_28 : dg_kp [20, 21, 22, 23, 24, 25, 26, 27, 28, 29, 30, 31, 32, 33, 34, 35, 36, 37, 38, 39, 40, 41, 42, 43, 44, 45, 46, 47, 48, 49, 50, 51, 52, 53, 54, 55, 56, 57, 58, 59, 60, 61, 62, 63, 64, 65, 66, 67, 68, 69, 70, 71, 72, 73, 74, 75, 76] [9, 10, 11, 12, 13, 14, 15, 16, 17, 18, 19, 22, 23, 24, 25, 26, 27, 28, 29, 30, 31, 32, 33, 34, 35, 36, 37, 38, 39, 41, 42, 43, 44, 45, 46, 47, 48, 49, 50] S_28 S_127 := kp_29.F e_29
                                          have kp_27 : dg_kp [20, 21, 22, 23, 24, 25, 26, 27, 28, 29, 30, 31, 32, 33, 34, 35, 36, 37, 38, 39, 40, 41, 42, 43, 44, 45, 46, 47, 48, 49, 50, 51, 52, 53, 54, 55, 56, 57, 58, 59, 60, 61, 62, 63, 64, 65, 66, 67, 68, 69, 70, 71, 72, 73, 74, 75, 76] [8, 9, 10, 11, 12, 13, 14, 15, 16, 17, 18, 19, 22, 23, 24, 25, 26, 27, 28, 29, 30, 31, 32, 33, 34, 35, 36, 37, 38, 39, 41, 42, 43, 44, 45, 46, 47, 48, 49, 50] S_27 S_127 := kp_28.f e_28
                                          have kp_26 : dg_kp [19, 20, 21, 22, 23, 24, 25, 26, 27, 28, 29, 30, 31, 32, 33, 34, 35, 36, 37, 38, 39, 40, 41, 42, 43, 44, 45, 46, 47, 48, 49, 50, 51, 52, 53, 54, 55, 56, 57, 58, 59, 60, 61, 62, 63, 64, 65, 66, 67, 68, 69, 70, 71, 72, 73, 74, 75, 76] [8, 9, 10, 11, 12, 13, 14, 15, 16, 17, 18, 19, 22, 23, 24, 25, 26, 27, 28, 29, 30, 31, 32, 33, 34, 35, 36, 37, 38, 39, 41, 42, 43, 44, 45, 46, 47, 48, 49, 50] S_26 S_127 := kp_27.F e_27
                                          have kp_25 : dg_kp [19, 20, 21, 22, 23, 24, 25, 26, 27, 28, 29, 30, 31, 32, 33, 34, 35, 36, 37, 38, 39, 40, 41, 42, 43, 44, 45, 46, 47, 48, 49, 50, 51, 52, 53, 54, 55, 56, 57, 58, 59, 60, 61, 62, 63, 64, 65, 66, 67, 68, 69, 70, 71, 72, 73, 74, 75, 76] [7, 8, 9, 10, 11, 12, 13, 14, 15, 16, 17, 18, 19, 22, 23, 24, 25, 26, 27, 28, 29, 30, 31, 32, 33, 34, 35, 36, 37, 38, 39, 41, 42, 43, 44, 45, 46, 47, 48, 49, 50] S_25 S_127 := kp_26.f e_26
                                          have kp_24 : dg_kp [18, 19, 20, 21, 22, 23, 24, 25, 26, 27, 28, 29, 30, 31, 32, 33, 34, 35, 36, 37, 38, 39, 40, 41, 42, 43, 44, 45, 46, 47, 48, 49, 50, 51, 52, 53, 54, 55, 56, 57, 58, 59, 60, 61, 62, 63, 64, 65, 66, 67, 68, 69, 70, 71, 72, 73, 74, 75, 76] [7, 8, 9, 10, 11, 12, 13, 14, 15, 16, 17, 18, 19, 22, 23, 24, 25, 26, 27, 28, 29, 30, 31, 32, 33, 34, 35, 36, 37, 38, 39, 41, 42, 43, 44, 45, 46, 47, 48, 49, 50] S_24 S_127 := kp_25.F e_25
                                          have kp_23 : dg_kp [18, 19, 20, 21, 22, 23, 24, 25, 26, 27, 28, 29, 30, 31, 32, 33, 34, 35, 36, 37, 38, 39, 40, 41, 42, 43, 44, 45, 46, 47, 48, 49, 50, 51, 52, 53, 54, 55, 56, 57, 58, 59, 60, 61, 62, 63, 64, 65, 66, 67, 68, 69, 70, 71, 72, 73, 74, 75, 76] [6, 7, 8, 9, 10, 11, 12, 13, 14, 15, 16, 17, 18, 19, 22, 23, 24, 25, 26, 27, 28, 29, 30, 31, 32, 33, 34, 35, 36, 37, 38, 39, 41, 42, 43, 44, 45, 46, 47, 48, 49, 50] S_23 S_127 := kp_24.f e_24
                                          have kp_22 : dg_kp [17, 18, 19, 20, 21, 22, 23, 24, 25, 26, 27, 28, 29, 30, 31, 32, 33, 34, 35, 36, 37, 38, 39, 40, 41, 42, 43, 44, 45, 46, 47, 48, 49, 50, 51, 52, 53, 54, 55, 56, 57, 58, 59, 60, 61, 62, 63, 64, 65, 66, 67, 68, 69, 70, 71, 72, 73, 74, 75, 76] [6, 7, 8, 9, 10, 11, 12, 13, 14, 15, 16, 17, 18, 19, 22, 23, 24, 25, 26, 27, 28, 29, 30, 31, 32, 33, 34, 35, 36, 37, 38, 39, 41, 42, 43, 44, 45, 46, 47, 48, 49, 50] S_22 S_127 := kp_23.F e_23
                                          have kp_21 : dg_kp [17, 18, 19, 20, 21, 22, 23, 24, 25, 26, 27, 28, 29, 30, 31, 32, 33, 34, 35, 36, 37, 38, 39, 40, 41, 42, 43, 44, 45, 46, 47, 48, 49, 50, 51, 52, 53, 54, 55, 56, 57, 58, 59, 60, 61, 62, 63, 64, 65, 66, 67, 68, 69, 70, 71, 72, 73, 74, 75, 76] [5, 6, 7, 8, 9, 10, 11, 12, 13, 14, 15, 16, 17, 18, 19, 22, 23, 24, 25, 26, 27, 28, 29, 30, 31, 32, 33, 34, 35, 36, 37, 38, 39, 41, 42, 43, 44, 45, 46, 47, 48, 49, 50] S_21 S_127 := kp_22.f e_22
                                          have kp_20 : dg_kp [16, 17, 18, 19, 20, 21, 22, 23, 24, 25, 26, 27, 28, 29, 30, 31, 32, 33, 34, 35, 36, 37, 38, 39, 40, 41, 42, 43, 44, 45, 46, 47, 48, 49, 50, 51, 52, 53, 54, 55, 56, 57, 58, 59, 60, 61, 62, 63, 64, 65, 66, 67, 68, 69, 70, 71, 72, 73, 74, 75, 76] [5, 6, 7, 8, 9, 10, 11, 12, 13, 14, 15, 16, 17, 18, 19, 22, 23, 24, 25, 26, 27, 28, 29, 30, 31, 32, 33, 34, 35, 36, 37, 38, 39, 41, 42, 43, 44, 45, 46, 47, 48, 49, 50] S_20 S_127 := kp_21.F e_21
                                          have kp_19 : dg_kp [16, 17, 18, 19, 20, 21, 22, 23, 24, 25, 26, 27, 28, 29, 30, 31, 32, 33, 34, 35, 36, 37, 38, 39, 40, 41, 42, 43, 44, 45, 46, 47, 48, 49, 50, 51, 52, 53, 54, 55, 56, 57, 58, 59, 60, 61, 62, 63, 64, 65, 66, 67, 68, 69, 70, 71, 72, 73, 74, 75, 76] [4, 5, 6, 7, 8, 9, 10, 11, 12, 13, 14, 15, 16, 17, 18, 19, 22, 23, 24, 25, 26, 27, 28, 29, 30, 31, 32, 33, 34, 35, 36, 37, 38, 39, 41, 42, 43, 44, 45, 46, 47, 48, 49, 50] S_19 S_127 := kp_20.f e_20
                                          have kp_18 : dg_kp [15, 16, 17, 18, 19, 20, 21, 22, 23, 24, 25, 26, 27, 28, 29, 30, 31, 32, 33, 34, 35, 36, 37, 38, 39, 40, 41, 42, 43, 44, 45, 46, 47, 48, 49, 50, 51, 52, 53, 54, 55, 56, 57, 58, 59, 60, 61, 62, 63, 64, 65, 66, 67, 68, 69, 70, 71, 72, 73, 74, 75, 76] [4, 5, 6, 7, 8, 9, 10, 11, 12, 13, 14, 15, 16, 17, 18, 19, 22, 23, 24, 25, 26, 27, 28, 29, 30, 31, 32, 33, 34, 35, 36, 37, 38, 39, 41, 42, 43, 44, 45, 46, 47, 48, 49, 50] S_18 S_127 := kp_19.F e_19
                                          have kp_17 : dg_kp [15, 16, 17, 18, 19, 20, 21, 22, 23, 24, 25, 26, 27, 28, 29, 30, 31, 32, 33, 34, 35, 36, 37, 38, 39, 40, 41, 42, 43, 44, 45, 46, 47, 48, 49, 50, 51, 52, 53, 54, 55, 56, 57, 58, 59, 60, 61, 62, 63, 64, 65, 66, 67, 68, 69, 70, 71, 72, 73, 74, 75, 76] [3, 4, 5, 6, 7, 8, 9, 10, 11, 12, 13, 14, 15, 16, 17, 18, 19, 22, 23, 24, 25, 26, 27, 28, 29, 30, 31, 32, 33, 34, 35, 36, 37, 38, 39, 41, 42, 43, 44, 45, 46, 47, 48, 49, 50] S_17 S_127 := kp_18.f e_18
                                          have kp_16 : dg_kp [14, 15, 16, 17, 18, 19, 20, 21, 22, 23, 24, 25, 26, 27, 28, 29, 30, 31, 32, 33, 34, 35, 36, 37, 38, 39, 40, 41, 42, 43, 44, 45, 46, 47, 48, 49, 50, 51, 52, 53, 54, 55, 56, 57, 58, 59, 60, 61, 62, 63, 64, 65, 66, 67, 68, 69, 70, 71, 72, 73, 74, 75, 76] [3, 4, 5, 6, 7, 8, 9, 10, 11, 12, 13, 14, 15, 16, 17, 18, 19, 22, 23, 24, 25, 26, 27, 28, 29, 30, 31, 32, 33, 34, 35, 36, 37, 38, 39, 41, 42, 43, 44, 45, 46, 47, 48, 49, 50] S_16 S_127 := kp_17.F e_17
                                          have kp_15 : dg_kp [14, 15, 16, 17, 18, 19, 20, 21, 22, 23, 24, 25, 26, 27, 28, 29, 30, 31, 32, 33, 34, 35, 36, 37, 38, 39, 40, 41, 42, 43, 44, 45, 46, 47, 48, 49, 50, 51, 52, 53, 54, 55, 56, 57, 58, 59, 60, 61, 62, 63, 64, 65, 66, 67, 68, 69, 70, 71, 72, 73, 74, 75, 76] [2, 3, 4, 5, 6, 7, 8, 9, 10, 11, 12, 13, 14, 15, 16, 17, 18, 19, 22, 23, 24, 25, 26, 27, 28, 29, 30, 31, 32, 33, 34, 35, 36, 37, 38, 39, 41, 42, 43, 44, 45, 46, 47, 48, 49, 50] S_15 S_127 := kp_16.f e_16
                                          have kp_14 : dg_kp [13, 14, 15, 16, 17, 18, 19, 20, 21, 22, 23, 24, 25, 26, 27, 28, 29, 30, 31, 32, 33, 34, 35, 36, 37, 38, 39, 40, 41, 42, 43, 44, 45, 46, 47, 48, 49, 50, 51, 52, 53, 54, 55, 56, 57, 58, 59, 60, 61, 62, 63, 64, 65, 66, 67, 68, 69, 70, 71, 72, 73, 74, 75, 76] [2, 3, 4, 5, 6, 7, 8, 9, 10, 11, 12, 13, 14, 15, 16, 17, 18, 19, 22, 23, 24, 25, 26, 27, 28, 29, 30, 31, 32, 33, 34, 35, 36, 37, 38, 39, 41, 42, 43, 44, 45, 46, 47, 48, 49, 50] S_14 S_127 := kp_15.F e_15
                                          have kp_13 : dg_kp [12, 13, 14, 15, 16, 17, 18, 19, 20, 21, 22, 23, 24, 25, 26, 27, 28, 29, 30, 31, 32, 33, 34, 35, 36, 37, 38, 39, 40, 41, 42, 43, 44, 45, 46, 47, 48, 49, 50, 51, 52, 53, 54, 55, 56, 57, 58, 59, 60, 61, 62, 63, 64, 65, 66, 67, 68, 69, 70, 71, 72, 73, 74, 75, 76] [2, 3, 4, 5, 6, 7, 8, 9, 10, 11, 12, 13, 14, 15, 16, 17, 18, 19, 22, 23, 24, 25, 26, 27, 28, 29, 30, 31, 32, 33, 34, 35, 36, 37, 38, 39, 41, 42, 43, 44, 45, 46, 47, 48, 49, 50] S_13 S_127 := kp_14.F e_14
                                          have kp_12 : dg_kp [11, 12, 13, 14, 15, 16, 17, 18, 19, 20, 21, 22, 23, 24, 25, 26, 27, 28, 29, 30, 31, 32, 33, 34, 35, 36, 37, 38, 39, 40, 41, 42, 43, 44, 45, 46, 47, 48, 49, 50, 51, 52, 53, 54, 55, 56, 57, 58, 59, 60, 61, 62, 63, 64, 65, 66, 67, 68, 69, 70, 71, 72, 73, 74, 75, 76] [2, 3, 4, 5, 6, 7, 8, 9, 10, 11, 12, 13, 14, 15, 16, 17, 18, 19, 22, 23, 24, 25, 26, 27, 28, 29, 30, 31, 32, 33, 34, 35, 36, 37, 38, 39, 41, 42, 43, 44, 45, 46, 47, 48, 49, 50] S_12 S_127 := kp_13.F e_13
                                          have kp_11 : dg_kp [10, 11, 12, 13, 14, 15, 16, 17, 18, 19, 20, 21, 22, 23, 24, 25, 26, 27, 28, 29, 30, 31, 32, 33, 34, 35, 36, 37, 38, 39, 40, 41, 42, 43, 44, 45, 46, 47, 48, 49, 50, 51, 52, 53, 54, 55, 56, 57, 58, 59, 60, 61, 62, 63, 64, 65, 66, 67, 68, 69, 70, 71, 72, 73, 74, 75, 76] [2, 3, 4, 5, 6, 7, 8, 9, 10, 11, 12, 13, 14, 15, 16, 17, 18, 19, 22, 23, 24, 25, 26, 27, 28, 29, 30, 31, 32, 33, 34, 35, 36, 37, 38, 39, 41, 42, 43, 44, 45, 46, 47, 48, 49, 50] S_11 S_127 := kp_12.F e_12
                                          have kp_10 : dg_kp [9, 10, 11, 12, 13, 14, 15, 16, 17, 18, 19, 20, 21, 22, 23, 24, 25, 26, 27, 28, 29, 30, 31, 32, 33, 34, 35, 36, 37, 38, 39, 40, 41, 42, 43, 44, 45, 46, 47, 48, 49, 50, 51, 52, 53, 54, 55, 56, 57, 58, 59, 60, 61, 62, 63, 64, 65, 66, 67, 68, 69, 70, 71, 72, 73, 74, 75, 76] [2, 3, 4, 5, 6, 7, 8, 9, 10, 11, 12, 13, 14, 15, 16, 17, 18, 19, 22, 23, 24, 25, 26, 27, 28, 29, 30, 31, 32, 33, 34, 35, 36, 37, 38, 39, 41, 42, 43, 44, 45, 46, 47, 48, 49, 50] S_10 S_127 := kp_11.F e_11
                                          have kp_9 : dg_kp [8, 9, 10, 11, 12, 13, 14, 15, 16, 17, 18, 19, 20, 21, 22, 23, 24, 25, 26, 27, 28, 29, 30, 31, 32, 33, 34, 35, 36, 37, 38, 39, 40, 41, 42, 43, 44, 45, 46, 47, 48, 49, 50, 51, 52, 53, 54, 55, 56, 57, 58, 59, 60, 61, 62, 63, 64, 65, 66, 67, 68, 69, 70, 71, 72, 73, 74, 75, 76] [2, 3, 4, 5, 6, 7, 8, 9, 10, 11, 12, 13, 14, 15, 16, 17, 18, 19, 22, 23, 24, 25, 26, 27, 28, 29, 30, 31, 32, 33, 34, 35, 36, 37, 38, 39, 41, 42, 43, 44, 45, 46, 47, 48, 49, 50] S_9 S_127 := kp_10.F e_10
                                          have kp_8 : dg_kp [7, 8, 9, 10, 11, 12, 13, 14, 15, 16, 17, 18, 19, 20, 21, 22, 23, 24, 25, 26, 27, 28, 29, 30, 31, 32, 33, 34, 35, 36, 37, 38, 39, 40, 41, 42, 43, 44, 45, 46, 47, 48, 49, 50, 51, 52, 53, 54, 55, 56, 57, 58, 59, 60, 61, 62, 63, 64, 65, 66, 67, 68, 69, 70, 71, 72, 73, 74, 75, 76] [2, 3, 4, 5, 6, 7, 8, 9, 10, 11, 12, 13, 14, 15, 16, 17, 18, 19, 22, 23, 24, 25, 26, 27, 28, 29, 30, 31, 32, 33, 34, 35, 36, 37, 38, 39, 41, 42, 43, 44, 45, 46, 47, 48, 49, 50] S_8 S_127 := kp_9.F e_9
                                          have kp_7 : dg_kp [6, 7, 8, 9, 10, 11, 12, 13, 14, 15, 16, 17, 18, 19, 20, 21, 22, 23, 24, 25, 26, 27, 28, 29, 30, 31, 32, 33, 34, 35, 36, 37, 38, 39, 40, 41, 42, 43, 44, 45, 46, 47, 48, 49, 50, 51, 52, 53, 54, 55, 56, 57, 58, 59, 60, 61, 62, 63, 64, 65, 66, 67, 68, 69, 70, 71, 72, 73, 74, 75, 76] [2, 3, 4, 5, 6, 7, 8, 9, 10, 11, 12, 13, 14, 15, 16, 17, 18, 19, 22, 23, 24, 25, 26, 27, 28, 29, 30, 31, 32, 33, 34, 35, 36, 37, 38, 39, 41, 42, 43, 44, 45, 46, 47, 48, 49, 50] S_7 S_127 := kp_8.F e_8
                                          have kp_6 : dg_kp [5, 6, 7, 8, 9, 10, 11, 12, 13, 14, 15, 16, 17, 18, 19, 20, 21, 22, 23, 24, 25, 26, 27, 28, 29, 30, 31, 32, 33, 34, 35, 36, 37, 38, 39, 40, 41, 42, 43, 44, 45, 46, 47, 48, 49, 50, 51, 52, 53, 54, 55, 56, 57, 58, 59, 60, 61, 62, 63, 64, 65, 66, 67, 68, 69, 70, 71, 72, 73, 74, 75, 76] [2, 3, 4, 5, 6, 7, 8, 9, 10, 11, 12, 13, 14, 15, 16, 17, 18, 19, 22, 23, 24, 25, 26, 27, 28, 29, 30, 31, 32, 33, 34, 35, 36, 37, 38, 39, 41, 42, 43, 44, 45, 46, 47, 48, 49, 50] S_6 S_127 := kp_7.F e_7
                                          have kp_5 : dg_kp [4, 5, 6, 7, 8, 9, 10, 11, 12, 13, 14, 15, 16, 17, 18, 19, 20, 21, 22, 23, 24, 25, 26, 27, 28, 29, 30, 31, 32, 33, 34, 35, 36, 37, 38, 39, 40, 41, 42, 43, 44, 45, 46, 47, 48, 49, 50, 51, 52, 53, 54, 55, 56, 57, 58, 59, 60, 61, 62, 63, 64, 65, 66, 67, 68, 69, 70, 71, 72, 73, 74, 75, 76] [2, 3, 4, 5, 6, 7, 8, 9, 10, 11, 12, 13, 14, 15, 16, 17, 18, 19, 22, 23, 24, 25, 26, 27, 28, 29, 30, 31, 32, 33, 34, 35, 36, 37, 38, 39, 41, 42, 43, 44, 45, 46, 47, 48, 49, 50] S_5 S_127 := kp_6.F e_6
                                          have kp_4 : dg_kp [3, 4, 5, 6, 7, 8, 9, 10, 11, 12, 13, 14, 15, 16, 17, 18, 19, 20, 21, 22, 23, 24, 25, 26, 27, 28, 29, 30, 31, 32, 33, 34, 35, 36, 37, 38, 39, 40, 41, 42, 43, 44, 45, 46, 47, 48, 49, 50, 51, 52, 53, 54, 55, 56, 57, 58, 59, 60, 61, 62, 63, 64, 65, 66, 67, 68, 69, 70, 71, 72, 73, 74, 75, 76] [2, 3, 4, 5, 6, 7, 8, 9, 10, 11, 12, 13, 14, 15, 16, 17, 18, 19, 22, 23, 24, 25, 26, 27, 28, 29, 30, 31, 32, 33, 34, 35, 36, 37, 38, 39, 41, 42, 43, 44, 45, 46, 47, 48, 49, 50] S_4 S_127 := kp_5.F e_5
                                          have kp_3 : dg_kp [2, 3, 4, 5, 6, 7, 8, 9, 10, 11, 12, 13, 14, 15, 16, 17, 18, 19, 20, 21, 22, 23, 24, 25, 26, 27, 28, 29, 30, 31, 32, 33, 34, 35, 36, 37, 38, 39, 40, 41, 42, 43, 44, 45, 46, 47, 48, 49, 50, 51, 52, 53, 54, 55, 56, 57, 58, 59, 60, 61, 62, 63, 64, 65, 66, 67, 68, 69, 70, 71, 72, 73, 74, 75, 76] [2, 3, 4, 5, 6, 7, 8, 9, 10, 11, 12, 13, 14, 15, 16, 17, 18, 19, 22, 23, 24, 25, 26, 27, 28, 29, 30, 31, 32, 33, 34, 35, 36, 37, 38, 39, 41, 42, 43, 44, 45, 46, 47, 48, 49, 50] S_3 S_127 := kp_4.F e_4
                                          have kp_2 : dg_kp [1, 2, 3, 4, 5, 6, 7, 8, 9, 10, 11, 12, 13, 14, 15, 16, 17, 18, 19, 20, 21, 22, 23, 24, 25, 26, 27, 28, 29, 30, 31, 32, 33, 34, 35, 36, 37, 38, 39, 40, 41, 42, 43, 44, 45, 46, 47, 48, 49, 50, 51, 52, 53, 54, 55, 56, 57, 58, 59, 60, 61, 62, 63, 64, 65, 66, 67, 68, 69, 70, 71, 72, 73, 74, 75, 76] [2, 3, 4, 5, 6, 7, 8, 9, 10, 11, 12, 13, 14, 15, 16, 17, 18, 19, 22, 23, 24, 25, 26, 27, 28, 29, 30, 31, 32, 33, 34, 35, 36, 37, 38, 39, 41, 42, 43, 44, 45, 46, 47, 48, 49, 50] S_2 S_127 := kp_3.F e_3
                                          have kp_1 : dg_kp [0, 1, 2, 3, 4, 5, 6, 7, 8, 9, 10, 11, 12, 13, 14, 15, 16, 17, 18, 19, 20, 21, 22, 23, 24, 25, 26, 27, 28, 29, 30, 31, 32, 33, 34, 35, 36, 37, 38, 39, 40, 41, 42, 43, 44, 45, 46, 47, 48, 49, 50, 51, 52, 53, 54, 55, 56, 57, 58, 59, 60, 61, 62, 63, 64, 65, 66, 67, 68, 69, 70, 71, 72, 73, 74, 75, 76] [2, 3, 4, 5, 6, 7, 8, 9, 10, 11, 12, 13, 14, 15, 16, 17, 18, 19, 22, 23, 24, 25, 26, 27, 28, 29, 30, 31, 32, 33, 34, 35, 36, 37, 38, 39, 41, 42, 43, 44, 45, 46, 47, 48, 49, 50] S_1 S_127 := kp_2.F e_2
                                          have kp_0 : dg_kp [0, 1, 2, 3, 4, 5, 6, 7, 8, 9, 10, 11, 12, 13, 14, 15, 16, 17, 18, 19, 20, 21, 22, 23, 24, 25, 26, 27, 28, 29, 30, 31, 32, 33, 34, 35, 36, 37, 38, 39, 40, 41, 42, 43, 44, 45, 46, 47, 48, 49, 50, 51, 52, 53, 54, 55, 56, 57, 58, 59, 60, 61, 62, 63, 64, 65, 66, 67, 68, 69, 70, 71, 72, 73, 74, 75, 76] [1, 2, 3, 4, 5, 6, 7, 8, 9, 10, 11, 12, 13, 14, 15, 16, 17, 18, 19, 22, 23, 24, 25, 26, 27, 28, 29, 30, 31, 32, 33, 34, 35, 36, 37, 38, 39, 41, 42, 43, 44, 45, 46, 47, 48, 49, 50] S S_127 := kp_1.f e_1
                                          have I_127 : CM o S_127 := dg_Jr.I ((dg_Jr.one (dg_Jc.obj (L := [(3, 1, 0), (1, 0, 1600), (1, 0, 1600), (1, 0, 3), (1, 0, 1600), (1, 0, 1600), (1, 0, 9999), (2, 0, 0), (1, 0, 6), (1, (-2147483648), 2147483647), (1, (-2147483648), 2147483647), (1, (-2147483648), 2147483647), (1, (-2147483648), 2147483647), (1, 0, 1), (3, 2, 0), (3, 3, 0), (3, 4, 0), (3, 5, 0), (3, 6, 0), (3, 7, 0), (3, 8, 0), (3, 9, 0), (3, 10, 0), (3, 11, 0), (3, 12, 0), (3, 13, 0), (3, 14, 0), (3, 15, 0), (3, 16, 0), (3, 17, 0), (3, 18, 0), (3, 19, 0), (3, 20, 0), (3, 21, 0), (1, 0, 1600), (1, 0, 1), (1, 0, 2), (3, 22, 0), (3, 23, 0), (3, 24, 0), (3, 25, 0), (3, 26, 0), (1, 0, 20), (1, (-2147483648), 2147483647), (3, 27, 0), (1, 0, 500), (1, 0, 1), (1, 0, 1), (3, 28, 0), (3, 29, 0), (3, 30, 0), (3, 31, 0), (3, 32, 0), (3, 33, 0), (3, 34, 0), (3, 35, 0), (3, 36, 0), (3, 37, 0), (3, 38, 0), (3, 39, 0), (1, 0, 19), (1, 0, 20), (2, 0, 0), (1, (-2147483648), 2147483647), (3, 40, 0), (3, 41, 0), (3, 42, 0), (3, 43, 0), (3, 44, 0), (1, 0, 16), (3, 45, 0), (3, 46, 0), (3, 47, 0), (3, 48, 0), (3, 49, 0), (3, 50, 0), (1, 0, 150)]) sM_0 (by decide +kernel) (.cons (dg_V.r1 ((kp_2.1 0 (by decide +kernel)).trans (dg_uF_at e_2))) (.cons (dg_V.i1 0 ((kp_3.1 1 (by decide +kernel)).trans (dg_uF_at e_3)) (by decide +kernel) (by decide +kernel)) (.cons (dg_V.i1 0 ((kp_4.1 2 (by decide +kernel)).trans (dg_uF_at e_4)) (by decide +kernel) (by decide +kernel)) (.cons (dg_V.i1 0 ((kp_5.1 3 (by decide +kernel)).trans (dg_uF_at e_5)) (by decide +kernel) (by decide +kernel)) (.cons (dg_V.i1 0 ((kp_6.1 4 (by decide +kernel)).trans (dg_uF_at e_6)) (by decide +kernel) (by decide +kernel)) (.cons (dg_V.i1 0 ((kp_7.1 5 (by decide +kernel)).trans (dg_uF_at e_7)) (by decide +kernel) (by decide +kernel)) (.cons (dg_V.i1 0 ((kp_8.1 6 (by decide +kernel)).trans (dg_uF_at e_8)) (by decide +kernel) (by decide +kernel)) (.cons (dg_V.l1 ((kp_9.1 7 (by decide +kernel)).trans (dg_uF_at e_9))) (.cons (dg_V.i1 0 ((kp_10.1 8 (by decide +kernel)).trans (dg_uF_at e_10)) (by decide +kernel) (by decide +kernel)) (.cons (dg_V.i1 (-1) ((kp_11.1 9 (by decide +kernel)).trans (dg_uF_at e_11)) (by decide +kernel) (by decide +kernel)) (.cons (dg_V.i1 0 ((kp_12.1 10 (by decide +kernel)).trans (dg_uF_at e_12)) (by decide +kernel) (by decide +kernel)) (.cons (dg_V.i1 (-1) ((kp_13.1 11 (by decide +kernel)).trans (dg_uF_at e_13)) (by decide +kernel) (by decide +kernel)) (.cons (dg_V.i1 (-1) ((kp_14.1 12 (by decide +kernel)).trans (dg_uF_at e_14)) (by decide +kernel) (by decide +kernel)) (.cons (dg_V.i1 0 ((kp_15.1 13 (by decide +kernel)).trans (dg_uF_at e_15)) (by decide +kernel) (by decide +kernel)) (.cons (dg_V.r1 ((kp_17.1 14 (by decide +kernel)).trans (dg_uF_at e_17))) (.cons (dg_V.r1 ((kp_19.1 15 (by decide +kernel)).trans (dg_uF_at e_19))) (.cons (dg_V.r1 ((kp_21.1 16 (by decide +kernel)).trans (dg_uF_at e_21))) (.cons (dg_V.r1 ((kp_23.1 17 (by decide +kernel)).trans (dg_uF_at e_23))) (.cons (dg_V.r1 ((kp_25.1 18 (by decide +kernel)).trans (dg_uF_at e_25))) (.cons (dg_V.r1 ((kp_27.1 19 (by decide +kernel)).trans (dg_uF_at e_27))) (.cons (dg_V.r1 ((kp_29.1 20 (by decide +kernel)).trans (dg_uF_at e_29))) (.cons (dg_V.r1 ((kp_31.1 21 (by decide +kernel)).trans (dg_uF_at e_31))) (.cons (dg_V.r1 ((kp_33.1 22 (by decide +kernel)).trans (dg_uF_at e_33))) (.cons (dg_V.r1 ((kp_35.1 23 (by decide +kernel)).trans (dg_uF_at e_35))) (.cons (dg_V.r1 ((kp_37.1 24 (by decide +kernel)).trans (dg_uF_at e_37))) (.cons (dg_V.r1 ((kp_39.1 25 (by decide +kernel)).trans (dg_uF_at e_39))) (.cons (dg_V.r1 ((kp_41.1 26 (by decide +kernel)).trans (dg_uF_at e_41))) (.cons (dg_V.r1 ((kp_43.1 27 (by decide +kernel)).trans (dg_uF_at e_43))) (.cons (dg_V.r1 ((kp_45.1 28 (by decide +kernel)).trans (dg_uF_at e_45))) (.cons (dg_V.r1 ((kp_47.1 29 (by decide +kernel)).trans (dg_uF_at e_47))) (.cons (dg_V.r1 ((kp_49.1 30 (by decide +kernel)).trans (dg_uF_at e_49))) (.cons (dg_V.r1 ((kp_51.1 31 (by decide +kernel)).trans (dg_uF_at e_51))) (.cons (dg_V.r1 ((kp_53.1 32 (by decide +kernel)).trans (dg_uF_at e_53))) (.cons (dg_V.r1 ((kp_55.1 33 (by decide +kernel)).trans (dg_uF_at e_55))) (.cons (dg_V.i1 0 ((kp_56.1 34 (by decide +kernel)).trans (dg_uF_at e_56)) (by decide +kernel) (by decide +kernel)) (.cons (dg_V.i1 1 ((kp_57.1 35 (by decide +kernel)).trans (dg_uF_at e_57)) (by decide +kernel) (by decide +kernel)) (.cons (dg_V.i1 0 ((kp_58.1 36 (by decide +kernel)).trans (dg_uF_at e_58)) (by decide +kernel) (by decide +kernel)) (.cons (dg_V.r1 ((kp_60.1 37 (by decide +kernel)).trans (dg_uF_at e_60))) (.cons (dg_V.r1 ((kp_62.1 38 (by decide +kernel)).trans (dg_uF_at e_62))) (.cons (dg_V.r1 ((kp_64.1 39 (by decide +kernel)).trans (dg_uF_at e_64))) (.cons (dg_V.r1 ((kp_66.1 40 (by decide +kernel)).trans (dg_uF_at e_66))) (.cons (dg_V.r1 ((kp_68.1 41 (by decide +kernel)).trans (dg_uF_at e_68))) (.cons (dg_V.i1 0 ((kp_69.1 42 (by decide +kernel)).trans (dg_uF_at e_69)) (by decide +kernel) (by decide +kernel)) (.cons (dg_V.i1 0 ((kp_70.1 43 (by decide +kernel)).trans (dg_uF_at e_70)) (by decide +kernel) (by decide +kernel)) (.cons (dg_V.r1 ((kp_72.1 44 (by decide +kernel)).trans (dg_uF_at e_72))) (.cons (dg_V.i1 0 ((kp_73.1 45 (by decide +kernel)).trans (dg_uF_at e_73)) (by decide +kernel) (by decide +kernel)) (.cons (dg_V.i1 0 ((kp_74.1 46 (by decide +kernel)).trans (dg_uF_at e_74)) (by decide +kernel) (by decide +kernel)) (.cons (dg_V.i1 0 ((kp_75.1 47 (by decide +kernel)).trans (dg_uF_at e_75)) (by decide +kernel) (by decide +kernel)) (.cons (dg_V.r1 ((kp_77.1 48 (by decide +kernel)).trans (dg_uF_at e_77))) (.cons (dg_V.r1 ((kp_79.1 49 (by decide +kernel)).trans (dg_uF_at e_79))) (.cons (dg_V.r1 ((kp_81.1 50 (by decide +kernel)).trans (dg_uF_at e_81))) (.cons (dg_V.r1 ((kp_83.1 51 (by decide +kernel)).trans (dg_uF_at e_83))) (.cons (dg_V.r1 ((kp_85.1 52 (by decide +kernel)).trans (dg_uF_at e_85))) (.cons (dg_V.r1 ((kp_87.1 53 (by decide +kernel)).trans (dg_uF_at e_87))) (.cons (dg_V.r1 ((kp_89.1 54 (by decide +kernel)).trans (dg_uF_at e_89))) (.cons (dg_V.r1 ((kp_91.1 55 (by decide +kernel)).trans (dg_uF_at e_91))) (.cons (dg_V.r1 ((kp_93.1 56 (by decide +kernel)).trans (dg_uF_at e_93))) (.cons (dg_V.r1 ((kp_95.1 57 (by decide +kernel)).trans (dg_uF_at e_95))) (.cons (dg_V.r1 ((kp_97.1 58 (by decide +kernel)).trans (dg_uF_at e_97))) (.cons (dg_V.r1 ((kp_99.1 59 (by decide +kernel)).trans (dg_uF_at e_99))) (.cons (dg_V.i1 0 ((kp_100.1 60 (by decide +kernel)).trans (dg_uF_at e_100)) (by decide +kernel) (by decide +kernel)) (.cons (dg_V.i1 0 ((kp_101.1 61 (by decide +kernel)).trans (dg_uF_at e_101)) (by decide +kernel) (by decide +kernel)) (.cons (dg_V.l1 ((kp_102.1 62 (by decide +kernel)).trans (dg_uF_at e_102))) (.cons (dg_V.i1 0 ((kp_103.1 63 (by decide +kernel)).trans (dg_uF_at e_103)) (by decide +kernel) (by decide +kernel)) (.cons (dg_V.r1 ((kp_105.1 64 (by decide +kernel)).trans (dg_uF_at e_105))) (.cons (dg_V.r1 ((kp_107.1 65 (by decide +kernel)).trans (dg_uF_at e_107))) (.cons (dg_V.r1 ((kp_109.1 66 (by decide +kernel)).trans (dg_uF_at e_109))) (.cons (dg_V.r1 ((kp_111.1 67 (by decide +kernel)).trans (dg_uF_at e_111))) (.cons (dg_V.r1 ((kp_113.1 68 (by decide +kernel)).trans (dg_uF_at e_113))) (.cons (dg_V.i1 0 ((kp_114.1 69 (by decide +kernel)).trans (dg_uF_at e_114)) (by decide +kernel) (by decide +kernel)) (.cons (dg_V.r1 ((kp_116.1 70 (by decide +kernel)).trans (dg_uF_at e_116))) (.cons (dg_V.r1 ((kp_118.1 71 (by decide +kernel)).trans (dg_uF_at e_118))) (.cons (dg_V.r1 ((kp_120.1 72 (by decide +kernel)).trans (dg_uF_at e_120))) (.cons (dg_V.r1 ((kp_122.1 73 (by decide +kernel)).trans (dg_uF_at e_122))) (.cons (dg_V.r1 ((kp_124.1 74 (by decide +kernel)).trans (dg_uF_at e_124))) (.cons (dg_V.r1 ((kp_126.1 75 (by decide +kernel)).trans (dg_uF_at e_126))) (.cons (dg_V.i1 0 ((kp_127.1 76 (by decide +kernel)).trans (dg_uF_at e_127)) (by decide +kernel) (by decide +kernel)) (.nil)))))))))))))))))))))))))))))))))))))))))))))))))))))))))))))))))))))))))))))) (by intro t h; have h2 : tAM[0]? = some (0, 0, 0) := (by decide +kernel); rw [h2] at h; cases h; rfl))).ext hJ_127)
                                          have hP : va_P D vwCl (dg_w g shM o rfM S_127) H := by have h9 := hP; rw [dg_tkM] at h9; exact h9
                                          have f13 : S_127.1 0 13 = .int 0 := ((kp_15.1 13 (by decide +kernel)).trans (dg_uF_at e_15))
                                          have f47 : S_127.1 0 47 = .int 0 := ((kp_75.1 47 (by decide +kernel)).trans (dg_uF_at e_75))
                                          have f1 : S_127.1 0 1 = .int 0 := ((kp_3.1 1 (by decide +kernel)).trans (dg_uF_at e_3))
                                          have f62 : S_127.1 0 62 = .long 1 := ((kp_102.1 62 (by decide +kernel)).trans (dg_uF_at e_102))
                                          have r2 : S_127.2.1 2 = fun _ => 0 := ((kp_16.2 2 (by decide +kernel)).trans (dg_uf_at e_16))
                                          have r3 : S_127.2.1 3 = fun _ => 0 := ((kp_18.2 3 (by decide +kernel)).trans (dg_uf_at e_18))
                                          have r4 : S_127.2.1 4 = fun _ => 0 := ((kp_20.2 4 (by decide +kernel)).trans (dg_uf_at e_20))
                                          have r29 : S_127.2.1 29 = fun _ => 0 := ((kp_78.2 29 (by decide +kernel)).trans (dg_uf_at e_78))
                                          have r8 : S_127.2.1 8 = fun _ => 0 := ((kp_28.2 8 (by decide +kernel)).trans (dg_uf_at e_28))
                                          have r9 : S_127.2.1 9 = fun _ => 0 := ((kp_30.2 9 (by decide +kernel)).trans (dg_uf_at e_30))
                                          have r12 : S_127.2.1 12 = fun _ => 0 := ((kp_36.2 12 (by decide +kernel)).trans (dg_uf_at e_36))
                                          have r28 : S_127.2.1 28 = fun _ => 0 := ((kp_76.2 28 (by decide +kernel)).trans (dg_uf_at e_76))
                                          have r30 : S_127.2.1 30 = fun _ => 0 := ((kp_80.2 30 (by decide +kernel)).trans (dg_uf_at e_80))
                                          have r33 : S_127.2.1 33 = fun _ => 0 := ((kp_86.2 33 (by decide +kernel)).trans (dg_uf_at e_86))
                                          have r37 : S_127.2.1 37 = fun _ => 0 := ((kp_94.2 37 (by decide +kernel)).trans (dg_uf_at e_94))
                                          have r38 : S_127.2.1 38 = fun _ => 0 := ((kp_96.2 38 (by decide +kernel)).trans (dg_uf_at e_96))
                                          have f61 : S_127.1 0 61 = .int 0 := ((kp_101.1 61 (by decide +kernel)).trans (dg_uF_at e_101))
                                          have f69 : S_127.1 0 69 = .int 0 := ((kp_114.1 69 (by decide +kernel)).trans (dg_uF_at e_114))
                                          have f76 : S_127.1 0 76 = .int 0 := ((kp_127.1 76 (by decide +kernel)).trans (dg_uF_at e_127))
                                          have loop : ∀ (n i : Nat), i + n = 6 → ∀ (S1 : dg_S) (H : Heap) (locs : List Loc), va_P D vwCl (dg_w g shM o rfM S1) H → va_S A s.heap H locs → CM o S1 → dg_sm shM [] [16] S_127 S1 → (∀ j, j < i → S1.2.1 16 j = -1) → ∀ ls : Array Slot, lv_has ls 2 [(1, .int (nI i)), (0, .ref (o + 0))] → W p l e ({ frames := 1, cells := 50, slots := 59023, locals := 32 } : Room) s m args below meth c H locs 50 59023 (MQ below (va_Qv (fun S' => CM o S' ∧ ZBM S' ∧ ZSM S' ∧ ZWM S' ∧ ZDM S' ∧ S'.1 0 1 = .int 0 ∧ GMv y_0 S' ∧ s_M1 S' ∧ True) (dg_B g D shM o rfM) A) args s 50 59023 A) (F0 m 546 ls []) := by
                                            as_aux_lemma =>
                                              intro n
                                              induction n with
                                              | zero =>
                                                intro i hi S1 H locs hP hS I1 m1 hv ls hl
                                                obtain rfl : i = 6 := by omega
                                                refine lv_iload_n hx hb dX12_init_546 rfl (lv_at hl 0 rfl) ?_
                                                refine lv_bipush (v := 6) hx hb dX12_init_547 (by decide +kernel) ?_
                                                refine lv_icmp_ge (tgt := 565) hx hb dX12_init_549 (dk_dq rfl) (fun _ => ?_) (fun c => absurd (by decide +kernel) c)
                                                have q13 := (m1.1 0 13 _ sM_0 (dk_dq rfl)).trans f13
                                                have q47 := (m1.1 0 47 _ sM_0 (dk_dq rfl)).trans f47
                                                have q1 := (m1.1 0 1 _ sM_0 (dk_dq rfl)).trans f1
                                                have q62 := (m1.1 0 62 _ sM_0 (dk_dq rfl)).trans f62
                                                have w2 := (m1.2 2 _ sM_2 (dk_dq rfl)).1.trans r2
                                                have w3 := (m1.2 3 _ sM_3 (dk_dq rfl)).1.trans r3
                                                have w4 := (m1.2 4 _ sM_4 (dk_dq rfl)).1.trans r4
                                                have w29 := (m1.2 29 _ sM_29 (dk_dq rfl)).1.trans r29
                                                have w8 := (m1.2 8 _ sM_8 (dk_dq rfl)).1.trans r8
                                                have w9 := (m1.2 9 _ sM_9 (dk_dq rfl)).1.trans r9
                                                have w12 := (m1.2 12 _ sM_12 (dk_dq rfl)).1.trans r12
                                                have w28 := (m1.2 28 _ sM_28 (dk_dq rfl)).1.trans r28
                                                have w30 := (m1.2 30 _ sM_30 (dk_dq rfl)).1.trans r30
                                                have w33 := (m1.2 33 _ sM_33 (dk_dq rfl)).1.trans r33
                                                have w37 := (m1.2 37 _ sM_37 (dk_dq rfl)).1.trans r37
                                                have w38 := (m1.2 38 _ sM_38 (dk_dq rfl)).1.trans r38
                                                have q61 := (m1.1 0 61 _ sM_0 (dk_dq rfl)).trans f61
                                                have q69 := (m1.1 0 69 _ sM_0 (dk_dq rfl)).trans f69
                                                have q76 := (m1.1 0 76 _ sM_0 (dk_dq rfl)).trans f76
                                                exact dg_vret hx hb hr hlocks hP hS ⟨I1, ZBM.zero q13 q47 w2 w3 w4, ZSM.zero w29, ZWM.none q13 hv, ZDM.one q62, q1, GMv.none q13 q47 w2 w3 w8 w9 w12 hv, s_M1.mk q47 q61 q62 q69 q76 w2 w3 w8 w9 w12 w29 w30 w33 w38 w37 w28, trivial⟩ dX12_init_565
                                              | succ n ih =>
                                                intro i hi S1 H locs hP hS I1 m1 hv ls hl
                                                refine lv_iload_n hx hb dX12_init_546 rfl (lv_at hl 0 rfl) ?_
                                                refine lv_bipush (v := 6) hx hb dX12_init_547 (by decide +kernel) ?_
                                                refine lv_icmp_ge (tgt := 565) hx hb dX12_init_549 (dk_dq rfl) (fun c => absurd c (nI_ge (a := i) (b := 6) (by omega) (by omega))) (fun _ => ?_)
                                                refine lv_aload_n hx hb dX12_init_552 rfl (lv_at hl 1 rfl) ?_
                                                refine dg_get (C := RX12) (T := TX12) (N := 77) hx hb hts (fun w h => bw_mem (wU_X12 w h)) hown K hP sM_0 rfl 28 (dk_dq rfl) (hts _ (bw_mem wB_449)) (fun _ h9 => h9) (v := .ref (o + 16)) ((m1.1 0 28 _ sM_0 (dk_dq rfl)).trans ((kp_45.1 28 (by decide +kernel)).trans (dg_uF_at e_45))) dX12_init_553 ?_
                                                refine lv_iload_n hx hb dX12_init_556 rfl (lv_at hl 0 rfl) ?_
                                                refine lv_iconst (v := (-1)) hx hb dX12_init_557 (by decide +kernel) ?_
                                                refine dg_iast hx hb K hP hS (hA1 _) sM_16 (x := nI i) (vp_in_nI (by omega) (by omega)) dX12_init_558 (fun S2 e2 H locs hP hS => ?_)
                                                refine lv_iinc (v := (nI (i + 1))) (lv' := [(1, .int (nI (i + 1))), (0, .ref (o + 0))]) hx hb dX12_init_559 hl (k := 0) rfl (dk_addc (b := 1) rfl) (dk_dq rfl) rfl (fun ls hl => ?_)
                                                refine lv_goto (tgt := 546) hx hb dX12_init_562 (dk_dq rfl) ?_
                                                exact ih (i + 1) (by omega) S2 H locs hP hS (dg_sumI I1 e2) (m1.uf e2 sM_16 (dk_dq rfl)) (fun j hj => dg_sumv (by omega) e2 hv hj) ls hl
                                          exact loop 6 0 rfl S_127 H locs hP hS I_127 dg_sm.rf (fun j hj => absurd hj (Nat.not_lt_zero j)) ls (lv_sub hl [0, 1] rfl)
