/-! 45.g.lean.txt -/
theorem dX12_goesOn_0 : decode cX12_goesOn 0 = .ok (.aload_n 0, 1) := dk_o42 (by decide +kernel)
theorem dX12_goesOn_1 : decode cX12_goesOn 1 = .ok (.invokevirtual 266, 3) := dk_o182 (by decide +kernel)
theorem dX12_goesOn_4 : decode cX12_goesOn 4 = .ok (.aload_n 0, 1) := dk_o42 (by decide +kernel)
theorem dX12_goesOn_5 : decode cX12_goesOn 5 = .ok (.getfield 36, 3) := dk_o180 (by decide +kernel)
theorem dX12_goesOn_8 : decode cX12_goesOn 8 = .ok (.ifCond .le 5, 3) := dk_o158 (by decide +kernel)
theorem dX12_goesOn_11 : decode cX12_goesOn 11 = .ok (.iconst 0, 1) := dk_o3 (by decide +kernel)
theorem dX12_goesOn_12 : decode cX12_goesOn 12 = .ok (.ireturn, 1) := dk_o172 (by decide +kernel)
theorem dX12_goesOn_13 : decode cX12_goesOn 13 = .ok (.aload_n 0, 1) := dk_o42 (by decide +kernel)
theorem dX12_goesOn_14 : decode cX12_goesOn 14 = .ok (.getfield 140, 3) := dk_o180 (by decide +kernel)
theorem dX12_goesOn_17 : decode cX12_goesOn 17 = .ok (.iconst 1, 1) := dk_o4 (by decide +kernel)
theorem dX12_goesOn_18 : decode cX12_goesOn 18 = .ok (.isub, 1) := dk_o100 (by decide +kernel)
theorem dX12_goesOn_19 : decode cX12_goesOn 19 = .ok (.istore_n 1, 1) := dk_o60 (by decide +kernel)
theorem dX12_goesOn_20 : decode cX12_goesOn 20 = .ok (.aload_n 0, 1) := dk_o42 (by decide +kernel)
theorem dX12_goesOn_21 : decode cX12_goesOn 21 = .ok (.getfield 124, 3) := dk_o180 (by decide +kernel)
theorem dX12_goesOn_24 : decode cX12_goesOn 24 = .ok (.iload_n 1, 1) := dk_o27 (by decide +kernel)
theorem dX12_goesOn_25 : decode cX12_goesOn 25 = .ok (.iaload, 1) := dk_o46 (by decide +kernel)
theorem dX12_goesOn_26 : decode cX12_goesOn 26 = .ok (.istore_n 2, 1) := dk_o61 (by decide +kernel)
theorem dX12_goesOn_27 : decode cX12_goesOn 27 = .ok (.iload_n 2, 1) := dk_o28 (by decide +kernel)
theorem dX12_goesOn_28 : decode cX12_goesOn 28 = .ok (.invokestatic 346, 3) := dk_o184 (by decide +kernel)
theorem dX12_goesOn_31 : decode cX12_goesOn 31 = .ok (.istore_n 3, 1) := dk_o62 (by decide +kernel)
theorem dX12_goesOn_32 : decode cX12_goesOn 32 = .ok (.aload_n 0, 1) := dk_o42 (by decide +kernel)
theorem dX12_goesOn_33 : decode cX12_goesOn 33 = .ok (.getfield 127, 3) := dk_o180 (by decide +kernel)
theorem dX12_goesOn_36 : decode cX12_goesOn 36 = .ok (.iload_n 1, 1) := dk_o27 (by decide +kernel)
theorem dX12_goesOn_37 : decode cX12_goesOn 37 = .ok (.iaload, 1) := dk_o46 (by decide +kernel)
theorem dX12_goesOn_38 : decode cX12_goesOn 38 = .ok (.iconst 2, 1) := dk_o5 (by decide +kernel)
theorem dX12_goesOn_39 : decode cX12_goesOn 39 = .ok (.if_icmp .ge 149, 3) := dk_o162 (by decide +kernel)
theorem dX12_goesOn_42 : decode cX12_goesOn 42 = .ok (.aload_n 0, 1) := dk_o42 (by decide +kernel)
theorem dX12_goesOn_43 : decode cX12_goesOn 43 = .ok (.bipush 43, 2) := dk_o16 (by decide +kernel)
theorem dX12_goesOn_45 : decode cX12_goesOn 45 = .ok (.invokevirtual 269, 3) := dk_o182 (by decide +kernel)
theorem dX12_goesOn_48 : decode cX12_goesOn 48 = .ok (.ifCond .ne 39, 3) := dk_o154 (by decide +kernel)
theorem dX12_goesOn_51 : decode cX12_goesOn 51 = .ok (.aload_n 0, 1) := dk_o42 (by decide +kernel)
theorem dX12_goesOn_52 : decode cX12_goesOn 52 = .ok (.bipush 45, 2) := dk_o16 (by decide +kernel)
theorem dX12_goesOn_54 : decode cX12_goesOn 54 = .ok (.invokevirtual 269, 3) := dk_o182 (by decide +kernel)
theorem dX12_goesOn_57 : decode cX12_goesOn 57 = .ok (.ifCond .ne 30, 3) := dk_o154 (by decide +kernel)
theorem dX12_goesOn_60 : decode cX12_goesOn 60 = .ok (.aload_n 0, 1) := dk_o42 (by decide +kernel)
theorem dX12_goesOn_61 : decode cX12_goesOn 61 = .ok (.bipush 42, 2) := dk_o16 (by decide +kernel)
theorem dX12_goesOn_63 : decode cX12_goesOn 63 = .ok (.invokevirtual 269, 3) := dk_o182 (by decide +kernel)
theorem dX12_goesOn_66 : decode cX12_goesOn 66 = .ok (.ifCond .ne 21, 3) := dk_o154 (by decide +kernel)
theorem dX12_goesOn_69 : decode cX12_goesOn 69 = .ok (.aload_n 0, 1) := dk_o42 (by decide +kernel)
theorem dX12_goesOn_70 : decode cX12_goesOn 70 = .ok (.bipush 47, 2) := dk_o16 (by decide +kernel)
theorem dX12_goesOn_72 : decode cX12_goesOn 72 = .ok (.invokevirtual 269, 3) := dk_o182 (by decide +kernel)
theorem dX12_goesOn_75 : decode cX12_goesOn 75 = .ok (.ifCond .ne 12, 3) := dk_o154 (by decide +kernel)
theorem dX12_goesOn_78 : decode cX12_goesOn 78 = .ok (.aload_n 0, 1) := dk_o42 (by decide +kernel)
theorem dX12_goesOn_79 : decode cX12_goesOn 79 = .ok (.bipush 37, 2) := dk_o16 (by decide +kernel)
theorem dX12_goesOn_81 : decode cX12_goesOn 81 = .ok (.invokevirtual 269, 3) := dk_o182 (by decide +kernel)
theorem dX12_goesOn_84 : decode cX12_goesOn 84 = .ok (.ifCond .eq 104, 3) := dk_o153 (by decide +kernel)
theorem dX12_goesOn_87 : decode cX12_goesOn 87 = .ok (.aload_n 0, 1) := dk_o42 (by decide +kernel)
theorem dX12_goesOn_88 : decode cX12_goesOn 88 = .ok (.aload_n 0, 1) := dk_o42 (by decide +kernel)
theorem dX12_goesOn_89 : decode cX12_goesOn 89 = .ok (.bipush 43, 2) := dk_o16 (by decide +kernel)
theorem dX12_goesOn_91 : decode cX12_goesOn 91 = .ok (.invokevirtual 269, 3) := dk_o182 (by decide +kernel)
theorem dX12_goesOn_94 : decode cX12_goesOn 94 = .ok (.ifCond .ne 12, 3) := dk_o154 (by decide +kernel)
theorem dX12_goesOn_97 : decode cX12_goesOn 97 = .ok (.aload_n 0, 1) := dk_o42 (by decide +kernel)
theorem dX12_goesOn_98 : decode cX12_goesOn 98 = .ok (.bipush 45, 2) := dk_o16 (by decide +kernel)
theorem dX12_goesOn_100 : decode cX12_goesOn 100 = .ok (.invokevirtual 269, 3) := dk_o182 (by decide +kernel)
theorem dX12_goesOn_103 : decode cX12_goesOn 103 = .ok (.ifCond .eq 7, 3) := dk_o153 (by decide +kernel)
theorem dX12_goesOn_106 : decode cX12_goesOn 106 = .ok (.iconst 5, 1) := dk_o8 (by decide +kernel)
theorem dX12_goesOn_107 : decode cX12_goesOn 107 = .ok (.goto 5, 3) := dk_o167 (by decide +kernel)
theorem dX12_goesOn_110 : decode cX12_goesOn 110 = .ok (.bipush 6, 2) := dk_o16 (by decide +kernel)
theorem dX12_goesOn_112 : decode cX12_goesOn 112 = .ok (.invokevirtual 359, 3) := dk_o182 (by decide +kernel)
theorem dX12_goesOn_115 : decode cX12_goesOn 115 = .ok (.aload_n 0, 1) := dk_o42 (by decide +kernel)
theorem dX12_goesOn_116 : decode cX12_goesOn 116 = .ok (.aload_n 0, 1) := dk_o42 (by decide +kernel)
theorem dX12_goesOn_117 : decode cX12_goesOn 117 = .ok (.bipush 43, 2) := dk_o16 (by decide +kernel)
theorem dX12_goesOn_119 : decode cX12_goesOn 119 = .ok (.invokevirtual 269, 3) := dk_o182 (by decide +kernel)
theorem dX12_goesOn_122 : decode cX12_goesOn 122 = .ok (.ifCond .eq 8, 3) := dk_o153 (by decide +kernel)
theorem dX12_goesOn_125 : decode cX12_goesOn 125 = .ok (.bipush 31, 2) := dk_o16 (by decide +kernel)
theorem dX12_goesOn_127 : decode cX12_goesOn 127 = .ok (.goto 47, 3) := dk_o167 (by decide +kernel)
theorem dX12_goesOn_130 : decode cX12_goesOn 130 = .ok (.aload_n 0, 1) := dk_o42 (by decide +kernel)
theorem dX12_goesOn_131 : decode cX12_goesOn 131 = .ok (.bipush 45, 2) := dk_o16 (by decide +kernel)
theorem dX12_goesOn_133 : decode cX12_goesOn 133 = .ok (.invokevirtual 269, 3) := dk_o182 (by decide +kernel)
theorem dX12_goesOn_136 : decode cX12_goesOn 136 = .ok (.ifCond .eq 8, 3) := dk_o153 (by decide +kernel)
theorem dX12_goesOn_139 : decode cX12_goesOn 139 = .ok (.bipush 32, 2) := dk_o16 (by decide +kernel)
theorem dX12_goesOn_141 : decode cX12_goesOn 141 = .ok (.goto 33, 3) := dk_o167 (by decide +kernel)
theorem dX12_goesOn_144 : decode cX12_goesOn 144 = .ok (.aload_n 0, 1) := dk_o42 (by decide +kernel)
theorem dX12_goesOn_145 : decode cX12_goesOn 145 = .ok (.bipush 42, 2) := dk_o16 (by decide +kernel)
theorem dX12_goesOn_147 : decode cX12_goesOn 147 = .ok (.invokevirtual 269, 3) := dk_o182 (by decide +kernel)
theorem dX12_goesOn_150 : decode cX12_goesOn 150 = .ok (.ifCond .eq 8, 3) := dk_o153 (by decide +kernel)
theorem dX12_goesOn_153 : decode cX12_goesOn 153 = .ok (.bipush 33, 2) := dk_o16 (by decide +kernel)
theorem dX12_goesOn_155 : decode cX12_goesOn 155 = .ok (.goto 19, 3) := dk_o167 (by decide +kernel)
theorem dX12_goesOn_158 : decode cX12_goesOn 158 = .ok (.aload_n 0, 1) := dk_o42 (by decide +kernel)
theorem dX12_goesOn_159 : decode cX12_goesOn 159 = .ok (.bipush 47, 2) := dk_o16 (by decide +kernel)
theorem dX12_goesOn_161 : decode cX12_goesOn 161 = .ok (.invokevirtual 269, 3) := dk_o182 (by decide +kernel)
theorem dX12_goesOn_164 : decode cX12_goesOn 164 = .ok (.ifCond .eq 8, 3) := dk_o153 (by decide +kernel)
theorem dX12_goesOn_167 : decode cX12_goesOn 167 = .ok (.bipush 34, 2) := dk_o16 (by decide +kernel)
theorem dX12_goesOn_169 : decode cX12_goesOn 169 = .ok (.goto 5, 3) := dk_o167 (by decide +kernel)
theorem dX12_goesOn_172 : decode cX12_goesOn 172 = .ok (.bipush 35, 2) := dk_o16 (by decide +kernel)
theorem dX12_goesOn_174 : decode cX12_goesOn 174 = .ok (.invokevirtual 353, 3) := dk_o182 (by decide +kernel)
theorem dX12_goesOn_177 : decode cX12_goesOn 177 = .ok (.aload_n 0, 1) := dk_o42 (by decide +kernel)
theorem dX12_goesOn_178 : decode cX12_goesOn 178 = .ok (.invokevirtual 272, 3) := dk_o182 (by decide +kernel)
theorem dX12_goesOn_181 : decode cX12_goesOn 181 = .ok (.aload_n 0, 1) := dk_o42 (by decide +kernel)
theorem dX12_goesOn_182 : decode cX12_goesOn 182 = .ok (.iconst 0, 1) := dk_o3 (by decide +kernel)
theorem dX12_goesOn_183 : decode cX12_goesOn 183 = .ok (.putfield 152, 3) := dk_o181 (by decide +kernel)
theorem dX12_goesOn_186 : decode cX12_goesOn 186 = .ok (.iconst 1, 1) := dk_o4 (by decide +kernel)
theorem dX12_goesOn_187 : decode cX12_goesOn 187 = .ok (.ireturn, 1) := dk_o172 (by decide +kernel)
theorem dX12_goesOn_188 : decode cX12_goesOn 188 = .ok (.iload_n 3, 1) := dk_o29 (by decide +kernel)
theorem dX12_goesOn_189 : decode cX12_goesOn 189 = .ok (.ifCond .eq 96, 3) := dk_o153 (by decide +kernel)
theorem dX12_goesOn_192 : decode cX12_goesOn 192 = .ok (.aload_n 0, 1) := dk_o42 (by decide +kernel)
theorem dX12_goesOn_193 : decode cX12_goesOn 193 = .ok (.getfield 127, 3) := dk_o180 (by decide +kernel)
theorem dX12_goesOn_196 : decode cX12_goesOn 196 = .ok (.iload_n 1, 1) := dk_o27 (by decide +kernel)
theorem dX12_goesOn_197 : decode cX12_goesOn 197 = .ok (.iaload, 1) := dk_o46 (by decide +kernel)
theorem dX12_goesOn_198 : decode cX12_goesOn 198 = .ok (.ifCond .ne 87, 3) := dk_o154 (by decide +kernel)
theorem dX12_goesOn_201 : decode cX12_goesOn 201 = .ok (.aload_n 0, 1) := dk_o42 (by decide +kernel)
theorem dX12_goesOn_202 : decode cX12_goesOn 202 = .ok (.bipush 60, 2) := dk_o16 (by decide +kernel)
theorem dX12_goesOn_204 : decode cX12_goesOn 204 = .ok (.invokevirtual 269, 3) := dk_o182 (by decide +kernel)
theorem dX12_goesOn_207 : decode cX12_goesOn 207 = .ok (.ifCond .ne 21, 3) := dk_o154 (by decide +kernel)
theorem dX12_goesOn_210 : decode cX12_goesOn 210 = .ok (.aload_n 0, 1) := dk_o42 (by decide +kernel)
theorem dX12_goesOn_211 : decode cX12_goesOn 211 = .ok (.bipush 62, 2) := dk_o16 (by decide +kernel)
theorem dX12_goesOn_213 : decode cX12_goesOn 213 = .ok (.invokevirtual 269, 3) := dk_o182 (by decide +kernel)
theorem dX12_goesOn_216 : decode cX12_goesOn 216 = .ok (.ifCond .ne 12, 3) := dk_o154 (by decide +kernel)
theorem dX12_goesOn_219 : decode cX12_goesOn 219 = .ok (.aload_n 0, 1) := dk_o42 (by decide +kernel)
theorem dX12_goesOn_220 : decode cX12_goesOn 220 = .ok (.bipush 61, 2) := dk_o16 (by decide +kernel)
theorem dX12_goesOn_222 : decode cX12_goesOn 222 = .ok (.invokevirtual 269, 3) := dk_o182 (by decide +kernel)
theorem dX12_goesOn_225 : decode cX12_goesOn 225 = .ok (.ifCond .eq 60, 3) := dk_o153 (by decide +kernel)
theorem dX12_goesOn_228 : decode cX12_goesOn 228 = .ok (.aload_n 0, 1) := dk_o42 (by decide +kernel)
theorem dX12_goesOn_229 : decode cX12_goesOn 229 = .ok (.iconst 5, 1) := dk_o8 (by decide +kernel)
theorem dX12_goesOn_230 : decode cX12_goesOn 230 = .ok (.invokevirtual 359, 3) := dk_o182 (by decide +kernel)
theorem dX12_goesOn_233 : decode cX12_goesOn 233 = .ok (.aload_n 0, 1) := dk_o42 (by decide +kernel)
theorem dX12_goesOn_234 : decode cX12_goesOn 234 = .ok (.aload_n 0, 1) := dk_o42 (by decide +kernel)
theorem dX12_goesOn_235 : decode cX12_goesOn 235 = .ok (.bipush 60, 2) := dk_o16 (by decide +kernel)
theorem dX12_goesOn_237 : decode cX12_goesOn 237 = .ok (.invokevirtual 269, 3) := dk_o182 (by decide +kernel)
theorem dX12_goesOn_240 : decode cX12_goesOn 240 = .ok (.ifCond .eq 8, 3) := dk_o153 (by decide +kernel)
theorem dX12_goesOn_243 : decode cX12_goesOn 243 = .ok (.bipush 38, 2) := dk_o16 (by decide +kernel)
theorem dX12_goesOn_245 : decode cX12_goesOn 245 = .ok (.goto 19, 3) := dk_o167 (by decide +kernel)
theorem dX12_goesOn_248 : decode cX12_goesOn 248 = .ok (.aload_n 0, 1) := dk_o42 (by decide +kernel)
theorem dX12_goesOn_249 : decode cX12_goesOn 249 = .ok (.bipush 62, 2) := dk_o16 (by decide +kernel)
theorem dX12_goesOn_251 : decode cX12_goesOn 251 = .ok (.invokevirtual 269, 3) := dk_o182 (by decide +kernel)
theorem dX12_goesOn_254 : decode cX12_goesOn 254 = .ok (.ifCond .eq 8, 3) := dk_o153 (by decide +kernel)
theorem dX12_goesOn_257 : decode cX12_goesOn 257 = .ok (.bipush 39, 2) := dk_o16 (by decide +kernel)
theorem dX12_goesOn_259 : decode cX12_goesOn 259 = .ok (.goto 5, 3) := dk_o167 (by decide +kernel)
theorem dX12_goesOn_262 : decode cX12_goesOn 262 = .ok (.bipush 40, 2) := dk_o16 (by decide +kernel)
theorem dX12_goesOn_264 : decode cX12_goesOn 264 = .ok (.invokevirtual 353, 3) := dk_o182 (by decide +kernel)
theorem dX12_goesOn_267 : decode cX12_goesOn 267 = .ok (.aload_n 0, 1) := dk_o42 (by decide +kernel)
theorem dX12_goesOn_268 : decode cX12_goesOn 268 = .ok (.getfield 127, 3) := dk_o180 (by decide +kernel)
theorem dX12_goesOn_271 : decode cX12_goesOn 271 = .ok (.iload_n 1, 1) := dk_o27 (by decide +kernel)
theorem dX12_goesOn_272 : decode cX12_goesOn 272 = .ok (.iconst 1, 1) := dk_o4 (by decide +kernel)
theorem dX12_goesOn_273 : decode cX12_goesOn 273 = .ok (.iastore, 1) := dk_o79 (by decide +kernel)
theorem dX12_goesOn_274 : decode cX12_goesOn 274 = .ok (.aload_n 0, 1) := dk_o42 (by decide +kernel)
theorem dX12_goesOn_275 : decode cX12_goesOn 275 = .ok (.invokevirtual 272, 3) := dk_o182 (by decide +kernel)
theorem dX12_goesOn_278 : decode cX12_goesOn 278 = .ok (.aload_n 0, 1) := dk_o42 (by decide +kernel)
theorem dX12_goesOn_279 : decode cX12_goesOn 279 = .ok (.iconst 0, 1) := dk_o3 (by decide +kernel)
theorem dX12_goesOn_280 : decode cX12_goesOn 280 = .ok (.putfield 152, 3) := dk_o181 (by decide +kernel)
theorem dX12_goesOn_283 : decode cX12_goesOn 283 = .ok (.iconst 1, 1) := dk_o4 (by decide +kernel)
theorem dX12_goesOn_284 : decode cX12_goesOn 284 = .ok (.ireturn, 1) := dk_o172 (by decide +kernel)
theorem dX12_goesOn_285 : decode cX12_goesOn 285 = .ok (.iload_n 3, 1) := dk_o29 (by decide +kernel)
theorem dX12_goesOn_286 : decode cX12_goesOn 286 = .ok (.ifCond .eq 114, 3) := dk_o153 (by decide +kernel)
theorem dX12_goesOn_289 : decode cX12_goesOn 289 = .ok (.aload_n 0, 1) := dk_o42 (by decide +kernel)
theorem dX12_goesOn_290 : decode cX12_goesOn 290 = .ok (.ldc2_w 319, 3) := dk_o20 (by decide +kernel)
theorem dX12_goesOn_293 : decode cX12_goesOn 293 = .ok (.invokevirtual 349, 3) := dk_o182 (by decide +kernel)
theorem dX12_goesOn_296 : decode cX12_goesOn 296 = .ok (.ifCond .ne 13, 3) := dk_o154 (by decide +kernel)
theorem dX12_goesOn_299 : decode cX12_goesOn 299 = .ok (.aload_n 0, 1) := dk_o42 (by decide +kernel)
theorem dX12_goesOn_300 : decode cX12_goesOn 300 = .ok (.ldc2_w 317, 3) := dk_o20 (by decide +kernel)
theorem dX12_goesOn_303 : decode cX12_goesOn 303 = .ok (.invokevirtual 349, 3) := dk_o182 (by decide +kernel)
theorem dX12_goesOn_306 : decode cX12_goesOn 306 = .ok (.ifCond .eq 94, 3) := dk_o153 (by decide +kernel)
theorem dX12_goesOn_309 : decode cX12_goesOn 309 = .ok (.aload_n 0, 1) := dk_o42 (by decide +kernel)
theorem dX12_goesOn_310 : decode cX12_goesOn 310 = .ok (.getfield 127, 3) := dk_o180 (by decide +kernel)
theorem dX12_goesOn_313 : decode cX12_goesOn 313 = .ok (.iload_n 1, 1) := dk_o27 (by decide +kernel)
theorem dX12_goesOn_314 : decode cX12_goesOn 314 = .ok (.iaload, 1) := dk_o46 (by decide +kernel)
theorem dX12_goesOn_315 : decode cX12_goesOn 315 = .ok (.ifCond .ne 12, 3) := dk_o154 (by decide +kernel)
theorem dX12_goesOn_318 : decode cX12_goesOn 318 = .ok (.aload_n 0, 1) := dk_o42 (by decide +kernel)
theorem dX12_goesOn_319 : decode cX12_goesOn 319 = .ok (.iconst 1, 1) := dk_o4 (by decide +kernel)
theorem dX12_goesOn_320 : decode cX12_goesOn 320 = .ok (.aload_n 0, 1) := dk_o42 (by decide +kernel)
theorem dX12_goesOn_321 : decode cX12_goesOn 321 = .ok (.getfield 23, 3) := dk_o180 (by decide +kernel)
theorem dX12_goesOn_324 : decode cX12_goesOn 324 = .ok (.invokevirtual 255, 3) := dk_o182 (by decide +kernel)
theorem dX12_goesOn_327 : decode cX12_goesOn 327 = .ok (.aload_n 0, 1) := dk_o42 (by decide +kernel)
theorem dX12_goesOn_328 : decode cX12_goesOn 328 = .ok (.getfield 36, 3) := dk_o180 (by decide +kernel)
theorem dX12_goesOn_331 : decode cX12_goesOn 331 = .ok (.ifCond .le 5, 3) := dk_o158 (by decide +kernel)
theorem dX12_goesOn_334 : decode cX12_goesOn 334 = .ok (.iconst 0, 1) := dk_o3 (by decide +kernel)
theorem dX12_goesOn_335 : decode cX12_goesOn 335 = .ok (.ireturn, 1) := dk_o172 (by decide +kernel)
theorem dX12_goesOn_336 : decode cX12_goesOn 336 = .ok (.aload_n 0, 1) := dk_o42 (by decide +kernel)
theorem dX12_goesOn_337 : decode cX12_goesOn 337 = .ok (.ldc2_w 319, 3) := dk_o20 (by decide +kernel)
theorem dX12_goesOn_340 : decode cX12_goesOn 340 = .ok (.invokevirtual 349, 3) := dk_o182 (by decide +kernel)
theorem dX12_goesOn_343 : decode cX12_goesOn 343 = .ok (.istore 4, 2) := dk_o54 (by decide +kernel)
theorem dX12_goesOn_345 : decode cX12_goesOn 345 = .ok (.aload_n 0, 1) := dk_o42 (by decide +kernel)
theorem dX12_goesOn_346 : decode cX12_goesOn 346 = .ok (.iload 4, 2) := dk_o21 (by decide +kernel)
theorem dX12_goesOn_348 : decode cX12_goesOn 348 = .ok (.ifCond .eq 7, 3) := dk_o153 (by decide +kernel)
theorem dX12_goesOn_351 : decode cX12_goesOn 351 = .ok (.iconst 2, 1) := dk_o5 (by decide +kernel)
theorem dX12_goesOn_352 : decode cX12_goesOn 352 = .ok (.goto 4, 3) := dk_o167 (by decide +kernel)
theorem dX12_goesOn_355 : decode cX12_goesOn 355 = .ok (.iconst 1, 1) := dk_o4 (by decide +kernel)
theorem dX12_goesOn_356 : decode cX12_goesOn 356 = .ok (.invokevirtual 359, 3) := dk_o182 (by decide +kernel)
theorem dX12_goesOn_359 : decode cX12_goesOn 359 = .ok (.aload_n 0, 1) := dk_o42 (by decide +kernel)
theorem dX12_goesOn_360 : decode cX12_goesOn 360 = .ok (.iload 4, 2) := dk_o21 (by decide +kernel)
theorem dX12_goesOn_362 : decode cX12_goesOn 362 = .ok (.ifCond .eq 8, 3) := dk_o153 (by decide +kernel)
theorem dX12_goesOn_365 : decode cX12_goesOn 365 = .ok (.bipush 41, 2) := dk_o16 (by decide +kernel)
theorem dX12_goesOn_367 : decode cX12_goesOn 367 = .ok (.goto 5, 3) := dk_o167 (by decide +kernel)
theorem dX12_goesOn_370 : decode cX12_goesOn 370 = .ok (.bipush 42, 2) := dk_o16 (by decide +kernel)
theorem dX12_goesOn_372 : decode cX12_goesOn 372 = .ok (.invokevirtual 353, 3) := dk_o182 (by decide +kernel)
theorem dX12_goesOn_375 : decode cX12_goesOn 375 = .ok (.aload_n 0, 1) := dk_o42 (by decide +kernel)
theorem dX12_goesOn_376 : decode cX12_goesOn 376 = .ok (.getfield 127, 3) := dk_o180 (by decide +kernel)
theorem dX12_goesOn_379 : decode cX12_goesOn 379 = .ok (.iload_n 1, 1) := dk_o27 (by decide +kernel)
theorem dX12_goesOn_380 : decode cX12_goesOn 380 = .ok (.iconst 0, 1) := dk_o3 (by decide +kernel)
theorem dX12_goesOn_381 : decode cX12_goesOn 381 = .ok (.iastore, 1) := dk_o79 (by decide +kernel)
theorem dX12_goesOn_382 : decode cX12_goesOn 382 = .ok (.aload_n 0, 1) := dk_o42 (by decide +kernel)
theorem dX12_goesOn_383 : decode cX12_goesOn 383 = .ok (.getfield 130, 3) := dk_o180 (by decide +kernel)
theorem dX12_goesOn_386 : decode cX12_goesOn 386 = .ok (.iload_n 1, 1) := dk_o27 (by decide +kernel)
theorem dX12_goesOn_387 : decode cX12_goesOn 387 = .ok (.iconst 1, 1) := dk_o4 (by decide +kernel)
theorem dX12_goesOn_388 : decode cX12_goesOn 388 = .ok (.bastore, 1) := dk_o84 (by decide +kernel)
theorem dX12_goesOn_389 : decode cX12_goesOn 389 = .ok (.aload_n 0, 1) := dk_o42 (by decide +kernel)
theorem dX12_goesOn_390 : decode cX12_goesOn 390 = .ok (.invokevirtual 272, 3) := dk_o182 (by decide +kernel)
theorem dX12_goesOn_393 : decode cX12_goesOn 393 = .ok (.aload_n 0, 1) := dk_o42 (by decide +kernel)
theorem dX12_goesOn_394 : decode cX12_goesOn 394 = .ok (.iconst 0, 1) := dk_o3 (by decide +kernel)
theorem dX12_goesOn_395 : decode cX12_goesOn 395 = .ok (.putfield 152, 3) := dk_o181 (by decide +kernel)
theorem dX12_goesOn_398 : decode cX12_goesOn 398 = .ok (.iconst 1, 1) := dk_o4 (by decide +kernel)
theorem dX12_goesOn_399 : decode cX12_goesOn 399 = .ok (.ireturn, 1) := dk_o172 (by decide +kernel)
theorem dX12_goesOn_400 : decode cX12_goesOn 400 = .ok (.iload_n 3, 1) := dk_o29 (by decide +kernel)
theorem dX12_goesOn_401 : decode cX12_goesOn 401 = .ok (.ifCond .eq 21, 3) := dk_o153 (by decide +kernel)
theorem dX12_goesOn_404 : decode cX12_goesOn 404 = .ok (.aload_n 0, 1) := dk_o42 (by decide +kernel)
theorem dX12_goesOn_405 : decode cX12_goesOn 405 = .ok (.getfield 127, 3) := dk_o180 (by decide +kernel)
theorem dX12_goesOn_408 : decode cX12_goesOn 408 = .ok (.iload_n 1, 1) := dk_o27 (by decide +kernel)
theorem dX12_goesOn_409 : decode cX12_goesOn 409 = .ok (.iaload, 1) := dk_o46 (by decide +kernel)
theorem dX12_goesOn_410 : decode cX12_goesOn 410 = .ok (.ifCond .ne 12, 3) := dk_o154 (by decide +kernel)
theorem dX12_goesOn_413 : decode cX12_goesOn 413 = .ok (.aload_n 0, 1) := dk_o42 (by decide +kernel)
theorem dX12_goesOn_414 : decode cX12_goesOn 414 = .ok (.iconst 1, 1) := dk_o4 (by decide +kernel)
theorem dX12_goesOn_415 : decode cX12_goesOn 415 = .ok (.aload_n 0, 1) := dk_o42 (by decide +kernel)
theorem dX12_goesOn_416 : decode cX12_goesOn 416 = .ok (.getfield 23, 3) := dk_o180 (by decide +kernel)
theorem dX12_goesOn_419 : decode cX12_goesOn 419 = .ok (.invokevirtual 255, 3) := dk_o182 (by decide +kernel)
theorem dX12_goesOn_422 : decode cX12_goesOn 422 = .ok (.iload_n 2, 1) := dk_o28 (by decide +kernel)
theorem dX12_goesOn_423 : decode cX12_goesOn 423 = .ok (.iconst 2, 1) := dk_o5 (by decide +kernel)
theorem dX12_goesOn_424 : decode cX12_goesOn 424 = .ok (.if_icmp .ge 17, 3) := dk_o162 (by decide +kernel)
theorem dX12_goesOn_427 : decode cX12_goesOn 427 = .ok (.aload_n 0, 1) := dk_o42 (by decide +kernel)
theorem dX12_goesOn_428 : decode cX12_goesOn 428 = .ok (.getfield 36, 3) := dk_o180 (by decide +kernel)
theorem dX12_goesOn_431 : decode cX12_goesOn 431 = .ok (.ifCond .ne 8, 3) := dk_o154 (by decide +kernel)
theorem dX12_goesOn_434 : decode cX12_goesOn 434 = .ok (.aload_n 0, 1) := dk_o42 (by decide +kernel)
theorem dX12_goesOn_435 : decode cX12_goesOn 435 = .ok (.iconst 1, 1) := dk_o4 (by decide +kernel)
theorem dX12_goesOn_436 : decode cX12_goesOn 436 = .ok (.invokevirtual 359, 3) := dk_o182 (by decide +kernel)
theorem dX12_goesOn_439 : decode cX12_goesOn 439 = .ok (.iconst 0, 1) := dk_o3 (by decide +kernel)
theorem dX12_goesOn_440 : decode cX12_goesOn 440 = .ok (.ireturn, 1) := dk_o172 (by decide +kernel)
theorem dX12_goesOn_441 : decode cX12_goesOn 441 = .ok (.iload_n 2, 1) := dk_o28 (by decide +kernel)
theorem dX12_goesOn_442 : decode cX12_goesOn 442 = .ok (.iconst 3, 1) := dk_o6 (by decide +kernel)
theorem dX12_goesOn_443 : decode cX12_goesOn 443 = .ok (.if_icmp .eq 9, 3) := dk_o159 (by decide +kernel)
theorem dX12_goesOn_446 : decode cX12_goesOn 446 = .ok (.iload_n 2, 1) := dk_o28 (by decide +kernel)
theorem dX12_goesOn_447 : decode cX12_goesOn 447 = .ok (.bipush 6, 2) := dk_o16 (by decide +kernel)
theorem dX12_goesOn_449 : decode cX12_goesOn 449 = .ok (.if_icmp .ne 69, 3) := dk_o160 (by decide +kernel)
theorem dX12_goesOn_452 : decode cX12_goesOn 452 = .ok (.aload_n 0, 1) := dk_o42 (by decide +kernel)
theorem dX12_goesOn_453 : decode cX12_goesOn 453 = .ok (.bipush 44, 2) := dk_o16 (by decide +kernel)
theorem dX12_goesOn_455 : decode cX12_goesOn 455 = .ok (.invokevirtual 269, 3) := dk_o182 (by decide +kernel)
theorem dX12_goesOn_458 : decode cX12_goesOn 458 = .ok (.ifCond .ne 12, 3) := dk_o154 (by decide +kernel)
theorem dX12_goesOn_461 : decode cX12_goesOn 461 = .ok (.aload_n 0, 1) := dk_o42 (by decide +kernel)
theorem dX12_goesOn_462 : decode cX12_goesOn 462 = .ok (.iconst 1, 1) := dk_o4 (by decide +kernel)
theorem dX12_goesOn_463 : decode cX12_goesOn 463 = .ok (.aload_n 0, 1) := dk_o42 (by decide +kernel)
theorem dX12_goesOn_464 : decode cX12_goesOn 464 = .ok (.getfield 23, 3) := dk_o180 (by decide +kernel)
theorem dX12_goesOn_467 : decode cX12_goesOn 467 = .ok (.invokevirtual 255, 3) := dk_o182 (by decide +kernel)
theorem dX12_goesOn_470 : decode cX12_goesOn 470 = .ok (.aload_n 0, 1) := dk_o42 (by decide +kernel)
theorem dX12_goesOn_471 : decode cX12_goesOn 471 = .ok (.getfield 36, 3) := dk_o180 (by decide +kernel)
theorem dX12_goesOn_474 : decode cX12_goesOn 474 = .ok (.ifCond .le 5, 3) := dk_o158 (by decide +kernel)
theorem dX12_goesOn_477 : decode cX12_goesOn 477 = .ok (.iconst 0, 1) := dk_o3 (by decide +kernel)
theorem dX12_goesOn_478 : decode cX12_goesOn 478 = .ok (.ireturn, 1) := dk_o172 (by decide +kernel)
theorem dX12_goesOn_479 : decode cX12_goesOn 479 = .ok (.aload_n 0, 1) := dk_o42 (by decide +kernel)
theorem dX12_goesOn_480 : decode cX12_goesOn 480 = .ok (.iconst 1, 1) := dk_o4 (by decide +kernel)
theorem dX12_goesOn_481 : decode cX12_goesOn 481 = .ok (.invokevirtual 359, 3) := dk_o182 (by decide +kernel)
theorem dX12_goesOn_484 : decode cX12_goesOn 484 = .ok (.aload_n 0, 1) := dk_o42 (by decide +kernel)
theorem dX12_goesOn_485 : decode cX12_goesOn 485 = .ok (.getfield 124, 3) := dk_o180 (by decide +kernel)
theorem dX12_goesOn_488 : decode cX12_goesOn 488 = .ok (.iload_n 1, 1) := dk_o27 (by decide +kernel)
theorem dX12_goesOn_489 : decode cX12_goesOn 489 = .ok (.iload_n 2, 1) := dk_o28 (by decide +kernel)
theorem dX12_goesOn_490 : decode cX12_goesOn 490 = .ok (.iconst 3, 1) := dk_o6 (by decide +kernel)
theorem dX12_goesOn_491 : decode cX12_goesOn 491 = .ok (.if_icmp .ne 7, 3) := dk_o160 (by decide +kernel)
theorem dX12_goesOn_494 : decode cX12_goesOn 494 = .ok (.iconst 4, 1) := dk_o7 (by decide +kernel)
theorem dX12_goesOn_495 : decode cX12_goesOn 495 = .ok (.goto 4, 3) := dk_o167 (by decide +kernel)
theorem dX12_goesOn_498 : decode cX12_goesOn 498 = .ok (.iconst 3, 1) := dk_o6 (by decide +kernel)
theorem dX12_goesOn_499 : decode cX12_goesOn 499 = .ok (.iastore, 1) := dk_o79 (by decide +kernel)
theorem dX12_goesOn_500 : decode cX12_goesOn 500 = .ok (.aload_n 0, 1) := dk_o42 (by decide +kernel)
theorem dX12_goesOn_501 : decode cX12_goesOn 501 = .ok (.getfield 127, 3) := dk_o180 (by decide +kernel)
theorem dX12_goesOn_504 : decode cX12_goesOn 504 = .ok (.iload_n 1, 1) := dk_o27 (by decide +kernel)
theorem dX12_goesOn_505 : decode cX12_goesOn 505 = .ok (.iconst 0, 1) := dk_o3 (by decide +kernel)
theorem dX12_goesOn_506 : decode cX12_goesOn 506 = .ok (.iastore, 1) := dk_o79 (by decide +kernel)
theorem dX12_goesOn_507 : decode cX12_goesOn 507 = .ok (.aload_n 0, 1) := dk_o42 (by decide +kernel)
theorem dX12_goesOn_508 : decode cX12_goesOn 508 = .ok (.invokevirtual 272, 3) := dk_o182 (by decide +kernel)
theorem dX12_goesOn_511 : decode cX12_goesOn 511 = .ok (.aload_n 0, 1) := dk_o42 (by decide +kernel)
theorem dX12_goesOn_512 : decode cX12_goesOn 512 = .ok (.iconst 0, 1) := dk_o3 (by decide +kernel)
theorem dX12_goesOn_513 : decode cX12_goesOn 513 = .ok (.putfield 152, 3) := dk_o181 (by decide +kernel)
theorem dX12_goesOn_516 : decode cX12_goesOn 516 = .ok (.iconst 1, 1) := dk_o4 (by decide +kernel)
theorem dX12_goesOn_517 : decode cX12_goesOn 517 = .ok (.ireturn, 1) := dk_o172 (by decide +kernel)
theorem dX12_goesOn_518 : decode cX12_goesOn 518 = .ok (.aload_n 0, 1) := dk_o42 (by decide +kernel)
theorem dX12_goesOn_519 : decode cX12_goesOn 519 = .ok (.iload_n 2, 1) := dk_o28 (by decide +kernel)
theorem dX12_goesOn_520 : decode cX12_goesOn 520 = .ok (.iconst 5, 1) := dk_o8 (by decide +kernel)
theorem dX12_goesOn_521 : decode cX12_goesOn 521 = .ok (.if_icmp .ne 8, 3) := dk_o160 (by decide +kernel)
theorem dX12_goesOn_524 : decode cX12_goesOn 524 = .ok (.bipush 93, 2) := dk_o16 (by decide +kernel)
theorem dX12_goesOn_526 : decode cX12_goesOn 526 = .ok (.goto 5, 3) := dk_o167 (by decide +kernel)
theorem dX12_goesOn_529 : decode cX12_goesOn 529 = .ok (.bipush 41, 2) := dk_o16 (by decide +kernel)
theorem dX12_goesOn_531 : decode cX12_goesOn 531 = .ok (.invokevirtual 269, 3) := dk_o182 (by decide +kernel)
theorem dX12_goesOn_534 : decode cX12_goesOn 534 = .ok (.ifCond .ne 12, 3) := dk_o154 (by decide +kernel)
theorem dX12_goesOn_537 : decode cX12_goesOn 537 = .ok (.aload_n 0, 1) := dk_o42 (by decide +kernel)
theorem dX12_goesOn_538 : decode cX12_goesOn 538 = .ok (.iconst 1, 1) := dk_o4 (by decide +kernel)
theorem dX12_goesOn_539 : decode cX12_goesOn 539 = .ok (.aload_n 0, 1) := dk_o42 (by decide +kernel)
theorem dX12_goesOn_540 : decode cX12_goesOn 540 = .ok (.getfield 23, 3) := dk_o180 (by decide +kernel)
theorem dX12_goesOn_543 : decode cX12_goesOn 543 = .ok (.invokevirtual 255, 3) := dk_o182 (by decide +kernel)
theorem dX12_goesOn_546 : decode cX12_goesOn 546 = .ok (.aload_n 0, 1) := dk_o42 (by decide +kernel)
theorem dX12_goesOn_547 : decode cX12_goesOn 547 = .ok (.getfield 36, 3) := dk_o180 (by decide +kernel)
theorem dX12_goesOn_550 : decode cX12_goesOn 550 = .ok (.ifCond .le 5, 3) := dk_o158 (by decide +kernel)
theorem dX12_goesOn_553 : decode cX12_goesOn 553 = .ok (.iconst 0, 1) := dk_o3 (by decide +kernel)
theorem dX12_goesOn_554 : decode cX12_goesOn 554 = .ok (.ireturn, 1) := dk_o172 (by decide +kernel)
theorem dX12_goesOn_555 : decode cX12_goesOn 555 = .ok (.aload_n 0, 1) := dk_o42 (by decide +kernel)
theorem dX12_goesOn_556 : decode cX12_goesOn 556 = .ok (.iconst 1, 1) := dk_o4 (by decide +kernel)
theorem dX12_goesOn_557 : decode cX12_goesOn 557 = .ok (.invokevirtual 359, 3) := dk_o182 (by decide +kernel)
theorem dX12_goesOn_560 : decode cX12_goesOn 560 = .ok (.aload_n 0, 1) := dk_o42 (by decide +kernel)
theorem dX12_goesOn_561 : decode cX12_goesOn 561 = .ok (.dup, 1) := dk_o89 (by decide +kernel)
theorem dX12_goesOn_562 : decode cX12_goesOn 562 = .ok (.getfield 140, 3) := dk_o180 (by decide +kernel)
theorem dX12_goesOn_565 : decode cX12_goesOn 565 = .ok (.iconst 1, 1) := dk_o4 (by decide +kernel)
theorem dX12_goesOn_566 : decode cX12_goesOn 566 = .ok (.isub, 1) := dk_o100 (by decide +kernel)
theorem dX12_goesOn_567 : decode cX12_goesOn 567 = .ok (.putfield 140, 3) := dk_o181 (by decide +kernel)
theorem dX12_goesOn_570 : decode cX12_goesOn 570 = .ok (.aload_n 0, 1) := dk_o42 (by decide +kernel)
theorem dX12_goesOn_571 : decode cX12_goesOn 571 = .ok (.dup, 1) := dk_o89 (by decide +kernel)
theorem dX12_goesOn_572 : decode cX12_goesOn 572 = .ok (.getfield 143, 3) := dk_o180 (by decide +kernel)
theorem dX12_goesOn_575 : decode cX12_goesOn 575 = .ok (.iconst 1, 1) := dk_o4 (by decide +kernel)
theorem dX12_goesOn_576 : decode cX12_goesOn 576 = .ok (.isub, 1) := dk_o100 (by decide +kernel)
theorem dX12_goesOn_577 : decode cX12_goesOn 577 = .ok (.putfield 143, 3) := dk_o181 (by decide +kernel)
theorem dX12_goesOn_580 : decode cX12_goesOn 580 = .ok (.iload_n 2, 1) := dk_o28 (by decide +kernel)
theorem dX12_goesOn_581 : decode cX12_goesOn 581 = .ok (.iconst 4, 1) := dk_o7 (by decide +kernel)
theorem dX12_goesOn_582 : decode cX12_goesOn 582 = .ok (.if_icmp .ne 14, 3) := dk_o160 (by decide +kernel)
theorem dX12_goesOn_585 : decode cX12_goesOn 585 = .ok (.aload_n 0, 1) := dk_o42 (by decide +kernel)
theorem dX12_goesOn_586 : decode cX12_goesOn 586 = .ok (.aload_n 0, 1) := dk_o42 (by decide +kernel)
theorem dX12_goesOn_587 : decode cX12_goesOn 587 = .ok (.getfield 134, 3) := dk_o180 (by decide +kernel)
theorem dX12_goesOn_590 : decode cX12_goesOn 590 = .ok (.iload_n 1, 1) := dk_o27 (by decide +kernel)
theorem dX12_goesOn_591 : decode cX12_goesOn 591 = .ok (.iaload, 1) := dk_o46 (by decide +kernel)
theorem dX12_goesOn_592 : decode cX12_goesOn 592 = .ok (.iconst 0, 1) := dk_o3 (by decide +kernel)
theorem dX12_goesOn_593 : decode cX12_goesOn 593 = .ok (.invokevirtual 340, 3) := dk_o182 (by decide +kernel)
theorem dX12_goesOn_596 : decode cX12_goesOn 596 = .ok (.iload_n 2, 1) := dk_o28 (by decide +kernel)
theorem dX12_goesOn_597 : decode cX12_goesOn 597 = .ok (.iconst 5, 1) := dk_o8 (by decide +kernel)
theorem dX12_goesOn_598 : decode cX12_goesOn 598 = .ok (.if_icmp .ne 15, 3) := dk_o160 (by decide +kernel)
theorem dX12_goesOn_601 : decode cX12_goesOn 601 = .ok (.aload_n 0, 1) := dk_o42 (by decide +kernel)
theorem dX12_goesOn_602 : decode cX12_goesOn 602 = .ok (.getfield 127, 3) := dk_o180 (by decide +kernel)
theorem dX12_goesOn_605 : decode cX12_goesOn 605 = .ok (.aload_n 0, 1) := dk_o42 (by decide +kernel)
theorem dX12_goesOn_606 : decode cX12_goesOn 606 = .ok (.getfield 140, 3) := dk_o180 (by decide +kernel)
theorem dX12_goesOn_609 : decode cX12_goesOn 609 = .ok (.iconst 1, 1) := dk_o4 (by decide +kernel)
theorem dX12_goesOn_610 : decode cX12_goesOn 610 = .ok (.isub, 1) := dk_o100 (by decide +kernel)
theorem dX12_goesOn_611 : decode cX12_goesOn 611 = .ok (.iconst 2, 1) := dk_o5 (by decide +kernel)
theorem dX12_goesOn_612 : decode cX12_goesOn 612 = .ok (.iastore, 1) := dk_o79 (by decide +kernel)
theorem dX12_goesOn_613 : decode cX12_goesOn 613 = .ok (.aload_n 0, 1) := dk_o42 (by decide +kernel)
theorem dX12_goesOn_614 : decode cX12_goesOn 614 = .ok (.invokevirtual 272, 3) := dk_o182 (by decide +kernel)
theorem dX12_goesOn_617 : decode cX12_goesOn 617 = .ok (.iconst 1, 1) := dk_o4 (by decide +kernel)
theorem dX12_goesOn_618 : decode cX12_goesOn 618 = .ok (.ireturn, 1) := dk_o172 (by decide +kernel)
theorem wB_436 : Cond.code yX12_joins cX12_joins 2 none ∈ dgB := List.mem_filter.mpr ⟨tbl_8 _ (List.mem_of_getElem? (i := 99) rfl), rfl⟩
theorem wB_437 : Cond.methodLink RX12 359 yX12_joins ∈ dgB := List.mem_filter.mpr ⟨tbl_8 _ (List.mem_of_getElem? (i := 96) (by decide +kernel)), by decide +kernel⟩
theorem wB_438 : Cond.instanceMethod yX12_joins ∈ dgB := List.mem_filter.mpr ⟨tbl_8 _ (List.mem_of_getElem? (i := 98) (by decide +kernel)), by decide +kernel⟩
theorem wB_439 : Cond.selects RX12 yX12_joins yX12_joins ∈ dgB := List.mem_filter.mpr ⟨List.mem_of_getElem? (i := 113) (by decide +kernel), by decide +kernel⟩
theorem wB_440 : Cond.fieldLink RX12 152 "DarkMineModel" "operand" "Z" ∈ dgB := List.mem_filter.mpr ⟨tbl_6 _ (List.mem_of_getElem? (i := 209) (by decide +kernel)), by decide +kernel⟩
set_option maxHeartbeats 8000000 in
set_option maxRecDepth 100000 in
theorem c_m_goesOn_A (l : Launch) (g : Nat → ClassId) (D : va_G) (o : Nat) (S : dg_S) (tb : Nat → Int32) (tn : Nat) (S0 : dg_S) (sg : Int32) (f_sg : S.1 0 3 = .int sg) (b_sg : 0 ≤ (sg).toInt ∧ (sg).toInt ≤ 3) (sa : Int32) (f_sa : S.1 0 4 = .int sa) (b_sa : 0 ≤ (sa).toInt ∧ (sa).toInt ≤ 1600) (se : Int32) (f_se : S.1 0 5 = .int se) (b_se : 0 ≤ (se).toInt ∧ (se).toInt ≤ 1600) (sl : Int32) (f_sl : S.1 0 2 = .int sl) (b_sl : 0 ≤ (sl).toInt ∧ (sl).toInt ≤ 1600) (fk : Int32) (f_fk : S.1 0 8 = .int fk) (b_fk : 0 ≤ (fk).toInt ∧ (fk).toInt ≤ 6) (va : Int32) (f_va : S.1 0 6 = .int va) (b_va : 0 ≤ (va).toInt ∧ (va).toInt ≤ 9999) (cd : Int32) (f_cd : S.1 0 34 = .int cd) (b_cd : 0 ≤ (cd).toInt ∧ (cd).toInt ≤ 1600) (dp : Int32) (f_dp : S.1 0 42 = .int dp) (b_dp : 0 ≤ (dp).toInt ∧ (dp).toInt ≤ 20) (on : Int32) (f_on : S.1 0 43 = .int on) (om : Int32) (f_om : S.1 0 45 = .int om) (b_om : 0 ≤ (om).toInt ∧ (om).toInt ≤ 500) (oo : Int32) (f_oo : S.1 0 46 = .int oo) (b_oo : 1 ≤ (oo).toInt ∧ (oo).toInt ≤ 1) (lw : Int32) (f_lw : S.1 0 36 = .int lw) (b_lw : 0 ≤ (lw).toInt ∧ (lw).toInt ≤ 2) (hlx : (sa).toInt ≤ (se).toInt ∧ (se).toInt ≤ (sl).toInt ∧ ((sg).toInt ≠ 0 → (sa).toInt + 1 ≤ (se).toInt)) (hro : (cd).toInt + (om).toInt + (dp).toInt ≤ (sa).toInt) (TK : TKM tb tn S) (ZW : ZWM S) (ZK : ZKM S) (P1 : P1M S) (G8 : G8M S0 S) (HA : (S.2.1 23 ((dp : Int32).toNatClampNeg - 1)).toInt < 2 ∧ (g_so (T_kd tb tn) (T_vl tb tn) (t_ix tb tn (sa : Int32).toNatClampNeg) = true ∨ g_po (T_kd tb tn) (T_vl tb tn) (t_ix tb tn (sa : Int32).toNatClampNeg) = true)) (I : CM o S) (sz : Nat) : Met l yX12_goesOn (bw yX12_goesOn cX12_goesOn 5 (some .boolean)) ({ frames := 3, cells := 0, slots := 0, locals := 77 } : Room) (dk_Pc g D (dg_w g shM o rfM S) sz [.ref (o + 0)]) (va_Qi (fun (r : Int32) S' => CM o S' ∧ dg_sm shM [(0, 3), (0, 4), (0, 5), (0, 6), (0, 7), (0, 8), (0, 9), (0, 12), (0, 34), (0, 42), (0, 43), (0, 45), (0, 46)] [18, 19, 22, 23, 24, 27] S S' ∧ (0 ≤ (r).toInt ∧ (r).toInt ≤ 1) ∧ (∃ y9_3 y9_4 y9_5 y9_8 y9_34 y9_42 y9_45 y9_46 : Int32, S'.1 0 3 = .int y9_3 ∧ S'.1 0 4 = .int y9_4 ∧ S'.1 0 5 = .int y9_5 ∧ S'.1 0 8 = .int y9_8 ∧ S'.1 0 34 = .int y9_34 ∧ S'.1 0 42 = .int y9_42 ∧ S'.1 0 45 = .int y9_45 ∧ S'.1 0 46 = .int y9_46 ∧ (((y9_4).toInt ≤ (y9_5).toInt ∧ (y9_5).toInt ≤ (sl).toInt ∧ ((y9_3).toInt ≠ 0 → (y9_4).toInt + 1 ≤ (y9_5).toInt)) ∧ (sa).toInt ≤ (y9_4).toInt ∧ ((fk).toInt ≠ 0 → (y9_8).toInt ≠ 0) ∧ (((y9_8).toInt = 0 → (r).toInt = 1 → (sa).toInt + 1 ≤ (y9_4).toInt) ∧ ((y9_8).toInt = 0 → (y9_34).toInt + (y9_45).toInt + (y9_42).toInt ≤ (y9_4).toInt)))) ∧ (∀ k9 : Int32, S'.1 0 8 = .int k9 → k9.toInt = 0 → POM S') ∧ (GOK tb tn (lw).toInt S S' r) ∧ (GON tb tn (lw).toInt S S' r) ∧ TKM tb tn S' ∧ ZWM S' ∧ G8M S0 S' ∧ True) (dg_B g D shM o rfM) (dg_A o shM.length sz)) 0 0 (dg_A o shM.length sz) := by
  refine dg_met (cc := cX12_goesOn) (maxL := 5) (ret := (some .boolean)) (dk_dq rfl) rfl (Nat.le_of_ble_eq_true rfl) ?_
  intro p e s m args below meth c A hAe harg hx hb hr hml hts hown hlocks hin hP K hS hA1 hA ST hsz ls hl
  rw [← hAe]
  have F : CallFix p m c cX12_goesOn 5 s args (bw yX12_goesOn cX12_goesOn 5 (some .boolean)) RX12 := ⟨hx, hb, hml, hown, hts⟩
  have hl : lv_has ls 5 [(0, .ref (o + 0))] := hl
  have M_0 : dg_sm shM [(0, 3), (0, 4), (0, 5), (0, 6), (0, 7), (0, 8), (0, 9), (0, 12), (0, 34), (0, 42), (0, 43), (0, 45), (0, 46)] [18, 19, 22, 23, 24, 27] S S := dg_sm.rf
  obtain ⟨Q9, hQ9⟩ : ∃ Q : State → Prop, Q = MQ below (va_Qi (fun (r : Int32) S' => CM o S' ∧ dg_sm shM [(0, 3), (0, 4), (0, 5), (0, 6), (0, 7), (0, 8), (0, 9), (0, 12), (0, 34), (0, 42), (0, 43), (0, 45), (0, 46)] [18, 19, 22, 23, 24, 27] S S' ∧ (0 ≤ (r).toInt ∧ (r).toInt ≤ 1) ∧ (∃ y9_3 y9_4 y9_5 y9_8 y9_34 y9_42 y9_45 y9_46 : Int32, S'.1 0 3 = .int y9_3 ∧ S'.1 0 4 = .int y9_4 ∧ S'.1 0 5 = .int y9_5 ∧ S'.1 0 8 = .int y9_8 ∧ S'.1 0 34 = .int y9_34 ∧ S'.1 0 42 = .int y9_42 ∧ S'.1 0 45 = .int y9_45 ∧ S'.1 0 46 = .int y9_46 ∧ (((y9_4).toInt ≤ (y9_5).toInt ∧ (y9_5).toInt ≤ (sl).toInt ∧ ((y9_3).toInt ≠ 0 → (y9_4).toInt + 1 ≤ (y9_5).toInt)) ∧ (sa).toInt ≤ (y9_4).toInt ∧ ((fk).toInt ≠ 0 → (y9_8).toInt ≠ 0) ∧ (((y9_8).toInt = 0 → (r).toInt = 1 → (sa).toInt + 1 ≤ (y9_4).toInt) ∧ ((y9_8).toInt = 0 → (y9_34).toInt + (y9_45).toInt + (y9_42).toInt ≤ (y9_4).toInt)))) ∧ (∀ k9 : Int32, S'.1 0 8 = .int k9 → k9.toInt = 0 → POM S') ∧ (GOK tb tn (lw).toInt S S' r) ∧ (GON tb tn (lw).toInt S S' r) ∧ TKM tb tn S' ∧ ZWM S' ∧ G8M S0 S' ∧ True) (dg_B g D shM o rfM) A) args s 0 0 A := ⟨_, rfl⟩
  rw [← hQ9]
  obtain ⟨hlx_0, hlx_1, hlx_2⟩ := hlx
  have lxh_hlx_2 : m_hid ((sa).toInt ≤ (se).toInt ∧ (se).toInt ≤ (sl).toInt ∧ ((sg).toInt ≠ 0 → (sa).toInt + 1 ≤ (se).toInt)) := m_hid.mk ⟨hlx_0, hlx_1, hlx_2⟩
  have hdm_0 := PSM.dims P1 f_dp f_on f_om
  refine lv_aload_n hx hb dX12_goesOn_0 rfl (lv_at hl 0 rfl) ?_
  refine dg_callv hS hA1 hA (va_runV (As := []) (rest := []) F (c_m_lex l g D o S tb tn fk f_fk (by omega) sa f_sa (by omega) TK I s.heap.size) (cwV 0 hts (bw_V wB_310 wB_311 wB_312 wB_297 wB_309) rfl rfl rfl (by decide +kernel) ⟨Nat.le_of_ble_eq_true rfl, Nat.le_of_ble_eq_true rfl⟩) (dg_preV sM_0 rfl K ST hP hS hA1 hA) rfl rfl hl.1 rfl (lv_room (Nat.le_of_ble_eq_true rfl)) dX12_goesOn_1 ⟨Nat.le_of_ble_eq_true rfl, Nat.le_of_ble_eq_true rfl⟩) (fun S_2 hw_2 H locs hP hS => ?_)
  obtain ⟨I_2, m_2, w_2_0, -⟩ := hw_2
  have M_2 := dg_sm.tr M_0 m_2 (dk_dq rfl) (dk_dq rfl)
  obtain ⟨y_3, f_y_3, w_2_0⟩ := w_2_0
  have w_2_0 : ((fk).toInt ≠ 0 → (y_3).toInt = (fk).toInt) ∧ ((fk).toInt = 0 → ((y_3).toInt = 0 ↔ (T_kd tb tn (t_ix tb tn (sa : Int32).toNatClampNeg)).toInt ≠ 5)) := w_2_0
  obtain ⟨w_2_0_0, w_2_0_1⟩ := w_2_0
  have b_y_3 : 0 ≤ (y_3).toInt ∧ (y_3).toInt ≤ 6 := dg_I.intb (lo := 0) (hi := 6) I_2 sM_0 (by decide +kernel) f_y_3
  refine lv_aload_n hx hb dX12_goesOn_4 rfl (lv_at hl 0 rfl) ?_
  refine dg_get (C := RX12) (T := TX12) (N := 77) hx hb hts (fun w h => bw_mem (wU_X12 w h)) hown K hP sM_0 rfl 8 (dk_dq rfl) (hts _ (bw_mem wB_303)) (fun _ h9 => h9) (v := .int y_3) f_y_3 dX12_goesOn_5 ?_
  refine lv_if_le (tgt := 13) hx hb dX12_goesOn_8 (dk_dq rfl) (fun c_4 => ?_) (fun c_4 => ?_)
  · as_aux_lemma =>
      have jc_4 := dk_lec (k := 0) (by decide +kernel) c_4
      have w_2_0_0c : (fk).toInt = 0 := by omega
      clear w_2_0_0
      have w_2_0_1r := w_2_0_1 (by omega)
      clear w_2_0_1
      have hk5 := m_hid.mk (show (T_kd tb tn (t_ix tb tn (sa : Int32).toNatClampNeg)).toInt ≠ 5 from by omega)
      clear w_2_0_1r
      refine lv_aload_n hx hb dX12_goesOn_13 rfl (lv_at hl 0 rfl) ?_
      refine dg_get (C := RX12) (T := TX12) (N := 77) hx hb hts (fun w h => bw_mem (wU_X12 w h)) hown K hP sM_0 rfl 42 (dk_dq rfl) (hts _ (bw_mem wB_406)) (fun _ h9 => h9) (v := .int dp) ((m_2.1 0 42 _ sM_0 (dk_dq rfl)).trans f_dp) dX12_goesOn_14 ?_
      refine lv_iconst (v := 1) hx hb dX12_goesOn_17 (by decide +kernel) ?_
      refine lv_isub hx hb dX12_goesOn_18 ?_
      refine lv_topi (fun x_5 ex_5 => ?_)
      have jx_5 : (x_5).toInt = (dp).toInt - 1 := by rw [ex_5]; exact dk_subT2 rfl (by decide +kernel) (by omega)
      refine lv_istore_n (lv' := [(1, .int x_5), (0, .ref (o + 0))]) hx hb dX12_goesOn_19 rfl hl (dk_dq rfl) rfl (fun ls hl => ?_)
      refine lv_aload_n hx hb dX12_goesOn_20 rfl (lv_at hl 1 rfl) ?_
      refine dg_get (C := RX12) (T := TX12) (N := 77) hx hb hts (fun w h => bw_mem (wU_X12 w h)) hown K hP sM_0 rfl 37 (dk_dq rfl) (hts _ (bw_mem wB_416)) (fun _ h9 => h9) (v := .ref (o + 22)) (show S_2.1 0 37 = .ref (o + 22) from dg_I.rel (d := 22) I_2 sM_0 (by decide +kernel)) dX12_goesOn_21 ?_
      refine lv_iload_n hx hb dX12_goesOn_24 rfl (lv_at hl 0 rfl) ?_
      have hin_6 : vp_in x_5 20 := (dk_inv2 (by omega))
      refine dg_iald hx hb K hP sM_22 hin_6 dX12_goesOn_25 (fun x_7 ex_7 => ?_)
      have b_x_7 := dk_all_at (dg_I.row (lo := 0) (hi := 6) I_2 sM_22 (by decide +kernel)) hin_6 ex_7
      refine lv_istore_n (lv' := [(2, .int x_7), (1, .int x_5), (0, .ref (o + 0))]) hx hb dX12_goesOn_26 rfl hl (dk_dq rfl) rfl (fun ls hl => ?_)
      refine lv_iload_n hx hb dX12_goesOn_27 rfl (lv_at hl 0 rfl) ?_
      refine dg_calli hS hA1 hA (va_runS (As := [.int x_7]) (rest := []) F (c_m_isTest l g D o S_2 x_7 I_2 H.size) (va_cwS 1 hts (bw_S wB_424 wB_425 wB_297 wB_423) rfl rfl rfl (by decide +kernel) ⟨Nat.le_of_ble_eq_true rfl, Nat.le_of_ble_eq_true rfl⟩) (dg_preS K ST hP hS hA1 hA) rfl rfl hl.1 rfl (lv_room (Nat.le_of_ble_eq_true rfl)) dX12_goesOn_28 ⟨Nat.le_of_ble_eq_true rfl, Nat.le_of_ble_eq_true rfl⟩) (fun x_8 S_9 hw_9 H locs hP hS => ?_)
      rw [hw_9.1] at hP
      obtain ⟨hq_9, w_9_0, w_9_1, -⟩ := hw_9
      have w_9_0 : 0 ≤ (x_8).toInt ∧ (x_8).toInt ≤ 1 := w_9_0
      have w_9_1 : (x_8).toInt = 1 ↔ ((x_7).toInt = 1 ∨ (x_7).toInt = 5 ∨ (x_7).toInt = 6) := w_9_1
      refine lv_istore_n (lv' := [(3, .int x_8), (2, .int x_7), (1, .int x_5), (0, .ref (o + 0))]) hx hb dX12_goesOn_31 rfl hl (dk_dq rfl) rfl (fun ls hl => ?_)
      refine lv_aload_n hx hb dX12_goesOn_32 rfl (lv_at hl 3 rfl) ?_
      refine dg_get (C := RX12) (T := TX12) (N := 77) hx hb hts (fun w h => bw_mem (wU_X12 w h)) hown K hP sM_0 rfl 38 (dk_dq rfl) (hts _ (bw_mem wB_417)) (fun _ h9 => h9) (v := .ref (o + 23)) (show S_2.1 0 38 = .ref (o + 23) from dg_I.rel (d := 23) I_2 sM_0 (by decide +kernel)) dX12_goesOn_33 ?_
      refine lv_iload_n hx hb dX12_goesOn_36 rfl (lv_at hl 2 rfl) ?_
      have hin_10 : vp_in x_5 20 := (dk_inv2 (by omega))
      refine dg_iald hx hb K hP sM_23 hin_10 dX12_goesOn_37 (fun x_11 ex_11 => ?_)
      have b_x_11 := dk_all_at (dg_I.row (lo := 0) (hi := 2) I_2 sM_23 (by decide +kernel)) hin_10 ex_11
      obtain ⟨nt0, R0, TF0⟩ := TFM.start (P1M.keep P1 m_2 (dk_dq rfl) (dk_dq rfl) (dk_dq rfl) (dk_dq rfl) (dk_dq rfl) (dk_dq rfl) (dk_dq rfl) (dk_dq rfl) (dk_dq rfl) (dk_dq rfl) (dk_dq rfl) (dk_dq rfl) (dk_dq rfl) (dk_dq rfl) (dk_dq rfl)) ((m_2.1 0 42 _ sM_0 (dk_dq rfl)).trans f_dp) ((m_2.1 0 43 _ sM_0 (dk_dq rfl)).trans f_on) ((m_2.1 0 45 _ sM_0 (dk_dq rfl)).trans f_om) (fx := x_5) (by omega) ex_7.symm ex_11.symm
      obtain ⟨bg0, hbg0⟩ : ∃ b, b = decide ((S_2.2.1 24 (x_5 : Int32).toNatClampNeg).toInt = 1) := ⟨_, rfl⟩
      rw [← hbg0] at TF0
      clear hbg0
      have hM0 : MSv S (t_ix tb tn (sa : Int32).toNatClampNeg) true = (0, ((x_7).toInt, (x_11).toInt, bg0, nt0) :: R0, (on).toNatClampNeg, (t_ix tb tn (sa : Int32).toNatClampNeg), true) := (MSv.keep m_2 (dk_dq rfl) (dk_dq rfl) (dk_dq rfl) (dk_dq rfl) (dk_dq rfl) (dk_dq rfl) (dk_dq rfl) (dk_dq rfl)).trans TF0.ms
      replace w_9_1 := m_hid.mk w_9_1
      have hpv9 : (S.2.1 23 ((dp : Int32).toNatClampNeg - 1)).toInt = (x_11).toInt := by rw [show (dp : Int32).toNatClampNeg - 1 = (x_5 : Int32).toNatClampNeg from by have h8 := dk_clN dp; have h9 := dk_clN x_5; omega]; exact congrArg Int32.toInt ((congrFun (m_2.2 23 _ sM_23 (dk_dq rfl)).1 _).symm.trans ex_11.symm)
      have hfv9 : (S.2.1 22 ((dp : Int32).toNatClampNeg - 1)).toInt = (x_7).toInt := by rw [show (dp : Int32).toNatClampNeg - 1 = (x_5 : Int32).toNatClampNeg from by have h8 := dk_clN dp; have h9 := dk_clN x_5; omega]; exact congrArg Int32.toInt ((congrFun (m_2.2 22 _ sM_22 (dk_dq rfl)).1 _).symm.trans ex_7.symm)
      obtain ⟨l0, p0, X0, XF0⟩ := XFM.start TF0 ((m_2.1 0 42 _ sM_0 (dk_dq rfl)).trans f_dp) ((m_2.1 0 43 _ sM_0 (dk_dq rfl)).trans f_on) ((m_2.1 0 45 _ sM_0 (dk_dq rfl)).trans f_om)
      have hcn0 : m_hid (n_cn l0 = nt0) := m_hid.mk (XFM.cn XF0 TF0 ((m_2.1 0 42 _ sM_0 (dk_dq rfl)).trans f_dp) ((m_2.1 0 43 _ sM_0 (dk_dq rfl)).trans f_on) ((m_2.1 0 45 _ sM_0 (dk_dq rfl)).trans f_om))
      have hN0 : ∀ out, NSv S (t_ix tb tn (sa : Int32).toNatClampNeg) true out = (0, ((x_7).toInt, (x_11).toInt, bg0, l0, n_np (x_7).toInt p0) :: n_Z R0 X0, (on).toNatClampNeg, (t_ix tb tn (sa : Int32).toNatClampNeg), true, out) := fun out => (NSv.keep m_2 (dk_dq rfl) (dk_dq rfl) (dk_dq rfl) (dk_dq rfl) (dk_dq rfl) (dk_dq rfl) (dk_dq rfl) (dk_dq rfl) (dk_dq rfl)).trans (NSv.ms TF0 XF0)
      as_aux_lemma =>
        refine lv_iconst (v := 2) hx hb dX12_goesOn_38 (by decide +kernel) ?_
        have J_154 : ∀ (u9 : Unit), (m_hid ((x_11).toInt < 2 → g_so (T_kd tb tn) (T_vl tb tn) (t_ix tb tn (sa : Int32).toNatClampNeg) = false ∧ g_po (T_kd tb tn) (T_vl tb tn) (t_ix tb tn (sa : Int32).toNatClampNeg) = false)) → ∀ (H : Heap) (locs : List Loc), va_P D vwCl (dg_w g shM o rfM S_2) H → va_S A s.heap H locs → ∀ ls : Array Slot, lv_has ls 5 [(3, .int x_8), (2, .int x_7), (1, .int x_5), (0, .ref (o + 0))] → W p l e ({ frames := 3, cells := 0, slots := 0, locals := 77 } : Room) s m args below meth c H locs 0 0 Q9 (F0 m 188 ls []) := by
          intro u9 rel_0 H locs hP hS ls hl
          have hnop := rel_0
          exact (by rcases HA.2 with q9 | q9; exact absurd (q9.symm.trans (hnop.out (by have h9 := HA.1; omega)).1) (dk_dq rfl); exact absurd (q9.symm.trans (hnop.out (by have h9 := HA.1; omega)).2) (dk_dq rfl) : False).elim
        refine lv_icmp_ge (tgt := 188) hx hb dX12_goesOn_39 (dk_dq rfl) (fun c_155 => ?_) (fun c_155 => ?_)
        · have jc_155 := dk_gec (k := 2) (by decide +kernel) c_155
          exact J_154 ()  (m_hid.mk (fun q9 => by exfalso; omega)) _ _ hP hS _ (lv_sub hl [0, 1, 2, 3] rfl)
        · as_aux_lemma =>
            have jc_155 := dk_ngec (k := 2) (by decide +kernel) c_155
            refine lv_aload_n hx hb dX12_goesOn_42 rfl (lv_at hl 3 rfl) ?_
            refine lv_bipush (v := 43) hx hb dX12_goesOn_43 (by decide +kernel) ?_
            refine dg_calli hS hA1 hA (va_runV (As := [.int 43]) (rest := []) F (c_m_isSign l g D o S_2 43 sg ((m_2.1 0 3 _ sM_0 (dk_dq rfl)).trans f_sg) (by omega) va ((m_2.1 0 6 _ sM_0 (dk_dq rfl)).trans f_va) (by omega) I_2 H.size) (cwV 1 hts (bw_V wB_314 wB_315 wB_316 wB_297 wB_313) rfl rfl rfl (by decide +kernel) ⟨Nat.le_of_ble_eq_true rfl, Nat.le_of_ble_eq_true rfl⟩) (dg_preV sM_0 rfl K ST hP hS hA1 hA) rfl rfl hl.1 rfl (lv_room (Nat.le_of_ble_eq_true rfl)) dX12_goesOn_45 ⟨Nat.le_of_ble_eq_true rfl, Nat.le_of_ble_eq_true rfl⟩) (fun x_156 S_157 hw_157 H locs hP hS => ?_)
            rw [hw_157.1] at hP
            obtain ⟨hq_157, w_157_0, w_157_1, -⟩ := hw_157
            have hz_158 : (43 : Int32).toInt = 43 := by decide +kernel
            have w_157_0 : 0 ≤ (x_156).toInt ∧ (x_156).toInt ≤ 1 := w_157_0
            have w_157_1 : (x_156).toInt = 1 ↔ ((sg).toInt = 3 ∧ (va).toInt = ((43 : Int32)).toInt) := w_157_1
            have J_297 : ∀ (u9 : Unit), ((sg).toInt = 3) → ((va).toInt = 43 ∨ (va).toInt = 45 ∨ (va).toInt = 42 ∨ (va).toInt = 47 ∨ (va).toInt = 37) → (m_hid (g_so (T_kd tb tn) (T_vl tb tn) (t_ix tb tn (sa : Int32).toNatClampNeg) = true ∨ g_po (T_kd tb tn) (T_vl tb tn) (t_ix tb tn (sa : Int32).toNatClampNeg) = true)) → ∀ (H : Heap) (locs : List Loc), va_P D vwCl (dg_w g shM o rfM S_2) H → va_S A s.heap H locs → ∀ ls : Array Slot, lv_has ls 5 [(3, .int x_8), (2, .int x_7), (1, .int x_5), (0, .ref (o + 0))] → W p l e ({ frames := 3, cells := 0, slots := 0, locals := 77 } : Room) s m args below meth c H locs 0 0 Q9 (F0 m 87 ls []) := by
              as_aux_lemma =>
                intro u9 rel_0 rel_1 rel_2 H locs hP hS ls hl
                clear w_157_1
                have hop := rel_2
                have hlx_2r := hlx_2 (by omega)
                clear hlx_2
                refine lv_aload_n hx hb dX12_goesOn_87 rfl (lv_at hl 3 rfl) ?_
                refine lv_aload_n hx hb dX12_goesOn_88 rfl (lv_at hl 3 rfl) ?_
                refine lv_bipush (v := 43) hx hb dX12_goesOn_89 (by decide +kernel) ?_
                refine dg_calli hS hA1 hA (va_runV (As := [.int 43]) (rest := [.ref (o + 0)]) F (c_m_isSign l g D o S_2 43 sg ((m_2.1 0 3 _ sM_0 (dk_dq rfl)).trans f_sg) (by omega) va ((m_2.1 0 6 _ sM_0 (dk_dq rfl)).trans f_va) (by omega) I_2 H.size) (cwV 1 hts (bw_V wB_314 wB_315 wB_316 wB_297 wB_313) rfl rfl rfl (by decide +kernel) ⟨Nat.le_of_ble_eq_true rfl, Nat.le_of_ble_eq_true rfl⟩) (dg_preV sM_0 rfl K ST hP hS hA1 hA) rfl rfl hl.1 rfl (lv_room (Nat.le_of_ble_eq_true rfl)) dX12_goesOn_91 ⟨Nat.le_of_ble_eq_true rfl, Nat.le_of_ble_eq_true rfl⟩) (fun x_298 S_299 hw_299 H locs hP hS => ?_)
                rw [hw_299.1] at hP
                obtain ⟨hq_299, w_299_0, w_299_1, -⟩ := hw_299
                have hz_300 : (43 : Int32).toInt = 43 := by decide +kernel
                have w_299_0 : 0 ≤ (x_298).toInt ∧ (x_298).toInt ≤ 1 := w_299_0
                have w_299_1 : (x_298).toInt = 1 ↔ ((sg).toInt = 3 ∧ (va).toInt = ((43 : Int32)).toInt) := w_299_1
                refine lv_if_ne (tgt := 106) hx hb dX12_goesOn_94 (dk_dq rfl) (fun c_301 => ?_) (fun c_301 => ?_)
                · as_aux_lemma =>
                    have jc_301 := dk_neqc (k := 0) (by decide +kernel) c_301
                    have jbc_301 : 1 ≤ (x_298).toInt := by omega
                    clear jc_301
                    have qw_299_1 : g_s (T_kd tb tn) (T_vl tb tn) 43 (t_ix tb tn (sa : Int32).toNatClampNeg) = true := (TKM.iss (TKM.keep TK m_2 (dk_dq rfl) (dk_dq rfl) (dk_dq rfl) (dk_dq rfl) (dk_dq rfl) (dk_dq rfl) (dk_dq rfl) (dk_dq rfl)) ((m_2.1 0 3 _ sM_0 (dk_dq rfl)).trans f_sg) ((m_2.1 0 4 _ sM_0 (dk_dq rfl)).trans f_sa) ((m_2.1 0 6 _ sM_0 (dk_dq rfl)).trans f_va) hk5.out (c := 43) (by have h9 := w_299_1; rw [show (43 : Int32).toInt = 43 from by decide +kernel] at h9; exact h9)).mp (by omega)
                    have w_299_1_r := w_299_1.mp (by omega)
                    obtain ⟨w_299_1_r1, w_299_1_r2⟩ := w_299_1_r
                    clear rel_1
                    clear w_299_1
                    refine lv_iconst (v := 5) hx hb dX12_goesOn_106 (by decide +kernel) ?_
                    refine lv_goto (tgt := 112) hx hb dX12_goesOn_107 (dk_dq rfl) ?_
                    have hz_302 : (5 : Int32).toInt = 5 := by decide +kernel
                    refine dg_callv hS hA1 hA (va_runV (As := [.int 5]) (rest := []) F (c_m_joins l g D o S_2 5 (by decide +kernel) S0 cd ((m_2.1 0 34 _ sM_0 (dk_dq rfl)).trans f_cd) (by omega) om ((m_2.1 0 45 _ sM_0 (dk_dq rfl)).trans f_om) (by omega) (by omega) (ZWM.keep ZW m_2 (dk_dq rfl) (dk_dq rfl) (dk_dq rfl) (dk_dq rfl)) (ZKM.keep ZK m_2 (dk_dq rfl) (dk_dq rfl)) (P1M.keep P1 m_2 (dk_dq rfl) (dk_dq rfl) (dk_dq rfl) (dk_dq rfl) (dk_dq rfl) (dk_dq rfl) (dk_dq rfl) (dk_dq rfl) (dk_dq rfl) (dk_dq rfl) (dk_dq rfl) (dk_dq rfl) (dk_dq rfl) (dk_dq rfl) (dk_dq rfl)) (G8M.keep G8 m_2 (dk_dq rfl) (dk_dq rfl) (dk_dq rfl)) I_2 H.size) (cwV 1 hts (bw_V wB_437 wB_438 wB_439 wB_297 wB_436) rfl rfl rfl (by decide +kernel) ⟨Nat.le_of_ble_eq_true rfl, Nat.le_of_ble_eq_true rfl⟩) (dg_preV sM_0 rfl K ST hP hS hA1 hA) rfl rfl hl.1 rfl (lv_room (Nat.le_of_ble_eq_true rfl)) dX12_goesOn_112 ⟨Nat.le_of_ble_eq_true rfl, Nat.le_of_ble_eq_true rfl⟩) (fun S_303 hw_303 H locs hP hS => ?_)
                    obtain ⟨I_303, m_303, w_303_0, w_303_1, w_303_2, w_303_3, w_303_4, w_303_5, w_303_6, -⟩ := hw_303
                    have M_303 := dg_sm.tr M_2 m_303 (dk_dq rfl) (dk_dq rfl)
                    have hz_304 : (5 : Int32).toInt = 5 := by decide +kernel
                    obtain ⟨y_305, y_306, f_y_305, f_y_306, w_303_0⟩ := w_303_0
                    have w_303_0 : (y_305).toInt + (y_306).toInt = (cd).toInt + (om).toInt := w_303_0
                    have b_y_305 : 0 ≤ (y_305).toInt ∧ (y_305).toInt ≤ 1600 := dg_I.intb (lo := 0) (hi := 1600) I_303 sM_0 (by decide +kernel) f_y_305
                    have b_y_306 : 0 ≤ (y_306).toInt ∧ (y_306).toInt ≤ 500 := dg_I.intb (lo := 0) (hi := 500) I_303 sM_0 (by decide +kernel) f_y_306
                    replace w_303_1 : TOPM S_303 (5 : Int32) := w_303_1
                    obtain ⟨x_307, f_x_307, b_x_307⟩ := dg_I.int (i := 0) (k := 43) (lo := (-2147483648)) (hi := 2147483647) I_303 sM_0 (by decide +kernel)
                    replace w_303_2 : JNM S_2 S_303 (5 : Int32) := w_303_2
                    have TF_303 : TFM (x_7).toInt (x_11).toInt bg0 nt0 R0 (on).toNatClampNeg S_303 := (TFM.join TF0 (P1M.keep P1 m_2 (dk_dq rfl) (dk_dq rfl) (dk_dq rfl) (dk_dq rfl) (dk_dq rfl) (dk_dq rfl) (dk_dq rfl) (dk_dq rfl) (dk_dq rfl) (dk_dq rfl) (dk_dq rfl) (dk_dq rfl) (dk_dq rfl) (dk_dq rfl) (dk_dq rfl)) ((m_2.1 0 42 _ sM_0 (dk_dq rfl)).trans f_dp) ((m_2.1 0 43 _ sM_0 (dk_dq rfl)).trans f_on) ((m_2.1 0 45 _ sM_0 (dk_dq rfl)).trans f_om) w_303_2 w_303_1 m_303 (dk_dq rfl) (dk_dq rfl) (dk_dq rfl) (dk_dq rfl) (dk_dq rfl) (dk_dq rfl)).1 (by decide +kernel)
                    replace w_303_3 : JXM S_2 S_303 := w_303_3
                    have XJ_303 := XFM.join XF0 TF0 ((m_2.1 0 42 _ sM_0 (dk_dq rfl)).trans f_dp) ((m_2.1 0 43 _ sM_0 (dk_dq rfl)).trans f_on) ((m_2.1 0 45 _ sM_0 (dk_dq rfl)).trans f_om) w_303_2 w_303_3 w_303_1 m_303 (dk_dq rfl) (dk_dq rfl) (dk_dq rfl) (dk_dq rfl)
                    rw [show (5 : Int32).toInt = 5 from by decide +kernel] at XJ_303
                    have XF_303 : XFM (n_lo 5 l0) p0 X0 S_303 := XJ_303.1
                    have qa_303 : q_am S S_303 ((n_hi 5 l0).map d_st) := (q_am.fs XJ_303.2 (m_2.1 0 34 _ sM_0 (dk_dq rfl)) (m_2.1 0 35 _ sM_0 (dk_dq rfl)) (m_2.2 18 _ sM_18 (dk_dq rfl)).1 (m_2.2 19 _ sM_19 (dk_dq rfl)).1)
                    have hso_303 : g_so (T_kd tb tn) (T_vl tb tn) (t_ix tb tn (sa : Int32).toNatClampNeg) = true := g_so_t1 qw_299_1
                    have hdm_307 := PSM.dims w_303_5 (((m_303.1 0 42 _ sM_0 (dk_dq rfl)).trans (m_2.1 0 42 _ sM_0 (dk_dq rfl))).trans f_dp) f_x_307 f_y_306
                    refine lv_aload_n hx hb dX12_goesOn_115 rfl (lv_at hl 3 rfl) ?_
                    refine lv_aload_n hx hb dX12_goesOn_116 rfl (lv_at hl 3 rfl) ?_
                    refine lv_bipush (v := 43) hx hb dX12_goesOn_117 (by decide +kernel) ?_
                    refine dg_calli hS hA1 hA (va_runV (As := [.int 43]) (rest := [.ref (o + 0)]) F (c_m_isSign l g D o S_303 43 sg (((m_303.1 0 3 _ sM_0 (dk_dq rfl)).trans (m_2.1 0 3 _ sM_0 (dk_dq rfl))).trans f_sg) (by omega) va (((m_303.1 0 6 _ sM_0 (dk_dq rfl)).trans (m_2.1 0 6 _ sM_0 (dk_dq rfl))).trans f_va) (by omega) I_303 H.size) (cwV 1 hts (bw_V wB_314 wB_315 wB_316 wB_297 wB_313) rfl rfl rfl (by decide +kernel) ⟨Nat.le_of_ble_eq_true rfl, Nat.le_of_ble_eq_true rfl⟩) (dg_preV sM_0 rfl K ST hP hS hA1 hA) rfl rfl hl.1 rfl (lv_room (Nat.le_of_ble_eq_true rfl)) dX12_goesOn_119 ⟨Nat.le_of_ble_eq_true rfl, Nat.le_of_ble_eq_true rfl⟩) (fun x_309 S_310 hw_310 H locs hP hS => ?_)
                    rw [hw_310.1] at hP
                    obtain ⟨hq_310, w_310_0, w_310_1, -⟩ := hw_310
                    have hz_311 : (43 : Int32).toInt = 43 := by decide +kernel
                    have w_310_0 : 0 ≤ (x_309).toInt ∧ (x_309).toInt ≤ 1 := w_310_0
                    have w_310_1 : (x_309).toInt = 1 ↔ ((sg).toInt = 3 ∧ (va).toInt = ((43 : Int32)).toInt) := w_310_1
                    have J_335 : ∀ (H : Heap) (locs : List Loc), va_P D vwCl (dg_w g shM o rfM S_303) H → va_S A s.heap H locs → ∀ ls : Array Slot, lv_has ls 5 [(3, .int x_8), (2, .int x_7), (1, .int x_5), (0, .ref (o + 0))] → W p l e ({ frames := 3, cells := 0, slots := 0, locals := 77 } : Room) s m args below meth c H locs 0 0 Q9 (F0 m 174 ls [.int 31, .ref (o + 0)]) := by
                      as_aux_lemma =>
                        intro H locs hP hS ls hl
                        clear w_310_1
                        have hsg174 : m_hid ((31 : Int) = n_sg (T_kd tb tn) (T_vl tb tn) (t_ix tb tn (sa : Int32).toNatClampNeg)) := m_hid.mk (by rw [n_sg_1 qw_299_1])
                        refine dg_callv hS hA1 hA (va_runV (As := [.int 31]) (rest := []) F (c_m_holdsBack l g D o S_303 31 y_306 f_y_306 (by omega) I_303 H.size) (cwV 1 hts (bw_V wB_427 wB_428 wB_429 wB_297 wB_426) rfl rfl rfl (by decide +kernel) ⟨Nat.le_of_ble_eq_true rfl, Nat.le_of_ble_eq_true rfl⟩) (dg_preV sM_0 rfl K ST hP hS hA1 hA) rfl rfl hl.1 rfl (lv_room (Nat.le_of_ble_eq_true rfl)) dX12_goesOn_174 ⟨Nat.le_of_ble_eq_true rfl, Nat.le_of_ble_eq_true rfl⟩) (fun S_336 hw_336 H locs hP hS => ?_)
                        obtain ⟨I_336, m_336, w_336_0, w_336_1, -⟩ := hw_336
                        have M_336 := dg_sm.tr M_303 m_336 (dk_dq rfl) (dk_dq rfl)
                        have hz_337 : (31 : Int32).toInt = 31 := by decide +kernel
                        obtain ⟨y_338, f_y_338, w_336_0⟩ := w_336_0
                        have w_336_0 : (y_338).toInt = (y_306).toInt + 1 := w_336_0
                        have b_y_338 : 0 ≤ (y_338).toInt ∧ (y_338).toInt ≤ 500 := dg_I.intb (lo := 0) (hi := 500) I_336 sM_0 (by decide +kernel) f_y_338
                        replace w_336_1 : HBM S_303 S_336 (31 : Int32) := w_336_1
                        have hz_339 : (31 : Int32).toInt = 31 := by decide +kernel
                        have XF_336 : XFM (31 :: (n_lo 5 l0)) p0 X0 S_336 := (by have h9 := XFM.hb XF_303 TF_303 (((m_303.1 0 42 _ sM_0 (dk_dq rfl)).trans (m_2.1 0 42 _ sM_0 (dk_dq rfl))).trans f_dp) f_x_307 f_y_306 (by omega) m_336 w_336_1; rw [show (31 : Int32).toInt = 31 from by decide +kernel] at h9; exact h9)
                        have P0_336 : P0M S_336 := P1M.bin w_303_5 (((m_303.1 0 42 _ sM_0 (dk_dq rfl)).trans (m_2.1 0 42 _ sM_0 (dk_dq rfl))).trans f_dp) f_x_307 f_y_306 w_303_1 m_336 w_336_1 (by omega)
                        have hz_340 : (31 : Int32).toInt = 31 := by decide +kernel
                        have TF_336 : TFM (x_7).toInt (x_11).toInt bg0 nt0 R0 (on).toNatClampNeg S_336 := (by have h9 := TFM.hb TF_303 (((m_303.1 0 42 _ sM_0 (dk_dq rfl)).trans (m_2.1 0 42 _ sM_0 (dk_dq rfl))).trans f_dp) f_x_307 f_y_306 (by omega) m_336 w_336_1; rw [if_neg (by omega)] at h9; exact h9)
                        refine lv_aload_n hx hb dX12_goesOn_177 rfl (lv_at hl 3 rfl) ?_
                        refine dg_callv hS hA1 hA (va_runV (As := []) (rest := []) F (c_m_ahead l g D o S_336 tb tn se (((m_336.1 0 5 _ sM_0 (dk_dq rfl)).trans ((m_303.1 0 5 _ sM_0 (dk_dq rfl)).trans (m_2.1 0 5 _ sM_0 (dk_dq rfl)))).trans f_se) (by omega) sl (((m_336.1 0 2 _ sM_0 (dk_dq rfl)).trans ((m_303.1 0 2 _ sM_0 (dk_dq rfl)).trans (m_2.1 0 2 _ sM_0 (dk_dq rfl)))).trans f_sl) (by omega) (by omega) (TKM.keep (TKM.keep (TKM.keep TK m_2 (dk_dq rfl) (dk_dq rfl) (dk_dq rfl) (dk_dq rfl) (dk_dq rfl) (dk_dq rfl) (dk_dq rfl) (dk_dq rfl)) m_303 (dk_dq rfl) (dk_dq rfl) (dk_dq rfl) (dk_dq rfl) (dk_dq rfl) (dk_dq rfl) (dk_dq rfl) (dk_dq rfl)) m_336 (dk_dq rfl) (dk_dq rfl) (dk_dq rfl) (dk_dq rfl) (dk_dq rfl) (dk_dq rfl) (dk_dq rfl) (dk_dq rfl)).1 I_336 H.size) (cwV 0 hts (bw_V wB_318 wB_319 wB_320 wB_297 wB_317) rfl rfl rfl (by decide +kernel) ⟨Nat.le_of_ble_eq_true rfl, Nat.le_of_ble_eq_true rfl⟩) (dg_preV sM_0 rfl K ST hP hS hA1 hA) rfl rfl hl.1 rfl (lv_room (Nat.le_of_ble_eq_true rfl)) dX12_goesOn_178 ⟨Nat.le_of_ble_eq_true rfl, Nat.le_of_ble_eq_true rfl⟩) (fun S_341 hw_341 H locs hP hS => ?_)
                        obtain ⟨I_341, m_341, w_341_0, w_341_1, -⟩ := hw_341
                        have M_341 := dg_sm.tr M_336 m_341 (dk_dq rfl) (dk_dq rfl)
                        obtain ⟨y_342, y_343, y_344, f_y_342, f_y_343, f_y_344, w_341_0⟩ := w_341_0
                        have w_341_0 : (se).toInt ≤ (y_343).toInt ∧ (y_343).toInt ≤ (y_344).toInt ∧ (y_344).toInt ≤ (sl).toInt ∧ ((y_342).toInt ≠ 0 → (y_343).toInt + 1 ≤ (y_344).toInt) := w_341_0
                        obtain ⟨w_341_0_0, w_341_0_1, w_341_0_2, w_341_0_3⟩ := w_341_0
                        have lxh_w_341_0_3 : m_hid ((y_343).toInt ≤ (y_344).toInt ∧ (y_344).toInt ≤ (sl).toInt ∧ ((y_342).toInt ≠ 0 → (y_343).toInt + 1 ≤ (y_344).toInt)) := m_hid.mk ⟨w_341_0_1, w_341_0_2, w_341_0_3⟩
                        have b_y_342 : 0 ≤ (y_342).toInt ∧ (y_342).toInt ≤ 3 := dg_I.intb (lo := 0) (hi := 3) I_341 sM_0 (by decide +kernel) f_y_342
                        have b_y_343 : 0 ≤ (y_343).toInt ∧ (y_343).toInt ≤ 1600 := dg_I.intb (lo := 0) (hi := 1600) I_341 sM_0 (by decide +kernel) f_y_343
                        have b_y_344 : 0 ≤ (y_344).toInt ∧ (y_344).toInt ≤ 1600 := dg_I.intb (lo := 0) (hi := 1600) I_341 sM_0 (by decide +kernel) f_y_344
                        replace w_341_1 : TNX tb tn se S_341 := w_341_1
                        obtain ⟨TK_341, nx_341, -⟩ := TKM.nx (TKM.keep (TKM.keep (TKM.keep TK m_2 (dk_dq rfl) (dk_dq rfl) (dk_dq rfl) (dk_dq rfl) (dk_dq rfl) (dk_dq rfl) (dk_dq rfl) (dk_dq rfl)) m_303 (dk_dq rfl) (dk_dq rfl) (dk_dq rfl) (dk_dq rfl) (dk_dq rfl) (dk_dq rfl) (dk_dq rfl) (dk_dq rfl)) m_336 (dk_dq rfl) (dk_dq rfl) (dk_dq rfl) (dk_dq rfl) (dk_dq rfl) (dk_dq rfl) (dk_dq rfl) (dk_dq rfl)) (((m_336.1 0 4 _ sM_0 (dk_dq rfl)).trans ((m_303.1 0 4 _ sM_0 (dk_dq rfl)).trans (m_2.1 0 4 _ sM_0 (dk_dq rfl)))).trans f_sa) (((m_336.1 0 5 _ sM_0 (dk_dq rfl)).trans ((m_303.1 0 5 _ sM_0 (dk_dq rfl)).trans (m_2.1 0 5 _ sM_0 (dk_dq rfl)))).trans f_se) w_341_1 m_341 (dk_dq rfl) (dk_dq rfl) f_y_343
                        replace nx_341 := nx_341 (fun q9 => absurd ((TKM.zero (TKM.keep (TKM.keep (TKM.keep TK m_2 (dk_dq rfl) (dk_dq rfl) (dk_dq rfl) (dk_dq rfl) (dk_dq rfl) (dk_dq rfl) (dk_dq rfl) (dk_dq rfl)) m_303 (dk_dq rfl) (dk_dq rfl) (dk_dq rfl) (dk_dq rfl) (dk_dq rfl) (dk_dq rfl) (dk_dq rfl) (dk_dq rfl)) m_336 (dk_dq rfl) (dk_dq rfl) (dk_dq rfl) (dk_dq rfl) (dk_dq rfl) (dk_dq rfl) (dk_dq rfl) (dk_dq rfl)) (((m_336.1 0 3 _ sM_0 (dk_dq rfl)).trans ((m_303.1 0 3 _ sM_0 (dk_dq rfl)).trans (m_2.1 0 3 _ sM_0 (dk_dq rfl)))).trans f_sg) (((m_336.1 0 4 _ sM_0 (dk_dq rfl)).trans ((m_303.1 0 4 _ sM_0 (dk_dq rfl)).trans (m_2.1 0 4 _ sM_0 (dk_dq rfl)))).trans f_sa)).mpr q9) (by omega))
                        refine lv_aload_n hx hb dX12_goesOn_181 rfl (lv_at hl 3 rfl) ?_
                        refine lv_iconst (v := 0) hx hb dX12_goesOn_182 (by decide +kernel) ?_
                        have hz_345 : (0 : Int32).toInt = 0 := by decide +kernel
                        refine dg_put (ci := 12) (v := .int 0) (ty := tyX12 46) (C := RX12) (T := TX12) (N := 77) hx hb hts (fun w h => bw_mem (wU_X12 w h)) tyX12 tyX12_ok nmX12 hown K hP hS hA1 sM_0 rfl 46 (dk_dq rfl) (hts _ (bw_mem wB_440)) (fun _ h9 => h9) rfl (by decide +kernel) (by decide +kernel) (by decide +kernel) dX12_goesOn_183 (fun S_346 e_346 H locs hP hS => ?_)
                        have I_346 := dg_I.uFi (lo := 0) (hi := 1) I_341 e_346 sM_0 (by decide +kernel) (show 0 ≤ ((0 : Int32)).toInt ∧ ((0 : Int32)).toInt ≤ 1 from (by decide +kernel))
                        have M_346 := dg_sm.uF M_341 e_346 sM_0 (dk_dq rfl)
                        refine lv_iconst (v := 1) hx hb dX12_goesOn_186 (by decide +kernel) ?_
                        have hz_347 : (1 : Int32).toInt = 1 := by decide +kernel
                        have hz_348 : (1 : Int32).toInt = 1 := by decide +kernel
                        have hz_349 : (0 : Int32).toInt = 0 := by decide +kernel
                        have hz_350 : (1 : Int32).toInt = 1 := by decide +kernel
                        have hz_351 : (0 : Int32).toInt = 0 := by decide +kernel
                        have hz_352 : (1 : Int32).toInt = 1 := by decide +kernel
                        have hz_353 : (1 : Int32).toInt = 1 := by decide +kernel
                        have hz_354 : (0 : Int32).toInt = 0 := by decide +kernel
                        have hz_355 : (1 : Int32).toInt = 1 := by decide +kernel
                        have hz_356 : (1 : Int32).toInt = 1 := by decide +kernel
                        have hz_357 : (0 : Int32).toInt = 0 := by decide +kernel
                        refine W.widen (k := 0) (n := 0) (Nat.le_of_ble_eq_true rfl) (Nat.le_of_ble_eq_true rfl) ?_
                        rw [hQ9]
                        exact dg_iret hx hb hr hlocks (by decide +kernel) hP hS ⟨I_346, M_346, (by decide +kernel), ⟨y_342, y_343, y_344, y_3, y_305, dp, y_338, 0, ((dg_uF_ne e_346 (fun z => absurd z.2 (dk_dq rfl))).trans f_y_342), ((dg_uF_ne e_346 (fun z => absurd z.2 (dk_dq rfl))).trans f_y_343), ((dg_uF_ne e_346 (fun z => absurd z.2 (dk_dq rfl))).trans f_y_344), (((dg_uF_ne e_346 (fun z => absurd z.2 (dk_dq rfl))).trans ((m_341.1 0 8 _ sM_0 (dk_dq rfl)).trans ((m_336.1 0 8 _ sM_0 (dk_dq rfl)).trans (m_303.1 0 8 _ sM_0 (dk_dq rfl))))).trans f_y_3), (((dg_uF_ne e_346 (fun z => absurd z.2 (dk_dq rfl))).trans ((m_341.1 0 34 _ sM_0 (dk_dq rfl)).trans (m_336.1 0 34 _ sM_0 (dk_dq rfl)))).trans f_y_305), (((dg_uF_ne e_346 (fun z => absurd z.2 (dk_dq rfl))).trans ((m_341.1 0 42 _ sM_0 (dk_dq rfl)).trans ((m_336.1 0 42 _ sM_0 (dk_dq rfl)).trans ((m_303.1 0 42 _ sM_0 (dk_dq rfl)).trans (m_2.1 0 42 _ sM_0 (dk_dq rfl)))))).trans f_dp), (((dg_uF_ne e_346 (fun z => absurd z.2 (dk_dq rfl))).trans (m_341.1 0 45 _ sM_0 (dk_dq rfl))).trans f_y_338), (dg_uF_at e_346), ⟨lxh_w_341_0_3.out, (by omega)⟩⟩, (fun k9 hk9 hk0 => POM.mk0 (P0M.keep (P0M.keep P0_336 m_341 (dk_dq rfl) (dk_dq rfl) (dk_dq rfl) (dk_dq rfl) (dk_dq rfl) (dk_dq rfl) (dk_dq rfl) (dk_dq rfl) (dk_dq rfl) (dk_dq rfl) (dk_dq rfl) (dk_dq rfl) (dk_dq rfl) (dk_dq rfl) (dk_dq rfl)) (dg_sm.uF (WF := [(0, 46)]) (WA := []) dg_sm.rf e_346 sM_0 (dk_dq rfl)) (dk_dq rfl) (dk_dq rfl) (dk_dq rfl) (dk_dq rfl) (dk_dq rfl) (dk_dq rfl) (dk_dq rfl) (dk_dq rfl) (dk_dq rfl) (dk_dq rfl) (dk_dq rfl) (dk_dq rfl) (dk_dq rfl) (dk_dq rfl) (dk_dq rfl)) (dg_uF_at e_346) (by omega)), (GOK.ok f_sa (((dg_uF_ne e_346 (fun z => absurd z.2 (dk_dq rfl))).trans ((m_341.1 0 8 _ sM_0 (dk_dq rfl)).trans ((m_336.1 0 8 _ sM_0 (dk_dq rfl)).trans (m_303.1 0 8 _ sM_0 (dk_dq rfl))))).trans f_y_3) ((dg_uF_ne e_346 (fun z => absurd z.2 (dk_dq rfl))).trans f_y_343) (dg_uF_at e_346) (by omega) hM0 (TFM.keep (TFM.keep TF_336 m_341 (dk_dq rfl) (dk_dq rfl) (dk_dq rfl) (dk_dq rfl) (dk_dq rfl) (dk_dq rfl) (dk_dq rfl) (dk_dq rfl)) (dg_sm.uF (WF := [(0, 46)]) (WA := []) dg_sm.rf e_346 sM_0 (dk_dq rfl)) (dk_dq rfl) (dk_dq rfl) (dk_dq rfl) (dk_dq rfl) (dk_dq rfl) (dk_dq rfl) (dk_dq rfl) (dk_dq rfl)) (m_st_t.trans (m_go_op (by omega) hop.out)) (by omega) (by decide +kernel) (by first | decide +kernel | exact decide_eq_true (by omega))), (GON.ok f_sa ((dg_uF_ne e_346 (fun z => absurd z.2 (dk_dq rfl))).trans f_y_343) (dg_uF_at e_346) hN0 (TFM.keep (TFM.keep TF_336 m_341 (dk_dq rfl) (dk_dq rfl) (dk_dq rfl) (dk_dq rfl) (dk_dq rfl) (dk_dq rfl) (dk_dq rfl) (dk_dq rfl)) (dg_sm.uF (WF := [(0, 46)]) (WA := []) dg_sm.rf e_346 sM_0 (dk_dq rfl)) (dk_dq rfl) (dk_dq rfl) (dk_dq rfl) (dk_dq rfl) (dk_dq rfl) (dk_dq rfl) (dk_dq rfl) (dk_dq rfl)) (XFM.keep (XFM.keep XF_336 m_341 (dk_dq rfl) (dk_dq rfl) (dk_dq rfl) (dk_dq rfl) (dk_dq rfl)) (dg_sm.uF (WF := [(0, 46)]) (WA := []) dg_sm.rf e_346 sM_0 (dk_dq rfl)) (dk_dq rfl) (dk_dq rfl) (dk_dq rfl) (dk_dq rfl) (dk_dq rfl)) (q_am.mv qa_303 ((dg_uF_ne e_346 (fun z => absurd z.2 (dk_dq rfl))).trans ((m_341.1 0 34 _ sM_0 (dk_dq rfl)).trans (m_336.1 0 34 _ sM_0 (dk_dq rfl)))) ((dg_uF_ne e_346 (fun z => absurd z.2 (dk_dq rfl))).trans ((m_341.1 0 35 _ sM_0 (dk_dq rfl)).trans (m_336.1 0 35 _ sM_0 (dk_dq rfl)))) ((dg_uF_f e_346 18).trans ((m_341.2 18 _ sM_18 (dk_dq rfl)).1.trans (m_336.2 18 _ sM_18 (dk_dq rfl)).1)) ((dg_uF_f e_346 19).trans ((m_341.2 19 _ sM_19 (dk_dq rfl)).1.trans (m_336.2 19 _ sM_19 (dk_dq rfl)).1))) (fun out => by rw [hsg174.out]; exact n_go_so (by omega) hso_303) (by omega) (by decide +kernel) (by first | decide +kernel | exact decide_eq_true (by omega))), (TKM.keep TK_341 (dg_sm.uF (WF := [(0, 46)]) (WA := []) dg_sm.rf e_346 sM_0 (dk_dq rfl)) (dk_dq rfl) (dk_dq rfl) (dk_dq rfl) (dk_dq rfl) (dk_dq rfl) (dk_dq rfl) (dk_dq rfl) (dk_dq rfl)), (ZWM.keep (ZWM.keep (ZWM.keep w_303_4 m_336 (dk_dq rfl) (dk_dq rfl) (dk_dq rfl) (dk_dq rfl)) m_341 (dk_dq rfl) (dk_dq rfl) (dk_dq rfl) (dk_dq rfl)) (dg_sm.uF (WF := [(0, 46)]) (WA := []) dg_sm.rf e_346 sM_0 (dk_dq rfl)) (dk_dq rfl) (dk_dq rfl) (dk_dq rfl) (dk_dq rfl)), (G8M.keep (G8M.keep (G8M.keep w_303_6 m_336 (dk_dq rfl) (dk_dq rfl) (dk_dq rfl)) m_341 (dk_dq rfl) (dk_dq rfl) (dk_dq rfl)) (dg_sm.uF (WF := [(0, 46)]) (WA := []) dg_sm.rf e_346 sM_0 (dk_dq rfl)) (dk_dq rfl) (dk_dq rfl) (dk_dq rfl)), trivial⟩ dX12_goesOn_187
                    as_aux_lemma =>
                      refine lv_if_eq (tgt := 130) hx hb dX12_goesOn_122 (dk_dq rfl) (fun c_358 => ?_) (fun c_358 => ?_)
                      · have jc_358 := dk_eqc (k := 0) (by decide +kernel) c_358
                        have qw_310_1 : g_s (T_kd tb tn) (T_vl tb tn) 43 (t_ix tb tn (sa : Int32).toNatClampNeg) = false := g_iff_f (TKM.iss (TKM.keep (TKM.keep TK m_2 (dk_dq rfl) (dk_dq rfl) (dk_dq rfl) (dk_dq rfl) (dk_dq rfl) (dk_dq rfl) (dk_dq rfl) (dk_dq rfl)) m_303 (dk_dq rfl) (dk_dq rfl) (dk_dq rfl) (dk_dq rfl) (dk_dq rfl) (dk_dq rfl) (dk_dq rfl) (dk_dq rfl)) (((m_303.1 0 3 _ sM_0 (dk_dq rfl)).trans (m_2.1 0 3 _ sM_0 (dk_dq rfl))).trans f_sg) (((m_303.1 0 4 _ sM_0 (dk_dq rfl)).trans (m_2.1 0 4 _ sM_0 (dk_dq rfl))).trans f_sa) (((m_303.1 0 6 _ sM_0 (dk_dq rfl)).trans (m_2.1 0 6 _ sM_0 (dk_dq rfl))).trans f_va) hk5.out (c := 43) (by have h9 := w_310_1; rw [show (43 : Int32).toInt = 43 from by decide +kernel] at h9; exact h9)) (by omega)
                        have w_310_1_r : (va).toInt ≠ 43 := fun q9 => absurd (w_310_1.mpr ⟨by omega, by omega⟩) (by omega)
                        clear w_310_1
                        omega
                      · have jc_358 := dk_neqc (k := 0) (by decide +kernel) c_358
                        have jbc_358 : 1 ≤ (x_309).toInt := by omega
                        clear jc_358
                        have qw_310_1 : g_s (T_kd tb tn) (T_vl tb tn) 43 (t_ix tb tn (sa : Int32).toNatClampNeg) = true := (TKM.iss (TKM.keep (TKM.keep TK m_2 (dk_dq rfl) (dk_dq rfl) (dk_dq rfl) (dk_dq rfl) (dk_dq rfl) (dk_dq rfl) (dk_dq rfl) (dk_dq rfl)) m_303 (dk_dq rfl) (dk_dq rfl) (dk_dq rfl) (dk_dq rfl) (dk_dq rfl) (dk_dq rfl) (dk_dq rfl) (dk_dq rfl)) (((m_303.1 0 3 _ sM_0 (dk_dq rfl)).trans (m_2.1 0 3 _ sM_0 (dk_dq rfl))).trans f_sg) (((m_303.1 0 4 _ sM_0 (dk_dq rfl)).trans (m_2.1 0 4 _ sM_0 (dk_dq rfl))).trans f_sa) (((m_303.1 0 6 _ sM_0 (dk_dq rfl)).trans (m_2.1 0 6 _ sM_0 (dk_dq rfl))).trans f_va) hk5.out (c := 43) (by have h9 := w_310_1; rw [show (43 : Int32).toInt = 43 from by decide +kernel] at h9; exact h9)).mp (by omega)
                        have w_310_1_r := w_310_1.mp (by omega)
                        obtain ⟨w_310_1_r1, w_310_1_r2⟩ := w_310_1_r
                        clear w_310_1
                        refine lv_bipush (v := 31) hx hb dX12_goesOn_125 (by decide +kernel) ?_
                        refine lv_goto (tgt := 174) hx hb dX12_goesOn_127 (dk_dq rfl) ?_
                        exact J_335   _ _ hP hS _ (lv_sub hl [0, 1, 2, 3] rfl)
                · as_aux_lemma =>
                    have jc_301 := dk_eqc (k := 0) (by decide +kernel) c_301
                    have qw_299_1 : g_s (T_kd tb tn) (T_vl tb tn) 43 (t_ix tb tn (sa : Int32).toNatClampNeg) = false := g_iff_f (TKM.iss (TKM.keep TK m_2 (dk_dq rfl) (dk_dq rfl) (dk_dq rfl) (dk_dq rfl) (dk_dq rfl) (dk_dq rfl) (dk_dq rfl) (dk_dq rfl)) ((m_2.1 0 3 _ sM_0 (dk_dq rfl)).trans f_sg) ((m_2.1 0 4 _ sM_0 (dk_dq rfl)).trans f_sa) ((m_2.1 0 6 _ sM_0 (dk_dq rfl)).trans f_va) hk5.out (c := 43) (by have h9 := w_299_1; rw [show (43 : Int32).toInt = 43 from by decide +kernel] at h9; exact h9)) (by omega)
                    have w_299_1_r : (va).toInt ≠ 43 := fun q9 => absurd (w_299_1.mpr ⟨by omega, by omega⟩) (by omega)
                    clear w_299_1
                    refine lv_aload_n hx hb dX12_goesOn_97 rfl (lv_at hl 3 rfl) ?_
                    refine lv_bipush (v := 45) hx hb dX12_goesOn_98 (by decide +kernel) ?_
                    refine dg_calli hS hA1 hA (va_runV (As := [.int 45]) (rest := [.ref (o + 0)]) F (c_m_isSign l g D o S_2 45 sg ((m_2.1 0 3 _ sM_0 (dk_dq rfl)).trans f_sg) (by omega) va ((m_2.1 0 6 _ sM_0 (dk_dq rfl)).trans f_va) (by omega) I_2 H.size) (cwV 1 hts (bw_V wB_314 wB_315 wB_316 wB_297 wB_313) rfl rfl rfl (by decide +kernel) ⟨Nat.le_of_ble_eq_true rfl, Nat.le_of_ble_eq_true rfl⟩) (dg_preV sM_0 rfl K ST hP hS hA1 hA) rfl rfl hl.1 rfl (lv_room (Nat.le_of_ble_eq_true rfl)) dX12_goesOn_100 ⟨Nat.le_of_ble_eq_true rfl, Nat.le_of_ble_eq_true rfl⟩) (fun x_359 S_360 hw_360 H locs hP hS => ?_)
                    rw [hw_360.1] at hP
                    obtain ⟨hq_360, w_360_0, w_360_1, -⟩ := hw_360
                    have hz_361 : (45 : Int32).toInt = 45 := by decide +kernel
                    have w_360_0 : 0 ≤ (x_359).toInt ∧ (x_359).toInt ≤ 1 := w_360_0
                    have w_360_1 : (x_359).toInt = 1 ↔ ((sg).toInt = 3 ∧ (va).toInt = ((45 : Int32)).toInt) := w_360_1
                    refine lv_if_eq (tgt := 110) hx hb dX12_goesOn_103 (dk_dq rfl) (fun c_362 => ?_) (fun c_362 => ?_)
                    · as_aux_lemma =>
                        have jc_362 := dk_eqc (k := 0) (by decide +kernel) c_362
                        have qw_360_1 : g_s (T_kd tb tn) (T_vl tb tn) 45 (t_ix tb tn (sa : Int32).toNatClampNeg) = false := g_iff_f (TKM.iss (TKM.keep TK m_2 (dk_dq rfl) (dk_dq rfl) (dk_dq rfl) (dk_dq rfl) (dk_dq rfl) (dk_dq rfl) (dk_dq rfl) (dk_dq rfl)) ((m_2.1 0 3 _ sM_0 (dk_dq rfl)).trans f_sg) ((m_2.1 0 4 _ sM_0 (dk_dq rfl)).trans f_sa) ((m_2.1 0 6 _ sM_0 (dk_dq rfl)).trans f_va) hk5.out (c := 45) (by have h9 := w_360_1; rw [show (45 : Int32).toInt = 45 from by decide +kernel] at h9; exact h9)) (by omega)
                        have w_360_1_r : (va).toInt ≠ 45 := fun q9 => absurd (w_360_1.mpr ⟨by omega, by omega⟩) (by omega)
                        clear w_360_1
                        refine lv_bipush (v := 6) hx hb dX12_goesOn_110 (by decide +kernel) ?_
                        have hz_363 : (6 : Int32).toInt = 6 := by decide +kernel
                        refine dg_callv hS hA1 hA (va_runV (As := [.int 6]) (rest := []) F (c_m_joins l g D o S_2 6 (by decide +kernel) S0 cd ((m_2.1 0 34 _ sM_0 (dk_dq rfl)).trans f_cd) (by omega) om ((m_2.1 0 45 _ sM_0 (dk_dq rfl)).trans f_om) (by omega) (by omega) (ZWM.keep ZW m_2 (dk_dq rfl) (dk_dq rfl) (dk_dq rfl) (dk_dq rfl)) (ZKM.keep ZK m_2 (dk_dq rfl) (dk_dq rfl)) (P1M.keep P1 m_2 (dk_dq rfl) (dk_dq rfl) (dk_dq rfl) (dk_dq rfl) (dk_dq rfl) (dk_dq rfl) (dk_dq rfl) (dk_dq rfl) (dk_dq rfl) (dk_dq rfl) (dk_dq rfl) (dk_dq rfl) (dk_dq rfl) (dk_dq rfl) (dk_dq rfl)) (G8M.keep G8 m_2 (dk_dq rfl) (dk_dq rfl) (dk_dq rfl)) I_2 H.size) (cwV 1 hts (bw_V wB_437 wB_438 wB_439 wB_297 wB_436) rfl rfl rfl (by decide +kernel) ⟨Nat.le_of_ble_eq_true rfl, Nat.le_of_ble_eq_true rfl⟩) (dg_preV sM_0 rfl K ST hP hS hA1 hA) rfl rfl hl.1 rfl (lv_room (Nat.le_of_ble_eq_true rfl)) dX12_goesOn_112 ⟨Nat.le_of_ble_eq_true rfl, Nat.le_of_ble_eq_true rfl⟩) (fun S_364 hw_364 H locs hP hS => ?_)
                        obtain ⟨I_364, m_364, w_364_0, w_364_1, w_364_2, w_364_3, w_364_4, w_364_5, w_364_6, -⟩ := hw_364
                        have M_364 := dg_sm.tr M_2 m_364 (dk_dq rfl) (dk_dq rfl)
                        have hz_365 : (6 : Int32).toInt = 6 := by decide +kernel
                        obtain ⟨y_366, y_367, f_y_366, f_y_367, w_364_0⟩ := w_364_0
                        have w_364_0 : (y_366).toInt + (y_367).toInt = (cd).toInt + (om).toInt := w_364_0
                        have b_y_366 : 0 ≤ (y_366).toInt ∧ (y_366).toInt ≤ 1600 := dg_I.intb (lo := 0) (hi := 1600) I_364 sM_0 (by decide +kernel) f_y_366
                        have b_y_367 : 0 ≤ (y_367).toInt ∧ (y_367).toInt ≤ 500 := dg_I.intb (lo := 0) (hi := 500) I_364 sM_0 (by decide +kernel) f_y_367
                        replace w_364_1 : TOPM S_364 (6 : Int32) := w_364_1
                        obtain ⟨x_368, f_x_368, b_x_368⟩ := dg_I.int (i := 0) (k := 43) (lo := (-2147483648)) (hi := 2147483647) I_364 sM_0 (by decide +kernel)
                        replace w_364_2 : JNM S_2 S_364 (6 : Int32) := w_364_2
                        have TF_364 : TFM (x_7).toInt (x_11).toInt bg0 nt0 R0 (on).toNatClampNeg S_364 := (TFM.join TF0 (P1M.keep P1 m_2 (dk_dq rfl) (dk_dq rfl) (dk_dq rfl) (dk_dq rfl) (dk_dq rfl) (dk_dq rfl) (dk_dq rfl) (dk_dq rfl) (dk_dq rfl) (dk_dq rfl) (dk_dq rfl) (dk_dq rfl) (dk_dq rfl) (dk_dq rfl) (dk_dq rfl)) ((m_2.1 0 42 _ sM_0 (dk_dq rfl)).trans f_dp) ((m_2.1 0 43 _ sM_0 (dk_dq rfl)).trans f_on) ((m_2.1 0 45 _ sM_0 (dk_dq rfl)).trans f_om) w_364_2 w_364_1 m_364 (dk_dq rfl) (dk_dq rfl) (dk_dq rfl) (dk_dq rfl) (dk_dq rfl) (dk_dq rfl)).1 (by decide +kernel)
                        replace w_364_3 : JXM S_2 S_364 := w_364_3
                        have XJ_364 := XFM.join XF0 TF0 ((m_2.1 0 42 _ sM_0 (dk_dq rfl)).trans f_dp) ((m_2.1 0 43 _ sM_0 (dk_dq rfl)).trans f_on) ((m_2.1 0 45 _ sM_0 (dk_dq rfl)).trans f_om) w_364_2 w_364_3 w_364_1 m_364 (dk_dq rfl) (dk_dq rfl) (dk_dq rfl) (dk_dq rfl)
                        rw [show (6 : Int32).toInt = 6 from by decide +kernel] at XJ_364
                        have XF_364 : XFM (n_lo 6 l0) p0 X0 S_364 := XJ_364.1
                        have qa_364 : q_am S S_364 ((n_hi 6 l0).map d_st) := (q_am.fs XJ_364.2 (m_2.1 0 34 _ sM_0 (dk_dq rfl)) (m_2.1 0 35 _ sM_0 (dk_dq rfl)) (m_2.2 18 _ sM_18 (dk_dq rfl)).1 (m_2.2 19 _ sM_19 (dk_dq rfl)).1)
                        have hso_364 : g_po (T_kd tb tn) (T_vl tb tn) (t_ix tb tn (sa : Int32).toNatClampNeg) = true := g_po_t hop.out qw_299_1 qw_360_1
                        have hdm_368 := PSM.dims w_364_5 (((m_364.1 0 42 _ sM_0 (dk_dq rfl)).trans (m_2.1 0 42 _ sM_0 (dk_dq rfl))).trans f_dp) f_x_368 f_y_367
                        refine lv_aload_n hx hb dX12_goesOn_115 rfl (lv_at hl 3 rfl) ?_
                        refine lv_aload_n hx hb dX12_goesOn_116 rfl (lv_at hl 3 rfl) ?_
                        refine lv_bipush (v := 43) hx hb dX12_goesOn_117 (by decide +kernel) ?_
                        refine dg_calli hS hA1 hA (va_runV (As := [.int 43]) (rest := [.ref (o + 0)]) F (c_m_isSign l g D o S_364 43 sg (((m_364.1 0 3 _ sM_0 (dk_dq rfl)).trans (m_2.1 0 3 _ sM_0 (dk_dq rfl))).trans f_sg) (by omega) va (((m_364.1 0 6 _ sM_0 (dk_dq rfl)).trans (m_2.1 0 6 _ sM_0 (dk_dq rfl))).trans f_va) (by omega) I_364 H.size) (cwV 1 hts (bw_V wB_314 wB_315 wB_316 wB_297 wB_313) rfl rfl rfl (by decide +kernel) ⟨Nat.le_of_ble_eq_true rfl, Nat.le_of_ble_eq_true rfl⟩) (dg_preV sM_0 rfl K ST hP hS hA1 hA) rfl rfl hl.1 rfl (lv_room (Nat.le_of_ble_eq_true rfl)) dX12_goesOn_119 ⟨Nat.le_of_ble_eq_true rfl, Nat.le_of_ble_eq_true rfl⟩) (fun x_370 S_371 hw_371 H locs hP hS => ?_)
                        rw [hw_371.1] at hP
                        obtain ⟨hq_371, w_371_0, w_371_1, -⟩ := hw_371
                        have hz_372 : (43 : Int32).toInt = 43 := by decide +kernel
                        have w_371_0 : 0 ≤ (x_370).toInt ∧ (x_370).toInt ≤ 1 := w_371_0
                        have w_371_1 : (x_370).toInt = 1 ↔ ((sg).toInt = 3 ∧ (va).toInt = ((43 : Int32)).toInt) := w_371_1
                        have J_406 : ∀ (x_386 : Int32), (33 ≤ (x_386).toInt ∧ (x_386).toInt ≤ 35) → (33 ≤ (x_386 : Int32).toInt ∧ (x_386 : Int32).toInt ≤ 35) → (m_hid ((x_386 : Int32).toInt = n_sg (T_kd tb tn) (T_vl tb tn) (t_ix tb tn (sa : Int32).toNatClampNeg))) → ∀ (H : Heap) (locs : List Loc), va_P D vwCl (dg_w g shM o rfM S_364) H → va_S A s.heap H locs → ∀ ls : Array Slot, lv_has ls 5 [(3, .int x_8), (2, .int x_7), (1, .int x_5), (0, .ref (o + 0))] → W p l e ({ frames := 3, cells := 0, slots := 0, locals := 77 } : Room) s m args below meth c H locs 0 0 Q9 (F0 m 174 ls [.int x_386, .ref (o + 0)]) := by
                          as_aux_lemma =>
                            clear rel_1 w_299_1_r w_360_1_r
                            intro x_386 b_x_386 rel_0 rel_1 H locs hP hS ls hl
                            clear w_371_1
                            have hsg174 := rel_1
                            refine dg_callv hS hA1 hA (va_runV (As := [.int x_386]) (rest := []) F (c_m_holdsBack l g D o S_364 x_386 y_367 f_y_367 (by omega) I_364 H.size) (cwV 1 hts (bw_V wB_427 wB_428 wB_429 wB_297 wB_426) rfl rfl rfl (by decide +kernel) ⟨Nat.le_of_ble_eq_true rfl, Nat.le_of_ble_eq_true rfl⟩) (dg_preV sM_0 rfl K ST hP hS hA1 hA) rfl rfl hl.1 rfl (lv_room (Nat.le_of_ble_eq_true rfl)) dX12_goesOn_174 ⟨Nat.le_of_ble_eq_true rfl, Nat.le_of_ble_eq_true rfl⟩) (fun S_407 hw_407 H locs hP hS => ?_)
                            obtain ⟨I_407, m_407, w_407_0, w_407_1, -⟩ := hw_407
                            have M_407 := dg_sm.tr M_364 m_407 (dk_dq rfl) (dk_dq rfl)
                            obtain ⟨y_408, f_y_408, w_407_0⟩ := w_407_0
                            have w_407_0 : (y_408).toInt = (y_367).toInt + 1 := w_407_0
                            have b_y_408 : 0 ≤ (y_408).toInt ∧ (y_408).toInt ≤ 500 := dg_I.intb (lo := 0) (hi := 500) I_407 sM_0 (by decide +kernel) f_y_408
                            replace w_407_1 : HBM S_364 S_407 x_386 := w_407_1
                            have XF_407 : XFM ((x_386).toInt :: (n_lo 6 l0)) p0 X0 S_407 := XFM.hb XF_364 TF_364 (((m_364.1 0 42 _ sM_0 (dk_dq rfl)).trans (m_2.1 0 42 _ sM_0 (dk_dq rfl))).trans f_dp) f_x_368 f_y_367 (by omega) m_407 w_407_1
                            have P0_407 : P0M S_407 := P1M.bin w_364_5 (((m_364.1 0 42 _ sM_0 (dk_dq rfl)).trans (m_2.1 0 42 _ sM_0 (dk_dq rfl))).trans f_dp) f_x_368 f_y_367 w_364_1 m_407 w_407_1 (by omega)
                            have TF_407 : TFM (x_7).toInt (x_11).toInt bg0 nt0 R0 (on).toNatClampNeg S_407 := (by have h9 := TFM.hb TF_364 (((m_364.1 0 42 _ sM_0 (dk_dq rfl)).trans (m_2.1 0 42 _ sM_0 (dk_dq rfl))).trans f_dp) f_x_368 f_y_367 (by omega) m_407 w_407_1; rw [if_neg (by omega)] at h9; exact h9)
                            refine lv_aload_n hx hb dX12_goesOn_177 rfl (lv_at hl 3 rfl) ?_
                            refine dg_callv hS hA1 hA (va_runV (As := []) (rest := []) F (c_m_ahead l g D o S_407 tb tn se (((m_407.1 0 5 _ sM_0 (dk_dq rfl)).trans ((m_364.1 0 5 _ sM_0 (dk_dq rfl)).trans (m_2.1 0 5 _ sM_0 (dk_dq rfl)))).trans f_se) (by omega) sl (((m_407.1 0 2 _ sM_0 (dk_dq rfl)).trans ((m_364.1 0 2 _ sM_0 (dk_dq rfl)).trans (m_2.1 0 2 _ sM_0 (dk_dq rfl)))).trans f_sl) (by omega) (by omega) (TKM.keep (TKM.keep (TKM.keep TK m_2 (dk_dq rfl) (dk_dq rfl) (dk_dq rfl) (dk_dq rfl) (dk_dq rfl) (dk_dq rfl) (dk_dq rfl) (dk_dq rfl)) m_364 (dk_dq rfl) (dk_dq rfl) (dk_dq rfl) (dk_dq rfl) (dk_dq rfl) (dk_dq rfl) (dk_dq rfl) (dk_dq rfl)) m_407 (dk_dq rfl) (dk_dq rfl) (dk_dq rfl) (dk_dq rfl) (dk_dq rfl) (dk_dq rfl) (dk_dq rfl) (dk_dq rfl)).1 I_407 H.size) (cwV 0 hts (bw_V wB_318 wB_319 wB_320 wB_297 wB_317) rfl rfl rfl (by decide +kernel) ⟨Nat.le_of_ble_eq_true rfl, Nat.le_of_ble_eq_true rfl⟩) (dg_preV sM_0 rfl K ST hP hS hA1 hA) rfl rfl hl.1 rfl (lv_room (Nat.le_of_ble_eq_true rfl)) dX12_goesOn_178 ⟨Nat.le_of_ble_eq_true rfl, Nat.le_of_ble_eq_true rfl⟩) (fun S_409 hw_409 H locs hP hS => ?_)
                            obtain ⟨I_409, m_409, w_409_0, w_409_1, -⟩ := hw_409
                            have M_409 := dg_sm.tr M_407 m_409 (dk_dq rfl) (dk_dq rfl)
                            obtain ⟨y_410, y_411, y_412, f_y_410, f_y_411, f_y_412, w_409_0⟩ := w_409_0
                            have w_409_0 : (se).toInt ≤ (y_411).toInt ∧ (y_411).toInt ≤ (y_412).toInt ∧ (y_412).toInt ≤ (sl).toInt ∧ ((y_410).toInt ≠ 0 → (y_411).toInt + 1 ≤ (y_412).toInt) := w_409_0
                            obtain ⟨w_409_0_0, w_409_0_1, w_409_0_2, w_409_0_3⟩ := w_409_0
                            have lxh_w_409_0_3 : m_hid ((y_411).toInt ≤ (y_412).toInt ∧ (y_412).toInt ≤ (sl).toInt ∧ ((y_410).toInt ≠ 0 → (y_411).toInt + 1 ≤ (y_412).toInt)) := m_hid.mk ⟨w_409_0_1, w_409_0_2, w_409_0_3⟩
                            have b_y_410 : 0 ≤ (y_410).toInt ∧ (y_410).toInt ≤ 3 := dg_I.intb (lo := 0) (hi := 3) I_409 sM_0 (by decide +kernel) f_y_410
                            have b_y_411 : 0 ≤ (y_411).toInt ∧ (y_411).toInt ≤ 1600 := dg_I.intb (lo := 0) (hi := 1600) I_409 sM_0 (by decide +kernel) f_y_411
                            have b_y_412 : 0 ≤ (y_412).toInt ∧ (y_412).toInt ≤ 1600 := dg_I.intb (lo := 0) (hi := 1600) I_409 sM_0 (by decide +kernel) f_y_412
                            replace w_409_1 : TNX tb tn se S_409 := w_409_1
                            obtain ⟨TK_409, nx_409, -⟩ := TKM.nx (TKM.keep (TKM.keep (TKM.keep TK m_2 (dk_dq rfl) (dk_dq rfl) (dk_dq rfl) (dk_dq rfl) (dk_dq rfl) (dk_dq rfl) (dk_dq rfl) (dk_dq rfl)) m_364 (dk_dq rfl) (dk_dq rfl) (dk_dq rfl) (dk_dq rfl) (dk_dq rfl) (dk_dq rfl) (dk_dq rfl) (dk_dq rfl)) m_407 (dk_dq rfl) (dk_dq rfl) (dk_dq rfl) (dk_dq rfl) (dk_dq rfl) (dk_dq rfl) (dk_dq rfl) (dk_dq rfl)) (((m_407.1 0 4 _ sM_0 (dk_dq rfl)).trans ((m_364.1 0 4 _ sM_0 (dk_dq rfl)).trans (m_2.1 0 4 _ sM_0 (dk_dq rfl)))).trans f_sa) (((m_407.1 0 5 _ sM_0 (dk_dq rfl)).trans ((m_364.1 0 5 _ sM_0 (dk_dq rfl)).trans (m_2.1 0 5 _ sM_0 (dk_dq rfl)))).trans f_se) w_409_1 m_409 (dk_dq rfl) (dk_dq rfl) f_y_411
                            replace nx_409 := nx_409 (fun q9 => absurd ((TKM.zero (TKM.keep (TKM.keep (TKM.keep TK m_2 (dk_dq rfl) (dk_dq rfl) (dk_dq rfl) (dk_dq rfl) (dk_dq rfl) (dk_dq rfl) (dk_dq rfl) (dk_dq rfl)) m_364 (dk_dq rfl) (dk_dq rfl) (dk_dq rfl) (dk_dq rfl) (dk_dq rfl) (dk_dq rfl) (dk_dq rfl) (dk_dq rfl)) m_407 (dk_dq rfl) (dk_dq rfl) (dk_dq rfl) (dk_dq rfl) (dk_dq rfl) (dk_dq rfl) (dk_dq rfl) (dk_dq rfl)) (((m_407.1 0 3 _ sM_0 (dk_dq rfl)).trans ((m_364.1 0 3 _ sM_0 (dk_dq rfl)).trans (m_2.1 0 3 _ sM_0 (dk_dq rfl)))).trans f_sg) (((m_407.1 0 4 _ sM_0 (dk_dq rfl)).trans ((m_364.1 0 4 _ sM_0 (dk_dq rfl)).trans (m_2.1 0 4 _ sM_0 (dk_dq rfl)))).trans f_sa)).mpr q9) (by omega))
                            refine lv_aload_n hx hb dX12_goesOn_181 rfl (lv_at hl 3 rfl) ?_
                            refine lv_iconst (v := 0) hx hb dX12_goesOn_182 (by decide +kernel) ?_
                            have hz_413 : (0 : Int32).toInt = 0 := by decide +kernel
                            refine dg_put (ci := 12) (v := .int 0) (ty := tyX12 46) (C := RX12) (T := TX12) (N := 77) hx hb hts (fun w h => bw_mem (wU_X12 w h)) tyX12 tyX12_ok nmX12 hown K hP hS hA1 sM_0 rfl 46 (dk_dq rfl) (hts _ (bw_mem wB_440)) (fun _ h9 => h9) rfl (by decide +kernel) (by decide +kernel) (by decide +kernel) dX12_goesOn_183 (fun S_414 e_414 H locs hP hS => ?_)
                            have I_414 := dg_I.uFi (lo := 0) (hi := 1) I_409 e_414 sM_0 (by decide +kernel) (show 0 ≤ ((0 : Int32)).toInt ∧ ((0 : Int32)).toInt ≤ 1 from (by decide +kernel))
                            have M_414 := dg_sm.uF M_409 e_414 sM_0 (dk_dq rfl)
                            refine lv_iconst (v := 1) hx hb dX12_goesOn_186 (by decide +kernel) ?_
                            have hz_415 : (1 : Int32).toInt = 1 := by decide +kernel
                            have hz_416 : (1 : Int32).toInt = 1 := by decide +kernel
                            have hz_417 : (0 : Int32).toInt = 0 := by decide +kernel
                            have hz_418 : (1 : Int32).toInt = 1 := by decide +kernel
                            have hz_419 : (0 : Int32).toInt = 0 := by decide +kernel
                            have hz_420 : (1 : Int32).toInt = 1 := by decide +kernel
                            have hz_421 : (1 : Int32).toInt = 1 := by decide +kernel
                            have hz_422 : (0 : Int32).toInt = 0 := by decide +kernel
                            have hz_423 : (1 : Int32).toInt = 1 := by decide +kernel
                            have hz_424 : (1 : Int32).toInt = 1 := by decide +kernel
                            have hz_425 : (0 : Int32).toInt = 0 := by decide +kernel
                            refine W.widen (k := 0) (n := 0) (Nat.le_of_ble_eq_true rfl) (Nat.le_of_ble_eq_true rfl) ?_
                            rw [hQ9]
                            exact dg_iret hx hb hr hlocks (by decide +kernel) hP hS ⟨I_414, M_414, (by decide +kernel), ⟨y_410, y_411, y_412, y_3, y_366, dp, y_408, 0, ((dg_uF_ne e_414 (fun z => absurd z.2 (dk_dq rfl))).trans f_y_410), ((dg_uF_ne e_414 (fun z => absurd z.2 (dk_dq rfl))).trans f_y_411), ((dg_uF_ne e_414 (fun z => absurd z.2 (dk_dq rfl))).trans f_y_412), (((dg_uF_ne e_414 (fun z => absurd z.2 (dk_dq rfl))).trans ((m_409.1 0 8 _ sM_0 (dk_dq rfl)).trans ((m_407.1 0 8 _ sM_0 (dk_dq rfl)).trans (m_364.1 0 8 _ sM_0 (dk_dq rfl))))).trans f_y_3), (((dg_uF_ne e_414 (fun z => absurd z.2 (dk_dq rfl))).trans ((m_409.1 0 34 _ sM_0 (dk_dq rfl)).trans (m_407.1 0 34 _ sM_0 (dk_dq rfl)))).trans f_y_366), (((dg_uF_ne e_414 (fun z => absurd z.2 (dk_dq rfl))).trans ((m_409.1 0 42 _ sM_0 (dk_dq rfl)).trans ((m_407.1 0 42 _ sM_0 (dk_dq rfl)).trans ((m_364.1 0 42 _ sM_0 (dk_dq rfl)).trans (m_2.1 0 42 _ sM_0 (dk_dq rfl)))))).trans f_dp), (((dg_uF_ne e_414 (fun z => absurd z.2 (dk_dq rfl))).trans (m_409.1 0 45 _ sM_0 (dk_dq rfl))).trans f_y_408), (dg_uF_at e_414), ⟨lxh_w_409_0_3.out, (by omega)⟩⟩, (fun k9 hk9 hk0 => POM.mk0 (P0M.keep (P0M.keep P0_407 m_409 (dk_dq rfl) (dk_dq rfl) (dk_dq rfl) (dk_dq rfl) (dk_dq rfl) (dk_dq rfl) (dk_dq rfl) (dk_dq rfl) (dk_dq rfl) (dk_dq rfl) (dk_dq rfl) (dk_dq rfl) (dk_dq rfl) (dk_dq rfl) (dk_dq rfl)) (dg_sm.uF (WF := [(0, 46)]) (WA := []) dg_sm.rf e_414 sM_0 (dk_dq rfl)) (dk_dq rfl) (dk_dq rfl) (dk_dq rfl) (dk_dq rfl) (dk_dq rfl) (dk_dq rfl) (dk_dq rfl) (dk_dq rfl) (dk_dq rfl) (dk_dq rfl) (dk_dq rfl) (dk_dq rfl) (dk_dq rfl) (dk_dq rfl) (dk_dq rfl)) (dg_uF_at e_414) (by omega)), (GOK.ok f_sa (((dg_uF_ne e_414 (fun z => absurd z.2 (dk_dq rfl))).trans ((m_409.1 0 8 _ sM_0 (dk_dq rfl)).trans ((m_407.1 0 8 _ sM_0 (dk_dq rfl)).trans (m_364.1 0 8 _ sM_0 (dk_dq rfl))))).trans f_y_3) ((dg_uF_ne e_414 (fun z => absurd z.2 (dk_dq rfl))).trans f_y_411) (dg_uF_at e_414) (by omega) hM0 (TFM.keep (TFM.keep TF_407 m_409 (dk_dq rfl) (dk_dq rfl) (dk_dq rfl) (dk_dq rfl) (dk_dq rfl) (dk_dq rfl) (dk_dq rfl) (dk_dq rfl)) (dg_sm.uF (WF := [(0, 46)]) (WA := []) dg_sm.rf e_414 sM_0 (dk_dq rfl)) (dk_dq rfl) (dk_dq rfl) (dk_dq rfl) (dk_dq rfl) (dk_dq rfl) (dk_dq rfl) (dk_dq rfl) (dk_dq rfl)) (m_st_t.trans (m_go_op (by omega) hop.out)) (by omega) (by decide +kernel) (by first | decide +kernel | exact decide_eq_true (by omega))), (GON.ok f_sa ((dg_uF_ne e_414 (fun z => absurd z.2 (dk_dq rfl))).trans f_y_411) (dg_uF_at e_414) hN0 (TFM.keep (TFM.keep TF_407 m_409 (dk_dq rfl) (dk_dq rfl) (dk_dq rfl) (dk_dq rfl) (dk_dq rfl) (dk_dq rfl) (dk_dq rfl) (dk_dq rfl)) (dg_sm.uF (WF := [(0, 46)]) (WA := []) dg_sm.rf e_414 sM_0 (dk_dq rfl)) (dk_dq rfl) (dk_dq rfl) (dk_dq rfl) (dk_dq rfl) (dk_dq rfl) (dk_dq rfl) (dk_dq rfl) (dk_dq rfl)) (XFM.keep (XFM.keep XF_407 m_409 (dk_dq rfl) (dk_dq rfl) (dk_dq rfl) (dk_dq rfl) (dk_dq rfl)) (dg_sm.uF (WF := [(0, 46)]) (WA := []) dg_sm.rf e_414 sM_0 (dk_dq rfl)) (dk_dq rfl) (dk_dq rfl) (dk_dq rfl) (dk_dq rfl) (dk_dq rfl)) (q_am.mv qa_364 ((dg_uF_ne e_414 (fun z => absurd z.2 (dk_dq rfl))).trans ((m_409.1 0 34 _ sM_0 (dk_dq rfl)).trans (m_407.1 0 34 _ sM_0 (dk_dq rfl)))) ((dg_uF_ne e_414 (fun z => absurd z.2 (dk_dq rfl))).trans ((m_409.1 0 35 _ sM_0 (dk_dq rfl)).trans (m_407.1 0 35 _ sM_0 (dk_dq rfl)))) ((dg_uF_f e_414 18).trans ((m_409.2 18 _ sM_18 (dk_dq rfl)).1.trans (m_407.2 18 _ sM_18 (dk_dq rfl)).1)) ((dg_uF_f e_414 19).trans ((m_409.2 19 _ sM_19 (dk_dq rfl)).1.trans (m_407.2 19 _ sM_19 (dk_dq rfl)).1))) (fun out => by rw [hsg174.out]; exact n_go_po (by omega) hso_364) (by omega) (by decide +kernel) (by first | decide +kernel | exact decide_eq_true (by omega))), (TKM.keep TK_409 (dg_sm.uF (WF := [(0, 46)]) (WA := []) dg_sm.rf e_414 sM_0 (dk_dq rfl)) (dk_dq rfl) (dk_dq rfl) (dk_dq rfl) (dk_dq rfl) (dk_dq rfl) (dk_dq rfl) (dk_dq rfl) (dk_dq rfl)), (ZWM.keep (ZWM.keep (ZWM.keep w_364_4 m_407 (dk_dq rfl) (dk_dq rfl) (dk_dq rfl) (dk_dq rfl)) m_409 (dk_dq rfl) (dk_dq rfl) (dk_dq rfl) (dk_dq rfl)) (dg_sm.uF (WF := [(0, 46)]) (WA := []) dg_sm.rf e_414 sM_0 (dk_dq rfl)) (dk_dq rfl) (dk_dq rfl) (dk_dq rfl) (dk_dq rfl)), (G8M.keep (G8M.keep (G8M.keep w_364_6 m_407 (dk_dq rfl) (dk_dq rfl) (dk_dq rfl)) m_409 (dk_dq rfl) (dk_dq rfl) (dk_dq rfl)) (dg_sm.uF (WF := [(0, 46)]) (WA := []) dg_sm.rf e_414 sM_0 (dk_dq rfl)) (dk_dq rfl) (dk_dq rfl) (dk_dq rfl)), trivial⟩ dX12_goesOn_187
                        refine lv_if_eq (tgt := 130) hx hb dX12_goesOn_122 (dk_dq rfl) (fun c_426 => ?_) (fun c_426 => ?_)
                        · as_aux_lemma =>
                            have jc_426 := dk_eqc (k := 0) (by decide +kernel) c_426
                            have qw_371_1 : g_s (T_kd tb tn) (T_vl tb tn) 43 (t_ix tb tn (sa : Int32).toNatClampNeg) = false := g_iff_f (TKM.iss (TKM.keep (TKM.keep TK m_2 (dk_dq rfl) (dk_dq rfl) (dk_dq rfl) (dk_dq rfl) (dk_dq rfl) (dk_dq rfl) (dk_dq rfl) (dk_dq rfl)) m_364 (dk_dq rfl) (dk_dq rfl) (dk_dq rfl) (dk_dq rfl) (dk_dq rfl) (dk_dq rfl) (dk_dq rfl) (dk_dq rfl)) (((m_364.1 0 3 _ sM_0 (dk_dq rfl)).trans (m_2.1 0 3 _ sM_0 (dk_dq rfl))).trans f_sg) (((m_364.1 0 4 _ sM_0 (dk_dq rfl)).trans (m_2.1 0 4 _ sM_0 (dk_dq rfl))).trans f_sa) (((m_364.1 0 6 _ sM_0 (dk_dq rfl)).trans (m_2.1 0 6 _ sM_0 (dk_dq rfl))).trans f_va) hk5.out (c := 43) (by have h9 := w_371_1; rw [show (43 : Int32).toInt = 43 from by decide +kernel] at h9; exact h9)) (by omega)
                            have w_371_1_r : (va).toInt ≠ 43 := fun q9 => absurd (w_371_1.mpr ⟨by omega, by omega⟩) (by omega)
                            clear w_371_1
                            refine lv_aload_n hx hb dX12_goesOn_130 rfl (lv_at hl 3 rfl) ?_
                            refine lv_bipush (v := 45) hx hb dX12_goesOn_131 (by decide +kernel) ?_
                            refine dg_calli hS hA1 hA (va_runV (As := [.int 45]) (rest := [.ref (o + 0)]) F (c_m_isSign l g D o S_364 45 sg (((m_364.1 0 3 _ sM_0 (dk_dq rfl)).trans (m_2.1 0 3 _ sM_0 (dk_dq rfl))).trans f_sg) (by omega) va (((m_364.1 0 6 _ sM_0 (dk_dq rfl)).trans (m_2.1 0 6 _ sM_0 (dk_dq rfl))).trans f_va) (by omega) I_364 H.size) (cwV 1 hts (bw_V wB_314 wB_315 wB_316 wB_297 wB_313) rfl rfl rfl (by decide +kernel) ⟨Nat.le_of_ble_eq_true rfl, Nat.le_of_ble_eq_true rfl⟩) (dg_preV sM_0 rfl K ST hP hS hA1 hA) rfl rfl hl.1 rfl (lv_room (Nat.le_of_ble_eq_true rfl)) dX12_goesOn_133 ⟨Nat.le_of_ble_eq_true rfl, Nat.le_of_ble_eq_true rfl⟩) (fun x_427 S_428 hw_428 H locs hP hS => ?_)
                            rw [hw_428.1] at hP
                            obtain ⟨hq_428, w_428_0, w_428_1, -⟩ := hw_428
                            have hz_429 : (45 : Int32).toInt = 45 := by decide +kernel
                            have w_428_0 : 0 ≤ (x_427).toInt ∧ (x_427).toInt ≤ 1 := w_428_0
                            have w_428_1 : (x_427).toInt = 1 ↔ ((sg).toInt = 3 ∧ (va).toInt = ((45 : Int32)).toInt) := w_428_1
                            refine lv_if_eq (tgt := 144) hx hb dX12_goesOn_136 (dk_dq rfl) (fun c_430 => ?_) (fun c_430 => ?_)
                            · as_aux_lemma =>
                                have jc_430 := dk_eqc (k := 0) (by decide +kernel) c_430
                                have qw_428_1 : g_s (T_kd tb tn) (T_vl tb tn) 45 (t_ix tb tn (sa : Int32).toNatClampNeg) = false := g_iff_f (TKM.iss (TKM.keep (TKM.keep TK m_2 (dk_dq rfl) (dk_dq rfl) (dk_dq rfl) (dk_dq rfl) (dk_dq rfl) (dk_dq rfl) (dk_dq rfl) (dk_dq rfl)) m_364 (dk_dq rfl) (dk_dq rfl) (dk_dq rfl) (dk_dq rfl) (dk_dq rfl) (dk_dq rfl) (dk_dq rfl) (dk_dq rfl)) (((m_364.1 0 3 _ sM_0 (dk_dq rfl)).trans (m_2.1 0 3 _ sM_0 (dk_dq rfl))).trans f_sg) (((m_364.1 0 4 _ sM_0 (dk_dq rfl)).trans (m_2.1 0 4 _ sM_0 (dk_dq rfl))).trans f_sa) (((m_364.1 0 6 _ sM_0 (dk_dq rfl)).trans (m_2.1 0 6 _ sM_0 (dk_dq rfl))).trans f_va) hk5.out (c := 45) (by have h9 := w_428_1; rw [show (45 : Int32).toInt = 45 from by decide +kernel] at h9; exact h9)) (by omega)
                                have w_428_1_r : (va).toInt ≠ 45 := fun q9 => absurd (w_428_1.mpr ⟨by omega, by omega⟩) (by omega)
                                clear w_428_1
                                refine lv_aload_n hx hb dX12_goesOn_144 rfl (lv_at hl 3 rfl) ?_
                                refine lv_bipush (v := 42) hx hb dX12_goesOn_145 (by decide +kernel) ?_
                                refine dg_calli hS hA1 hA (va_runV (As := [.int 42]) (rest := [.ref (o + 0)]) F (c_m_isSign l g D o S_364 42 sg (((m_364.1 0 3 _ sM_0 (dk_dq rfl)).trans (m_2.1 0 3 _ sM_0 (dk_dq rfl))).trans f_sg) (by omega) va (((m_364.1 0 6 _ sM_0 (dk_dq rfl)).trans (m_2.1 0 6 _ sM_0 (dk_dq rfl))).trans f_va) (by omega) I_364 H.size) (cwV 1 hts (bw_V wB_314 wB_315 wB_316 wB_297 wB_313) rfl rfl rfl (by decide +kernel) ⟨Nat.le_of_ble_eq_true rfl, Nat.le_of_ble_eq_true rfl⟩) (dg_preV sM_0 rfl K ST hP hS hA1 hA) rfl rfl hl.1 rfl (lv_room (Nat.le_of_ble_eq_true rfl)) dX12_goesOn_147 ⟨Nat.le_of_ble_eq_true rfl, Nat.le_of_ble_eq_true rfl⟩) (fun x_431 S_432 hw_432 H locs hP hS => ?_)
                                rw [hw_432.1] at hP
                                obtain ⟨hq_432, w_432_0, w_432_1, -⟩ := hw_432
                                have hz_433 : (42 : Int32).toInt = 42 := by decide +kernel
                                have w_432_0 : 0 ≤ (x_431).toInt ∧ (x_431).toInt ≤ 1 := w_432_0
                                have w_432_1 : (x_431).toInt = 1 ↔ ((sg).toInt = 3 ∧ (va).toInt = ((42 : Int32)).toInt) := w_432_1
                                refine lv_if_eq (tgt := 158) hx hb dX12_goesOn_150 (dk_dq rfl) (fun c_434 => ?_) (fun c_434 => ?_)
                                · as_aux_lemma =>
                                    have jc_434 := dk_eqc (k := 0) (by decide +kernel) c_434
                                    have qw_432_1 : g_s (T_kd tb tn) (T_vl tb tn) 42 (t_ix tb tn (sa : Int32).toNatClampNeg) = false := g_iff_f (TKM.iss (TKM.keep (TKM.keep TK m_2 (dk_dq rfl) (dk_dq rfl) (dk_dq rfl) (dk_dq rfl) (dk_dq rfl) (dk_dq rfl) (dk_dq rfl) (dk_dq rfl)) m_364 (dk_dq rfl) (dk_dq rfl) (dk_dq rfl) (dk_dq rfl) (dk_dq rfl) (dk_dq rfl) (dk_dq rfl) (dk_dq rfl)) (((m_364.1 0 3 _ sM_0 (dk_dq rfl)).trans (m_2.1 0 3 _ sM_0 (dk_dq rfl))).trans f_sg) (((m_364.1 0 4 _ sM_0 (dk_dq rfl)).trans (m_2.1 0 4 _ sM_0 (dk_dq rfl))).trans f_sa) (((m_364.1 0 6 _ sM_0 (dk_dq rfl)).trans (m_2.1 0 6 _ sM_0 (dk_dq rfl))).trans f_va) hk5.out (c := 42) (by have h9 := w_432_1; rw [show (42 : Int32).toInt = 42 from by decide +kernel] at h9; exact h9)) (by omega)
                                    have w_432_1_r : (va).toInt ≠ 42 := fun q9 => absurd (w_432_1.mpr ⟨by omega, by omega⟩) (by omega)
                                    clear w_432_1
                                    refine lv_aload_n hx hb dX12_goesOn_158 rfl (lv_at hl 3 rfl) ?_
                                    refine lv_bipush (v := 47) hx hb dX12_goesOn_159 (by decide +kernel) ?_
                                    refine dg_calli hS hA1 hA (va_runV (As := [.int 47]) (rest := [.ref (o + 0)]) F (c_m_isSign l g D o S_364 47 sg (((m_364.1 0 3 _ sM_0 (dk_dq rfl)).trans (m_2.1 0 3 _ sM_0 (dk_dq rfl))).trans f_sg) (by omega) va (((m_364.1 0 6 _ sM_0 (dk_dq rfl)).trans (m_2.1 0 6 _ sM_0 (dk_dq rfl))).trans f_va) (by omega) I_364 H.size) (cwV 1 hts (bw_V wB_314 wB_315 wB_316 wB_297 wB_313) rfl rfl rfl (by decide +kernel) ⟨Nat.le_of_ble_eq_true rfl, Nat.le_of_ble_eq_true rfl⟩) (dg_preV sM_0 rfl K ST hP hS hA1 hA) rfl rfl hl.1 rfl (lv_room (Nat.le_of_ble_eq_true rfl)) dX12_goesOn_161 ⟨Nat.le_of_ble_eq_true rfl, Nat.le_of_ble_eq_true rfl⟩) (fun x_435 S_436 hw_436 H locs hP hS => ?_)
                                    rw [hw_436.1] at hP
                                    obtain ⟨hq_436, w_436_0, w_436_1, -⟩ := hw_436
                                    have hz_437 : (47 : Int32).toInt = 47 := by decide +kernel
                                    have w_436_0 : 0 ≤ (x_435).toInt ∧ (x_435).toInt ≤ 1 := w_436_0
                                    have w_436_1 : (x_435).toInt = 1 ↔ ((sg).toInt = 3 ∧ (va).toInt = ((47 : Int32)).toInt) := w_436_1
                                    refine lv_if_eq (tgt := 172) hx hb dX12_goesOn_164 (dk_dq rfl) (fun c_438 => ?_) (fun c_438 => ?_)
                                    · have jc_438 := dk_eqc (k := 0) (by decide +kernel) c_438
                                      have qw_436_1 : g_s (T_kd tb tn) (T_vl tb tn) 47 (t_ix tb tn (sa : Int32).toNatClampNeg) = false := g_iff_f (TKM.iss (TKM.keep (TKM.keep TK m_2 (dk_dq rfl) (dk_dq rfl) (dk_dq rfl) (dk_dq rfl) (dk_dq rfl) (dk_dq rfl) (dk_dq rfl) (dk_dq rfl)) m_364 (dk_dq rfl) (dk_dq rfl) (dk_dq rfl) (dk_dq rfl) (dk_dq rfl) (dk_dq rfl) (dk_dq rfl) (dk_dq rfl)) (((m_364.1 0 3 _ sM_0 (dk_dq rfl)).trans (m_2.1 0 3 _ sM_0 (dk_dq rfl))).trans f_sg) (((m_364.1 0 4 _ sM_0 (dk_dq rfl)).trans (m_2.1 0 4 _ sM_0 (dk_dq rfl))).trans f_sa) (((m_364.1 0 6 _ sM_0 (dk_dq rfl)).trans (m_2.1 0 6 _ sM_0 (dk_dq rfl))).trans f_va) hk5.out (c := 47) (by have h9 := w_436_1; rw [show (47 : Int32).toInt = 47 from by decide +kernel] at h9; exact h9)) (by omega)
                                      have w_436_1_r : (va).toInt ≠ 47 := fun q9 => absurd (w_436_1.mpr ⟨by omega, by omega⟩) (by omega)
                                      clear w_436_1
                                      refine lv_bipush (v := 35) hx hb dX12_goesOn_172 (by decide +kernel) ?_
                                      have hz_439 : (35 : Int32).toInt = 35 := by decide +kernel
                                      have hz_440 : (35 : Int32).toInt = 35 := by decide +kernel
                                      have hz_441 : (35 : Int32).toInt = 35 := by decide +kernel
                                      exact J_406 35 (by decide +kernel) (by omega) (m_hid.mk (by rw [n_sg_5 qw_371_1 qw_428_1 qw_432_1 qw_436_1]; decide +kernel)) _ _ hP hS _ (lv_sub hl [0, 1, 2, 3] rfl)
                                    · have jc_438 := dk_neqc (k := 0) (by decide +kernel) c_438
                                      have jbc_438 : 1 ≤ (x_435).toInt := by omega
                                      clear jc_438
                                      have qw_436_1 : g_s (T_kd tb tn) (T_vl tb tn) 47 (t_ix tb tn (sa : Int32).toNatClampNeg) = true := (TKM.iss (TKM.keep (TKM.keep TK m_2 (dk_dq rfl) (dk_dq rfl) (dk_dq rfl) (dk_dq rfl) (dk_dq rfl) (dk_dq rfl) (dk_dq rfl) (dk_dq rfl)) m_364 (dk_dq rfl) (dk_dq rfl) (dk_dq rfl) (dk_dq rfl) (dk_dq rfl) (dk_dq rfl) (dk_dq rfl) (dk_dq rfl)) (((m_364.1 0 3 _ sM_0 (dk_dq rfl)).trans (m_2.1 0 3 _ sM_0 (dk_dq rfl))).trans f_sg) (((m_364.1 0 4 _ sM_0 (dk_dq rfl)).trans (m_2.1 0 4 _ sM_0 (dk_dq rfl))).trans f_sa) (((m_364.1 0 6 _ sM_0 (dk_dq rfl)).trans (m_2.1 0 6 _ sM_0 (dk_dq rfl))).trans f_va) hk5.out (c := 47) (by have h9 := w_436_1; rw [show (47 : Int32).toInt = 47 from by decide +kernel] at h9; exact h9)).mp (by omega)
                                      have w_436_1_r := w_436_1.mp (by omega)
                                      obtain ⟨w_436_1_r1, w_436_1_r2⟩ := w_436_1_r
                                      clear rel_1 w_299_1_r w_360_1_r w_371_1_r w_428_1_r w_432_1_r
                                      clear w_436_1
                                      refine lv_bipush (v := 34) hx hb dX12_goesOn_167 (by decide +kernel) ?_
                                      refine lv_goto (tgt := 174) hx hb dX12_goesOn_169 (dk_dq rfl) ?_
                                      have hz_442 : (34 : Int32).toInt = 34 := by decide +kernel
                                      have hz_443 : (34 : Int32).toInt = 34 := by decide +kernel
                                      have hz_444 : (34 : Int32).toInt = 34 := by decide +kernel
                                      exact J_406 34 (by decide +kernel) (by omega) (m_hid.mk (by rw [n_sg_4 qw_436_1]; decide +kernel)) _ _ hP hS _ (lv_sub hl [0, 1, 2, 3] rfl)
                                · have jc_434 := dk_neqc (k := 0) (by decide +kernel) c_434
                                  have jbc_434 : 1 ≤ (x_431).toInt := by omega
                                  clear jc_434
                                  have qw_432_1 : g_s (T_kd tb tn) (T_vl tb tn) 42 (t_ix tb tn (sa : Int32).toNatClampNeg) = true := (TKM.iss (TKM.keep (TKM.keep TK m_2 (dk_dq rfl) (dk_dq rfl) (dk_dq rfl) (dk_dq rfl) (dk_dq rfl) (dk_dq rfl) (dk_dq rfl) (dk_dq rfl)) m_364 (dk_dq rfl) (dk_dq rfl) (dk_dq rfl) (dk_dq rfl) (dk_dq rfl) (dk_dq rfl) (dk_dq rfl) (dk_dq rfl)) (((m_364.1 0 3 _ sM_0 (dk_dq rfl)).trans (m_2.1 0 3 _ sM_0 (dk_dq rfl))).trans f_sg) (((m_364.1 0 4 _ sM_0 (dk_dq rfl)).trans (m_2.1 0 4 _ sM_0 (dk_dq rfl))).trans f_sa) (((m_364.1 0 6 _ sM_0 (dk_dq rfl)).trans (m_2.1 0 6 _ sM_0 (dk_dq rfl))).trans f_va) hk5.out (c := 42) (by have h9 := w_432_1; rw [show (42 : Int32).toInt = 42 from by decide +kernel] at h9; exact h9)).mp (by omega)
                                  have w_432_1_r := w_432_1.mp (by omega)
                                  obtain ⟨w_432_1_r1, w_432_1_r2⟩ := w_432_1_r
                                  clear rel_1 w_299_1_r w_360_1_r w_371_1_r w_428_1_r
                                  clear w_432_1
                                  refine lv_bipush (v := 33) hx hb dX12_goesOn_153 (by decide +kernel) ?_
                                  refine lv_goto (tgt := 174) hx hb dX12_goesOn_155 (dk_dq rfl) ?_
                                  have hz_445 : (33 : Int32).toInt = 33 := by decide +kernel
                                  have hz_446 : (33 : Int32).toInt = 33 := by decide +kernel
                                  have hz_447 : (33 : Int32).toInt = 33 := by decide +kernel
                                  exact J_406 33 (by decide +kernel) (by omega) (m_hid.mk (by rw [n_sg_3 qw_432_1]; decide +kernel)) _ _ hP hS _ (lv_sub hl [0, 1, 2, 3] rfl)
                            · have jc_430 := dk_neqc (k := 0) (by decide +kernel) c_430
                              have jbc_430 : 1 ≤ (x_427).toInt := by omega
                              clear jc_430
                              have qw_428_1 : g_s (T_kd tb tn) (T_vl tb tn) 45 (t_ix tb tn (sa : Int32).toNatClampNeg) = true := (TKM.iss (TKM.keep (TKM.keep TK m_2 (dk_dq rfl) (dk_dq rfl) (dk_dq rfl) (dk_dq rfl) (dk_dq rfl) (dk_dq rfl) (dk_dq rfl) (dk_dq rfl)) m_364 (dk_dq rfl) (dk_dq rfl) (dk_dq rfl) (dk_dq rfl) (dk_dq rfl) (dk_dq rfl) (dk_dq rfl) (dk_dq rfl)) (((m_364.1 0 3 _ sM_0 (dk_dq rfl)).trans (m_2.1 0 3 _ sM_0 (dk_dq rfl))).trans f_sg) (((m_364.1 0 4 _ sM_0 (dk_dq rfl)).trans (m_2.1 0 4 _ sM_0 (dk_dq rfl))).trans f_sa) (((m_364.1 0 6 _ sM_0 (dk_dq rfl)).trans (m_2.1 0 6 _ sM_0 (dk_dq rfl))).trans f_va) hk5.out (c := 45) (by have h9 := w_428_1; rw [show (45 : Int32).toInt = 45 from by decide +kernel] at h9; exact h9)).mp (by omega)
                              have w_428_1_r := w_428_1.mp (by omega)
                              obtain ⟨w_428_1_r1, w_428_1_r2⟩ := w_428_1_r
                              clear w_428_1
                              omega
                        · have jc_426 := dk_neqc (k := 0) (by decide +kernel) c_426
                          have jbc_426 : 1 ≤ (x_370).toInt := by omega
                          clear jc_426
                          have qw_371_1 : g_s (T_kd tb tn) (T_vl tb tn) 43 (t_ix tb tn (sa : Int32).toNatClampNeg) = true := (TKM.iss (TKM.keep (TKM.keep TK m_2 (dk_dq rfl) (dk_dq rfl) (dk_dq rfl) (dk_dq rfl) (dk_dq rfl) (dk_dq rfl) (dk_dq rfl) (dk_dq rfl)) m_364 (dk_dq rfl) (dk_dq rfl) (dk_dq rfl) (dk_dq rfl) (dk_dq rfl) (dk_dq rfl) (dk_dq rfl) (dk_dq rfl)) (((m_364.1 0 3 _ sM_0 (dk_dq rfl)).trans (m_2.1 0 3 _ sM_0 (dk_dq rfl))).trans f_sg) (((m_364.1 0 4 _ sM_0 (dk_dq rfl)).trans (m_2.1 0 4 _ sM_0 (dk_dq rfl))).trans f_sa) (((m_364.1 0 6 _ sM_0 (dk_dq rfl)).trans (m_2.1 0 6 _ sM_0 (dk_dq rfl))).trans f_va) hk5.out (c := 43) (by have h9 := w_371_1; rw [show (43 : Int32).toInt = 43 from by decide +kernel] at h9; exact h9)).mp (by omega)
                          have w_371_1_r := w_371_1.mp (by omega)
                          obtain ⟨w_371_1_r1, w_371_1_r2⟩ := w_371_1_r
                          clear w_371_1
                          omega
                    · as_aux_lemma =>
                        have jc_362 := dk_neqc (k := 0) (by decide +kernel) c_362
                        have jbc_362 : 1 ≤ (x_359).toInt := by omega
                        clear jc_362
                        have qw_360_1 : g_s (T_kd tb tn) (T_vl tb tn) 45 (t_ix tb tn (sa : Int32).toNatClampNeg) = true := (TKM.iss (TKM.keep TK m_2 (dk_dq rfl) (dk_dq rfl) (dk_dq rfl) (dk_dq rfl) (dk_dq rfl) (dk_dq rfl) (dk_dq rfl) (dk_dq rfl)) ((m_2.1 0 3 _ sM_0 (dk_dq rfl)).trans f_sg) ((m_2.1 0 4 _ sM_0 (dk_dq rfl)).trans f_sa) ((m_2.1 0 6 _ sM_0 (dk_dq rfl)).trans f_va) hk5.out (c := 45) (by have h9 := w_360_1; rw [show (45 : Int32).toInt = 45 from by decide +kernel] at h9; exact h9)).mp (by omega)
                        have w_360_1_r := w_360_1.mp (by omega)
                        obtain ⟨w_360_1_r1, w_360_1_r2⟩ := w_360_1_r
                        clear rel_1 w_299_1_r
                        clear w_360_1
                        refine lv_iconst (v := 5) hx hb dX12_goesOn_106 (by decide +kernel) ?_
                        refine lv_goto (tgt := 112) hx hb dX12_goesOn_107 (dk_dq rfl) ?_
                        have hz_448 : (5 : Int32).toInt = 5 := by decide +kernel
                        refine dg_callv hS hA1 hA (va_runV (As := [.int 5]) (rest := []) F (c_m_joins l g D o S_2 5 (by decide +kernel) S0 cd ((m_2.1 0 34 _ sM_0 (dk_dq rfl)).trans f_cd) (by omega) om ((m_2.1 0 45 _ sM_0 (dk_dq rfl)).trans f_om) (by omega) (by omega) (ZWM.keep ZW m_2 (dk_dq rfl) (dk_dq rfl) (dk_dq rfl) (dk_dq rfl)) (ZKM.keep ZK m_2 (dk_dq rfl) (dk_dq rfl)) (P1M.keep P1 m_2 (dk_dq rfl) (dk_dq rfl) (dk_dq rfl) (dk_dq rfl) (dk_dq rfl) (dk_dq rfl) (dk_dq rfl) (dk_dq rfl) (dk_dq rfl) (dk_dq rfl) (dk_dq rfl) (dk_dq rfl) (dk_dq rfl) (dk_dq rfl) (dk_dq rfl)) (G8M.keep G8 m_2 (dk_dq rfl) (dk_dq rfl) (dk_dq rfl)) I_2 H.size) (cwV 1 hts (bw_V wB_437 wB_438 wB_439 wB_297 wB_436) rfl rfl rfl (by decide +kernel) ⟨Nat.le_of_ble_eq_true rfl, Nat.le_of_ble_eq_true rfl⟩) (dg_preV sM_0 rfl K ST hP hS hA1 hA) rfl rfl hl.1 rfl (lv_room (Nat.le_of_ble_eq_true rfl)) dX12_goesOn_112 ⟨Nat.le_of_ble_eq_true rfl, Nat.le_of_ble_eq_true rfl⟩) (fun S_449 hw_449 H locs hP hS => ?_)
                        obtain ⟨I_449, m_449, w_449_0, w_449_1, w_449_2, w_449_3, w_449_4, w_449_5, w_449_6, -⟩ := hw_449
                        have M_449 := dg_sm.tr M_2 m_449 (dk_dq rfl) (dk_dq rfl)
                        have hz_450 : (5 : Int32).toInt = 5 := by decide +kernel
                        obtain ⟨y_451, y_452, f_y_451, f_y_452, w_449_0⟩ := w_449_0
                        have w_449_0 : (y_451).toInt + (y_452).toInt = (cd).toInt + (om).toInt := w_449_0
                        have b_y_451 : 0 ≤ (y_451).toInt ∧ (y_451).toInt ≤ 1600 := dg_I.intb (lo := 0) (hi := 1600) I_449 sM_0 (by decide +kernel) f_y_451
                        have b_y_452 : 0 ≤ (y_452).toInt ∧ (y_452).toInt ≤ 500 := dg_I.intb (lo := 0) (hi := 500) I_449 sM_0 (by decide +kernel) f_y_452
                        replace w_449_1 : TOPM S_449 (5 : Int32) := w_449_1
                        obtain ⟨x_453, f_x_453, b_x_453⟩ := dg_I.int (i := 0) (k := 43) (lo := (-2147483648)) (hi := 2147483647) I_449 sM_0 (by decide +kernel)
                        replace w_449_2 : JNM S_2 S_449 (5 : Int32) := w_449_2
                        have TF_449 : TFM (x_7).toInt (x_11).toInt bg0 nt0 R0 (on).toNatClampNeg S_449 := (TFM.join TF0 (P1M.keep P1 m_2 (dk_dq rfl) (dk_dq rfl) (dk_dq rfl) (dk_dq rfl) (dk_dq rfl) (dk_dq rfl) (dk_dq rfl) (dk_dq rfl) (dk_dq rfl) (dk_dq rfl) (dk_dq rfl) (dk_dq rfl) (dk_dq rfl) (dk_dq rfl) (dk_dq rfl)) ((m_2.1 0 42 _ sM_0 (dk_dq rfl)).trans f_dp) ((m_2.1 0 43 _ sM_0 (dk_dq rfl)).trans f_on) ((m_2.1 0 45 _ sM_0 (dk_dq rfl)).trans f_om) w_449_2 w_449_1 m_449 (dk_dq rfl) (dk_dq rfl) (dk_dq rfl) (dk_dq rfl) (dk_dq rfl) (dk_dq rfl)).1 (by decide +kernel)
                        replace w_449_3 : JXM S_2 S_449 := w_449_3
                        have XJ_449 := XFM.join XF0 TF0 ((m_2.1 0 42 _ sM_0 (dk_dq rfl)).trans f_dp) ((m_2.1 0 43 _ sM_0 (dk_dq rfl)).trans f_on) ((m_2.1 0 45 _ sM_0 (dk_dq rfl)).trans f_om) w_449_2 w_449_3 w_449_1 m_449 (dk_dq rfl) (dk_dq rfl) (dk_dq rfl) (dk_dq rfl)
                        rw [show (5 : Int32).toInt = 5 from by decide +kernel] at XJ_449
                        have XF_449 : XFM (n_lo 5 l0) p0 X0 S_449 := XJ_449.1
                        have qa_449 : q_am S S_449 ((n_hi 5 l0).map d_st) := (q_am.fs XJ_449.2 (m_2.1 0 34 _ sM_0 (dk_dq rfl)) (m_2.1 0 35 _ sM_0 (dk_dq rfl)) (m_2.2 18 _ sM_18 (dk_dq rfl)).1 (m_2.2 19 _ sM_19 (dk_dq rfl)).1)
                        have hso_449 : g_so (T_kd tb tn) (T_vl tb tn) (t_ix tb tn (sa : Int32).toNatClampNeg) = true := g_so_t2 qw_360_1
                        have hdm_453 := PSM.dims w_449_5 (((m_449.1 0 42 _ sM_0 (dk_dq rfl)).trans (m_2.1 0 42 _ sM_0 (dk_dq rfl))).trans f_dp) f_x_453 f_y_452
                        refine lv_aload_n hx hb dX12_goesOn_115 rfl (lv_at hl 3 rfl) ?_
                        refine lv_aload_n hx hb dX12_goesOn_116 rfl (lv_at hl 3 rfl) ?_
                        refine lv_bipush (v := 43) hx hb dX12_goesOn_117 (by decide +kernel) ?_
                        refine dg_calli hS hA1 hA (va_runV (As := [.int 43]) (rest := [.ref (o + 0)]) F (c_m_isSign l g D o S_449 43 sg (((m_449.1 0 3 _ sM_0 (dk_dq rfl)).trans (m_2.1 0 3 _ sM_0 (dk_dq rfl))).trans f_sg) (by omega) va (((m_449.1 0 6 _ sM_0 (dk_dq rfl)).trans (m_2.1 0 6 _ sM_0 (dk_dq rfl))).trans f_va) (by omega) I_449 H.size) (cwV 1 hts (bw_V wB_314 wB_315 wB_316 wB_297 wB_313) rfl rfl rfl (by decide +kernel) ⟨Nat.le_of_ble_eq_true rfl, Nat.le_of_ble_eq_true rfl⟩) (dg_preV sM_0 rfl K ST hP hS hA1 hA) rfl rfl hl.1 rfl (lv_room (Nat.le_of_ble_eq_true rfl)) dX12_goesOn_119 ⟨Nat.le_of_ble_eq_true rfl, Nat.le_of_ble_eq_true rfl⟩) (fun x_455 S_456 hw_456 H locs hP hS => ?_)
                        rw [hw_456.1] at hP
                        obtain ⟨hq_456, w_456_0, w_456_1, -⟩ := hw_456
                        have hz_457 : (43 : Int32).toInt = 43 := by decide +kernel
                        have w_456_0 : 0 ≤ (x_455).toInt ∧ (x_455).toInt ≤ 1 := w_456_0
                        have w_456_1 : (x_455).toInt = 1 ↔ ((sg).toInt = 3 ∧ (va).toInt = ((43 : Int32)).toInt) := w_456_1
                        have J_485 : ∀ (H : Heap) (locs : List Loc), va_P D vwCl (dg_w g shM o rfM S_449) H → va_S A s.heap H locs → ∀ ls : Array Slot, lv_has ls 5 [(3, .int x_8), (2, .int x_7), (1, .int x_5), (0, .ref (o + 0))] → W p l e ({ frames := 3, cells := 0, slots := 0, locals := 77 } : Room) s m args below meth c H locs 0 0 Q9 (F0 m 174 ls [.int 32, .ref (o + 0)]) := by
                          as_aux_lemma =>
                            intro H locs hP hS ls hl
                            clear w_456_1
                            have hsg174 : m_hid ((32 : Int) = n_sg (T_kd tb tn) (T_vl tb tn) (t_ix tb tn (sa : Int32).toNatClampNeg)) := m_hid.mk (by rw [n_sg_2 qw_360_1])
                            refine dg_callv hS hA1 hA (va_runV (As := [.int 32]) (rest := []) F (c_m_holdsBack l g D o S_449 32 y_452 f_y_452 (by omega) I_449 H.size) (cwV 1 hts (bw_V wB_427 wB_428 wB_429 wB_297 wB_426) rfl rfl rfl (by decide +kernel) ⟨Nat.le_of_ble_eq_true rfl, Nat.le_of_ble_eq_true rfl⟩) (dg_preV sM_0 rfl K ST hP hS hA1 hA) rfl rfl hl.1 rfl (lv_room (Nat.le_of_ble_eq_true rfl)) dX12_goesOn_174 ⟨Nat.le_of_ble_eq_true rfl, Nat.le_of_ble_eq_true rfl⟩) (fun S_486 hw_486 H locs hP hS => ?_)
                            obtain ⟨I_486, m_486, w_486_0, w_486_1, -⟩ := hw_486
                            have M_486 := dg_sm.tr M_449 m_486 (dk_dq rfl) (dk_dq rfl)
                            have hz_487 : (32 : Int32).toInt = 32 := by decide +kernel
                            obtain ⟨y_488, f_y_488, w_486_0⟩ := w_486_0
                            have w_486_0 : (y_488).toInt = (y_452).toInt + 1 := w_486_0
                            have b_y_488 : 0 ≤ (y_488).toInt ∧ (y_488).toInt ≤ 500 := dg_I.intb (lo := 0) (hi := 500) I_486 sM_0 (by decide +kernel) f_y_488
                            replace w_486_1 : HBM S_449 S_486 (32 : Int32) := w_486_1
                            have hz_489 : (32 : Int32).toInt = 32 := by decide +kernel
                            have XF_486 : XFM (32 :: (n_lo 5 l0)) p0 X0 S_486 := (by have h9 := XFM.hb XF_449 TF_449 (((m_449.1 0 42 _ sM_0 (dk_dq rfl)).trans (m_2.1 0 42 _ sM_0 (dk_dq rfl))).trans f_dp) f_x_453 f_y_452 (by omega) m_486 w_486_1; rw [show (32 : Int32).toInt = 32 from by decide +kernel] at h9; exact h9)
                            have P0_486 : P0M S_486 := P1M.bin w_449_5 (((m_449.1 0 42 _ sM_0 (dk_dq rfl)).trans (m_2.1 0 42 _ sM_0 (dk_dq rfl))).trans f_dp) f_x_453 f_y_452 w_449_1 m_486 w_486_1 (by omega)
                            have hz_490 : (32 : Int32).toInt = 32 := by decide +kernel
                            have TF_486 : TFM (x_7).toInt (x_11).toInt bg0 nt0 R0 (on).toNatClampNeg S_486 := (by have h9 := TFM.hb TF_449 (((m_449.1 0 42 _ sM_0 (dk_dq rfl)).trans (m_2.1 0 42 _ sM_0 (dk_dq rfl))).trans f_dp) f_x_453 f_y_452 (by omega) m_486 w_486_1; rw [if_neg (by omega)] at h9; exact h9)
                            refine lv_aload_n hx hb dX12_goesOn_177 rfl (lv_at hl 3 rfl) ?_
                            refine dg_callv hS hA1 hA (va_runV (As := []) (rest := []) F (c_m_ahead l g D o S_486 tb tn se (((m_486.1 0 5 _ sM_0 (dk_dq rfl)).trans ((m_449.1 0 5 _ sM_0 (dk_dq rfl)).trans (m_2.1 0 5 _ sM_0 (dk_dq rfl)))).trans f_se) (by omega) sl (((m_486.1 0 2 _ sM_0 (dk_dq rfl)).trans ((m_449.1 0 2 _ sM_0 (dk_dq rfl)).trans (m_2.1 0 2 _ sM_0 (dk_dq rfl)))).trans f_sl) (by omega) (by omega) (TKM.keep (TKM.keep (TKM.keep TK m_2 (dk_dq rfl) (dk_dq rfl) (dk_dq rfl) (dk_dq rfl) (dk_dq rfl) (dk_dq rfl) (dk_dq rfl) (dk_dq rfl)) m_449 (dk_dq rfl) (dk_dq rfl) (dk_dq rfl) (dk_dq rfl) (dk_dq rfl) (dk_dq rfl) (dk_dq rfl) (dk_dq rfl)) m_486 (dk_dq rfl) (dk_dq rfl) (dk_dq rfl) (dk_dq rfl) (dk_dq rfl) (dk_dq rfl) (dk_dq rfl) (dk_dq rfl)).1 I_486 H.size) (cwV 0 hts (bw_V wB_318 wB_319 wB_320 wB_297 wB_317) rfl rfl rfl (by decide +kernel) ⟨Nat.le_of_ble_eq_true rfl, Nat.le_of_ble_eq_true rfl⟩) (dg_preV sM_0 rfl K ST hP hS hA1 hA) rfl rfl hl.1 rfl (lv_room (Nat.le_of_ble_eq_true rfl)) dX12_goesOn_178 ⟨Nat.le_of_ble_eq_true rfl, Nat.le_of_ble_eq_true rfl⟩) (fun S_491 hw_491 H locs hP hS => ?_)
                            obtain ⟨I_491, m_491, w_491_0, w_491_1, -⟩ := hw_491
                            have M_491 := dg_sm.tr M_486 m_491 (dk_dq rfl) (dk_dq rfl)
                            obtain ⟨y_492, y_493, y_494, f_y_492, f_y_493, f_y_494, w_491_0⟩ := w_491_0
                            have w_491_0 : (se).toInt ≤ (y_493).toInt ∧ (y_493).toInt ≤ (y_494).toInt ∧ (y_494).toInt ≤ (sl).toInt ∧ ((y_492).toInt ≠ 0 → (y_493).toInt + 1 ≤ (y_494).toInt) := w_491_0
                            obtain ⟨w_491_0_0, w_491_0_1, w_491_0_2, w_491_0_3⟩ := w_491_0
                            have lxh_w_491_0_3 : m_hid ((y_493).toInt ≤ (y_494).toInt ∧ (y_494).toInt ≤ (sl).toInt ∧ ((y_492).toInt ≠ 0 → (y_493).toInt + 1 ≤ (y_494).toInt)) := m_hid.mk ⟨w_491_0_1, w_491_0_2, w_491_0_3⟩
                            have b_y_492 : 0 ≤ (y_492).toInt ∧ (y_492).toInt ≤ 3 := dg_I.intb (lo := 0) (hi := 3) I_491 sM_0 (by decide +kernel) f_y_492
                            have b_y_493 : 0 ≤ (y_493).toInt ∧ (y_493).toInt ≤ 1600 := dg_I.intb (lo := 0) (hi := 1600) I_491 sM_0 (by decide +kernel) f_y_493
                            have b_y_494 : 0 ≤ (y_494).toInt ∧ (y_494).toInt ≤ 1600 := dg_I.intb (lo := 0) (hi := 1600) I_491 sM_0 (by decide +kernel) f_y_494
                            replace w_491_1 : TNX tb tn se S_491 := w_491_1
                            obtain ⟨TK_491, nx_491, -⟩ := TKM.nx (TKM.keep (TKM.keep (TKM.keep TK m_2 (dk_dq rfl) (dk_dq rfl) (dk_dq rfl) (dk_dq rfl) (dk_dq rfl) (dk_dq rfl) (dk_dq rfl) (dk_dq rfl)) m_449 (dk_dq rfl) (dk_dq rfl) (dk_dq rfl) (dk_dq rfl) (dk_dq rfl) (dk_dq rfl) (dk_dq rfl) (dk_dq rfl)) m_486 (dk_dq rfl) (dk_dq rfl) (dk_dq rfl) (dk_dq rfl) (dk_dq rfl) (dk_dq rfl) (dk_dq rfl) (dk_dq rfl)) (((m_486.1 0 4 _ sM_0 (dk_dq rfl)).trans ((m_449.1 0 4 _ sM_0 (dk_dq rfl)).trans (m_2.1 0 4 _ sM_0 (dk_dq rfl)))).trans f_sa) (((m_486.1 0 5 _ sM_0 (dk_dq rfl)).trans ((m_449.1 0 5 _ sM_0 (dk_dq rfl)).trans (m_2.1 0 5 _ sM_0 (dk_dq rfl)))).trans f_se) w_491_1 m_491 (dk_dq rfl) (dk_dq rfl) f_y_493
                            replace nx_491 := nx_491 (fun q9 => absurd ((TKM.zero (TKM.keep (TKM.keep (TKM.keep TK m_2 (dk_dq rfl) (dk_dq rfl) (dk_dq rfl) (dk_dq rfl) (dk_dq rfl) (dk_dq rfl) (dk_dq rfl) (dk_dq rfl)) m_449 (dk_dq rfl) (dk_dq rfl) (dk_dq rfl) (dk_dq rfl) (dk_dq rfl) (dk_dq rfl) (dk_dq rfl) (dk_dq rfl)) m_486 (dk_dq rfl) (dk_dq rfl) (dk_dq rfl) (dk_dq rfl) (dk_dq rfl) (dk_dq rfl) (dk_dq rfl) (dk_dq rfl)) (((m_486.1 0 3 _ sM_0 (dk_dq rfl)).trans ((m_449.1 0 3 _ sM_0 (dk_dq rfl)).trans (m_2.1 0 3 _ sM_0 (dk_dq rfl)))).trans f_sg) (((m_486.1 0 4 _ sM_0 (dk_dq rfl)).trans ((m_449.1 0 4 _ sM_0 (dk_dq rfl)).trans (m_2.1 0 4 _ sM_0 (dk_dq rfl)))).trans f_sa)).mpr q9) (by omega))
                            refine lv_aload_n hx hb dX12_goesOn_181 rfl (lv_at hl 3 rfl) ?_
                            refine lv_iconst (v := 0) hx hb dX12_goesOn_182 (by decide +kernel) ?_
                            have hz_495 : (0 : Int32).toInt = 0 := by decide +kernel
                            refine dg_put (ci := 12) (v := .int 0) (ty := tyX12 46) (C := RX12) (T := TX12) (N := 77) hx hb hts (fun w h => bw_mem (wU_X12 w h)) tyX12 tyX12_ok nmX12 hown K hP hS hA1 sM_0 rfl 46 (dk_dq rfl) (hts _ (bw_mem wB_440)) (fun _ h9 => h9) rfl (by decide +kernel) (by decide +kernel) (by decide +kernel) dX12_goesOn_183 (fun S_496 e_496 H locs hP hS => ?_)
                            have I_496 := dg_I.uFi (lo := 0) (hi := 1) I_491 e_496 sM_0 (by decide +kernel) (show 0 ≤ ((0 : Int32)).toInt ∧ ((0 : Int32)).toInt ≤ 1 from (by decide +kernel))
                            have M_496 := dg_sm.uF M_491 e_496 sM_0 (dk_dq rfl)
                            refine lv_iconst (v := 1) hx hb dX12_goesOn_186 (by decide +kernel) ?_
                            have hz_497 : (1 : Int32).toInt = 1 := by decide +kernel
                            have hz_498 : (1 : Int32).toInt = 1 := by decide +kernel
                            have hz_499 : (0 : Int32).toInt = 0 := by decide +kernel
                            have hz_500 : (1 : Int32).toInt = 1 := by decide +kernel
                            have hz_501 : (0 : Int32).toInt = 0 := by decide +kernel
                            have hz_502 : (1 : Int32).toInt = 1 := by decide +kernel
                            have hz_503 : (1 : Int32).toInt = 1 := by decide +kernel
                            have hz_504 : (0 : Int32).toInt = 0 := by decide +kernel
                            have hz_505 : (1 : Int32).toInt = 1 := by decide +kernel
                            have hz_506 : (1 : Int32).toInt = 1 := by decide +kernel
                            have hz_507 : (0 : Int32).toInt = 0 := by decide +kernel
                            refine W.widen (k := 0) (n := 0) (Nat.le_of_ble_eq_true rfl) (Nat.le_of_ble_eq_true rfl) ?_
                            rw [hQ9]
                            exact dg_iret hx hb hr hlocks (by decide +kernel) hP hS ⟨I_496, M_496, (by decide +kernel), ⟨y_492, y_493, y_494, y_3, y_451, dp, y_488, 0, ((dg_uF_ne e_496 (fun z => absurd z.2 (dk_dq rfl))).trans f_y_492), ((dg_uF_ne e_496 (fun z => absurd z.2 (dk_dq rfl))).trans f_y_493), ((dg_uF_ne e_496 (fun z => absurd z.2 (dk_dq rfl))).trans f_y_494), (((dg_uF_ne e_496 (fun z => absurd z.2 (dk_dq rfl))).trans ((m_491.1 0 8 _ sM_0 (dk_dq rfl)).trans ((m_486.1 0 8 _ sM_0 (dk_dq rfl)).trans (m_449.1 0 8 _ sM_0 (dk_dq rfl))))).trans f_y_3), (((dg_uF_ne e_496 (fun z => absurd z.2 (dk_dq rfl))).trans ((m_491.1 0 34 _ sM_0 (dk_dq rfl)).trans (m_486.1 0 34 _ sM_0 (dk_dq rfl)))).trans f_y_451), (((dg_uF_ne e_496 (fun z => absurd z.2 (dk_dq rfl))).trans ((m_491.1 0 42 _ sM_0 (dk_dq rfl)).trans ((m_486.1 0 42 _ sM_0 (dk_dq rfl)).trans ((m_449.1 0 42 _ sM_0 (dk_dq rfl)).trans (m_2.1 0 42 _ sM_0 (dk_dq rfl)))))).trans f_dp), (((dg_uF_ne e_496 (fun z => absurd z.2 (dk_dq rfl))).trans (m_491.1 0 45 _ sM_0 (dk_dq rfl))).trans f_y_488), (dg_uF_at e_496), ⟨lxh_w_491_0_3.out, (by omega)⟩⟩, (fun k9 hk9 hk0 => POM.mk0 (P0M.keep (P0M.keep P0_486 m_491 (dk_dq rfl) (dk_dq rfl) (dk_dq rfl) (dk_dq rfl) (dk_dq rfl) (dk_dq rfl) (dk_dq rfl) (dk_dq rfl) (dk_dq rfl) (dk_dq rfl) (dk_dq rfl) (dk_dq rfl) (dk_dq rfl) (dk_dq rfl) (dk_dq rfl)) (dg_sm.uF (WF := [(0, 46)]) (WA := []) dg_sm.rf e_496 sM_0 (dk_dq rfl)) (dk_dq rfl) (dk_dq rfl) (dk_dq rfl) (dk_dq rfl) (dk_dq rfl) (dk_dq rfl) (dk_dq rfl) (dk_dq rfl) (dk_dq rfl) (dk_dq rfl) (dk_dq rfl) (dk_dq rfl) (dk_dq rfl) (dk_dq rfl) (dk_dq rfl)) (dg_uF_at e_496) (by omega)), (GOK.ok f_sa (((dg_uF_ne e_496 (fun z => absurd z.2 (dk_dq rfl))).trans ((m_491.1 0 8 _ sM_0 (dk_dq rfl)).trans ((m_486.1 0 8 _ sM_0 (dk_dq rfl)).trans (m_449.1 0 8 _ sM_0 (dk_dq rfl))))).trans f_y_3) ((dg_uF_ne e_496 (fun z => absurd z.2 (dk_dq rfl))).trans f_y_493) (dg_uF_at e_496) (by omega) hM0 (TFM.keep (TFM.keep TF_486 m_491 (dk_dq rfl) (dk_dq rfl) (dk_dq rfl) (dk_dq rfl) (dk_dq rfl) (dk_dq rfl) (dk_dq rfl) (dk_dq rfl)) (dg_sm.uF (WF := [(0, 46)]) (WA := []) dg_sm.rf e_496 sM_0 (dk_dq rfl)) (dk_dq rfl) (dk_dq rfl) (dk_dq rfl) (dk_dq rfl) (dk_dq rfl) (dk_dq rfl) (dk_dq rfl) (dk_dq rfl)) (m_st_t.trans (m_go_op (by omega) hop.out)) (by omega) (by decide +kernel) (by first | decide +kernel | exact decide_eq_true (by omega))), (GON.ok f_sa ((dg_uF_ne e_496 (fun z => absurd z.2 (dk_dq rfl))).trans f_y_493) (dg_uF_at e_496) hN0 (TFM.keep (TFM.keep TF_486 m_491 (dk_dq rfl) (dk_dq rfl) (dk_dq rfl) (dk_dq rfl) (dk_dq rfl) (dk_dq rfl) (dk_dq rfl) (dk_dq rfl)) (dg_sm.uF (WF := [(0, 46)]) (WA := []) dg_sm.rf e_496 sM_0 (dk_dq rfl)) (dk_dq rfl) (dk_dq rfl) (dk_dq rfl) (dk_dq rfl) (dk_dq rfl) (dk_dq rfl) (dk_dq rfl) (dk_dq rfl)) (XFM.keep (XFM.keep XF_486 m_491 (dk_dq rfl) (dk_dq rfl) (dk_dq rfl) (dk_dq rfl) (dk_dq rfl)) (dg_sm.uF (WF := [(0, 46)]) (WA := []) dg_sm.rf e_496 sM_0 (dk_dq rfl)) (dk_dq rfl) (dk_dq rfl) (dk_dq rfl) (dk_dq rfl) (dk_dq rfl)) (q_am.mv qa_449 ((dg_uF_ne e_496 (fun z => absurd z.2 (dk_dq rfl))).trans ((m_491.1 0 34 _ sM_0 (dk_dq rfl)).trans (m_486.1 0 34 _ sM_0 (dk_dq rfl)))) ((dg_uF_ne e_496 (fun z => absurd z.2 (dk_dq rfl))).trans ((m_491.1 0 35 _ sM_0 (dk_dq rfl)).trans (m_486.1 0 35 _ sM_0 (dk_dq rfl)))) ((dg_uF_f e_496 18).trans ((m_491.2 18 _ sM_18 (dk_dq rfl)).1.trans (m_486.2 18 _ sM_18 (dk_dq rfl)).1)) ((dg_uF_f e_496 19).trans ((m_491.2 19 _ sM_19 (dk_dq rfl)).1.trans (m_486.2 19 _ sM_19 (dk_dq rfl)).1))) (fun out => by rw [hsg174.out]; exact n_go_so (by omega) hso_449) (by omega) (by decide +kernel) (by first | decide +kernel | exact decide_eq_true (by omega))), (TKM.keep TK_491 (dg_sm.uF (WF := [(0, 46)]) (WA := []) dg_sm.rf e_496 sM_0 (dk_dq rfl)) (dk_dq rfl) (dk_dq rfl) (dk_dq rfl) (dk_dq rfl) (dk_dq rfl) (dk_dq rfl) (dk_dq rfl) (dk_dq rfl)), (ZWM.keep (ZWM.keep (ZWM.keep w_449_4 m_486 (dk_dq rfl) (dk_dq rfl) (dk_dq rfl) (dk_dq rfl)) m_491 (dk_dq rfl) (dk_dq rfl) (dk_dq rfl) (dk_dq rfl)) (dg_sm.uF (WF := [(0, 46)]) (WA := []) dg_sm.rf e_496 sM_0 (dk_dq rfl)) (dk_dq rfl) (dk_dq rfl) (dk_dq rfl) (dk_dq rfl)), (G8M.keep (G8M.keep (G8M.keep w_449_6 m_486 (dk_dq rfl) (dk_dq rfl) (dk_dq rfl)) m_491 (dk_dq rfl) (dk_dq rfl) (dk_dq rfl)) (dg_sm.uF (WF := [(0, 46)]) (WA := []) dg_sm.rf e_496 sM_0 (dk_dq rfl)) (dk_dq rfl) (dk_dq rfl) (dk_dq rfl)), trivial⟩ dX12_goesOn_187
                        as_aux_lemma =>
                          refine lv_if_eq (tgt := 130) hx hb dX12_goesOn_122 (dk_dq rfl) (fun c_508 => ?_) (fun c_508 => ?_)
                          · as_aux_lemma =>
                              have jc_508 := dk_eqc (k := 0) (by decide +kernel) c_508
                              have qw_456_1 : g_s (T_kd tb tn) (T_vl tb tn) 43 (t_ix tb tn (sa : Int32).toNatClampNeg) = false := g_iff_f (TKM.iss (TKM.keep (TKM.keep TK m_2 (dk_dq rfl) (dk_dq rfl) (dk_dq rfl) (dk_dq rfl) (dk_dq rfl) (dk_dq rfl) (dk_dq rfl) (dk_dq rfl)) m_449 (dk_dq rfl) (dk_dq rfl) (dk_dq rfl) (dk_dq rfl) (dk_dq rfl) (dk_dq rfl) (dk_dq rfl) (dk_dq rfl)) (((m_449.1 0 3 _ sM_0 (dk_dq rfl)).trans (m_2.1 0 3 _ sM_0 (dk_dq rfl))).trans f_sg) (((m_449.1 0 4 _ sM_0 (dk_dq rfl)).trans (m_2.1 0 4 _ sM_0 (dk_dq rfl))).trans f_sa) (((m_449.1 0 6 _ sM_0 (dk_dq rfl)).trans (m_2.1 0 6 _ sM_0 (dk_dq rfl))).trans f_va) hk5.out (c := 43) (by have h9 := w_456_1; rw [show (43 : Int32).toInt = 43 from by decide +kernel] at h9; exact h9)) (by omega)
                              have w_456_1_r : (va).toInt ≠ 43 := fun q9 => absurd (w_456_1.mpr ⟨by omega, by omega⟩) (by omega)
                              clear w_456_1
                              refine lv_aload_n hx hb dX12_goesOn_130 rfl (lv_at hl 3 rfl) ?_
                              refine lv_bipush (v := 45) hx hb dX12_goesOn_131 (by decide +kernel) ?_
                              refine dg_calli hS hA1 hA (va_runV (As := [.int 45]) (rest := [.ref (o + 0)]) F (c_m_isSign l g D o S_449 45 sg (((m_449.1 0 3 _ sM_0 (dk_dq rfl)).trans (m_2.1 0 3 _ sM_0 (dk_dq rfl))).trans f_sg) (by omega) va (((m_449.1 0 6 _ sM_0 (dk_dq rfl)).trans (m_2.1 0 6 _ sM_0 (dk_dq rfl))).trans f_va) (by omega) I_449 H.size) (cwV 1 hts (bw_V wB_314 wB_315 wB_316 wB_297 wB_313) rfl rfl rfl (by decide +kernel) ⟨Nat.le_of_ble_eq_true rfl, Nat.le_of_ble_eq_true rfl⟩) (dg_preV sM_0 rfl K ST hP hS hA1 hA) rfl rfl hl.1 rfl (lv_room (Nat.le_of_ble_eq_true rfl)) dX12_goesOn_133 ⟨Nat.le_of_ble_eq_true rfl, Nat.le_of_ble_eq_true rfl⟩) (fun x_509 S_510 hw_510 H locs hP hS => ?_)
                              rw [hw_510.1] at hP
                              obtain ⟨hq_510, w_510_0, w_510_1, -⟩ := hw_510
                              have hz_511 : (45 : Int32).toInt = 45 := by decide +kernel
                              have w_510_0 : 0 ≤ (x_509).toInt ∧ (x_509).toInt ≤ 1 := w_510_0
                              have w_510_1 : (x_509).toInt = 1 ↔ ((sg).toInt = 3 ∧ (va).toInt = ((45 : Int32)).toInt) := w_510_1
                              refine lv_if_eq (tgt := 144) hx hb dX12_goesOn_136 (dk_dq rfl) (fun c_512 => ?_) (fun c_512 => ?_)
                              · have jc_512 := dk_eqc (k := 0) (by decide +kernel) c_512
                                have qw_510_1 : g_s (T_kd tb tn) (T_vl tb tn) 45 (t_ix tb tn (sa : Int32).toNatClampNeg) = false := g_iff_f (TKM.iss (TKM.keep (TKM.keep TK m_2 (dk_dq rfl) (dk_dq rfl) (dk_dq rfl) (dk_dq rfl) (dk_dq rfl) (dk_dq rfl) (dk_dq rfl) (dk_dq rfl)) m_449 (dk_dq rfl) (dk_dq rfl) (dk_dq rfl) (dk_dq rfl) (dk_dq rfl) (dk_dq rfl) (dk_dq rfl) (dk_dq rfl)) (((m_449.1 0 3 _ sM_0 (dk_dq rfl)).trans (m_2.1 0 3 _ sM_0 (dk_dq rfl))).trans f_sg) (((m_449.1 0 4 _ sM_0 (dk_dq rfl)).trans (m_2.1 0 4 _ sM_0 (dk_dq rfl))).trans f_sa) (((m_449.1 0 6 _ sM_0 (dk_dq rfl)).trans (m_2.1 0 6 _ sM_0 (dk_dq rfl))).trans f_va) hk5.out (c := 45) (by have h9 := w_510_1; rw [show (45 : Int32).toInt = 45 from by decide +kernel] at h9; exact h9)) (by omega)
                                have w_510_1_r : (va).toInt ≠ 45 := fun q9 => absurd (w_510_1.mpr ⟨by omega, by omega⟩) (by omega)
                                clear w_510_1
                                omega
                              · have jc_512 := dk_neqc (k := 0) (by decide +kernel) c_512
                                have jbc_512 : 1 ≤ (x_509).toInt := by omega
                                clear jc_512
                                have qw_510_1 : g_s (T_kd tb tn) (T_vl tb tn) 45 (t_ix tb tn (sa : Int32).toNatClampNeg) = true := (TKM.iss (TKM.keep (TKM.keep TK m_2 (dk_dq rfl) (dk_dq rfl) (dk_dq rfl) (dk_dq rfl) (dk_dq rfl) (dk_dq rfl) (dk_dq rfl) (dk_dq rfl)) m_449 (dk_dq rfl) (dk_dq rfl) (dk_dq rfl) (dk_dq rfl) (dk_dq rfl) (dk_dq rfl) (dk_dq rfl) (dk_dq rfl)) (((m_449.1 0 3 _ sM_0 (dk_dq rfl)).trans (m_2.1 0 3 _ sM_0 (dk_dq rfl))).trans f_sg) (((m_449.1 0 4 _ sM_0 (dk_dq rfl)).trans (m_2.1 0 4 _ sM_0 (dk_dq rfl))).trans f_sa) (((m_449.1 0 6 _ sM_0 (dk_dq rfl)).trans (m_2.1 0 6 _ sM_0 (dk_dq rfl))).trans f_va) hk5.out (c := 45) (by have h9 := w_510_1; rw [show (45 : Int32).toInt = 45 from by decide +kernel] at h9; exact h9)).mp (by omega)
                                have w_510_1_r := w_510_1.mp (by omega)
                                obtain ⟨w_510_1_r1, w_510_1_r2⟩ := w_510_1_r
                                clear w_456_1_r
                                clear w_510_1
                                refine lv_bipush (v := 32) hx hb dX12_goesOn_139 (by decide +kernel) ?_
                                refine lv_goto (tgt := 174) hx hb dX12_goesOn_141 (dk_dq rfl) ?_
                                exact J_485   _ _ hP hS _ (lv_sub hl [0, 1, 2, 3] rfl)
                          · have jc_508 := dk_neqc (k := 0) (by decide +kernel) c_508
                            have jbc_508 : 1 ≤ (x_455).toInt := by omega
                            clear jc_508
                            have qw_456_1 : g_s (T_kd tb tn) (T_vl tb tn) 43 (t_ix tb tn (sa : Int32).toNatClampNeg) = true := (TKM.iss (TKM.keep (TKM.keep TK m_2 (dk_dq rfl) (dk_dq rfl) (dk_dq rfl) (dk_dq rfl) (dk_dq rfl) (dk_dq rfl) (dk_dq rfl) (dk_dq rfl)) m_449 (dk_dq rfl) (dk_dq rfl) (dk_dq rfl) (dk_dq rfl) (dk_dq rfl) (dk_dq rfl) (dk_dq rfl) (dk_dq rfl)) (((m_449.1 0 3 _ sM_0 (dk_dq rfl)).trans (m_2.1 0 3 _ sM_0 (dk_dq rfl))).trans f_sg) (((m_449.1 0 4 _ sM_0 (dk_dq rfl)).trans (m_2.1 0 4 _ sM_0 (dk_dq rfl))).trans f_sa) (((m_449.1 0 6 _ sM_0 (dk_dq rfl)).trans (m_2.1 0 6 _ sM_0 (dk_dq rfl))).trans f_va) hk5.out (c := 43) (by have h9 := w_456_1; rw [show (43 : Int32).toInt = 43 from by decide +kernel] at h9; exact h9)).mp (by omega)
                            have w_456_1_r := w_456_1.mp (by omega)
                            obtain ⟨w_456_1_r1, w_456_1_r2⟩ := w_456_1_r
                            clear w_456_1
                            omega
            refine lv_if_ne (tgt := 87) hx hb dX12_goesOn_48 (dk_dq rfl) (fun c_513 => ?_) (fun c_513 => ?_)
            · have jc_513 := dk_neqc (k := 0) (by decide +kernel) c_513
              have jbc_513 : 1 ≤ (x_156).toInt := by omega
              clear jc_513
              have qw_157_1 : g_s (T_kd tb tn) (T_vl tb tn) 43 (t_ix tb tn (sa : Int32).toNatClampNeg) = true := (TKM.iss (TKM.keep TK m_2 (dk_dq rfl) (dk_dq rfl) (dk_dq rfl) (dk_dq rfl) (dk_dq rfl) (dk_dq rfl) (dk_dq rfl) (dk_dq rfl)) ((m_2.1 0 3 _ sM_0 (dk_dq rfl)).trans f_sg) ((m_2.1 0 4 _ sM_0 (dk_dq rfl)).trans f_sa) ((m_2.1 0 6 _ sM_0 (dk_dq rfl)).trans f_va) hk5.out (c := 43) (by have h9 := w_157_1; rw [show (43 : Int32).toInt = 43 from by decide +kernel] at h9; exact h9)).mp (by omega)
              have w_157_1_r := w_157_1.mp (by omega)
              obtain ⟨w_157_1_r1, w_157_1_r2⟩ := w_157_1_r
              clear w_157_1
              have hlx_2r := hlx_2 (by omega)
              clear hlx_2
              exact J_297 ()  (by omega) (by omega) (m_hid.mk (g_so_1 qw_157_1)) _ _ hP hS _ (lv_sub hl [0, 1, 2, 3] rfl)
            · as_aux_lemma =>
                have jc_513 := dk_eqc (k := 0) (by decide +kernel) c_513
                have qw_157_1 : g_s (T_kd tb tn) (T_vl tb tn) 43 (t_ix tb tn (sa : Int32).toNatClampNeg) = false := g_iff_f (TKM.iss (TKM.keep TK m_2 (dk_dq rfl) (dk_dq rfl) (dk_dq rfl) (dk_dq rfl) (dk_dq rfl) (dk_dq rfl) (dk_dq rfl) (dk_dq rfl)) ((m_2.1 0 3 _ sM_0 (dk_dq rfl)).trans f_sg) ((m_2.1 0 4 _ sM_0 (dk_dq rfl)).trans f_sa) ((m_2.1 0 6 _ sM_0 (dk_dq rfl)).trans f_va) hk5.out (c := 43) (by have h9 := w_157_1; rw [show (43 : Int32).toInt = 43 from by decide +kernel] at h9; exact h9)) (by omega)
                clear w_157_1
                refine lv_aload_n hx hb dX12_goesOn_51 rfl (lv_at hl 3 rfl) ?_
                refine lv_bipush (v := 45) hx hb dX12_goesOn_52 (by decide +kernel) ?_
                refine dg_calli hS hA1 hA (va_runV (As := [.int 45]) (rest := []) F (c_m_isSign l g D o S_2 45 sg ((m_2.1 0 3 _ sM_0 (dk_dq rfl)).trans f_sg) (by omega) va ((m_2.1 0 6 _ sM_0 (dk_dq rfl)).trans f_va) (by omega) I_2 H.size) (cwV 1 hts (bw_V wB_314 wB_315 wB_316 wB_297 wB_313) rfl rfl rfl (by decide +kernel) ⟨Nat.le_of_ble_eq_true rfl, Nat.le_of_ble_eq_true rfl⟩) (dg_preV sM_0 rfl K ST hP hS hA1 hA) rfl rfl hl.1 rfl (lv_room (Nat.le_of_ble_eq_true rfl)) dX12_goesOn_54 ⟨Nat.le_of_ble_eq_true rfl, Nat.le_of_ble_eq_true rfl⟩) (fun x_514 S_515 hw_515 H locs hP hS => ?_)
                rw [hw_515.1] at hP
                obtain ⟨hq_515, w_515_0, w_515_1, -⟩ := hw_515
                have hz_516 : (45 : Int32).toInt = 45 := by decide +kernel
                have w_515_0 : 0 ≤ (x_514).toInt ∧ (x_514).toInt ≤ 1 := w_515_0
                have w_515_1 : (x_514).toInt = 1 ↔ ((sg).toInt = 3 ∧ (va).toInt = ((45 : Int32)).toInt) := w_515_1
                refine lv_if_ne (tgt := 87) hx hb dX12_goesOn_57 (dk_dq rfl) (fun c_517 => ?_) (fun c_517 => ?_)
                · have jc_517 := dk_neqc (k := 0) (by decide +kernel) c_517
                  have jbc_517 : 1 ≤ (x_514).toInt := by omega
                  clear jc_517
                  have qw_515_1 : g_s (T_kd tb tn) (T_vl tb tn) 45 (t_ix tb tn (sa : Int32).toNatClampNeg) = true := (TKM.iss (TKM.keep TK m_2 (dk_dq rfl) (dk_dq rfl) (dk_dq rfl) (dk_dq rfl) (dk_dq rfl) (dk_dq rfl) (dk_dq rfl) (dk_dq rfl)) ((m_2.1 0 3 _ sM_0 (dk_dq rfl)).trans f_sg) ((m_2.1 0 4 _ sM_0 (dk_dq rfl)).trans f_sa) ((m_2.1 0 6 _ sM_0 (dk_dq rfl)).trans f_va) hk5.out (c := 45) (by have h9 := w_515_1; rw [show (45 : Int32).toInt = 45 from by decide +kernel] at h9; exact h9)).mp (by omega)
                  have w_515_1_r := w_515_1.mp (by omega)
                  obtain ⟨w_515_1_r1, w_515_1_r2⟩ := w_515_1_r
                  clear w_515_1
                  have hlx_2r := hlx_2 (by omega)
                  clear hlx_2
                  exact J_297 ()  (by omega) (by omega) (m_hid.mk (g_so_2 qw_515_1)) _ _ hP hS _ (lv_sub hl [0, 1, 2, 3] rfl)
                · as_aux_lemma =>
                    have jc_517 := dk_eqc (k := 0) (by decide +kernel) c_517
                    have qw_515_1 : g_s (T_kd tb tn) (T_vl tb tn) 45 (t_ix tb tn (sa : Int32).toNatClampNeg) = false := g_iff_f (TKM.iss (TKM.keep TK m_2 (dk_dq rfl) (dk_dq rfl) (dk_dq rfl) (dk_dq rfl) (dk_dq rfl) (dk_dq rfl) (dk_dq rfl) (dk_dq rfl)) ((m_2.1 0 3 _ sM_0 (dk_dq rfl)).trans f_sg) ((m_2.1 0 4 _ sM_0 (dk_dq rfl)).trans f_sa) ((m_2.1 0 6 _ sM_0 (dk_dq rfl)).trans f_va) hk5.out (c := 45) (by have h9 := w_515_1; rw [show (45 : Int32).toInt = 45 from by decide +kernel] at h9; exact h9)) (by omega)
                    clear w_515_1
                    refine lv_aload_n hx hb dX12_goesOn_60 rfl (lv_at hl 3 rfl) ?_
                    refine lv_bipush (v := 42) hx hb dX12_goesOn_61 (by decide +kernel) ?_
                    refine dg_calli hS hA1 hA (va_runV (As := [.int 42]) (rest := []) F (c_m_isSign l g D o S_2 42 sg ((m_2.1 0 3 _ sM_0 (dk_dq rfl)).trans f_sg) (by omega) va ((m_2.1 0 6 _ sM_0 (dk_dq rfl)).trans f_va) (by omega) I_2 H.size) (cwV 1 hts (bw_V wB_314 wB_315 wB_316 wB_297 wB_313) rfl rfl rfl (by decide +kernel) ⟨Nat.le_of_ble_eq_true rfl, Nat.le_of_ble_eq_true rfl⟩) (dg_preV sM_0 rfl K ST hP hS hA1 hA) rfl rfl hl.1 rfl (lv_room (Nat.le_of_ble_eq_true rfl)) dX12_goesOn_63 ⟨Nat.le_of_ble_eq_true rfl, Nat.le_of_ble_eq_true rfl⟩) (fun x_518 S_519 hw_519 H locs hP hS => ?_)
                    rw [hw_519.1] at hP
                    obtain ⟨hq_519, w_519_0, w_519_1, -⟩ := hw_519
                    have hz_520 : (42 : Int32).toInt = 42 := by decide +kernel
                    have w_519_0 : 0 ≤ (x_518).toInt ∧ (x_518).toInt ≤ 1 := w_519_0
                    have w_519_1 : (x_518).toInt = 1 ↔ ((sg).toInt = 3 ∧ (va).toInt = ((42 : Int32)).toInt) := w_519_1
                    refine lv_if_ne (tgt := 87) hx hb dX12_goesOn_66 (dk_dq rfl) (fun c_521 => ?_) (fun c_521 => ?_)
                    · have jc_521 := dk_neqc (k := 0) (by decide +kernel) c_521
                      have jbc_521 : 1 ≤ (x_518).toInt := by omega
                      clear jc_521
                      have qw_519_1 : g_s (T_kd tb tn) (T_vl tb tn) 42 (t_ix tb tn (sa : Int32).toNatClampNeg) = true := (TKM.iss (TKM.keep TK m_2 (dk_dq rfl) (dk_dq rfl) (dk_dq rfl) (dk_dq rfl) (dk_dq rfl) (dk_dq rfl) (dk_dq rfl) (dk_dq rfl)) ((m_2.1 0 3 _ sM_0 (dk_dq rfl)).trans f_sg) ((m_2.1 0 4 _ sM_0 (dk_dq rfl)).trans f_sa) ((m_2.1 0 6 _ sM_0 (dk_dq rfl)).trans f_va) hk5.out (c := 42) (by have h9 := w_519_1; rw [show (42 : Int32).toInt = 42 from by decide +kernel] at h9; exact h9)).mp (by omega)
                      have w_519_1_r := w_519_1.mp (by omega)
                      obtain ⟨w_519_1_r1, w_519_1_r2⟩ := w_519_1_r
                      clear w_519_1
                      have hlx_2r := hlx_2 (by omega)
                      clear hlx_2
                      exact J_297 ()  (by omega) (by omega) (m_hid.mk (g_po_1 qw_519_1)) _ _ hP hS _ (lv_sub hl [0, 1, 2, 3] rfl)
                    · as_aux_lemma =>
                        have jc_521 := dk_eqc (k := 0) (by decide +kernel) c_521
                        have qw_519_1 : g_s (T_kd tb tn) (T_vl tb tn) 42 (t_ix tb tn (sa : Int32).toNatClampNeg) = false := g_iff_f (TKM.iss (TKM.keep TK m_2 (dk_dq rfl) (dk_dq rfl) (dk_dq rfl) (dk_dq rfl) (dk_dq rfl) (dk_dq rfl) (dk_dq rfl) (dk_dq rfl)) ((m_2.1 0 3 _ sM_0 (dk_dq rfl)).trans f_sg) ((m_2.1 0 4 _ sM_0 (dk_dq rfl)).trans f_sa) ((m_2.1 0 6 _ sM_0 (dk_dq rfl)).trans f_va) hk5.out (c := 42) (by have h9 := w_519_1; rw [show (42 : Int32).toInt = 42 from by decide +kernel] at h9; exact h9)) (by omega)
                        clear w_519_1
                        refine lv_aload_n hx hb dX12_goesOn_69 rfl (lv_at hl 3 rfl) ?_
                        refine lv_bipush (v := 47) hx hb dX12_goesOn_70 (by decide +kernel) ?_
                        refine dg_calli hS hA1 hA (va_runV (As := [.int 47]) (rest := []) F (c_m_isSign l g D o S_2 47 sg ((m_2.1 0 3 _ sM_0 (dk_dq rfl)).trans f_sg) (by omega) va ((m_2.1 0 6 _ sM_0 (dk_dq rfl)).trans f_va) (by omega) I_2 H.size) (cwV 1 hts (bw_V wB_314 wB_315 wB_316 wB_297 wB_313) rfl rfl rfl (by decide +kernel) ⟨Nat.le_of_ble_eq_true rfl, Nat.le_of_ble_eq_true rfl⟩) (dg_preV sM_0 rfl K ST hP hS hA1 hA) rfl rfl hl.1 rfl (lv_room (Nat.le_of_ble_eq_true rfl)) dX12_goesOn_72 ⟨Nat.le_of_ble_eq_true rfl, Nat.le_of_ble_eq_true rfl⟩) (fun x_522 S_523 hw_523 H locs hP hS => ?_)
                        rw [hw_523.1] at hP
                        obtain ⟨hq_523, w_523_0, w_523_1, -⟩ := hw_523
                        have hz_524 : (47 : Int32).toInt = 47 := by decide +kernel
                        have w_523_0 : 0 ≤ (x_522).toInt ∧ (x_522).toInt ≤ 1 := w_523_0
                        have w_523_1 : (x_522).toInt = 1 ↔ ((sg).toInt = 3 ∧ (va).toInt = ((47 : Int32)).toInt) := w_523_1
                        refine lv_if_ne (tgt := 87) hx hb dX12_goesOn_75 (dk_dq rfl) (fun c_525 => ?_) (fun c_525 => ?_)
                        · have jc_525 := dk_neqc (k := 0) (by decide +kernel) c_525
                          have jbc_525 : 1 ≤ (x_522).toInt := by omega
                          clear jc_525
                          have qw_523_1 : g_s (T_kd tb tn) (T_vl tb tn) 47 (t_ix tb tn (sa : Int32).toNatClampNeg) = true := (TKM.iss (TKM.keep TK m_2 (dk_dq rfl) (dk_dq rfl) (dk_dq rfl) (dk_dq rfl) (dk_dq rfl) (dk_dq rfl) (dk_dq rfl) (dk_dq rfl)) ((m_2.1 0 3 _ sM_0 (dk_dq rfl)).trans f_sg) ((m_2.1 0 4 _ sM_0 (dk_dq rfl)).trans f_sa) ((m_2.1 0 6 _ sM_0 (dk_dq rfl)).trans f_va) hk5.out (c := 47) (by have h9 := w_523_1; rw [show (47 : Int32).toInt = 47 from by decide +kernel] at h9; exact h9)).mp (by omega)
                          have w_523_1_r := w_523_1.mp (by omega)
                          obtain ⟨w_523_1_r1, w_523_1_r2⟩ := w_523_1_r
                          clear w_523_1
                          have hlx_2r := hlx_2 (by omega)
                          clear hlx_2
                          exact J_297 ()  (by omega) (by omega) (m_hid.mk (g_po_2 qw_523_1)) _ _ hP hS _ (lv_sub hl [0, 1, 2, 3] rfl)
                        · as_aux_lemma =>
                            have jc_525 := dk_eqc (k := 0) (by decide +kernel) c_525
                            have qw_523_1 : g_s (T_kd tb tn) (T_vl tb tn) 47 (t_ix tb tn (sa : Int32).toNatClampNeg) = false := g_iff_f (TKM.iss (TKM.keep TK m_2 (dk_dq rfl) (dk_dq rfl) (dk_dq rfl) (dk_dq rfl) (dk_dq rfl) (dk_dq rfl) (dk_dq rfl) (dk_dq rfl)) ((m_2.1 0 3 _ sM_0 (dk_dq rfl)).trans f_sg) ((m_2.1 0 4 _ sM_0 (dk_dq rfl)).trans f_sa) ((m_2.1 0 6 _ sM_0 (dk_dq rfl)).trans f_va) hk5.out (c := 47) (by have h9 := w_523_1; rw [show (47 : Int32).toInt = 47 from by decide +kernel] at h9; exact h9)) (by omega)
                            clear w_523_1
                            refine lv_aload_n hx hb dX12_goesOn_78 rfl (lv_at hl 3 rfl) ?_
                            refine lv_bipush (v := 37) hx hb dX12_goesOn_79 (by decide +kernel) ?_
                            refine dg_calli hS hA1 hA (va_runV (As := [.int 37]) (rest := []) F (c_m_isSign l g D o S_2 37 sg ((m_2.1 0 3 _ sM_0 (dk_dq rfl)).trans f_sg) (by omega) va ((m_2.1 0 6 _ sM_0 (dk_dq rfl)).trans f_va) (by omega) I_2 H.size) (cwV 1 hts (bw_V wB_314 wB_315 wB_316 wB_297 wB_313) rfl rfl rfl (by decide +kernel) ⟨Nat.le_of_ble_eq_true rfl, Nat.le_of_ble_eq_true rfl⟩) (dg_preV sM_0 rfl K ST hP hS hA1 hA) rfl rfl hl.1 rfl (lv_room (Nat.le_of_ble_eq_true rfl)) dX12_goesOn_81 ⟨Nat.le_of_ble_eq_true rfl, Nat.le_of_ble_eq_true rfl⟩) (fun x_526 S_527 hw_527 H locs hP hS => ?_)
                            rw [hw_527.1] at hP
                            obtain ⟨hq_527, w_527_0, w_527_1, -⟩ := hw_527
                            have hz_528 : (37 : Int32).toInt = 37 := by decide +kernel
                            have w_527_0 : 0 ≤ (x_526).toInt ∧ (x_526).toInt ≤ 1 := w_527_0
                            have w_527_1 : (x_526).toInt = 1 ↔ ((sg).toInt = 3 ∧ (va).toInt = ((37 : Int32)).toInt) := w_527_1
                            refine lv_if_eq (tgt := 188) hx hb dX12_goesOn_84 (dk_dq rfl) (fun c_529 => ?_) (fun c_529 => ?_)
                            · have jc_529 := dk_eqc (k := 0) (by decide +kernel) c_529
                              have qw_527_1 : g_s (T_kd tb tn) (T_vl tb tn) 37 (t_ix tb tn (sa : Int32).toNatClampNeg) = false := g_iff_f (TKM.iss (TKM.keep TK m_2 (dk_dq rfl) (dk_dq rfl) (dk_dq rfl) (dk_dq rfl) (dk_dq rfl) (dk_dq rfl) (dk_dq rfl) (dk_dq rfl)) ((m_2.1 0 3 _ sM_0 (dk_dq rfl)).trans f_sg) ((m_2.1 0 4 _ sM_0 (dk_dq rfl)).trans f_sa) ((m_2.1 0 6 _ sM_0 (dk_dq rfl)).trans f_va) hk5.out (c := 37) (by have h9 := w_527_1; rw [show (37 : Int32).toInt = 37 from by decide +kernel] at h9; exact h9)) (by omega)
                              clear w_527_1
                              exact J_154 ()  (m_hid.mk (fun _ => ⟨g_so_f qw_157_1 qw_515_1, g_po_f qw_519_1 qw_523_1 qw_527_1⟩)) _ _ hP hS _ (lv_sub hl [0, 1, 2, 3] rfl)
                            · have jc_529 := dk_neqc (k := 0) (by decide +kernel) c_529
                              have jbc_529 : 1 ≤ (x_526).toInt := by omega
                              clear jc_529
                              have qw_527_1 : g_s (T_kd tb tn) (T_vl tb tn) 37 (t_ix tb tn (sa : Int32).toNatClampNeg) = true := (TKM.iss (TKM.keep TK m_2 (dk_dq rfl) (dk_dq rfl) (dk_dq rfl) (dk_dq rfl) (dk_dq rfl) (dk_dq rfl) (dk_dq rfl) (dk_dq rfl)) ((m_2.1 0 3 _ sM_0 (dk_dq rfl)).trans f_sg) ((m_2.1 0 4 _ sM_0 (dk_dq rfl)).trans f_sa) ((m_2.1 0 6 _ sM_0 (dk_dq rfl)).trans f_va) hk5.out (c := 37) (by have h9 := w_527_1; rw [show (37 : Int32).toInt = 37 from by decide +kernel] at h9; exact h9)).mp (by omega)
                              have w_527_1_r := w_527_1.mp (by omega)
                              obtain ⟨w_527_1_r1, w_527_1_r2⟩ := w_527_1_r
                              clear w_527_1
                              have hlx_2r := hlx_2 (by omega)
                              clear hlx_2
                              exact J_297 ()  (by omega) (by omega) (m_hid.mk (g_po_3 qw_527_1)) _ _ hP hS _ (lv_sub hl [0, 1, 2, 3] rfl)
  · have jc_4 := dk_nlec (k := 0) (by decide +kernel) c_4
    refine lv_iconst (v := 0) hx hb dX12_goesOn_11 (by decide +kernel) ?_
    have hz_530 : (0 : Int32).toInt = 0 := by decide +kernel
    have hz_531 : (0 : Int32).toInt = 0 := by decide +kernel
    have hz_532 : (0 : Int32).toInt = 0 := by decide +kernel
    have hz_533 : (0 : Int32).toInt = 0 := by decide +kernel
    have hz_534 : (0 : Int32).toInt = 0 := by decide +kernel
    have hz_535 : (0 : Int32).toInt = 0 := by decide +kernel
    have hz_536 : (0 : Int32).toInt = 0 := by decide +kernel
    refine W.widen (k := 0) (n := 0) (Nat.le_of_ble_eq_true rfl) (Nat.le_of_ble_eq_true rfl) ?_
    rw [hQ9]
    exact dg_iret hx hb hr hlocks (by decide +kernel) hP hS ⟨I_2, M_2, (by decide +kernel), ⟨sg, sa, se, y_3, cd, dp, om, oo, ((m_2.1 0 3 _ sM_0 (dk_dq rfl)).trans f_sg), ((m_2.1 0 4 _ sM_0 (dk_dq rfl)).trans f_sa), ((m_2.1 0 5 _ sM_0 (dk_dq rfl)).trans f_se), f_y_3, ((m_2.1 0 34 _ sM_0 (dk_dq rfl)).trans f_cd), ((m_2.1 0 42 _ sM_0 (dk_dq rfl)).trans f_dp), ((m_2.1 0 45 _ sM_0 (dk_dq rfl)).trans f_om), ((m_2.1 0 46 _ sM_0 (dk_dq rfl)).trans f_oo), ⟨lxh_hlx_2.out, (by omega)⟩⟩, (fun k9 hk9 hk0 => by have q9 := (f_y_3).symm.trans hk9; cases q9; omega), (GOK.no f_sa f_fk f_y_3 (by omega) (fun h0 => GO5 P1 f_dp f_on f_om (by omega))), (GON.no f_y_3 (by omega)), (TKM.keep TK m_2 (dk_dq rfl) (dk_dq rfl) (dk_dq rfl) (dk_dq rfl) (dk_dq rfl) (dk_dq rfl) (dk_dq rfl) (dk_dq rfl)), (ZWM.keep ZW m_2 (dk_dq rfl) (dk_dq rfl) (dk_dq rfl) (dk_dq rfl)), (G8M.keep G8 m_2 (dk_dq rfl) (dk_dq rfl) (dk_dq rfl)), trivial⟩ dX12_goesOn_12
