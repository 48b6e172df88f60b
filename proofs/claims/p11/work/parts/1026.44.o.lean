/-! 44.o.lean.txt -/
theorem dX12_operand_0 : decode cX12_operand 0 = .ok (.aload_n 0, 1) := dk_o42 (by decide +kernel)
theorem dX12_operand_1 : decode cX12_operand 1 = .ok (.invokevirtual 266, 3) := dk_o182 (by decide +kernel)
theorem dX12_operand_4 : decode cX12_operand 4 = .ok (.aload_n 0, 1) := dk_o42 (by decide +kernel)
theorem dX12_operand_5 : decode cX12_operand 5 = .ok (.getfield 36, 3) := dk_o180 (by decide +kernel)
theorem dX12_operand_8 : decode cX12_operand 8 = .ok (.ifCond .le 5, 3) := dk_o158 (by decide +kernel)
theorem dX12_operand_11 : decode cX12_operand 11 = .ok (.iconst 1, 1) := dk_o4 (by decide +kernel)
theorem dX12_operand_12 : decode cX12_operand 12 = .ok (.ireturn, 1) := dk_o172 (by decide +kernel)
theorem dX12_operand_13 : decode cX12_operand 13 = .ok (.aload_n 0, 1) := dk_o42 (by decide +kernel)
theorem dX12_operand_14 : decode cX12_operand 14 = .ok (.getfield 140, 3) := dk_o180 (by decide +kernel)
theorem dX12_operand_17 : decode cX12_operand 17 = .ok (.iconst 1, 1) := dk_o4 (by decide +kernel)
theorem dX12_operand_18 : decode cX12_operand 18 = .ok (.isub, 1) := dk_o100 (by decide +kernel)
theorem dX12_operand_19 : decode cX12_operand 19 = .ok (.istore_n 1, 1) := dk_o60 (by decide +kernel)
theorem dX12_operand_20 : decode cX12_operand 20 = .ok (.aload_n 0, 1) := dk_o42 (by decide +kernel)
theorem dX12_operand_21 : decode cX12_operand 21 = .ok (.getfield 124, 3) := dk_o180 (by decide +kernel)
theorem dX12_operand_24 : decode cX12_operand 24 = .ok (.iload_n 1, 1) := dk_o27 (by decide +kernel)
theorem dX12_operand_25 : decode cX12_operand 25 = .ok (.iaload, 1) := dk_o46 (by decide +kernel)
theorem dX12_operand_26 : decode cX12_operand 26 = .ok (.invokestatic 346, 3) := dk_o184 (by decide +kernel)
theorem dX12_operand_29 : decode cX12_operand 29 = .ok (.ifCond .eq 16, 3) := dk_o153 (by decide +kernel)
theorem dX12_operand_32 : decode cX12_operand 32 = .ok (.aload_n 0, 1) := dk_o42 (by decide +kernel)
theorem dX12_operand_33 : decode cX12_operand 33 = .ok (.getfield 130, 3) := dk_o180 (by decide +kernel)
theorem dX12_operand_36 : decode cX12_operand 36 = .ok (.iload_n 1, 1) := dk_o27 (by decide +kernel)
theorem dX12_operand_37 : decode cX12_operand 37 = .ok (.baload, 1) := dk_o51 (by decide +kernel)
theorem dX12_operand_38 : decode cX12_operand 38 = .ok (.ifCond .eq 7, 3) := dk_o153 (by decide +kernel)
theorem dX12_operand_41 : decode cX12_operand 41 = .ok (.iconst 1, 1) := dk_o4 (by decide +kernel)
theorem dX12_operand_42 : decode cX12_operand 42 = .ok (.goto 4, 3) := dk_o167 (by decide +kernel)
theorem dX12_operand_45 : decode cX12_operand 45 = .ok (.iconst 0, 1) := dk_o3 (by decide +kernel)
theorem dX12_operand_46 : decode cX12_operand 46 = .ok (.istore_n 2, 1) := dk_o61 (by decide +kernel)
theorem dX12_operand_47 : decode cX12_operand 47 = .ok (.iload_n 2, 1) := dk_o28 (by decide +kernel)
theorem dX12_operand_48 : decode cX12_operand 48 = .ok (.ifCond .eq 62, 3) := dk_o153 (by decide +kernel)
theorem dX12_operand_51 : decode cX12_operand 51 = .ok (.aload_n 0, 1) := dk_o42 (by decide +kernel)
theorem dX12_operand_52 : decode cX12_operand 52 = .ok (.ldc2_w 321, 3) := dk_o20 (by decide +kernel)
theorem dX12_operand_55 : decode cX12_operand 55 = .ok (.invokevirtual 349, 3) := dk_o182 (by decide +kernel)
theorem dX12_operand_58 : decode cX12_operand 58 = .ok (.ifCond .eq 52, 3) := dk_o153 (by decide +kernel)
theorem dX12_operand_61 : decode cX12_operand 61 = .ok (.aload_n 0, 1) := dk_o42 (by decide +kernel)
theorem dX12_operand_62 : decode cX12_operand 62 = .ok (.getfield 143, 3) := dk_o180 (by decide +kernel)
theorem dX12_operand_65 : decode cX12_operand 65 = .ok (.bipush 7, 2) := dk_o16 (by decide +kernel)
theorem dX12_operand_67 : decode cX12_operand 67 = .ok (.if_icmp .ne 12, 3) := dk_o160 (by decide +kernel)
theorem dX12_operand_70 : decode cX12_operand 70 = .ok (.aload_n 0, 1) := dk_o42 (by decide +kernel)
theorem dX12_operand_71 : decode cX12_operand 71 = .ok (.iconst 5, 1) := dk_o8 (by decide +kernel)
theorem dX12_operand_72 : decode cX12_operand 72 = .ok (.aload_n 0, 1) := dk_o42 (by decide +kernel)
theorem dX12_operand_73 : decode cX12_operand 73 = .ok (.getfield 23, 3) := dk_o180 (by decide +kernel)
theorem dX12_operand_76 : decode cX12_operand 76 = .ok (.invokevirtual 255, 3) := dk_o182 (by decide +kernel)
theorem dX12_operand_79 : decode cX12_operand 79 = .ok (.aload_n 0, 1) := dk_o42 (by decide +kernel)
theorem dX12_operand_80 : decode cX12_operand 80 = .ok (.getfield 36, 3) := dk_o180 (by decide +kernel)
theorem dX12_operand_83 : decode cX12_operand 83 = .ok (.ifCond .le 5, 3) := dk_o158 (by decide +kernel)
theorem dX12_operand_86 : decode cX12_operand 86 = .ok (.iconst 1, 1) := dk_o4 (by decide +kernel)
theorem dX12_operand_87 : decode cX12_operand 87 = .ok (.ireturn, 1) := dk_o172 (by decide +kernel)
theorem dX12_operand_88 : decode cX12_operand 88 = .ok (.aload_n 0, 1) := dk_o42 (by decide +kernel)
theorem dX12_operand_89 : decode cX12_operand 89 = .ok (.dup, 1) := dk_o89 (by decide +kernel)
theorem dX12_operand_90 : decode cX12_operand 90 = .ok (.getfield 143, 3) := dk_o180 (by decide +kernel)
theorem dX12_operand_93 : decode cX12_operand 93 = .ok (.iconst 1, 1) := dk_o4 (by decide +kernel)
theorem dX12_operand_94 : decode cX12_operand 94 = .ok (.iadd, 1) := dk_o96 (by decide +kernel)
theorem dX12_operand_95 : decode cX12_operand 95 = .ok (.putfield 143, 3) := dk_o181 (by decide +kernel)
theorem dX12_operand_98 : decode cX12_operand 98 = .ok (.aload_n 0, 1) := dk_o42 (by decide +kernel)
theorem dX12_operand_99 : decode cX12_operand 99 = .ok (.bipush 43, 2) := dk_o16 (by decide +kernel)
theorem dX12_operand_101 : decode cX12_operand 101 = .ok (.invokevirtual 353, 3) := dk_o182 (by decide +kernel)
theorem dX12_operand_104 : decode cX12_operand 104 = .ok (.aload_n 0, 1) := dk_o42 (by decide +kernel)
theorem dX12_operand_105 : decode cX12_operand 105 = .ok (.invokevirtual 272, 3) := dk_o182 (by decide +kernel)
theorem dX12_operand_108 : decode cX12_operand 108 = .ok (.iconst 0, 1) := dk_o3 (by decide +kernel)
theorem dX12_operand_109 : decode cX12_operand 109 = .ok (.ireturn, 1) := dk_o172 (by decide +kernel)
theorem dX12_operand_110 : decode cX12_operand 110 = .ok (.aload_n 0, 1) := dk_o42 (by decide +kernel)
theorem dX12_operand_111 : decode cX12_operand 111 = .ok (.getfield 130, 3) := dk_o180 (by decide +kernel)
theorem dX12_operand_114 : decode cX12_operand 114 = .ok (.iload_n 1, 1) := dk_o27 (by decide +kernel)
theorem dX12_operand_115 : decode cX12_operand 115 = .ok (.iconst 0, 1) := dk_o3 (by decide +kernel)
theorem dX12_operand_116 : decode cX12_operand 116 = .ok (.bastore, 1) := dk_o84 (by decide +kernel)
theorem dX12_operand_117 : decode cX12_operand 117 = .ok (.iload_n 2, 1) := dk_o28 (by decide +kernel)
theorem dX12_operand_118 : decode cX12_operand 118 = .ok (.ifCond .eq 19, 3) := dk_o153 (by decide +kernel)
theorem dX12_operand_121 : decode cX12_operand 121 = .ok (.aload_n 0, 1) := dk_o42 (by decide +kernel)
theorem dX12_operand_122 : decode cX12_operand 122 = .ok (.bipush 91, 2) := dk_o16 (by decide +kernel)
theorem dX12_operand_124 : decode cX12_operand 124 = .ok (.invokevirtual 269, 3) := dk_o182 (by decide +kernel)
theorem dX12_operand_127 : decode cX12_operand 127 = .ok (.ifCond .eq 10, 3) := dk_o153 (by decide +kernel)
theorem dX12_operand_130 : decode cX12_operand 130 = .ok (.aload_n 0, 1) := dk_o42 (by decide +kernel)
theorem dX12_operand_131 : decode cX12_operand 131 = .ok (.iconst 5, 1) := dk_o8 (by decide +kernel)
theorem dX12_operand_132 : decode cX12_operand 132 = .ok (.invokevirtual 356, 3) := dk_o182 (by decide +kernel)
theorem dX12_operand_135 : decode cX12_operand 135 = .ok (.iconst 0, 1) := dk_o3 (by decide +kernel)
theorem dX12_operand_136 : decode cX12_operand 136 = .ok (.ireturn, 1) := dk_o172 (by decide +kernel)
theorem dX12_operand_137 : decode cX12_operand 137 = .ok (.iload_n 2, 1) := dk_o28 (by decide +kernel)
theorem dX12_operand_138 : decode cX12_operand 138 = .ok (.ifCond .eq 33, 3) := dk_o153 (by decide +kernel)
theorem dX12_operand_141 : decode cX12_operand 141 = .ok (.aload_n 0, 1) := dk_o42 (by decide +kernel)
theorem dX12_operand_142 : decode cX12_operand 142 = .ok (.ldc2_w 323, 3) := dk_o20 (by decide +kernel)
theorem dX12_operand_145 : decode cX12_operand 145 = .ok (.invokevirtual 349, 3) := dk_o182 (by decide +kernel)
theorem dX12_operand_148 : decode cX12_operand 148 = .ok (.ifCond .eq 23, 3) := dk_o153 (by decide +kernel)
theorem dX12_operand_151 : decode cX12_operand 151 = .ok (.aload_n 0, 1) := dk_o42 (by decide +kernel)
theorem dX12_operand_152 : decode cX12_operand 152 = .ok (.bipush 30, 2) := dk_o16 (by decide +kernel)
theorem dX12_operand_154 : decode cX12_operand 154 = .ok (.iconst 0, 1) := dk_o3 (by decide +kernel)
theorem dX12_operand_155 : decode cX12_operand 155 = .ok (.invokevirtual 340, 3) := dk_o182 (by decide +kernel)
theorem dX12_operand_158 : decode cX12_operand 158 = .ok (.aload_n 0, 1) := dk_o42 (by decide +kernel)
theorem dX12_operand_159 : decode cX12_operand 159 = .ok (.getfield 127, 3) := dk_o180 (by decide +kernel)
theorem dX12_operand_162 : decode cX12_operand 162 = .ok (.iload_n 1, 1) := dk_o27 (by decide +kernel)
theorem dX12_operand_163 : decode cX12_operand 163 = .ok (.iconst 2, 1) := dk_o5 (by decide +kernel)
theorem dX12_operand_164 : decode cX12_operand 164 = .ok (.iastore, 1) := dk_o79 (by decide +kernel)
theorem dX12_operand_165 : decode cX12_operand 165 = .ok (.aload_n 0, 1) := dk_o42 (by decide +kernel)
theorem dX12_operand_166 : decode cX12_operand 166 = .ok (.invokevirtual 272, 3) := dk_o182 (by decide +kernel)
theorem dX12_operand_169 : decode cX12_operand 169 = .ok (.iconst 1, 1) := dk_o4 (by decide +kernel)
theorem dX12_operand_170 : decode cX12_operand 170 = .ok (.ireturn, 1) := dk_o172 (by decide +kernel)
theorem dX12_operand_171 : decode cX12_operand 171 = .ok (.aload_n 0, 1) := dk_o42 (by decide +kernel)
theorem dX12_operand_172 : decode cX12_operand 172 = .ok (.bipush 40, 2) := dk_o16 (by decide +kernel)
theorem dX12_operand_174 : decode cX12_operand 174 = .ok (.invokevirtual 269, 3) := dk_o182 (by decide +kernel)
theorem dX12_operand_177 : decode cX12_operand 177 = .ok (.ifCond .eq 10, 3) := dk_o153 (by decide +kernel)
theorem dX12_operand_180 : decode cX12_operand 180 = .ok (.aload_n 0, 1) := dk_o42 (by decide +kernel)
theorem dX12_operand_181 : decode cX12_operand 181 = .ok (.iconst 2, 1) := dk_o5 (by decide +kernel)
theorem dX12_operand_182 : decode cX12_operand 182 = .ok (.invokevirtual 356, 3) := dk_o182 (by decide +kernel)
theorem dX12_operand_185 : decode cX12_operand 185 = .ok (.iconst 0, 1) := dk_o3 (by decide +kernel)
theorem dX12_operand_186 : decode cX12_operand 186 = .ok (.ireturn, 1) := dk_o172 (by decide +kernel)
theorem dX12_operand_187 : decode cX12_operand 187 = .ok (.aload_n 0, 1) := dk_o42 (by decide +kernel)
theorem dX12_operand_188 : decode cX12_operand 188 = .ok (.ldc2_w 325, 3) := dk_o20 (by decide +kernel)
theorem dX12_operand_191 : decode cX12_operand 191 = .ok (.invokevirtual 349, 3) := dk_o182 (by decide +kernel)
theorem dX12_operand_194 : decode cX12_operand 194 = .ok (.ifCond .ne 23, 3) := dk_o154 (by decide +kernel)
theorem dX12_operand_197 : decode cX12_operand 197 = .ok (.aload_n 0, 1) := dk_o42 (by decide +kernel)
theorem dX12_operand_198 : decode cX12_operand 198 = .ok (.ldc2_w 327, 3) := dk_o20 (by decide +kernel)
theorem dX12_operand_201 : decode cX12_operand 201 = .ok (.invokevirtual 349, 3) := dk_o182 (by decide +kernel)
theorem dX12_operand_204 : decode cX12_operand 204 = .ok (.ifCond .ne 13, 3) := dk_o154 (by decide +kernel)
theorem dX12_operand_207 : decode cX12_operand 207 = .ok (.aload_n 0, 1) := dk_o42 (by decide +kernel)
theorem dX12_operand_208 : decode cX12_operand 208 = .ok (.ldc2_w 315, 3) := dk_o20 (by decide +kernel)
theorem dX12_operand_211 : decode cX12_operand 211 = .ok (.invokevirtual 349, 3) := dk_o182 (by decide +kernel)
theorem dX12_operand_214 : decode cX12_operand 214 = .ok (.ifCond .eq 99, 3) := dk_o153 (by decide +kernel)
theorem dX12_operand_217 : decode cX12_operand 217 = .ok (.aload_n 0, 1) := dk_o42 (by decide +kernel)
theorem dX12_operand_218 : decode cX12_operand 218 = .ok (.ldc2_w 325, 3) := dk_o20 (by decide +kernel)
theorem dX12_operand_221 : decode cX12_operand 221 = .ok (.invokevirtual 349, 3) := dk_o182 (by decide +kernel)
theorem dX12_operand_224 : decode cX12_operand 224 = .ok (.ifCond .eq 8, 3) := dk_o153 (by decide +kernel)
theorem dX12_operand_227 : decode cX12_operand 227 = .ok (.bipush 36, 2) := dk_o16 (by decide +kernel)
theorem dX12_operand_229 : decode cX12_operand 229 = .ok (.goto 20, 3) := dk_o167 (by decide +kernel)
theorem dX12_operand_232 : decode cX12_operand 232 = .ok (.aload_n 0, 1) := dk_o42 (by decide +kernel)
theorem dX12_operand_233 : decode cX12_operand 233 = .ok (.ldc2_w 327, 3) := dk_o20 (by decide +kernel)
theorem dX12_operand_236 : decode cX12_operand 236 = .ok (.invokevirtual 349, 3) := dk_o182 (by decide +kernel)
theorem dX12_operand_239 : decode cX12_operand 239 = .ok (.ifCond .eq 8, 3) := dk_o153 (by decide +kernel)
theorem dX12_operand_242 : decode cX12_operand 242 = .ok (.bipush 37, 2) := dk_o16 (by decide +kernel)
theorem dX12_operand_244 : decode cX12_operand 244 = .ok (.goto 5, 3) := dk_o167 (by decide +kernel)
theorem dX12_operand_247 : decode cX12_operand 247 = .ok (.bipush 44, 2) := dk_o16 (by decide +kernel)
theorem dX12_operand_249 : decode cX12_operand 249 = .ok (.istore_n 3, 1) := dk_o62 (by decide +kernel)
theorem dX12_operand_250 : decode cX12_operand 250 = .ok (.aload_n 0, 1) := dk_o42 (by decide +kernel)
theorem dX12_operand_251 : decode cX12_operand 251 = .ok (.invokevirtual 272, 3) := dk_o182 (by decide +kernel)
theorem dX12_operand_254 : decode cX12_operand 254 = .ok (.aload_n 0, 1) := dk_o42 (by decide +kernel)
theorem dX12_operand_255 : decode cX12_operand 255 = .ok (.invokevirtual 266, 3) := dk_o182 (by decide +kernel)
theorem dX12_operand_258 : decode cX12_operand 258 = .ok (.aload_n 0, 1) := dk_o42 (by decide +kernel)
theorem dX12_operand_259 : decode cX12_operand 259 = .ok (.bipush 40, 2) := dk_o16 (by decide +kernel)
theorem dX12_operand_261 : decode cX12_operand 261 = .ok (.invokevirtual 269, 3) := dk_o182 (by decide +kernel)
theorem dX12_operand_264 : decode cX12_operand 264 = .ok (.ifCond .ne 12, 3) := dk_o154 (by decide +kernel)
theorem dX12_operand_267 : decode cX12_operand 267 = .ok (.aload_n 0, 1) := dk_o42 (by decide +kernel)
theorem dX12_operand_268 : decode cX12_operand 268 = .ok (.iconst 1, 1) := dk_o4 (by decide +kernel)
theorem dX12_operand_269 : decode cX12_operand 269 = .ok (.aload_n 0, 1) := dk_o42 (by decide +kernel)
theorem dX12_operand_270 : decode cX12_operand 270 = .ok (.getfield 23, 3) := dk_o180 (by decide +kernel)
theorem dX12_operand_273 : decode cX12_operand 273 = .ok (.invokevirtual 255, 3) := dk_o182 (by decide +kernel)
theorem dX12_operand_276 : decode cX12_operand 276 = .ok (.aload_n 0, 1) := dk_o42 (by decide +kernel)
theorem dX12_operand_277 : decode cX12_operand 277 = .ok (.iload_n 3, 1) := dk_o29 (by decide +kernel)
theorem dX12_operand_278 : decode cX12_operand 278 = .ok (.bipush 44, 2) := dk_o16 (by decide +kernel)
theorem dX12_operand_280 : decode cX12_operand 280 = .ok (.if_icmp .ne 8, 3) := dk_o160 (by decide +kernel)
theorem dX12_operand_283 : decode cX12_operand 283 = .ok (.bipush 6, 2) := dk_o16 (by decide +kernel)
theorem dX12_operand_285 : decode cX12_operand 285 = .ok (.goto 4, 3) := dk_o167 (by decide +kernel)
theorem dX12_operand_288 : decode cX12_operand 288 = .ok (.iconst 3, 1) := dk_o6 (by decide +kernel)
theorem dX12_operand_289 : decode cX12_operand 289 = .ok (.invokevirtual 356, 3) := dk_o182 (by decide +kernel)
theorem dX12_operand_292 : decode cX12_operand 292 = .ok (.aload_n 0, 1) := dk_o42 (by decide +kernel)
theorem dX12_operand_293 : decode cX12_operand 293 = .ok (.getfield 36, 3) := dk_o180 (by decide +kernel)
theorem dX12_operand_296 : decode cX12_operand 296 = .ok (.ifCond .ne 15, 3) := dk_o154 (by decide +kernel)
theorem dX12_operand_299 : decode cX12_operand 299 = .ok (.aload_n 0, 1) := dk_o42 (by decide +kernel)
theorem dX12_operand_300 : decode cX12_operand 300 = .ok (.getfield 134, 3) := dk_o180 (by decide +kernel)
theorem dX12_operand_303 : decode cX12_operand 303 = .ok (.aload_n 0, 1) := dk_o42 (by decide +kernel)
theorem dX12_operand_304 : decode cX12_operand 304 = .ok (.getfield 140, 3) := dk_o180 (by decide +kernel)
theorem dX12_operand_307 : decode cX12_operand 307 = .ok (.iconst 1, 1) := dk_o4 (by decide +kernel)
theorem dX12_operand_308 : decode cX12_operand 308 = .ok (.isub, 1) := dk_o100 (by decide +kernel)
theorem dX12_operand_309 : decode cX12_operand 309 = .ok (.iload_n 3, 1) := dk_o29 (by decide +kernel)
theorem dX12_operand_310 : decode cX12_operand 310 = .ok (.iastore, 1) := dk_o79 (by decide +kernel)
theorem dX12_operand_311 : decode cX12_operand 311 = .ok (.iconst 0, 1) := dk_o3 (by decide +kernel)
theorem dX12_operand_312 : decode cX12_operand 312 = .ok (.ireturn, 1) := dk_o172 (by decide +kernel)
theorem dX12_operand_313 : decode cX12_operand 313 = .ok (.aload_n 0, 1) := dk_o42 (by decide +kernel)
theorem dX12_operand_314 : decode cX12_operand 314 = .ok (.getfield 20, 3) := dk_o180 (by decide +kernel)
theorem dX12_operand_317 : decode cX12_operand 317 = .ok (.iconst 2, 1) := dk_o5 (by decide +kernel)
theorem dX12_operand_318 : decode cX12_operand 318 = .ok (.if_icmp .ne 7, 3) := dk_o160 (by decide +kernel)
theorem dX12_operand_321 : decode cX12_operand 321 = .ok (.iconst 0, 1) := dk_o3 (by decide +kernel)
theorem dX12_operand_322 : decode cX12_operand 322 = .ok (.goto 89, 3) := dk_o167 (by decide +kernel)
theorem dX12_operand_325 : decode cX12_operand 325 = .ok (.aload_n 0, 1) := dk_o42 (by decide +kernel)
theorem dX12_operand_326 : decode cX12_operand 326 = .ok (.ldc2_w 285, 3) := dk_o20 (by decide +kernel)
theorem dX12_operand_329 : decode cX12_operand 329 = .ok (.invokevirtual 349, 3) := dk_o182 (by decide +kernel)
theorem dX12_operand_332 : decode cX12_operand 332 = .ok (.ifCond .eq 7, 3) := dk_o153 (by decide +kernel)
theorem dX12_operand_335 : decode cX12_operand 335 = .ok (.iconst 1, 1) := dk_o4 (by decide +kernel)
theorem dX12_operand_336 : decode cX12_operand 336 = .ok (.goto 75, 3) := dk_o167 (by decide +kernel)
theorem dX12_operand_339 : decode cX12_operand 339 = .ok (.aload_n 0, 1) := dk_o42 (by decide +kernel)
theorem dX12_operand_340 : decode cX12_operand 340 = .ok (.ldc2_w 305, 3) := dk_o20 (by decide +kernel)
theorem dX12_operand_343 : decode cX12_operand 343 = .ok (.invokevirtual 349, 3) := dk_o182 (by decide +kernel)
theorem dX12_operand_346 : decode cX12_operand 346 = .ok (.ifCond .eq 7, 3) := dk_o153 (by decide +kernel)
theorem dX12_operand_349 : decode cX12_operand 349 = .ok (.iconst 2, 1) := dk_o5 (by decide +kernel)
theorem dX12_operand_350 : decode cX12_operand 350 = .ok (.goto 61, 3) := dk_o167 (by decide +kernel)
theorem dX12_operand_353 : decode cX12_operand 353 = .ok (.aload_n 0, 1) := dk_o42 (by decide +kernel)
theorem dX12_operand_354 : decode cX12_operand 354 = .ok (.ldc2_w 307, 3) := dk_o20 (by decide +kernel)
theorem dX12_operand_357 : decode cX12_operand 357 = .ok (.invokevirtual 349, 3) := dk_o182 (by decide +kernel)
theorem dX12_operand_360 : decode cX12_operand 360 = .ok (.ifCond .eq 7, 3) := dk_o153 (by decide +kernel)
theorem dX12_operand_363 : decode cX12_operand 363 = .ok (.iconst 3, 1) := dk_o6 (by decide +kernel)
theorem dX12_operand_364 : decode cX12_operand 364 = .ok (.goto 47, 3) := dk_o167 (by decide +kernel)
theorem dX12_operand_367 : decode cX12_operand 367 = .ok (.aload_n 0, 1) := dk_o42 (by decide +kernel)
theorem dX12_operand_368 : decode cX12_operand 368 = .ok (.ldc2_w 309, 3) := dk_o20 (by decide +kernel)
theorem dX12_operand_371 : decode cX12_operand 371 = .ok (.invokevirtual 349, 3) := dk_o182 (by decide +kernel)
theorem dX12_operand_374 : decode cX12_operand 374 = .ok (.ifCond .eq 7, 3) := dk_o153 (by decide +kernel)
theorem dX12_operand_377 : decode cX12_operand 377 = .ok (.iconst 4, 1) := dk_o7 (by decide +kernel)
theorem dX12_operand_378 : decode cX12_operand 378 = .ok (.goto 33, 3) := dk_o167 (by decide +kernel)
theorem dX12_operand_381 : decode cX12_operand 381 = .ok (.aload_n 0, 1) := dk_o42 (by decide +kernel)
theorem dX12_operand_382 : decode cX12_operand 382 = .ok (.ldc2_w 311, 3) := dk_o20 (by decide +kernel)
theorem dX12_operand_385 : decode cX12_operand 385 = .ok (.invokevirtual 349, 3) := dk_o182 (by decide +kernel)
theorem dX12_operand_388 : decode cX12_operand 388 = .ok (.ifCond .eq 7, 3) := dk_o153 (by decide +kernel)
theorem dX12_operand_391 : decode cX12_operand 391 = .ok (.iconst 5, 1) := dk_o8 (by decide +kernel)
theorem dX12_operand_392 : decode cX12_operand 392 = .ok (.goto 19, 3) := dk_o167 (by decide +kernel)
theorem dX12_operand_395 : decode cX12_operand 395 = .ok (.aload_n 0, 1) := dk_o42 (by decide +kernel)
theorem dX12_operand_396 : decode cX12_operand 396 = .ok (.ldc2_w 313, 3) := dk_o20 (by decide +kernel)
theorem dX12_operand_399 : decode cX12_operand 399 = .ok (.invokevirtual 349, 3) := dk_o182 (by decide +kernel)
theorem dX12_operand_402 : decode cX12_operand 402 = .ok (.ifCond .eq 8, 3) := dk_o153 (by decide +kernel)
theorem dX12_operand_405 : decode cX12_operand 405 = .ok (.bipush 6, 2) := dk_o16 (by decide +kernel)
theorem dX12_operand_407 : decode cX12_operand 407 = .ok (.goto 4, 3) := dk_o167 (by decide +kernel)
theorem dX12_operand_410 : decode cX12_operand 410 = .ok (.iconst (-1), 1) := dk_o2 (by decide +kernel)
theorem dX12_operand_411 : decode cX12_operand 411 = .ok (.istore_n 3, 1) := dk_o62 (by decide +kernel)
theorem dX12_operand_412 : decode cX12_operand 412 = .ok (.iload_n 3, 1) := dk_o29 (by decide +kernel)
theorem dX12_operand_413 : decode cX12_operand 413 = .ok (.iconst 4, 1) := dk_o7 (by decide +kernel)
theorem dX12_operand_414 : decode cX12_operand 414 = .ok (.if_icmp .lt 30, 3) := dk_o161 (by decide +kernel)
theorem dX12_operand_417 : decode cX12_operand 417 = .ok (.iload_n 3, 1) := dk_o29 (by decide +kernel)
theorem dX12_operand_418 : decode cX12_operand 418 = .ok (.iconst 4, 1) := dk_o7 (by decide +kernel)
theorem dX12_operand_419 : decode cX12_operand 419 = .ok (.if_icmp .ne 7, 3) := dk_o160 (by decide +kernel)
theorem dX12_operand_422 : decode cX12_operand 422 = .ok (.iconst 1, 1) := dk_o4 (by decide +kernel)
theorem dX12_operand_423 : decode cX12_operand 423 = .ok (.goto 4, 3) := dk_o167 (by decide +kernel)
theorem dX12_operand_426 : decode cX12_operand 426 = .ok (.iconst 0, 1) := dk_o3 (by decide +kernel)
theorem dX12_operand_427 : decode cX12_operand 427 = .ok (.aload_n 0, 1) := dk_o42 (by decide +kernel)
theorem dX12_operand_428 : decode cX12_operand 428 = .ok (.getfield 121, 3) := dk_o180 (by decide +kernel)
theorem dX12_operand_431 : decode cX12_operand 431 = .ok (.ifCond .ne 7, 3) := dk_o154 (by decide +kernel)
theorem dX12_operand_434 : decode cX12_operand 434 = .ok (.iconst 1, 1) := dk_o4 (by decide +kernel)
theorem dX12_operand_435 : decode cX12_operand 435 = .ok (.goto 4, 3) := dk_o167 (by decide +kernel)
theorem dX12_operand_438 : decode cX12_operand 438 = .ok (.iconst 0, 1) := dk_o3 (by decide +kernel)
theorem dX12_operand_439 : decode cX12_operand 439 = .ok (.if_icmp .eq 5, 3) := dk_o159 (by decide +kernel)
theorem dX12_operand_442 : decode cX12_operand 442 = .ok (.iconst (-1), 1) := dk_o2 (by decide +kernel)
theorem dX12_operand_443 : decode cX12_operand 443 = .ok (.istore_n 3, 1) := dk_o62 (by decide +kernel)
theorem dX12_operand_444 : decode cX12_operand 444 = .ok (.iload_n 3, 1) := dk_o29 (by decide +kernel)
theorem dX12_operand_445 : decode cX12_operand 445 = .ok (.iconst (-1), 1) := dk_o2 (by decide +kernel)
theorem dX12_operand_446 : decode cX12_operand 446 = .ok (.if_icmp .ne 12, 3) := dk_o160 (by decide +kernel)
theorem dX12_operand_449 : decode cX12_operand 449 = .ok (.aload_n 0, 1) := dk_o42 (by decide +kernel)
theorem dX12_operand_450 : decode cX12_operand 450 = .ok (.iconst 1, 1) := dk_o4 (by decide +kernel)
theorem dX12_operand_451 : decode cX12_operand 451 = .ok (.aload_n 0, 1) := dk_o42 (by decide +kernel)
theorem dX12_operand_452 : decode cX12_operand 452 = .ok (.getfield 23, 3) := dk_o180 (by decide +kernel)
theorem dX12_operand_455 : decode cX12_operand 455 = .ok (.invokevirtual 255, 3) := dk_o182 (by decide +kernel)
theorem dX12_operand_458 : decode cX12_operand 458 = .ok (.aload_n 0, 1) := dk_o42 (by decide +kernel)
theorem dX12_operand_459 : decode cX12_operand 459 = .ok (.getfield 36, 3) := dk_o180 (by decide +kernel)
theorem dX12_operand_462 : decode cX12_operand 462 = .ok (.ifCond .le 5, 3) := dk_o158 (by decide +kernel)
theorem dX12_operand_465 : decode cX12_operand 465 = .ok (.iconst 1, 1) := dk_o4 (by decide +kernel)
theorem dX12_operand_466 : decode cX12_operand 466 = .ok (.ireturn, 1) := dk_o172 (by decide +kernel)
theorem dX12_operand_467 : decode cX12_operand 467 = .ok (.aload_n 0, 1) := dk_o42 (by decide +kernel)
theorem dX12_operand_468 : decode cX12_operand 468 = .ok (.iload_n 3, 1) := dk_o29 (by decide +kernel)
theorem dX12_operand_469 : decode cX12_operand 469 = .ok (.aload_n 0, 1) := dk_o42 (by decide +kernel)
theorem dX12_operand_470 : decode cX12_operand 470 = .ok (.getfield 29, 3) := dk_o180 (by decide +kernel)
theorem dX12_operand_473 : decode cX12_operand 473 = .ok (.invokevirtual 340, 3) := dk_o182 (by decide +kernel)
theorem dX12_operand_476 : decode cX12_operand 476 = .ok (.aload_n 0, 1) := dk_o42 (by decide +kernel)
theorem dX12_operand_477 : decode cX12_operand 477 = .ok (.invokevirtual 272, 3) := dk_o182 (by decide +kernel)
theorem dX12_operand_480 : decode cX12_operand 480 = .ok (.iconst 1, 1) := dk_o4 (by decide +kernel)
theorem dX12_operand_481 : decode cX12_operand 481 = .ok (.ireturn, 1) := dk_o172 (by decide +kernel)
theorem wB_423 : Cond.code yX12_isTest cX12_isTest 1 (some .boolean) ∈ dgB := List.mem_filter.mpr ⟨tbl_8 _ (List.mem_of_getElem? (i := 79) rfl), rfl⟩
theorem wB_424 : Cond.methodLink RX12 346 yX12_isTest ∈ dgB := List.mem_filter.mpr ⟨tbl_8 _ (List.mem_of_getElem? (i := 77) (by decide +kernel)), by decide +kernel⟩
theorem wB_425 : Cond.static yX12_isTest ∈ dgB := List.mem_filter.mpr ⟨tbl_8 _ (List.mem_of_getElem? (i := 78) (by decide +kernel)), by decide +kernel⟩
theorem wB_426 : Cond.code yX12_holdsBack cX12_holdsBack 2 none ∈ dgB := List.mem_filter.mpr ⟨tbl_8 _ (List.mem_of_getElem? (i := 83) rfl), rfl⟩
theorem wB_427 : Cond.methodLink RX12 353 yX12_holdsBack ∈ dgB := List.mem_filter.mpr ⟨tbl_8 _ (List.mem_of_getElem? (i := 80) (by decide +kernel)), by decide +kernel⟩
theorem wB_428 : Cond.instanceMethod yX12_holdsBack ∈ dgB := List.mem_filter.mpr ⟨tbl_8 _ (List.mem_of_getElem? (i := 82) (by decide +kernel)), by decide +kernel⟩
theorem wB_429 : Cond.selects RX12 yX12_holdsBack yX12_holdsBack ∈ dgB := List.mem_filter.mpr ⟨List.mem_of_getElem? (i := 109) (by decide +kernel), by decide +kernel⟩
theorem wB_430 : Cond.code yX12_frames cX12_frames 2 none ∈ dgB := List.mem_filter.mpr ⟨tbl_8 _ (List.mem_of_getElem? (i := 87) rfl), rfl⟩
theorem wB_431 : Cond.methodLink RX12 356 yX12_frames ∈ dgB := List.mem_filter.mpr ⟨tbl_8 _ (List.mem_of_getElem? (i := 84) (by decide +kernel)), by decide +kernel⟩
theorem wB_432 : Cond.instanceMethod yX12_frames ∈ dgB := List.mem_filter.mpr ⟨tbl_8 _ (List.mem_of_getElem? (i := 86) (by decide +kernel)), by decide +kernel⟩
theorem wB_433 : Cond.selects RX12 yX12_frames yX12_frames ∈ dgB := List.mem_filter.mpr ⟨List.mem_of_getElem? (i := 110) (by decide +kernel), by decide +kernel⟩
theorem wB_434 : Cond.fieldLink RX12 121 "DarkMineModel" "law" "I" ∈ dgB := List.mem_filter.mpr ⟨tbl_6 _ (List.mem_of_getElem? (i := 199) (by decide +kernel)), by decide +kernel⟩
theorem wB_435 : Cond.fieldLink RX12 134 "DarkMineModel" "pair" "[I" ∈ dgB := List.mem_filter.mpr ⟨tbl_6 _ (List.mem_of_getElem? (i := 203) (by decide +kernel)), by decide +kernel⟩
set_option maxHeartbeats 8000000 in
set_option maxRecDepth 100000 in
theorem c_m_operand (l : Launch) (g : Nat → ClassId) (D : va_G) (o : Nat) (S : dg_S) (tb : Nat → Int32) (tn : Nat) (S0 : dg_S) (sg : Int32) (f_sg : S.1 0 3 = .int sg) (b_sg : 0 ≤ (sg).toInt ∧ (sg).toInt ≤ 3) (sa : Int32) (f_sa : S.1 0 4 = .int sa) (b_sa : 0 ≤ (sa).toInt ∧ (sa).toInt ≤ 1600) (se : Int32) (f_se : S.1 0 5 = .int se) (b_se : 0 ≤ (se).toInt ∧ (se).toInt ≤ 1600) (sl : Int32) (f_sl : S.1 0 2 = .int sl) (b_sl : 0 ≤ (sl).toInt ∧ (sl).toInt ≤ 1600) (va : Int32) (f_va : S.1 0 6 = .int va) (b_va : 0 ≤ (va).toInt ∧ (va).toInt ≤ 9999) (cd : Int32) (f_cd : S.1 0 34 = .int cd) (b_cd : 0 ≤ (cd).toInt ∧ (cd).toInt ≤ 1600) (dp : Int32) (f_dp : S.1 0 42 = .int dp) (b_dp : 0 ≤ (dp).toInt ∧ (dp).toInt ≤ 20) (on : Int32) (f_on : S.1 0 43 = .int on) (om : Int32) (f_om : S.1 0 45 = .int om) (b_om : 0 ≤ (om).toInt ∧ (om).toInt ≤ 500) (fk : Int32) (f_fk : S.1 0 8 = .int fk) (b_fk : 0 ≤ (fk).toInt ∧ (fk).toInt ≤ 6) (lw : Int32) (f_lw : S.1 0 36 = .int lw) (b_lw : 0 ≤ (lw).toInt ∧ (lw).toInt ≤ 2) (hlx : (sa).toInt ≤ (se).toInt ∧ (se).toInt ≤ (sl).toInt ∧ ((sg).toInt ≠ 0 → (sa).toInt + 1 ≤ (se).toInt)) (hro : (cd).toInt + (om).toInt + (dp).toInt ≤ (sa).toInt) (TK : TKM tb tn S) (ZW : ZWM S) (ZK : ZKM S) (P0 : P0M S) (G8 : G8M S0 S) (I : CM o S) (sz : Nat) : Met l yX12_operand (bw yX12_operand cX12_operand 4 (some .boolean)) ({ frames := 4, cells := 0, slots := 0, locals := 98 } : Room) (dk_Pc g D (dg_w g shM o rfM S) sz [.ref (o + 0)]) (va_Qi (fun (r : Int32) S' => CM o S' ∧ dg_sm shM [(0, 3), (0, 4), (0, 5), (0, 6), (0, 7), (0, 8), (0, 9), (0, 12), (0, 34), (0, 42), (0, 43), (0, 45)] [18, 19, 22, 23, 24, 25, 26, 27] S S' ∧ (0 ≤ (r).toInt ∧ (r).toInt ≤ 1) ∧ (∃ y9_3 y9_4 y9_5 y9_8 y9_34 y9_42 y9_45 : Int32, S'.1 0 3 = .int y9_3 ∧ S'.1 0 4 = .int y9_4 ∧ S'.1 0 5 = .int y9_5 ∧ S'.1 0 8 = .int y9_8 ∧ S'.1 0 34 = .int y9_34 ∧ S'.1 0 42 = .int y9_42 ∧ S'.1 0 45 = .int y9_45 ∧ (((y9_4).toInt ≤ (y9_5).toInt ∧ (y9_5).toInt ≤ (sl).toInt ∧ ((y9_3).toInt ≠ 0 → (y9_4).toInt + 1 ≤ (y9_5).toInt)) ∧ (sa).toInt ≤ (y9_4).toInt ∧ ((fk).toInt ≠ 0 → (y9_8).toInt ≠ 0) ∧ (((y9_8).toInt = 0 → (sa).toInt + 1 ≤ (y9_4).toInt) ∧ ((y9_8).toInt = 0 → (y9_34).toInt + (y9_45).toInt + (y9_42).toInt ≤ (y9_4).toInt)))) ∧ (∀ k9 : Int32, S'.1 0 8 = .int k9 → k9.toInt = 0 → ((r).toInt = 1 → P1M S') ∧ ((r).toInt = 0 → P0M S')) ∧ (OPK tb tn (lw).toInt S S' r) ∧ (OPN tb tn (lw).toInt S S' r) ∧ TKM tb tn S' ∧ ZWM S' ∧ G8M S0 S' ∧ True) (dg_B g D shM o rfM) (dg_A o shM.length sz)) 0 0 (dg_A o shM.length sz) := by
  refine dg_met (cc := cX12_operand) (maxL := 4) (ret := (some .boolean)) (dk_dq rfl) rfl (Nat.le_of_ble_eq_true rfl) ?_
  intro p e s m args below meth c A hAe harg hx hb hr hml hts hown hlocks hin hP K hS hA1 hA ST hsz ls hl
  rw [← hAe]
  have F : CallFix p m c cX12_operand 4 s args (bw yX12_operand cX12_operand 4 (some .boolean)) RX12 := ⟨hx, hb, hml, hown, hts⟩
  have hl : lv_has ls 4 [(0, .ref (o + 0))] := hl
  have M_0 : dg_sm shM [(0, 3), (0, 4), (0, 5), (0, 6), (0, 7), (0, 8), (0, 9), (0, 12), (0, 34), (0, 42), (0, 43), (0, 45)] [18, 19, 22, 23, 24, 25, 26, 27] S S := dg_sm.rf
  obtain ⟨Q9, hQ9⟩ : ∃ Q : State → Prop, Q = MQ below (va_Qi (fun (r : Int32) S' => CM o S' ∧ dg_sm shM [(0, 3), (0, 4), (0, 5), (0, 6), (0, 7), (0, 8), (0, 9), (0, 12), (0, 34), (0, 42), (0, 43), (0, 45)] [18, 19, 22, 23, 24, 25, 26, 27] S S' ∧ (0 ≤ (r).toInt ∧ (r).toInt ≤ 1) ∧ (∃ y9_3 y9_4 y9_5 y9_8 y9_34 y9_42 y9_45 : Int32, S'.1 0 3 = .int y9_3 ∧ S'.1 0 4 = .int y9_4 ∧ S'.1 0 5 = .int y9_5 ∧ S'.1 0 8 = .int y9_8 ∧ S'.1 0 34 = .int y9_34 ∧ S'.1 0 42 = .int y9_42 ∧ S'.1 0 45 = .int y9_45 ∧ (((y9_4).toInt ≤ (y9_5).toInt ∧ (y9_5).toInt ≤ (sl).toInt ∧ ((y9_3).toInt ≠ 0 → (y9_4).toInt + 1 ≤ (y9_5).toInt)) ∧ (sa).toInt ≤ (y9_4).toInt ∧ ((fk).toInt ≠ 0 → (y9_8).toInt ≠ 0) ∧ (((y9_8).toInt = 0 → (sa).toInt + 1 ≤ (y9_4).toInt) ∧ ((y9_8).toInt = 0 → (y9_34).toInt + (y9_45).toInt + (y9_42).toInt ≤ (y9_4).toInt)))) ∧ (∀ k9 : Int32, S'.1 0 8 = .int k9 → k9.toInt = 0 → ((r).toInt = 1 → P1M S') ∧ ((r).toInt = 0 → P0M S')) ∧ (OPK tb tn (lw).toInt S S' r) ∧ (OPN tb tn (lw).toInt S S' r) ∧ TKM tb tn S' ∧ ZWM S' ∧ G8M S0 S' ∧ True) (dg_B g D shM o rfM) A) args s 0 0 A := ⟨_, rfl⟩
  rw [← hQ9]
  obtain ⟨hlx_0, hlx_1, hlx_2⟩ := hlx
  have hdm_0 := PSM.dims P0 f_dp f_on f_om
  refine lv_aload_n hx hb dX12_operand_0 rfl (lv_at hl 0 rfl) ?_
  refine dg_callv hS hA1 hA (va_runV (As := []) (rest := []) F (c_m_lex l g D o S tb tn fk f_fk (by omega) sa f_sa (by omega) TK I s.heap.size) (cwV 0 hts (bw_V wB_310 wB_311 wB_312 wB_297 wB_309) rfl rfl rfl (by decide +kernel) ⟨Nat.le_of_ble_eq_true rfl, Nat.le_of_ble_eq_true rfl⟩) (dg_preV sM_0 rfl K ST hP hS hA1 hA) rfl rfl hl.1 rfl (lv_room (Nat.le_of_ble_eq_true rfl)) dX12_operand_1 ⟨Nat.le_of_ble_eq_true rfl, Nat.le_of_ble_eq_true rfl⟩) (fun S_2 hw_2 H locs hP hS => ?_)
  obtain ⟨I_2, m_2, w_2_0, -⟩ := hw_2
  have M_2 := dg_sm.tr M_0 m_2 (dk_dq rfl) (dk_dq rfl)
  obtain ⟨y_3, f_y_3, w_2_0⟩ := w_2_0
  have w_2_0 : ((fk).toInt ≠ 0 → (y_3).toInt = (fk).toInt) ∧ ((fk).toInt = 0 → ((y_3).toInt = 0 ↔ (T_kd tb tn (t_ix tb tn (sa : Int32).toNatClampNeg)).toInt ≠ 5)) := w_2_0
  obtain ⟨w_2_0_0, w_2_0_1⟩ := w_2_0
  have b_y_3 : 0 ≤ (y_3).toInt ∧ (y_3).toInt ≤ 6 := dg_I.intb (lo := 0) (hi := 6) I_2 sM_0 (by decide +kernel) f_y_3
  refine lv_aload_n hx hb dX12_operand_4 rfl (lv_at hl 0 rfl) ?_
  refine dg_get (C := RX12) (T := TX12) (N := 77) hx hb hts (fun w h => bw_mem (wU_X12 w h)) hown K hP sM_0 rfl 8 (dk_dq rfl) (hts _ (bw_mem wB_303)) (fun _ h9 => h9) (v := .int y_3) f_y_3 dX12_operand_5 ?_
  refine lv_if_le (tgt := 13) hx hb dX12_operand_8 (dk_dq rfl) (fun c_4 => ?_) (fun c_4 => ?_)
  · as_aux_lemma =>
      have jc_4 := dk_lec (k := 0) (by decide +kernel) c_4
      have w_2_0_0c : (fk).toInt = 0 := by omega
      clear w_2_0_0
      have w_2_0_1r := w_2_0_1 (by omega)
      clear w_2_0_1
      have hk5 := m_hid.mk (show (T_kd tb tn (t_ix tb tn (sa : Int32).toNatClampNeg)).toInt ≠ 5 from by omega)
      clear w_2_0_1r
      refine lv_aload_n hx hb dX12_operand_13 rfl (lv_at hl 0 rfl) ?_
      refine dg_get (C := RX12) (T := TX12) (N := 77) hx hb hts (fun w h => bw_mem (wU_X12 w h)) hown K hP sM_0 rfl 42 (dk_dq rfl) (hts _ (bw_mem wB_406)) (fun _ h9 => h9) (v := .int dp) ((m_2.1 0 42 _ sM_0 (dk_dq rfl)).trans f_dp) dX12_operand_14 ?_
      refine lv_iconst (v := 1) hx hb dX12_operand_17 (by decide +kernel) ?_
      refine lv_isub hx hb dX12_operand_18 ?_
      refine lv_topi (fun x_5 ex_5 => ?_)
      have jx_5 : (x_5).toInt = (dp).toInt - 1 := by rw [ex_5]; exact dk_subT2 rfl (by decide +kernel) (by omega)
      refine lv_istore_n (lv' := [(1, .int x_5), (0, .ref (o + 0))]) hx hb dX12_operand_19 rfl hl (dk_dq rfl) rfl (fun ls hl => ?_)
      refine lv_aload_n hx hb dX12_operand_20 rfl (lv_at hl 1 rfl) ?_
      refine dg_get (C := RX12) (T := TX12) (N := 77) hx hb hts (fun w h => bw_mem (wU_X12 w h)) hown K hP sM_0 rfl 37 (dk_dq rfl) (hts _ (bw_mem wB_416)) (fun _ h9 => h9) (v := .ref (o + 22)) (show S_2.1 0 37 = .ref (o + 22) from dg_I.rel (d := 22) I_2 sM_0 (by decide +kernel)) dX12_operand_21 ?_
      refine lv_iload_n hx hb dX12_operand_24 rfl (lv_at hl 0 rfl) ?_
      have hin_6 : vp_in x_5 20 := (dk_inv2 (by omega))
      refine dg_iald hx hb K hP sM_22 hin_6 dX12_operand_25 (fun x_7 ex_7 => ?_)
      have b_x_7 := dk_all_at (dg_I.row (lo := 0) (hi := 6) I_2 sM_22 (by decide +kernel)) hin_6 ex_7
      refine dg_calli hS hA1 hA (va_runS (As := [.int x_7]) (rest := []) F (c_m_isTest l g D o S_2 x_7 I_2 H.size) (va_cwS 1 hts (bw_S wB_424 wB_425 wB_297 wB_423) rfl rfl rfl (by decide +kernel) ⟨Nat.le_of_ble_eq_true rfl, Nat.le_of_ble_eq_true rfl⟩) (dg_preS K ST hP hS hA1 hA) rfl rfl hl.1 rfl (lv_room (Nat.le_of_ble_eq_true rfl)) dX12_operand_26 ⟨Nat.le_of_ble_eq_true rfl, Nat.le_of_ble_eq_true rfl⟩) (fun x_8 S_9 hw_9 H locs hP hS => ?_)
      rw [hw_9.1] at hP
      obtain ⟨hq_9, w_9_0, w_9_1, -⟩ := hw_9
      have w_9_0 : 0 ≤ (x_8).toInt ∧ (x_8).toInt ≤ 1 := w_9_0
      have w_9_1 : (x_8).toInt = 1 ↔ ((x_7).toInt = 1 ∨ (x_7).toInt = 5 ∨ (x_7).toInt = 6) := w_9_1
      have J_404 : ∀ (x_14 : Int32), (0 ≤ (x_14).toInt ∧ (x_14).toInt ≤ 1) → ((x_14 : Int32).toInt = 1 → (((x_7).toInt = 1 ∨ (x_7).toInt = 5 ∨ (x_7).toInt = 6) ∧ (S_2.2.1 24 (x_5 : Int32).toNatClampNeg).toInt = 1)) → (m_hid ((x_14 : Int32).toInt ≠ 1 → ¬ (((x_7).toInt = 1 ∨ (x_7).toInt = 5 ∨ (x_7).toInt = 6) ∧ (S_2.2.1 24 (x_5 : Int32).toNatClampNeg).toInt = 1))) → ∀ (H : Heap) (locs : List Loc), va_P D vwCl (dg_w g shM o rfM S_2) H → va_S A s.heap H locs → ∀ ls : Array Slot, lv_has ls 4 [(1, .int x_5), (0, .ref (o + 0))] → W p l e ({ frames := 4, cells := 0, slots := 0, locals := 98 } : Room) s m args below meth c H locs 0 0 Q9 (F0 m 46 ls [.int x_14]) := by
        as_aux_lemma =>
          intro x_14 b_x_14 rel_0 rel_1 H locs hP hS ls hl
          clear w_9_1
          obtain ⟨x_405, f_x_405⟩ : ∃ x, S_2.2.1 23 (x_5 : Int32).toNatClampNeg = x := ⟨_, rfl⟩
          have hin_406 : vp_in (x_5 : Int32) 20 := (dk_inv2 (by omega))
          have b_x_405 := dk_all_at (dg_I.row (lo := 0) (hi := 2) I_2 sM_23 (by decide +kernel)) hin_406 f_x_405.symm
          obtain ⟨nt0, R0, TF0⟩ := TFM.start (P0M.keep P0 m_2 (dk_dq rfl) (dk_dq rfl) (dk_dq rfl) (dk_dq rfl) (dk_dq rfl) (dk_dq rfl) (dk_dq rfl) (dk_dq rfl) (dk_dq rfl) (dk_dq rfl) (dk_dq rfl) (dk_dq rfl) (dk_dq rfl) (dk_dq rfl) (dk_dq rfl)) ((m_2.1 0 42 _ sM_0 (dk_dq rfl)).trans f_dp) ((m_2.1 0 43 _ sM_0 (dk_dq rfl)).trans f_on) ((m_2.1 0 45 _ sM_0 (dk_dq rfl)).trans f_om) (fx := x_5) (by omega) ex_7.symm f_x_405
          obtain ⟨bg0, hbg0⟩ : ∃ b, b = decide ((S_2.2.1 24 (x_5 : Int32).toNatClampNeg).toInt = 1) := ⟨_, rfl⟩
          rw [← hbg0] at TF0
          have hM0 : MSv S (t_ix tb tn (sa : Int32).toNatClampNeg) false = (0, ((x_7).toInt, (x_405).toInt, bg0, nt0) :: R0, (on).toNatClampNeg, (t_ix tb tn (sa : Int32).toNatClampNeg), false) := (MSv.keep m_2 (dk_dq rfl) (dk_dq rfl) (dk_dq rfl) (dk_dq rfl) (dk_dq rfl) (dk_dq rfl) (dk_dq rfl) (dk_dq rfl)).trans TF0.ms
          have hft : (x_14).toInt = 1 → m_tst (x_7).toInt = true ∧ bg0 = true := fun q9 => ⟨m_tst_iff.mpr (by have h9 := rel_0; omega), by rw [hbg0, decide_eq_true_eq]; have h9 := rel_0; omega⟩
          have hff : (x_14).toInt ≠ 1 → (m_tst (x_7).toInt && bg0) = false := fun q9 => by by_cases q8 : (x_7).toInt = 1 ∨ (x_7).toInt = 5 ∨ (x_7).toInt = 6; have h9 := rel_1.out q9; rw [hbg0, show decide ((S_2.2.1 24 (x_5 : Int32).toNatClampNeg).toInt = 1) = false from decide_eq_false (fun q7 => h9 ⟨q8, q7⟩), Bool.and_false]; rw [m_tst_f q8]; rfl
          replace hft := m_hid.mk hft
          replace hff := m_hid.mk hff
          obtain ⟨l0, p0, X0, XF0⟩ := XFM.start TF0 ((m_2.1 0 42 _ sM_0 (dk_dq rfl)).trans f_dp) ((m_2.1 0 43 _ sM_0 (dk_dq rfl)).trans f_on) ((m_2.1 0 45 _ sM_0 (dk_dq rfl)).trans f_om)
          have hcn0 : m_hid (n_cn l0 = nt0) := m_hid.mk (XFM.cn XF0 TF0 ((m_2.1 0 42 _ sM_0 (dk_dq rfl)).trans f_dp) ((m_2.1 0 43 _ sM_0 (dk_dq rfl)).trans f_on) ((m_2.1 0 45 _ sM_0 (dk_dq rfl)).trans f_om))
          have hN0 : ∀ out, NSv S (t_ix tb tn (sa : Int32).toNatClampNeg) false out = (0, ((x_7).toInt, (x_405).toInt, bg0, l0, n_np (x_7).toInt p0) :: n_Z R0 X0, (on).toNatClampNeg, (t_ix tb tn (sa : Int32).toNatClampNeg), false, out) := fun out => (NSv.keep m_2 (dk_dq rfl) (dk_dq rfl) (dk_dq rfl) (dk_dq rfl) (dk_dq rfl) (dk_dq rfl) (dk_dq rfl) (dk_dq rfl) (dk_dq rfl)).trans (NSv.ms TF0 XF0)
          refine lv_istore_n (lv' := [(2, .int x_14), (1, .int x_5), (0, .ref (o + 0))]) hx hb dX12_operand_46 rfl hl (dk_dq rfl) rfl (fun ls hl => ?_)
          refine lv_iload_n hx hb dX12_operand_47 rfl (lv_at hl 0 rfl) ?_
          have J_794 : ∀ (u9 : Unit), (m_hid ((x_14).toInt = 1 → g_o (T_kd tb tn) (T_vl tb tn) 23 (t_ix tb tn (sa : Int32).toNatClampNeg) = false)) → ∀ (H : Heap) (locs : List Loc), va_P D vwCl (dg_w g shM o rfM S_2) H → va_S A s.heap H locs → ∀ ls : Array Slot, lv_has ls 4 [(2, .int x_14), (1, .int x_5), (0, .ref (o + 0))] → W p l e ({ frames := 4, cells := 0, slots := 0, locals := 98 } : Room) s m args below meth c H locs 0 0 Q9 (F0 m 110 ls []) := by
            as_aux_lemma =>
              intro u9 rel_0 H locs hP hS ls hl
              have h110 := rel_0
              refine lv_aload_n hx hb dX12_operand_110 rfl (lv_at hl 2 rfl) ?_
              refine dg_get (C := RX12) (T := TX12) (N := 77) hx hb hts (fun w h => bw_mem (wU_X12 w h)) hown K hP sM_0 rfl 39 (dk_dq rfl) (hts _ (bw_mem wB_418)) (fun _ h9 => h9) (v := .ref (o + 24)) (show S_2.1 0 39 = .ref (o + 24) from dg_I.rel (d := 24) I_2 sM_0 (by decide +kernel)) dX12_operand_111 ?_
              refine lv_iload_n hx hb dX12_operand_114 rfl (lv_at hl 1 rfl) ?_
              refine lv_iconst (v := 0) hx hb dX12_operand_115 (by decide +kernel) ?_
              have hin_795 : vp_in x_5 20 := (dk_inv2 (by omega))
              have hz_797 : (0 : Int32).toInt = 0 := by decide +kernel
              refine dg_zast hx hb K hP hS hA1 sM_24 hin_795 (by decide +kernel) dX12_operand_116 (fun S_796 e_796 H locs hP hS => ?_)
              have I_796 := dg_I.ufu (lo := 0) (hi := 1) I_2 e_796 sM_24 (by decide +kernel) (show 0 ≤ ((0 : Int32)).toInt ∧ ((0 : Int32)).toInt ≤ 1 from (by decide +kernel))
              have M_796 := dg_sm.uf M_2 e_796 sM_24 (dk_dq rfl)
              have hz_798 : (0 : Int32).toInt = 0 := by decide +kernel
              have PB_796 : PBM S_796 := P0M.bg0 (P0M.keep P0 m_2 (dk_dq rfl) (dk_dq rfl) (dk_dq rfl) (dk_dq rfl) (dk_dq rfl) (dk_dq rfl) (dk_dq rfl) (dk_dq rfl) (dk_dq rfl) (dk_dq rfl) (dk_dq rfl) (dk_dq rfl) (dk_dq rfl) (dk_dq rfl) (dk_dq rfl)) ((m_2.1 0 42 _ sM_0 (dk_dq rfl)).trans f_dp) (by omega) (by omega) (by omega) e_796
              have hz_799 : (0 : Int32).toInt = 0 := by decide +kernel
              have TF_796 : TFM (x_7).toInt (x_405).toInt false nt0 R0 (on).toNatClampNeg S_796 := (by have h9 := (TFM.bg' TF0 ((m_2.1 0 42 _ sM_0 (dk_dq rfl)).trans f_dp) ((m_2.1 0 43 _ sM_0 (dk_dq rfl)).trans f_on) ((m_2.1 0 45 _ sM_0 (dk_dq rfl)).trans f_om) (fx := x_5) (by omega) (by omega) e_796); rw [show decide ((0 : Int32).toInt = 1) = false from by decide +kernel] at h9; exact h9)
              refine lv_iload_n hx hb dX12_operand_117 rfl (lv_at hl 0 rfl) ?_
              have J_1144 : ∀ (u9 : Unit), (m_hid ((x_14).toInt = 1 → g_o (T_kd tb tn) (T_vl tb tn) 23 (t_ix tb tn (sa : Int32).toNatClampNeg) = false ∧ g_s (T_kd tb tn) (T_vl tb tn) 91 (t_ix tb tn (sa : Int32).toNatClampNeg) = false)) → ∀ (H : Heap) (locs : List Loc), va_P D vwCl (dg_w g shM o rfM S_796) H → va_S A s.heap H locs → ∀ ls : Array Slot, lv_has ls 4 [(2, .int x_14), (1, .int x_5), (0, .ref (o + 0))] → W p l e ({ frames := 4, cells := 0, slots := 0, locals := 98 } : Room) s m args below meth c H locs 0 0 Q9 (F0 m 137 ls []) := by
                as_aux_lemma =>
                  intro u9 rel_0 H locs hP hS ls hl
                  have h137 := rel_0
                  refine lv_iload_n hx hb dX12_operand_137 rfl (lv_at hl 0 rfl) ?_
                  have J_1467 : ∀ (u9 : Unit), (m_hid (m_fst (T_kd tb tn) (T_vl tb tn) (x_7).toInt bg0 (t_ix tb tn (sa : Int32).toNatClampNeg) = false)) → ∀ (H : Heap) (locs : List Loc), va_P D vwCl (dg_w g shM o rfM S_796) H → va_S A s.heap H locs → ∀ ls : Array Slot, lv_has ls 4 [(2, .int x_14), (1, .int x_5), (0, .ref (o + 0))] → W p l e ({ frames := 4, cells := 0, slots := 0, locals := 98 } : Room) s m args below meth c H locs 0 0 Q9 (F0 m 171 ls []) := by
                    as_aux_lemma =>
                      intro u9 rel_0 H locs hP hS ls hl
                      have h171 := rel_0
                      refine lv_aload_n hx hb dX12_operand_171 rfl (lv_at hl 2 rfl) ?_
                      refine lv_bipush (v := 40) hx hb dX12_operand_172 (by decide +kernel) ?_
                      refine dg_calli hS hA1 hA (va_runV (As := [.int 40]) (rest := []) F (c_m_isSign l g D o S_796 40 sg (((dg_uf_F e_796 0 3).trans (m_2.1 0 3 _ sM_0 (dk_dq rfl))).trans f_sg) (by omega) va (((dg_uf_F e_796 0 6).trans (m_2.1 0 6 _ sM_0 (dk_dq rfl))).trans f_va) (by omega) I_796 H.size) (cwV 1 hts (bw_V wB_314 wB_315 wB_316 wB_297 wB_313) rfl rfl rfl (by decide +kernel) ⟨Nat.le_of_ble_eq_true rfl, Nat.le_of_ble_eq_true rfl⟩) (dg_preV sM_0 rfl K ST hP hS hA1 hA) rfl rfl hl.1 rfl (lv_room (Nat.le_of_ble_eq_true rfl)) dX12_operand_174 ⟨Nat.le_of_ble_eq_true rfl, Nat.le_of_ble_eq_true rfl⟩) (fun x_1468 S_1469 hw_1469 H locs hP hS => ?_)
                      rw [hw_1469.1] at hP
                      obtain ⟨hq_1469, w_1469_0, w_1469_1, -⟩ := hw_1469
                      have hz_1470 : (40 : Int32).toInt = 40 := by decide +kernel
                      have w_1469_0 : 0 ≤ (x_1468).toInt ∧ (x_1468).toInt ≤ 1 := w_1469_0
                      have w_1469_1 : (x_1468).toInt = 1 ↔ ((sg).toInt = 3 ∧ (va).toInt = ((40 : Int32)).toInt) := w_1469_1
                      refine lv_if_eq (tgt := 187) hx hb dX12_operand_177 (dk_dq rfl) (fun c_1471 => ?_) (fun c_1471 => ?_)
                      · as_aux_lemma =>
                          have jc_1471 := dk_eqc (k := 0) (by decide +kernel) c_1471
                          have qw_1469_1 : g_s (T_kd tb tn) (T_vl tb tn) 40 (t_ix tb tn (sa : Int32).toNatClampNeg) = false := g_iff_f (TKM.iss (TKM.keep (TKM.keep TK m_2 (dk_dq rfl) (dk_dq rfl) (dk_dq rfl) (dk_dq rfl) (dk_dq rfl) (dk_dq rfl) (dk_dq rfl) (dk_dq rfl)) (dg_sm.uf (WF := []) (WA := [24]) dg_sm.rf e_796 sM_24 (dk_dq rfl)) (dk_dq rfl) (dk_dq rfl) (dk_dq rfl) (dk_dq rfl) (dk_dq rfl) (dk_dq rfl) (dk_dq rfl) (dk_dq rfl)) (((dg_uf_F e_796 0 3).trans (m_2.1 0 3 _ sM_0 (dk_dq rfl))).trans f_sg) (((dg_uf_F e_796 0 4).trans (m_2.1 0 4 _ sM_0 (dk_dq rfl))).trans f_sa) (((dg_uf_F e_796 0 6).trans (m_2.1 0 6 _ sM_0 (dk_dq rfl))).trans f_va) hk5.out (c := 40) (by have h9 := w_1469_1; rw [show (40 : Int32).toInt = 40 from by decide +kernel] at h9; exact h9)) (by omega)
                          clear w_1469_1
                          have h187 := m_hid.mk qw_1469_1
                          refine lv_aload_n hx hb dX12_operand_187 rfl (lv_at hl 2 rfl) ?_
                          refine lv_ldc2 hx hb hown (hts _ (bw_mem wB_350)) dX12_operand_188 ?_
                          refine dg_calli hS hA1 hA (va_runV (As := [.long 7170414]) (rest := []) F (c_m_isWord l g D o S_796 7170414 sg (((dg_uf_F e_796 0 3).trans (m_2.1 0 3 _ sM_0 (dk_dq rfl))).trans f_sg) (by omega) I_796 H.size) (cwV 1 hts (bw_V wB_322 wB_323 wB_324 wB_297 wB_321) rfl rfl rfl (by decide +kernel) ⟨Nat.le_of_ble_eq_true rfl, Nat.le_of_ble_eq_true rfl⟩) (dg_preV sM_0 rfl K ST hP hS hA1 hA) rfl rfl hl.1 rfl (lv_room (Nat.le_of_ble_eq_true rfl)) dX12_operand_191 ⟨Nat.le_of_ble_eq_true rfl, Nat.le_of_ble_eq_true rfl⟩) (fun x_1472 S_1473 hw_1473 H locs hP hS => ?_)
                          rw [hw_1473.1] at hP
                          obtain ⟨hq_1473, w_1473_0, w_1473_1, -⟩ := hw_1473
                          try rw [hq_1473] at w_1473_1
                          have w_1473_0 : 0 ≤ (x_1472).toInt ∧ (x_1472).toInt ≤ 1 := w_1473_0
                          replace w_1473_1 : ∀ w9 : Int64, S_796.1 0 7 = .long w9 → ((x_1472).toInt = 1 ↔ ((sg).toInt = 1 ∧ w9.toInt = ((7170414 : Int64)).toInt)) := w_1473_1
                          have J_1743 : ∀ (u9 : Unit), ((sg).toInt = 1) → (m_hid (g_o (T_kd tb tn) (T_vl tb tn) 25 (t_ix tb tn (sa : Int32).toNatClampNeg) = true ∨ g_o (T_kd tb tn) (T_vl tb tn) 26 (t_ix tb tn (sa : Int32).toNatClampNeg) = true ∨ g_o (T_kd tb tn) (T_vl tb tn) 20 (t_ix tb tn (sa : Int32).toNatClampNeg) = true)) → ∀ (H : Heap) (locs : List Loc), va_P D vwCl (dg_w g shM o rfM S_796) H → va_S A s.heap H locs → ∀ ls : Array Slot, lv_has ls 4 [(2, .int x_14), (1, .int x_5), (0, .ref (o + 0))] → W p l e ({ frames := 4, cells := 0, slots := 0, locals := 98 } : Room) s m args below meth c H locs 0 0 Q9 (F0 m 217 ls []) := by
                            as_aux_lemma =>
                              intro u9 rel_0 rel_1 H locs hP hS ls hl
                              clear w_1473_1
                              have h217 := rel_1
                              refine lv_aload_n hx hb dX12_operand_217 rfl (lv_at hl 2 rfl) ?_
                              refine lv_ldc2 hx hb hown (hts _ (bw_mem wB_350)) dX12_operand_218 ?_
                              refine dg_calli hS hA1 hA (va_runV (As := [.long 7170414]) (rest := []) F (c_m_isWord l g D o S_796 7170414 sg (((dg_uf_F e_796 0 3).trans (m_2.1 0 3 _ sM_0 (dk_dq rfl))).trans f_sg) (by omega) I_796 H.size) (cwV 1 hts (bw_V wB_322 wB_323 wB_324 wB_297 wB_321) rfl rfl rfl (by decide +kernel) ⟨Nat.le_of_ble_eq_true rfl, Nat.le_of_ble_eq_true rfl⟩) (dg_preV sM_0 rfl K ST hP hS hA1 hA) rfl rfl hl.1 rfl (lv_room (Nat.le_of_ble_eq_true rfl)) dX12_operand_221 ⟨Nat.le_of_ble_eq_true rfl, Nat.le_of_ble_eq_true rfl⟩) (fun x_1744 S_1745 hw_1745 H locs hP hS => ?_)
                              rw [hw_1745.1] at hP
                              obtain ⟨hq_1745, w_1745_0, w_1745_1, -⟩ := hw_1745
                              try rw [hq_1745] at w_1745_1
                              have w_1745_0 : 0 ≤ (x_1744).toInt ∧ (x_1744).toInt ≤ 1 := w_1745_0
                              replace w_1745_1 : ∀ w9 : Int64, S_796.1 0 7 = .long w9 → ((x_1744).toInt = 1 ↔ ((sg).toInt = 1 ∧ w9.toInt = ((7170414 : Int64)).toInt)) := w_1745_1
                              have J_1888 : ∀ (x_1752 : Int32), (36 ≤ (x_1752).toInt ∧ (x_1752).toInt ≤ 44) → ((x_1752 : Int32).toInt = 36 ∨ (x_1752 : Int32).toInt = 37 ∨ (x_1752 : Int32).toInt = 44) → (m_hid (((x_1752 : Int32).toInt = 44 → g_o (T_kd tb tn) (T_vl tb tn) 20 (t_ix tb tn (sa : Int32).toNatClampNeg) = true) ∧ ((x_1752 : Int32).toInt ≠ 44 → g_o (T_kd tb tn) (T_vl tb tn) 25 (t_ix tb tn (sa : Int32).toNatClampNeg) = true ∨ g_o (T_kd tb tn) (T_vl tb tn) 26 (t_ix tb tn (sa : Int32).toNatClampNeg) = true))) → (m_hid (((x_1752 : Int32).toInt = 36 → g_o (T_kd tb tn) (T_vl tb tn) 25 (t_ix tb tn (sa : Int32).toNatClampNeg) = true) ∧ ((x_1752 : Int32).toInt = 37 → g_o (T_kd tb tn) (T_vl tb tn) 26 (t_ix tb tn (sa : Int32).toNatClampNeg) = true))) → ∀ (H : Heap) (locs : List Loc), va_P D vwCl (dg_w g shM o rfM S_796) H → va_S A s.heap H locs → ∀ ls : Array Slot, lv_has ls 4 [(2, .int x_14), (1, .int x_5), (0, .ref (o + 0))] → W p l e ({ frames := 4, cells := 0, slots := 0, locals := 98 } : Room) s m args below meth c H locs 0 0 Q9 (F0 m 249 ls [.int x_1752]) := by
                                as_aux_lemma =>
                                  intro x_1752 b_x_1752 rel_0 rel_1 rel_2 H locs hP hS ls hl
                                  clear w_1745_1
                                  have h249p := rel_2
                                  have h249 := rel_1
                                  refine lv_istore_n (lv' := [(3, .int x_1752), (2, .int x_14), (1, .int x_5), (0, .ref (o + 0))]) hx hb dX12_operand_249 rfl hl (dk_dq rfl) rfl (fun ls hl => ?_)
                                  refine lv_aload_n hx hb dX12_operand_250 rfl (lv_at hl 3 rfl) ?_
                                  refine dg_callv hS hA1 hA (va_runV (As := []) (rest := []) F (c_m_ahead l g D o S_796 tb tn se (((dg_uf_F e_796 0 5).trans (m_2.1 0 5 _ sM_0 (dk_dq rfl))).trans f_se) (by omega) sl (((dg_uf_F e_796 0 2).trans (m_2.1 0 2 _ sM_0 (dk_dq rfl))).trans f_sl) (by omega) (by omega) (TKM.keep (TKM.keep TK m_2 (dk_dq rfl) (dk_dq rfl) (dk_dq rfl) (dk_dq rfl) (dk_dq rfl) (dk_dq rfl) (dk_dq rfl) (dk_dq rfl)) (dg_sm.uf (WF := []) (WA := [24]) dg_sm.rf e_796 sM_24 (dk_dq rfl)) (dk_dq rfl) (dk_dq rfl) (dk_dq rfl) (dk_dq rfl) (dk_dq rfl) (dk_dq rfl) (dk_dq rfl) (dk_dq rfl)).1 I_796 H.size) (cwV 0 hts (bw_V wB_318 wB_319 wB_320 wB_297 wB_317) rfl rfl rfl (by decide +kernel) ⟨Nat.le_of_ble_eq_true rfl, Nat.le_of_ble_eq_true rfl⟩) (dg_preV sM_0 rfl K ST hP hS hA1 hA) rfl rfl hl.1 rfl (lv_room (Nat.le_of_ble_eq_true rfl)) dX12_operand_251 ⟨Nat.le_of_ble_eq_true rfl, Nat.le_of_ble_eq_true rfl⟩) (fun S_1889 hw_1889 H locs hP hS => ?_)
                                  obtain ⟨I_1889, m_1889, w_1889_0, w_1889_1, -⟩ := hw_1889
                                  have M_1889 := dg_sm.tr M_796 m_1889 (dk_dq rfl) (dk_dq rfl)
                                  obtain ⟨y_1890, y_1891, y_1892, f_y_1890, f_y_1891, f_y_1892, w_1889_0⟩ := w_1889_0
                                  have w_1889_0 : (se).toInt ≤ (y_1891).toInt ∧ (y_1891).toInt ≤ (y_1892).toInt ∧ (y_1892).toInt ≤ (sl).toInt ∧ ((y_1890).toInt ≠ 0 → (y_1891).toInt + 1 ≤ (y_1892).toInt) := w_1889_0
                                  obtain ⟨w_1889_0_0, w_1889_0_1, w_1889_0_2, w_1889_0_3⟩ := w_1889_0
                                  have b_y_1890 : 0 ≤ (y_1890).toInt ∧ (y_1890).toInt ≤ 3 := dg_I.intb (lo := 0) (hi := 3) I_1889 sM_0 (by decide +kernel) f_y_1890
                                  have b_y_1891 : 0 ≤ (y_1891).toInt ∧ (y_1891).toInt ≤ 1600 := dg_I.intb (lo := 0) (hi := 1600) I_1889 sM_0 (by decide +kernel) f_y_1891
                                  have b_y_1892 : 0 ≤ (y_1892).toInt ∧ (y_1892).toInt ≤ 1600 := dg_I.intb (lo := 0) (hi := 1600) I_1889 sM_0 (by decide +kernel) f_y_1892
                                  replace w_1889_1 : TNX tb tn se S_1889 := w_1889_1
                                  obtain ⟨TK_1889, nx_1889, -⟩ := TKM.nx (TKM.keep (TKM.keep TK m_2 (dk_dq rfl) (dk_dq rfl) (dk_dq rfl) (dk_dq rfl) (dk_dq rfl) (dk_dq rfl) (dk_dq rfl) (dk_dq rfl)) (dg_sm.uf (WF := []) (WA := [24]) dg_sm.rf e_796 sM_24 (dk_dq rfl)) (dk_dq rfl) (dk_dq rfl) (dk_dq rfl) (dk_dq rfl) (dk_dq rfl) (dk_dq rfl) (dk_dq rfl) (dk_dq rfl)) (((dg_uf_F e_796 0 4).trans (m_2.1 0 4 _ sM_0 (dk_dq rfl))).trans f_sa) (((dg_uf_F e_796 0 5).trans (m_2.1 0 5 _ sM_0 (dk_dq rfl))).trans f_se) w_1889_1 m_1889 (dk_dq rfl) (dk_dq rfl) f_y_1891
                                  replace nx_1889 := nx_1889 (fun q9 => absurd ((TKM.zero (TKM.keep (TKM.keep TK m_2 (dk_dq rfl) (dk_dq rfl) (dk_dq rfl) (dk_dq rfl) (dk_dq rfl) (dk_dq rfl) (dk_dq rfl) (dk_dq rfl)) (dg_sm.uf (WF := []) (WA := [24]) dg_sm.rf e_796 sM_24 (dk_dq rfl)) (dk_dq rfl) (dk_dq rfl) (dk_dq rfl) (dk_dq rfl) (dk_dq rfl) (dk_dq rfl) (dk_dq rfl) (dk_dq rfl)) (((dg_uf_F e_796 0 3).trans (m_2.1 0 3 _ sM_0 (dk_dq rfl))).trans f_sg) (((dg_uf_F e_796 0 4).trans (m_2.1 0 4 _ sM_0 (dk_dq rfl))).trans f_sa)).mpr q9) (by omega))
                                  refine lv_aload_n hx hb dX12_operand_254 rfl (lv_at hl 3 rfl) ?_
                                  refine dg_callv hS hA1 hA (va_runV (As := []) (rest := []) F (c_m_lex l g D o S_1889 tb tn y_3 (((m_1889.1 0 8 _ sM_0 (dk_dq rfl)).trans (dg_uf_F e_796 0 8)).trans f_y_3) (by omega) y_1891 f_y_1891 (by omega) TK_1889 I_1889 H.size) (cwV 0 hts (bw_V wB_310 wB_311 wB_312 wB_297 wB_309) rfl rfl rfl (by decide +kernel) ⟨Nat.le_of_ble_eq_true rfl, Nat.le_of_ble_eq_true rfl⟩) (dg_preV sM_0 rfl K ST hP hS hA1 hA) rfl rfl hl.1 rfl (lv_room (Nat.le_of_ble_eq_true rfl)) dX12_operand_255 ⟨Nat.le_of_ble_eq_true rfl, Nat.le_of_ble_eq_true rfl⟩) (fun S_1893 hw_1893 H locs hP hS => ?_)
                                  obtain ⟨I_1893, m_1893, w_1893_0, -⟩ := hw_1893
                                  have M_1893 := dg_sm.tr M_1889 m_1893 (dk_dq rfl) (dk_dq rfl)
                                  obtain ⟨y_1894, f_y_1894, w_1893_0⟩ := w_1893_0
                                  have w_1893_0 : ((y_3).toInt ≠ 0 → (y_1894).toInt = (y_3).toInt) ∧ ((y_3).toInt = 0 → ((y_1894).toInt = 0 ↔ (T_kd tb tn (t_ix tb tn (y_1891 : Int32).toNatClampNeg)).toInt ≠ 5)) := w_1893_0
                                  obtain ⟨w_1893_0_0, w_1893_0_1⟩ := w_1893_0
                                  clear w_1893_0_0
                                  have w_1893_0_1r := w_1893_0_1 (by omega)
                                  clear w_1893_0_1
                                  have b_y_1894 : 0 ≤ (y_1894).toInt ∧ (y_1894).toInt ≤ 6 := dg_I.intb (lo := 0) (hi := 6) I_1893 sM_0 (by decide +kernel) f_y_1894
                                  refine lv_aload_n hx hb dX12_operand_258 rfl (lv_at hl 3 rfl) ?_
                                  refine lv_bipush (v := 40) hx hb dX12_operand_259 (by decide +kernel) ?_
                                  obtain ⟨x_1895, f_x_1895, b_x_1895⟩ := dg_I.int (i := 0) (k := 6) (lo := 0) (hi := 9999) I_1893 sM_0 (by decide +kernel)
                                  refine dg_calli hS hA1 hA (va_runV (As := [.int 40]) (rest := []) F (c_m_isSign l g D o S_1893 40 y_1890 ((m_1893.1 0 3 _ sM_0 (dk_dq rfl)).trans f_y_1890) (by omega) x_1895 f_x_1895 (by omega) I_1893 H.size) (cwV 1 hts (bw_V wB_314 wB_315 wB_316 wB_297 wB_313) rfl rfl rfl (by decide +kernel) ⟨Nat.le_of_ble_eq_true rfl, Nat.le_of_ble_eq_true rfl⟩) (dg_preV sM_0 rfl K ST hP hS hA1 hA) rfl rfl hl.1 rfl (lv_room (Nat.le_of_ble_eq_true rfl)) dX12_operand_261 ⟨Nat.le_of_ble_eq_true rfl, Nat.le_of_ble_eq_true rfl⟩) (fun x_1896 S_1897 hw_1897 H locs hP hS => ?_)
                                  rw [hw_1897.1] at hP
                                  obtain ⟨hq_1897, w_1897_0, w_1897_1, -⟩ := hw_1897
                                  have hz_1898 : (40 : Int32).toInt = 40 := by decide +kernel
                                  have w_1897_0 : 0 ≤ (x_1896).toInt ∧ (x_1896).toInt ≤ 1 := w_1897_0
                                  have w_1897_1 : (x_1896).toInt = 1 ↔ ((y_1890).toInt = 3 ∧ (x_1895).toInt = ((40 : Int32)).toInt) := w_1897_1
                                  refine lv_if_ne (tgt := 276) hx hb dX12_operand_264 (dk_dq rfl) (fun c_1899 => ?_) (fun c_1899 => ?_)
                                  · as_aux_lemma =>
                                      have jc_1899 := dk_neqc (k := 0) (by decide +kernel) c_1899
                                      have jbc_1899 : 1 ≤ (x_1896).toInt := by omega
                                      clear jc_1899
                                      have qw_1897_1 : m_hid ((T_kd tb tn (t_ix tb tn (y_1891 : Int32).toNatClampNeg)).toInt ≠ 5 → g_s (T_kd tb tn) (T_vl tb tn) 40 (t_ix tb tn (y_1891 : Int32).toNatClampNeg) = true) := m_hid.mk (fun h5 => (TKM.iss (TKM.keep TK_1889 m_1893 (dk_dq rfl) (dk_dq rfl) (dk_dq rfl) (dk_dq rfl) (dk_dq rfl) (dk_dq rfl) (dk_dq rfl) (dk_dq rfl)) ((m_1893.1 0 3 _ sM_0 (dk_dq rfl)).trans f_y_1890) ((m_1893.1 0 4 _ sM_0 (dk_dq rfl)).trans f_y_1891) f_x_1895 h5 (c := 40) (by have h9 := w_1897_1; rw [show (40 : Int32).toInt = 40 from by decide +kernel] at h9; exact h9)).mp (by omega))
                                      have w_1897_1_r := w_1897_1.mp (by omega)
                                      obtain ⟨w_1897_1_r1, w_1897_1_r2⟩ := w_1897_1_r
                                      clear w_1897_1
                                      have w_1889_0_3r := w_1889_0_3 (by omega)
                                      clear w_1889_0_3
                                      refine lv_aload_n hx hb dX12_operand_276 rfl (lv_at hl 3 rfl) ?_
                                      refine lv_iload_n hx hb dX12_operand_277 rfl (lv_at hl 0 rfl) ?_
                                      refine lv_bipush (v := 44) hx hb dX12_operand_278 (by decide +kernel) ?_
                                      refine lv_icmp_ne (tgt := 288) hx hb dX12_operand_280 (dk_dq rfl) (fun c_1900 => ?_) (fun c_1900 => ?_)
                                      · as_aux_lemma =>
                                          have jc_1900 := dk_neqc (k := 44) (by decide +kernel) c_1900
                                          have jtc_1900 : (x_1752).toInt ≤ 43 := by omega
                                          clear jc_1900
                                          refine lv_iconst (v := 3) hx hb dX12_operand_288 (by decide +kernel) ?_
                                          have hz_1901 : (3 : Int32).toInt = 3 := by decide +kernel
                                          refine dg_callv hS hA1 hA (va_runV (As := [.int 3]) (rest := []) F (c_m_frames l g D o S_1893 3 (by decide +kernel) tb tn y_1890 ((m_1893.1 0 3 _ sM_0 (dk_dq rfl)).trans f_y_1890) (by omega) y_1891 ((m_1893.1 0 4 _ sM_0 (dk_dq rfl)).trans f_y_1891) (by omega) y_1892 ((m_1893.1 0 5 _ sM_0 (dk_dq rfl)).trans f_y_1892) (by omega) sl (((m_1893.1 0 2 _ sM_0 (dk_dq rfl)).trans ((m_1889.1 0 2 _ sM_0 (dk_dq rfl)).trans ((dg_uf_F e_796 0 2).trans (m_2.1 0 2 _ sM_0 (dk_dq rfl))))).trans f_sl) (by omega) y_1894 f_y_1894 (by omega) dp (((m_1893.1 0 42 _ sM_0 (dk_dq rfl)).trans ((m_1889.1 0 42 _ sM_0 (dk_dq rfl)).trans ((dg_uf_F e_796 0 42).trans (m_2.1 0 42 _ sM_0 (dk_dq rfl))))).trans f_dp) (by omega) om (((m_1893.1 0 45 _ sM_0 (dk_dq rfl)).trans ((m_1889.1 0 45 _ sM_0 (dk_dq rfl)).trans ((dg_uf_F e_796 0 45).trans (m_2.1 0 45 _ sM_0 (dk_dq rfl))))).trans f_om) (by omega) on (((m_1893.1 0 43 _ sM_0 (dk_dq rfl)).trans ((m_1889.1 0 43 _ sM_0 (dk_dq rfl)).trans ((dg_uf_F e_796 0 43).trans (m_2.1 0 43 _ sM_0 (dk_dq rfl))))).trans f_on) (by omega) (by omega) (by omega) (TKM.keep TK_1889 m_1893 (dk_dq rfl) (dk_dq rfl) (dk_dq rfl) (dk_dq rfl) (dk_dq rfl) (dk_dq rfl) (dk_dq rfl) (dk_dq rfl)) I_1893 H.size) (cwV 1 hts (bw_V wB_431 wB_432 wB_433 wB_297 wB_430) rfl rfl rfl (by decide +kernel) ⟨Nat.le_of_ble_eq_true rfl, Nat.le_of_ble_eq_true rfl⟩) (dg_preV sM_0 rfl K ST hP hS hA1 hA) rfl rfl hl.1 rfl (lv_room (Nat.le_of_ble_eq_true rfl)) dX12_operand_289 ⟨Nat.le_of_ble_eq_true rfl, Nat.le_of_ble_eq_true rfl⟩) (fun S_1902 hw_1902 H locs hP hS => ?_)
                                          obtain ⟨I_1902, m_1902, w_1902_0, w_1902_1, w_1902_2, -⟩ := hw_1902
                                          have M_1902 := dg_sm.tr M_1893 m_1902 (dk_dq rfl) (dk_dq rfl)
                                          have hz_1903 : (3 : Int32).toInt = 3 := by decide +kernel
                                          obtain ⟨y_1904, y_1905, y_1906, y_1907, y_1908, f_y_1904, f_y_1905, f_y_1906, f_y_1907, f_y_1908, w_1902_0⟩ := w_1902_0
                                          have w_1902_0 : (((y_1905).toInt ≤ (y_1906).toInt ∧ (y_1906).toInt ≤ (sl).toInt ∧ ((y_1904).toInt ≠ 0 → (y_1905).toInt + 1 ≤ (y_1906).toInt)) ∧ (y_1891).toInt ≤ (y_1905).toInt ∧ ((y_1894).toInt ≠ 0 → (y_1907).toInt ≠ 0) ∧ (((y_1907).toInt = 0 → ((y_1891).toInt + 1 ≤ (y_1905).toInt ∧ (y_1908).toInt = (dp).toInt + 1)))) ∧ m_hid ((y_1894).toInt = 0 → (((y_1907).toInt = 0 → (t_ix tb tn (y_1905 : Int32).toNatClampNeg) = (t_ix tb tn (y_1891 : Int32).toNatClampNeg) + 1) ∧ ((y_1907).toInt ≠ 0 → (on).toInt = 7))) := w_1902_0
                                          obtain ⟨⟨⟨w_1902_0_0, w_1902_0_1, w_1902_0_2⟩, w_1902_0_3, w_1902_0_4, w_1902_0_5⟩, w_1902_0_6⟩ := w_1902_0
                                          have b_y_1904 : 0 ≤ (y_1904).toInt ∧ (y_1904).toInt ≤ 3 := dg_I.intb (lo := 0) (hi := 3) I_1902 sM_0 (by decide +kernel) f_y_1904
                                          have b_y_1905 : 0 ≤ (y_1905).toInt ∧ (y_1905).toInt ≤ 1600 := dg_I.intb (lo := 0) (hi := 1600) I_1902 sM_0 (by decide +kernel) f_y_1905
                                          have b_y_1906 : 0 ≤ (y_1906).toInt ∧ (y_1906).toInt ≤ 1600 := dg_I.intb (lo := 0) (hi := 1600) I_1902 sM_0 (by decide +kernel) f_y_1906
                                          have b_y_1907 : 0 ≤ (y_1907).toInt ∧ (y_1907).toInt ≤ 6 := dg_I.intb (lo := 0) (hi := 6) I_1902 sM_0 (by decide +kernel) f_y_1907
                                          have b_y_1908 : 0 ≤ (y_1908).toInt ∧ (y_1908).toInt ≤ 20 := dg_I.intb (lo := 0) (hi := 20) I_1902 sM_0 (by decide +kernel) f_y_1908
                                          replace w_1902_1 : ∀ k9 : Int32, S_1902.1 0 8 = .int k9 → k9.toInt = 0 → FRM S_1893 S_1902 (3 : Int32) := w_1902_1
                                          refine lv_aload_n hx hb dX12_operand_292 rfl (lv_at hl 3 rfl) ?_
                                          refine dg_get (C := RX12) (T := TX12) (N := 77) hx hb hts (fun w h => bw_mem (wU_X12 w h)) hown K hP sM_0 rfl 8 (dk_dq rfl) (hts _ (bw_mem wB_303)) (fun _ h9 => h9) (v := .int y_1907) f_y_1907 dX12_operand_293 ?_
                                          refine lv_if_ne (tgt := 311) hx hb dX12_operand_296 (dk_dq rfl) (fun c_1909 => ?_) (fun c_1909 => ?_)
                                          · as_aux_lemma =>
                                              have jc_1909 := dk_neqc (k := 0) (by decide +kernel) c_1909
                                              have jbc_1909 : 1 ≤ (y_1907).toInt := by omega
                                              clear jc_1909
                                              clear w_1902_0_5
                                              refine lv_iconst (v := 0) hx hb dX12_operand_311 (by decide +kernel) ?_
                                              have hz_1910 : (0 : Int32).toInt = 0 := by decide +kernel
                                              have hz_1911 : (0 : Int32).toInt = 0 := by decide +kernel
                                              have hz_1912 : (0 : Int32).toInt = 0 := by decide +kernel
                                              have hz_1913 : (0 : Int32).toInt = 0 := by decide +kernel
                                              have hz_1914 : (0 : Int32).toInt = 0 := by decide +kernel
                                              have hz_1915 : (0 : Int32).toInt = 0 := by decide +kernel
                                              have hz_1916 : (0 : Int32).toInt = 0 := by decide +kernel
                                              have hz_1917 : (0 : Int32).toInt = 0 := by decide +kernel
                                              refine W.widen (k := 0) (n := 0) (Nat.le_of_ble_eq_true rfl) (Nat.le_of_ble_eq_true rfl) ?_
                                              rw [hQ9]
                                              exact dg_iret hx hb hr hlocks (by decide +kernel) hP hS ⟨I_1902, M_1902, (by decide +kernel), ⟨y_1904, y_1905, y_1906, y_1907, cd, y_1908, om, f_y_1904, f_y_1905, f_y_1906, f_y_1907, (((m_1902.1 0 34 _ sM_0 (dk_dq rfl)).trans ((m_1893.1 0 34 _ sM_0 (dk_dq rfl)).trans ((m_1889.1 0 34 _ sM_0 (dk_dq rfl)).trans ((dg_uf_F e_796 0 34).trans (m_2.1 0 34 _ sM_0 (dk_dq rfl)))))).trans f_cd), f_y_1908, (((m_1902.1 0 45 _ sM_0 (dk_dq rfl)).trans ((m_1893.1 0 45 _ sM_0 (dk_dq rfl)).trans ((m_1889.1 0 45 _ sM_0 (dk_dq rfl)).trans ((dg_uf_F e_796 0 45).trans (m_2.1 0 45 _ sM_0 (dk_dq rfl)))))).trans f_om), (by omega)⟩, (fun k9 hk9 hk0 => by have q9 := (f_y_1907).symm.trans hk9; cases q9; omega), (OPK.no f_sa f_fk f_y_1907 (by omega) (fun h0 => by rw [hM0]; exact m_st_f.trans ((m_opd_mm h171.out (h249.out.2 (by omega))).trans (m_mm_bad (by by_cases q5 : (T_kd tb tn (t_ix tb tn (y_1891 : Int32).toNatClampNeg)).toInt = 5; exact Or.inl (by rw [show (t_ix tb tn (sa : Int32).toNatClampNeg) + 1 = (t_ix tb tn (y_1891 : Int32).toNatClampNeg) from by omega]; exact g_s_5 q5); first | exact Or.inl (by rw [show (t_ix tb tn (sa : Int32).toNatClampNeg) + 1 = (t_ix tb tn (y_1891 : Int32).toNatClampNeg) from by omega]; exact qw_1897_1.out q5) | exact Or.inr (by have h9 := (w_1902_0_6.out (by omega)).2 (by omega); have h8 := dk_clN on; omega)))))), (OPN.no f_y_1907 (by omega)), w_1902_2, (ZWM.keep (ZWM.keep (ZWM.keep (ZWM.keep (ZWM.keep ZW m_2 (dk_dq rfl) (dk_dq rfl) (dk_dq rfl) (dk_dq rfl)) (dg_sm.uf (WF := []) (WA := [24]) dg_sm.rf e_796 sM_24 (dk_dq rfl)) (dk_dq rfl) (dk_dq rfl) (dk_dq rfl) (dk_dq rfl)) m_1889 (dk_dq rfl) (dk_dq rfl) (dk_dq rfl) (dk_dq rfl)) m_1893 (dk_dq rfl) (dk_dq rfl) (dk_dq rfl) (dk_dq rfl)) m_1902 (dk_dq rfl) (dk_dq rfl) (dk_dq rfl) (dk_dq rfl)), (G8M.keep (G8M.keep (G8M.keep (G8M.keep (G8M.keep G8 m_2 (dk_dq rfl) (dk_dq rfl) (dk_dq rfl)) (dg_sm.uf (WF := []) (WA := [24]) dg_sm.rf e_796 sM_24 (dk_dq rfl)) (dk_dq rfl) (dk_dq rfl) (dk_dq rfl)) m_1889 (dk_dq rfl) (dk_dq rfl) (dk_dq rfl)) m_1893 (dk_dq rfl) (dk_dq rfl) (dk_dq rfl)) m_1902 (dk_dq rfl) (dk_dq rfl) (dk_dq rfl)), trivial⟩ dX12_operand_312
                                          · as_aux_lemma =>
                                              have jc_1909 := dk_eqc (k := 0) (by decide +kernel) c_1909
                                              have w_1902_0_4c : (y_1894).toInt = 0 := by omega
                                              clear w_1902_0_4
                                              have w_1902_0_5r := w_1902_0_5 (by omega)
                                              clear w_1902_0_5
                                              obtain ⟨w_1902_0_5r_0, w_1902_0_5r_1⟩ := w_1902_0_5r
                                              refine lv_aload_n hx hb dX12_operand_299 rfl (lv_at hl 3 rfl) ?_
                                              refine dg_get (C := RX12) (T := TX12) (N := 77) hx hb hts (fun w h => bw_mem (wU_X12 w h)) hown K hP sM_0 rfl 40 (dk_dq rfl) (hts _ (bw_mem wB_435)) (fun _ h9 => h9) (v := .ref (o + 25)) (show S_1902.1 0 40 = .ref (o + 25) from dg_I.rel (d := 25) I_1902 sM_0 (by decide +kernel)) dX12_operand_300 ?_
                                              refine lv_aload_n hx hb dX12_operand_303 rfl (lv_at hl 3 rfl) ?_
                                              refine dg_get (C := RX12) (T := TX12) (N := 77) hx hb hts (fun w h => bw_mem (wU_X12 w h)) hown K hP sM_0 rfl 42 (dk_dq rfl) (hts _ (bw_mem wB_406)) (fun _ h9 => h9) (v := .int y_1908) f_y_1908 dX12_operand_304 ?_
                                              refine lv_iconst (v := 1) hx hb dX12_operand_307 (by decide +kernel) ?_
                                              refine lv_isub hx hb dX12_operand_308 ?_
                                              refine lv_topi (fun x_1918 ex_1918 => ?_)
                                              have jx_1918 : (x_1918).toInt = (y_1908).toInt - 1 := by rw [ex_1918]; exact dk_subT2 rfl (by decide +kernel) (by omega)
                                              refine lv_iload_n hx hb dX12_operand_309 rfl (lv_at hl 0 rfl) ?_
                                              have hin_1919 : vp_in x_1918 20 := (dk_inv2 (by omega))
                                              refine dg_iast hx hb K hP hS hA1 sM_25 hin_1919 dX12_operand_310 (fun S_1920 e_1920 H locs hP hS => ?_)
                                              have I_1920 := dg_I.uf0 I_1902 e_1920 sM_25 (by decide +kernel)
                                              have M_1920 := dg_sm.uf M_1902 e_1920 sM_25 (dk_dq rfl)
                                              have P0_1920 : P0M S_1920 := PBM.openp (PBM.keep (PBM.keep PB_796 m_1889 (dk_dq rfl) (dk_dq rfl) (dk_dq rfl) (dk_dq rfl) (dk_dq rfl) (dk_dq rfl) (dk_dq rfl) (dk_dq rfl) (dk_dq rfl) (dk_dq rfl) (dk_dq rfl) (dk_dq rfl) (dk_dq rfl) (dk_dq rfl) (dk_dq rfl)) m_1893 (dk_dq rfl) (dk_dq rfl) (dk_dq rfl) (dk_dq rfl) (dk_dq rfl) (dk_dq rfl) (dk_dq rfl) (dk_dq rfl) (dk_dq rfl) (dk_dq rfl) (dk_dq rfl) (dk_dq rfl) (dk_dq rfl) (dk_dq rfl) (dk_dq rfl)) (((m_1893.1 0 42 _ sM_0 (dk_dq rfl)).trans ((m_1889.1 0 42 _ sM_0 (dk_dq rfl)).trans ((dg_uf_F e_796 0 42).trans (m_2.1 0 42 _ sM_0 (dk_dq rfl))))).trans f_dp) (((m_1893.1 0 43 _ sM_0 (dk_dq rfl)).trans ((m_1889.1 0 43 _ sM_0 (dk_dq rfl)).trans ((dg_uf_F e_796 0 43).trans (m_2.1 0 43 _ sM_0 (dk_dq rfl))))).trans f_on) (((m_1893.1 0 45 _ sM_0 (dk_dq rfl)).trans ((m_1889.1 0 45 _ sM_0 (dk_dq rfl)).trans ((dg_uf_F e_796 0 45).trans (m_2.1 0 45 _ sM_0 (dk_dq rfl))))).trans f_om) (w_1902_1 _ f_y_1907 (by omega)) m_1902 (dk_dq rfl) (dk_dq rfl) (dk_dq rfl) (dk_dq rfl) (by omega) f_y_1908 (by omega) e_1920
                                              refine lv_iconst (v := 0) hx hb dX12_operand_311 (by decide +kernel) ?_
                                              have hz_1921 : (0 : Int32).toInt = 0 := by decide +kernel
                                              have hz_1922 : (0 : Int32).toInt = 0 := by decide +kernel
                                              have hz_1923 : (0 : Int32).toInt = 0 := by decide +kernel
                                              have hz_1924 : (0 : Int32).toInt = 0 := by decide +kernel
                                              have hz_1925 : (0 : Int32).toInt = 0 := by decide +kernel
                                              have hz_1926 : (0 : Int32).toInt = 0 := by decide +kernel
                                              have hz_1927 : (0 : Int32).toInt = 0 := by decide +kernel
                                              have hz_1928 : (0 : Int32).toInt = 0 := by decide +kernel
                                              obtain ⟨x_1929, f_x_1929, b_x_1929⟩ := dg_I.int (i := 0) (k := 35) (lo := 0) (hi := 1) I sM_0 (by decide +kernel)
                                              obtain ⟨x_1930, f_x_1930, b_x_1930⟩ := dg_I.int (i := 0) (k := 43) (lo := (-2147483648)) (hi := 2147483647) I_1902 sM_0 (by decide +kernel)
                                              refine W.widen (k := 0) (n := 0) (Nat.le_of_ble_eq_true rfl) (Nat.le_of_ble_eq_true rfl) ?_
                                              rw [hQ9]
                                              exact dg_iret hx hb hr hlocks (by decide +kernel) hP hS ⟨I_1920, M_1920, (by decide +kernel), ⟨y_1904, y_1905, y_1906, y_1907, cd, y_1908, om, ((dg_uf_F e_1920 0 3).trans f_y_1904), ((dg_uf_F e_1920 0 4).trans f_y_1905), ((dg_uf_F e_1920 0 5).trans f_y_1906), ((dg_uf_F e_1920 0 8).trans f_y_1907), (((dg_uf_F e_1920 0 34).trans ((m_1902.1 0 34 _ sM_0 (dk_dq rfl)).trans ((m_1893.1 0 34 _ sM_0 (dk_dq rfl)).trans ((m_1889.1 0 34 _ sM_0 (dk_dq rfl)).trans ((dg_uf_F e_796 0 34).trans (m_2.1 0 34 _ sM_0 (dk_dq rfl))))))).trans f_cd), ((dg_uf_F e_1920 0 42).trans f_y_1908), (((dg_uf_F e_1920 0 45).trans ((m_1902.1 0 45 _ sM_0 (dk_dq rfl)).trans ((m_1893.1 0 45 _ sM_0 (dk_dq rfl)).trans ((m_1889.1 0 45 _ sM_0 (dk_dq rfl)).trans ((dg_uf_F e_796 0 45).trans (m_2.1 0 45 _ sM_0 (dk_dq rfl))))))).trans f_om), (by omega)⟩, (fun k9 hk9 hk0 => ⟨fun h9 => absurd h9 (by decide +kernel), fun _ => P0_1920⟩), (OPK.ok f_sa ((dg_uf_F e_1920 0 8).trans f_y_1907) ((dg_uf_F e_1920 0 4).trans f_y_1905) (by omega) hM0 (by have h9 := TFM.frm (TFM.keep (TFM.keep TF_796 m_1889 (dk_dq rfl) (dk_dq rfl) (dk_dq rfl) (dk_dq rfl) (dk_dq rfl) (dk_dq rfl) (dk_dq rfl) (dk_dq rfl)) m_1893 (dk_dq rfl) (dk_dq rfl) (dk_dq rfl) (dk_dq rfl) (dk_dq rfl) (dk_dq rfl) (dk_dq rfl) (dk_dq rfl)) (((m_1893.1 0 42 _ sM_0 (dk_dq rfl)).trans ((m_1889.1 0 42 _ sM_0 (dk_dq rfl)).trans ((dg_uf_F e_796 0 42).trans (m_2.1 0 42 _ sM_0 (dk_dq rfl))))).trans f_dp) (((m_1893.1 0 43 _ sM_0 (dk_dq rfl)).trans ((m_1889.1 0 43 _ sM_0 (dk_dq rfl)).trans ((dg_uf_F e_796 0 43).trans (m_2.1 0 43 _ sM_0 (dk_dq rfl))))).trans f_on) (((m_1893.1 0 45 _ sM_0 (dk_dq rfl)).trans ((m_1889.1 0 45 _ sM_0 (dk_dq rfl)).trans ((dg_uf_F e_796 0 45).trans (m_2.1 0 45 _ sM_0 (dk_dq rfl))))).trans f_om) (by omega) (by omega) m_1902 (dk_dq rfl) (dk_dq rfl) (w_1902_1 _ f_y_1907 (by omega)); rw [show (3 : Int32).toInt = 3 from by decide +kernel] at h9; exact h9.keep (dg_sm.uf (WF := []) (WA := [25]) dg_sm.rf e_1920 sM_25 (dk_dq rfl)) (dk_dq rfl) (dk_dq rfl) (dk_dq rfl) (dk_dq rfl) (dk_dq rfl) (dk_dq rfl) (dk_dq rfl) (dk_dq rfl)) (m_st_f.trans ((m_opd_mm h171.out (h249.out.2 (by omega))).trans ((if_pos (by rw [show (t_ix tb tn (sa : Int32).toNatClampNeg) + 1 = (t_ix tb tn (y_1891 : Int32).toNatClampNeg) from by omega]; exact qw_1897_1.out (by omega))).trans (if_neg (by have h9 := ((w_1902_1 _ f_y_1907 (by omega)).2 _ (((m_1893.1 0 43 _ sM_0 (dk_dq rfl)).trans ((m_1889.1 0 43 _ sM_0 (dk_dq rfl)).trans ((dg_uf_F e_796 0 43).trans (m_2.1 0 43 _ sM_0 (dk_dq rfl))))).trans f_on)).1; have h8 := dk_clN on; omega))))) (by have h9 := (w_1902_0_6.out (by omega)).1 (by omega); omega) (by decide +kernel)), (OPN.ok f_sa ((dg_uf_F e_1920 0 4).trans f_y_1905) hN0 (by have h9 := (TFM.frm (TFM.keep (TFM.keep TF_796 m_1889 (dk_dq rfl) (dk_dq rfl) (dk_dq rfl) (dk_dq rfl) (dk_dq rfl) (dk_dq rfl) (dk_dq rfl) (dk_dq rfl)) m_1893 (dk_dq rfl) (dk_dq rfl) (dk_dq rfl) (dk_dq rfl) (dk_dq rfl) (dk_dq rfl) (dk_dq rfl) (dk_dq rfl)) (((m_1893.1 0 42 _ sM_0 (dk_dq rfl)).trans ((m_1889.1 0 42 _ sM_0 (dk_dq rfl)).trans ((dg_uf_F e_796 0 42).trans (m_2.1 0 42 _ sM_0 (dk_dq rfl))))).trans f_dp) (((m_1893.1 0 43 _ sM_0 (dk_dq rfl)).trans ((m_1889.1 0 43 _ sM_0 (dk_dq rfl)).trans ((dg_uf_F e_796 0 43).trans (m_2.1 0 43 _ sM_0 (dk_dq rfl))))).trans f_on) (((m_1893.1 0 45 _ sM_0 (dk_dq rfl)).trans ((m_1889.1 0 45 _ sM_0 (dk_dq rfl)).trans ((dg_uf_F e_796 0 45).trans (m_2.1 0 45 _ sM_0 (dk_dq rfl))))).trans f_om) (by omega) (by omega) m_1902 (dk_dq rfl) (dk_dq rfl) (w_1902_1 _ f_y_1907 (by omega))); rw [show (3 : Int32).toInt = 3 from by decide +kernel] at h9; exact h9.keep (dg_sm.uf (WF := []) (WA := [25]) dg_sm.rf e_1920 sM_25 (dk_dq rfl)) (dk_dq rfl) (dk_dq rfl) (dk_dq rfl) (dk_dq rfl) (dk_dq rfl) (dk_dq rfl) (dk_dq rfl) (dk_dq rfl)) (by obtain ⟨z9, h9⟩ := XFM.push (XFM.keep (XFM.keep (XFM.keep XF0 (dg_sm.uf (WF := []) (WA := [24]) dg_sm.rf e_796 sM_24 (dk_dq rfl)) (dk_dq rfl) (dk_dq rfl) (dk_dq rfl) (dk_dq rfl) (dk_dq rfl)) m_1889 (dk_dq rfl) (dk_dq rfl) (dk_dq rfl) (dk_dq rfl) (dk_dq rfl)) m_1893 (dk_dq rfl) (dk_dq rfl) (dk_dq rfl) (dk_dq rfl) (dk_dq rfl)) (TFM.keep (TFM.keep TF_796 m_1889 (dk_dq rfl) (dk_dq rfl) (dk_dq rfl) (dk_dq rfl) (dk_dq rfl) (dk_dq rfl) (dk_dq rfl) (dk_dq rfl)) m_1893 (dk_dq rfl) (dk_dq rfl) (dk_dq rfl) (dk_dq rfl) (dk_dq rfl) (dk_dq rfl) (dk_dq rfl) (dk_dq rfl)) (((m_1893.1 0 42 _ sM_0 (dk_dq rfl)).trans ((m_1889.1 0 42 _ sM_0 (dk_dq rfl)).trans ((dg_uf_F e_796 0 42).trans (m_2.1 0 42 _ sM_0 (dk_dq rfl))))).trans f_dp) (((m_1893.1 0 43 _ sM_0 (dk_dq rfl)).trans ((m_1889.1 0 43 _ sM_0 (dk_dq rfl)).trans ((dg_uf_F e_796 0 43).trans (m_2.1 0 43 _ sM_0 (dk_dq rfl))))).trans f_on) (((m_1893.1 0 45 _ sM_0 (dk_dq rfl)).trans ((m_1889.1 0 45 _ sM_0 (dk_dq rfl)).trans ((dg_uf_F e_796 0 45).trans (m_2.1 0 45 _ sM_0 (dk_dq rfl))))).trans f_om) (by omega) m_1902 (dk_dq rfl) (dk_dq rfl) (dk_dq rfl) (w_1902_1 _ f_y_1907 (by omega)).1; exact XFM.pr h9 (TFM.frm (TFM.keep (TFM.keep TF_796 m_1889 (dk_dq rfl) (dk_dq rfl) (dk_dq rfl) (dk_dq rfl) (dk_dq rfl) (dk_dq rfl) (dk_dq rfl) (dk_dq rfl)) m_1893 (dk_dq rfl) (dk_dq rfl) (dk_dq rfl) (dk_dq rfl) (dk_dq rfl) (dk_dq rfl) (dk_dq rfl) (dk_dq rfl)) (((m_1893.1 0 42 _ sM_0 (dk_dq rfl)).trans ((m_1889.1 0 42 _ sM_0 (dk_dq rfl)).trans ((dg_uf_F e_796 0 42).trans (m_2.1 0 42 _ sM_0 (dk_dq rfl))))).trans f_dp) (((m_1893.1 0 43 _ sM_0 (dk_dq rfl)).trans ((m_1889.1 0 43 _ sM_0 (dk_dq rfl)).trans ((dg_uf_F e_796 0 43).trans (m_2.1 0 43 _ sM_0 (dk_dq rfl))))).trans f_on) (((m_1893.1 0 45 _ sM_0 (dk_dq rfl)).trans ((m_1889.1 0 45 _ sM_0 (dk_dq rfl)).trans ((dg_uf_F e_796 0 45).trans (m_2.1 0 45 _ sM_0 (dk_dq rfl))))).trans f_om) (by omega) (by omega) m_1902 (dk_dq rfl) (dk_dq rfl) (w_1902_1 _ f_y_1907 (by omega))) f_y_1908 f_x_1930 (((m_1902.1 0 45 _ sM_0 (dk_dq rfl)).trans ((m_1893.1 0 45 _ sM_0 (dk_dq rfl)).trans ((m_1889.1 0 45 _ sM_0 (dk_dq rfl)).trans ((dg_uf_F e_796 0 45).trans (m_2.1 0 45 _ sM_0 (dk_dq rfl)))))).trans f_om) (by omega) e_1920) (q_am.mv (q_am.z f_x_1929 f_cd (by omega) (by omega)) ((dg_uf_F e_1920 0 34).trans ((m_1902.1 0 34 _ sM_0 (dk_dq rfl)).trans ((m_1893.1 0 34 _ sM_0 (dk_dq rfl)).trans ((m_1889.1 0 34 _ sM_0 (dk_dq rfl)).trans ((dg_uf_F e_796 0 34).trans (m_2.1 0 34 _ sM_0 (dk_dq rfl))))))) ((dg_uf_F e_1920 0 35).trans ((m_1902.1 0 35 _ sM_0 (dk_dq rfl)).trans ((m_1893.1 0 35 _ sM_0 (dk_dq rfl)).trans ((m_1889.1 0 35 _ sM_0 (dk_dq rfl)).trans ((dg_uf_F e_796 0 35).trans (m_2.1 0 35 _ sM_0 (dk_dq rfl))))))) ((dg_uf_ne e_1920 (dk_dq rfl)).trans ((m_1902.2 18 _ sM_18 (dk_dq rfl)).1.trans ((m_1893.2 18 _ sM_18 (dk_dq rfl)).1.trans ((m_1889.2 18 _ sM_18 (dk_dq rfl)).1.trans ((dg_uf_ne e_796 (dk_dq rfl)).trans (m_2.2 18 _ sM_18 (dk_dq rfl)).1))))) ((dg_uf_ne e_1920 (dk_dq rfl)).trans ((m_1902.2 19 _ sM_19 (dk_dq rfl)).1.trans ((m_1893.2 19 _ sM_19 (dk_dq rfl)).1.trans ((m_1889.2 19 _ sM_19 (dk_dq rfl)).1.trans ((dg_uf_ne e_796 (dk_dq rfl)).trans (m_2.2 19 _ sM_19 (dk_dq rfl)).1)))))) (fun out => by rw [show n_np 3 (x_1752).toInt = (if g_o (T_kd tb tn) (T_vl tb tn) 25 (t_ix tb tn (sa : Int32).toNatClampNeg) then 36 else 37) from by unfold n_np; rw [if_pos (by omega)]; exact n_mm h249p.out (by omega), List.append_nil]; exact (n_opd_mm h171.out (h249.out.2 (by omega))).trans ((if_pos (by rw [show (t_ix tb tn (sa : Int32).toNatClampNeg) + 1 = (t_ix tb tn (y_1891 : Int32).toNatClampNeg) from by omega]; exact qw_1897_1.out (by omega))).trans (if_neg (by have h9 := ((w_1902_1 _ f_y_1907 (by omega)).2 _ (((m_1893.1 0 43 _ sM_0 (dk_dq rfl)).trans ((m_1889.1 0 43 _ sM_0 (dk_dq rfl)).trans ((dg_uf_F e_796 0 43).trans (m_2.1 0 43 _ sM_0 (dk_dq rfl))))).trans f_on)).1; have h8 := dk_clN on; omega)))) (by have h9 := (w_1902_0_6.out (by omega)).1 (by omega); omega) (by decide +kernel)), (TKM.keep w_1902_2 (dg_sm.uf (WF := []) (WA := [25]) dg_sm.rf e_1920 sM_25 (dk_dq rfl)) (dk_dq rfl) (dk_dq rfl) (dk_dq rfl) (dk_dq rfl) (dk_dq rfl) (dk_dq rfl) (dk_dq rfl) (dk_dq rfl)), (ZWM.keep (ZWM.keep (ZWM.keep (ZWM.keep (ZWM.keep (ZWM.keep ZW m_2 (dk_dq rfl) (dk_dq rfl) (dk_dq rfl) (dk_dq rfl)) (dg_sm.uf (WF := []) (WA := [24]) dg_sm.rf e_796 sM_24 (dk_dq rfl)) (dk_dq rfl) (dk_dq rfl) (dk_dq rfl) (dk_dq rfl)) m_1889 (dk_dq rfl) (dk_dq rfl) (dk_dq rfl) (dk_dq rfl)) m_1893 (dk_dq rfl) (dk_dq rfl) (dk_dq rfl) (dk_dq rfl)) m_1902 (dk_dq rfl) (dk_dq rfl) (dk_dq rfl) (dk_dq rfl)) (dg_sm.uf (WF := []) (WA := [25]) dg_sm.rf e_1920 sM_25 (dk_dq rfl)) (dk_dq rfl) (dk_dq rfl) (dk_dq rfl) (dk_dq rfl)), (G8M.keep (G8M.keep (G8M.keep (G8M.keep (G8M.keep (G8M.keep G8 m_2 (dk_dq rfl) (dk_dq rfl) (dk_dq rfl)) (dg_sm.uf (WF := []) (WA := [24]) dg_sm.rf e_796 sM_24 (dk_dq rfl)) (dk_dq rfl) (dk_dq rfl) (dk_dq rfl)) m_1889 (dk_dq rfl) (dk_dq rfl) (dk_dq rfl)) m_1893 (dk_dq rfl) (dk_dq rfl) (dk_dq rfl)) m_1902 (dk_dq rfl) (dk_dq rfl) (dk_dq rfl)) (dg_sm.uf (WF := []) (WA := [25]) dg_sm.rf e_1920 sM_25 (dk_dq rfl)) (dk_dq rfl) (dk_dq rfl) (dk_dq rfl)), trivial⟩ dX12_operand_312
                                      · as_aux_lemma =>
                                          have jc_1900 := dk_eqc (k := 44) (by decide +kernel) c_1900
                                          refine lv_bipush (v := 6) hx hb dX12_operand_283 (by decide +kernel) ?_
                                          refine lv_goto (tgt := 289) hx hb dX12_operand_285 (dk_dq rfl) ?_
                                          have hz_1931 : (6 : Int32).toInt = 6 := by decide +kernel
                                          refine dg_callv hS hA1 hA (va_runV (As := [.int 6]) (rest := []) F (c_m_frames l g D o S_1893 6 (by decide +kernel) tb tn y_1890 ((m_1893.1 0 3 _ sM_0 (dk_dq rfl)).trans f_y_1890) (by omega) y_1891 ((m_1893.1 0 4 _ sM_0 (dk_dq rfl)).trans f_y_1891) (by omega) y_1892 ((m_1893.1 0 5 _ sM_0 (dk_dq rfl)).trans f_y_1892) (by omega) sl (((m_1893.1 0 2 _ sM_0 (dk_dq rfl)).trans ((m_1889.1 0 2 _ sM_0 (dk_dq rfl)).trans ((dg_uf_F e_796 0 2).trans (m_2.1 0 2 _ sM_0 (dk_dq rfl))))).trans f_sl) (by omega) y_1894 f_y_1894 (by omega) dp (((m_1893.1 0 42 _ sM_0 (dk_dq rfl)).trans ((m_1889.1 0 42 _ sM_0 (dk_dq rfl)).trans ((dg_uf_F e_796 0 42).trans (m_2.1 0 42 _ sM_0 (dk_dq rfl))))).trans f_dp) (by omega) om (((m_1893.1 0 45 _ sM_0 (dk_dq rfl)).trans ((m_1889.1 0 45 _ sM_0 (dk_dq rfl)).trans ((dg_uf_F e_796 0 45).trans (m_2.1 0 45 _ sM_0 (dk_dq rfl))))).trans f_om) (by omega) on (((m_1893.1 0 43 _ sM_0 (dk_dq rfl)).trans ((m_1889.1 0 43 _ sM_0 (dk_dq rfl)).trans ((dg_uf_F e_796 0 43).trans (m_2.1 0 43 _ sM_0 (dk_dq rfl))))).trans f_on) (by omega) (by omega) (by omega) (TKM.keep TK_1889 m_1893 (dk_dq rfl) (dk_dq rfl) (dk_dq rfl) (dk_dq rfl) (dk_dq rfl) (dk_dq rfl) (dk_dq rfl) (dk_dq rfl)) I_1893 H.size) (cwV 1 hts (bw_V wB_431 wB_432 wB_433 wB_297 wB_430) rfl rfl rfl (by decide +kernel) ⟨Nat.le_of_ble_eq_true rfl, Nat.le_of_ble_eq_true rfl⟩) (dg_preV sM_0 rfl K ST hP hS hA1 hA) rfl rfl hl.1 rfl (lv_room (Nat.le_of_ble_eq_true rfl)) dX12_operand_289 ⟨Nat.le_of_ble_eq_true rfl, Nat.le_of_ble_eq_true rfl⟩) (fun S_1932 hw_1932 H locs hP hS => ?_)
                                          obtain ⟨I_1932, m_1932, w_1932_0, w_1932_1, w_1932_2, -⟩ := hw_1932
                                          have M_1932 := dg_sm.tr M_1893 m_1932 (dk_dq rfl) (dk_dq rfl)
                                          have hz_1933 : (6 : Int32).toInt = 6 := by decide +kernel
                                          obtain ⟨y_1934, y_1935, y_1936, y_1937, y_1938, f_y_1934, f_y_1935, f_y_1936, f_y_1937, f_y_1938, w_1932_0⟩ := w_1932_0
                                          have w_1932_0 : (((y_1935).toInt ≤ (y_1936).toInt ∧ (y_1936).toInt ≤ (sl).toInt ∧ ((y_1934).toInt ≠ 0 → (y_1935).toInt + 1 ≤ (y_1936).toInt)) ∧ (y_1891).toInt ≤ (y_1935).toInt ∧ ((y_1894).toInt ≠ 0 → (y_1937).toInt ≠ 0) ∧ (((y_1937).toInt = 0 → ((y_1891).toInt + 1 ≤ (y_1935).toInt ∧ (y_1938).toInt = (dp).toInt + 1)))) ∧ m_hid ((y_1894).toInt = 0 → (((y_1937).toInt = 0 → (t_ix tb tn (y_1935 : Int32).toNatClampNeg) = (t_ix tb tn (y_1891 : Int32).toNatClampNeg) + 1) ∧ ((y_1937).toInt ≠ 0 → (on).toInt = 7))) := w_1932_0
                                          obtain ⟨⟨⟨w_1932_0_0, w_1932_0_1, w_1932_0_2⟩, w_1932_0_3, w_1932_0_4, w_1932_0_5⟩, w_1932_0_6⟩ := w_1932_0
                                          have b_y_1934 : 0 ≤ (y_1934).toInt ∧ (y_1934).toInt ≤ 3 := dg_I.intb (lo := 0) (hi := 3) I_1932 sM_0 (by decide +kernel) f_y_1934
                                          have b_y_1935 : 0 ≤ (y_1935).toInt ∧ (y_1935).toInt ≤ 1600 := dg_I.intb (lo := 0) (hi := 1600) I_1932 sM_0 (by decide +kernel) f_y_1935
                                          have b_y_1936 : 0 ≤ (y_1936).toInt ∧ (y_1936).toInt ≤ 1600 := dg_I.intb (lo := 0) (hi := 1600) I_1932 sM_0 (by decide +kernel) f_y_1936
                                          have b_y_1937 : 0 ≤ (y_1937).toInt ∧ (y_1937).toInt ≤ 6 := dg_I.intb (lo := 0) (hi := 6) I_1932 sM_0 (by decide +kernel) f_y_1937
                                          have b_y_1938 : 0 ≤ (y_1938).toInt ∧ (y_1938).toInt ≤ 20 := dg_I.intb (lo := 0) (hi := 20) I_1932 sM_0 (by decide +kernel) f_y_1938
                                          replace w_1932_1 : ∀ k9 : Int32, S_1932.1 0 8 = .int k9 → k9.toInt = 0 → FRM S_1893 S_1932 (6 : Int32) := w_1932_1
                                          refine lv_aload_n hx hb dX12_operand_292 rfl (lv_at hl 3 rfl) ?_
                                          refine dg_get (C := RX12) (T := TX12) (N := 77) hx hb hts (fun w h => bw_mem (wU_X12 w h)) hown K hP sM_0 rfl 8 (dk_dq rfl) (hts _ (bw_mem wB_303)) (fun _ h9 => h9) (v := .int y_1937) f_y_1937 dX12_operand_293 ?_
                                          refine lv_if_ne (tgt := 311) hx hb dX12_operand_296 (dk_dq rfl) (fun c_1939 => ?_) (fun c_1939 => ?_)
                                          · as_aux_lemma =>
                                              have jc_1939 := dk_neqc (k := 0) (by decide +kernel) c_1939
                                              have jbc_1939 : 1 ≤ (y_1937).toInt := by omega
                                              clear jc_1939
                                              clear w_1932_0_5
                                              refine lv_iconst (v := 0) hx hb dX12_operand_311 (by decide +kernel) ?_
                                              have hz_1940 : (0 : Int32).toInt = 0 := by decide +kernel
                                              have hz_1941 : (0 : Int32).toInt = 0 := by decide +kernel
                                              have hz_1942 : (0 : Int32).toInt = 0 := by decide +kernel
                                              have hz_1943 : (0 : Int32).toInt = 0 := by decide +kernel
                                              have hz_1944 : (0 : Int32).toInt = 0 := by decide +kernel
                                              have hz_1945 : (0 : Int32).toInt = 0 := by decide +kernel
                                              have hz_1946 : (0 : Int32).toInt = 0 := by decide +kernel
                                              have hz_1947 : (0 : Int32).toInt = 0 := by decide +kernel
                                              refine W.widen (k := 0) (n := 0) (Nat.le_of_ble_eq_true rfl) (Nat.le_of_ble_eq_true rfl) ?_
                                              rw [hQ9]
                                              exact dg_iret hx hb hr hlocks (by decide +kernel) hP hS ⟨I_1932, M_1932, (by decide +kernel), ⟨y_1934, y_1935, y_1936, y_1937, cd, y_1938, om, f_y_1934, f_y_1935, f_y_1936, f_y_1937, (((m_1932.1 0 34 _ sM_0 (dk_dq rfl)).trans ((m_1893.1 0 34 _ sM_0 (dk_dq rfl)).trans ((m_1889.1 0 34 _ sM_0 (dk_dq rfl)).trans ((dg_uf_F e_796 0 34).trans (m_2.1 0 34 _ sM_0 (dk_dq rfl)))))).trans f_cd), f_y_1938, (((m_1932.1 0 45 _ sM_0 (dk_dq rfl)).trans ((m_1893.1 0 45 _ sM_0 (dk_dq rfl)).trans ((m_1889.1 0 45 _ sM_0 (dk_dq rfl)).trans ((dg_uf_F e_796 0 45).trans (m_2.1 0 45 _ sM_0 (dk_dq rfl)))))).trans f_om), (by omega)⟩, (fun k9 hk9 hk0 => by have q9 := (f_y_1937).symm.trans hk9; cases q9; omega), (OPK.no f_sa f_fk f_y_1937 (by omega) (fun h0 => by rw [hM0]; exact m_st_f.trans ((m_opd_if h171.out (h249.out.1 (by omega))).trans (m_mm_bad (by by_cases q5 : (T_kd tb tn (t_ix tb tn (y_1891 : Int32).toNatClampNeg)).toInt = 5; exact Or.inl (by rw [show (t_ix tb tn (sa : Int32).toNatClampNeg) + 1 = (t_ix tb tn (y_1891 : Int32).toNatClampNeg) from by omega]; exact g_s_5 q5); first | exact Or.inl (by rw [show (t_ix tb tn (sa : Int32).toNatClampNeg) + 1 = (t_ix tb tn (y_1891 : Int32).toNatClampNeg) from by omega]; exact qw_1897_1.out q5) | exact Or.inr (by have h9 := (w_1932_0_6.out (by omega)).2 (by omega); have h8 := dk_clN on; omega)))))), (OPN.no f_y_1937 (by omega)), w_1932_2, (ZWM.keep (ZWM.keep (ZWM.keep (ZWM.keep (ZWM.keep ZW m_2 (dk_dq rfl) (dk_dq rfl) (dk_dq rfl) (dk_dq rfl)) (dg_sm.uf (WF := []) (WA := [24]) dg_sm.rf e_796 sM_24 (dk_dq rfl)) (dk_dq rfl) (dk_dq rfl) (dk_dq rfl) (dk_dq rfl)) m_1889 (dk_dq rfl) (dk_dq rfl) (dk_dq rfl) (dk_dq rfl)) m_1893 (dk_dq rfl) (dk_dq rfl) (dk_dq rfl) (dk_dq rfl)) m_1932 (dk_dq rfl) (dk_dq rfl) (dk_dq rfl) (dk_dq rfl)), (G8M.keep (G8M.keep (G8M.keep (G8M.keep (G8M.keep G8 m_2 (dk_dq rfl) (dk_dq rfl) (dk_dq rfl)) (dg_sm.uf (WF := []) (WA := [24]) dg_sm.rf e_796 sM_24 (dk_dq rfl)) (dk_dq rfl) (dk_dq rfl) (dk_dq rfl)) m_1889 (dk_dq rfl) (dk_dq rfl) (dk_dq rfl)) m_1893 (dk_dq rfl) (dk_dq rfl) (dk_dq rfl)) m_1932 (dk_dq rfl) (dk_dq rfl) (dk_dq rfl)), trivial⟩ dX12_operand_312
                                          · as_aux_lemma =>
                                              have jc_1939 := dk_eqc (k := 0) (by decide +kernel) c_1939
                                              have w_1932_0_4c : (y_1894).toInt = 0 := by omega
                                              clear w_1932_0_4
                                              have w_1932_0_5r := w_1932_0_5 (by omega)
                                              clear w_1932_0_5
                                              obtain ⟨w_1932_0_5r_0, w_1932_0_5r_1⟩ := w_1932_0_5r
                                              refine lv_aload_n hx hb dX12_operand_299 rfl (lv_at hl 3 rfl) ?_
                                              refine dg_get (C := RX12) (T := TX12) (N := 77) hx hb hts (fun w h => bw_mem (wU_X12 w h)) hown K hP sM_0 rfl 40 (dk_dq rfl) (hts _ (bw_mem wB_435)) (fun _ h9 => h9) (v := .ref (o + 25)) (show S_1932.1 0 40 = .ref (o + 25) from dg_I.rel (d := 25) I_1932 sM_0 (by decide +kernel)) dX12_operand_300 ?_
                                              refine lv_aload_n hx hb dX12_operand_303 rfl (lv_at hl 3 rfl) ?_
                                              refine dg_get (C := RX12) (T := TX12) (N := 77) hx hb hts (fun w h => bw_mem (wU_X12 w h)) hown K hP sM_0 rfl 42 (dk_dq rfl) (hts _ (bw_mem wB_406)) (fun _ h9 => h9) (v := .int y_1938) f_y_1938 dX12_operand_304 ?_
                                              refine lv_iconst (v := 1) hx hb dX12_operand_307 (by decide +kernel) ?_
                                              refine lv_isub hx hb dX12_operand_308 ?_
                                              refine lv_topi (fun x_1948 ex_1948 => ?_)
                                              have jx_1948 : (x_1948).toInt = (y_1938).toInt - 1 := by rw [ex_1948]; exact dk_subT2 rfl (by decide +kernel) (by omega)
                                              refine lv_iload_n hx hb dX12_operand_309 rfl (lv_at hl 0 rfl) ?_
                                              have hin_1949 : vp_in x_1948 20 := (dk_inv2 (by omega))
                                              refine dg_iast hx hb K hP hS hA1 sM_25 hin_1949 dX12_operand_310 (fun S_1950 e_1950 H locs hP hS => ?_)
                                              have I_1950 := dg_I.uf0 I_1932 e_1950 sM_25 (by decide +kernel)
                                              have M_1950 := dg_sm.uf M_1932 e_1950 sM_25 (dk_dq rfl)
                                              have P0_1950 : P0M S_1950 := PBM.openp (PBM.keep (PBM.keep PB_796 m_1889 (dk_dq rfl) (dk_dq rfl) (dk_dq rfl) (dk_dq rfl) (dk_dq rfl) (dk_dq rfl) (dk_dq rfl) (dk_dq rfl) (dk_dq rfl) (dk_dq rfl) (dk_dq rfl) (dk_dq rfl) (dk_dq rfl) (dk_dq rfl) (dk_dq rfl)) m_1893 (dk_dq rfl) (dk_dq rfl) (dk_dq rfl) (dk_dq rfl) (dk_dq rfl) (dk_dq rfl) (dk_dq rfl) (dk_dq rfl) (dk_dq rfl) (dk_dq rfl) (dk_dq rfl) (dk_dq rfl) (dk_dq rfl) (dk_dq rfl) (dk_dq rfl)) (((m_1893.1 0 42 _ sM_0 (dk_dq rfl)).trans ((m_1889.1 0 42 _ sM_0 (dk_dq rfl)).trans ((dg_uf_F e_796 0 42).trans (m_2.1 0 42 _ sM_0 (dk_dq rfl))))).trans f_dp) (((m_1893.1 0 43 _ sM_0 (dk_dq rfl)).trans ((m_1889.1 0 43 _ sM_0 (dk_dq rfl)).trans ((dg_uf_F e_796 0 43).trans (m_2.1 0 43 _ sM_0 (dk_dq rfl))))).trans f_on) (((m_1893.1 0 45 _ sM_0 (dk_dq rfl)).trans ((m_1889.1 0 45 _ sM_0 (dk_dq rfl)).trans ((dg_uf_F e_796 0 45).trans (m_2.1 0 45 _ sM_0 (dk_dq rfl))))).trans f_om) (w_1932_1 _ f_y_1937 (by omega)) m_1932 (dk_dq rfl) (dk_dq rfl) (dk_dq rfl) (dk_dq rfl) (by omega) f_y_1938 (by omega) e_1950
                                              refine lv_iconst (v := 0) hx hb dX12_operand_311 (by decide +kernel) ?_
                                              have hz_1951 : (0 : Int32).toInt = 0 := by decide +kernel
                                              have hz_1952 : (0 : Int32).toInt = 0 := by decide +kernel
                                              have hz_1953 : (0 : Int32).toInt = 0 := by decide +kernel
                                              have hz_1954 : (0 : Int32).toInt = 0 := by decide +kernel
                                              have hz_1955 : (0 : Int32).toInt = 0 := by decide +kernel
                                              have hz_1956 : (0 : Int32).toInt = 0 := by decide +kernel
                                              have hz_1957 : (0 : Int32).toInt = 0 := by decide +kernel
                                              have hz_1958 : (0 : Int32).toInt = 0 := by decide +kernel
                                              obtain ⟨x_1959, f_x_1959, b_x_1959⟩ := dg_I.int (i := 0) (k := 35) (lo := 0) (hi := 1) I sM_0 (by decide +kernel)
                                              obtain ⟨x_1960, f_x_1960, b_x_1960⟩ := dg_I.int (i := 0) (k := 43) (lo := (-2147483648)) (hi := 2147483647) I_1932 sM_0 (by decide +kernel)
                                              refine W.widen (k := 0) (n := 0) (Nat.le_of_ble_eq_true rfl) (Nat.le_of_ble_eq_true rfl) ?_
                                              rw [hQ9]
                                              exact dg_iret hx hb hr hlocks (by decide +kernel) hP hS ⟨I_1950, M_1950, (by decide +kernel), ⟨y_1934, y_1935, y_1936, y_1937, cd, y_1938, om, ((dg_uf_F e_1950 0 3).trans f_y_1934), ((dg_uf_F e_1950 0 4).trans f_y_1935), ((dg_uf_F e_1950 0 5).trans f_y_1936), ((dg_uf_F e_1950 0 8).trans f_y_1937), (((dg_uf_F e_1950 0 34).trans ((m_1932.1 0 34 _ sM_0 (dk_dq rfl)).trans ((m_1893.1 0 34 _ sM_0 (dk_dq rfl)).trans ((m_1889.1 0 34 _ sM_0 (dk_dq rfl)).trans ((dg_uf_F e_796 0 34).trans (m_2.1 0 34 _ sM_0 (dk_dq rfl))))))).trans f_cd), ((dg_uf_F e_1950 0 42).trans f_y_1938), (((dg_uf_F e_1950 0 45).trans ((m_1932.1 0 45 _ sM_0 (dk_dq rfl)).trans ((m_1893.1 0 45 _ sM_0 (dk_dq rfl)).trans ((m_1889.1 0 45 _ sM_0 (dk_dq rfl)).trans ((dg_uf_F e_796 0 45).trans (m_2.1 0 45 _ sM_0 (dk_dq rfl))))))).trans f_om), (by omega)⟩, (fun k9 hk9 hk0 => ⟨fun h9 => absurd h9 (by decide +kernel), fun _ => P0_1950⟩), (OPK.ok f_sa ((dg_uf_F e_1950 0 8).trans f_y_1937) ((dg_uf_F e_1950 0 4).trans f_y_1935) (by omega) hM0 (by have h9 := TFM.frm (TFM.keep (TFM.keep TF_796 m_1889 (dk_dq rfl) (dk_dq rfl) (dk_dq rfl) (dk_dq rfl) (dk_dq rfl) (dk_dq rfl) (dk_dq rfl) (dk_dq rfl)) m_1893 (dk_dq rfl) (dk_dq rfl) (dk_dq rfl) (dk_dq rfl) (dk_dq rfl) (dk_dq rfl) (dk_dq rfl) (dk_dq rfl)) (((m_1893.1 0 42 _ sM_0 (dk_dq rfl)).trans ((m_1889.1 0 42 _ sM_0 (dk_dq rfl)).trans ((dg_uf_F e_796 0 42).trans (m_2.1 0 42 _ sM_0 (dk_dq rfl))))).trans f_dp) (((m_1893.1 0 43 _ sM_0 (dk_dq rfl)).trans ((m_1889.1 0 43 _ sM_0 (dk_dq rfl)).trans ((dg_uf_F e_796 0 43).trans (m_2.1 0 43 _ sM_0 (dk_dq rfl))))).trans f_on) (((m_1893.1 0 45 _ sM_0 (dk_dq rfl)).trans ((m_1889.1 0 45 _ sM_0 (dk_dq rfl)).trans ((dg_uf_F e_796 0 45).trans (m_2.1 0 45 _ sM_0 (dk_dq rfl))))).trans f_om) (by omega) (by omega) m_1932 (dk_dq rfl) (dk_dq rfl) (w_1932_1 _ f_y_1937 (by omega)); rw [show (6 : Int32).toInt = 6 from by decide +kernel] at h9; exact h9.keep (dg_sm.uf (WF := []) (WA := [25]) dg_sm.rf e_1950 sM_25 (dk_dq rfl)) (dk_dq rfl) (dk_dq rfl) (dk_dq rfl) (dk_dq rfl) (dk_dq rfl) (dk_dq rfl) (dk_dq rfl) (dk_dq rfl)) (m_st_f.trans ((m_opd_if h171.out (h249.out.1 (by omega))).trans ((if_pos (by rw [show (t_ix tb tn (sa : Int32).toNatClampNeg) + 1 = (t_ix tb tn (y_1891 : Int32).toNatClampNeg) from by omega]; exact qw_1897_1.out (by omega))).trans (if_neg (by have h9 := ((w_1932_1 _ f_y_1937 (by omega)).2 _ (((m_1893.1 0 43 _ sM_0 (dk_dq rfl)).trans ((m_1889.1 0 43 _ sM_0 (dk_dq rfl)).trans ((dg_uf_F e_796 0 43).trans (m_2.1 0 43 _ sM_0 (dk_dq rfl))))).trans f_on)).1; have h8 := dk_clN on; omega))))) (by have h9 := (w_1932_0_6.out (by omega)).1 (by omega); omega) (by decide +kernel)), (OPN.ok f_sa ((dg_uf_F e_1950 0 4).trans f_y_1935) hN0 (by have h9 := (TFM.frm (TFM.keep (TFM.keep TF_796 m_1889 (dk_dq rfl) (dk_dq rfl) (dk_dq rfl) (dk_dq rfl) (dk_dq rfl) (dk_dq rfl) (dk_dq rfl) (dk_dq rfl)) m_1893 (dk_dq rfl) (dk_dq rfl) (dk_dq rfl) (dk_dq rfl) (dk_dq rfl) (dk_dq rfl) (dk_dq rfl) (dk_dq rfl)) (((m_1893.1 0 42 _ sM_0 (dk_dq rfl)).trans ((m_1889.1 0 42 _ sM_0 (dk_dq rfl)).trans ((dg_uf_F e_796 0 42).trans (m_2.1 0 42 _ sM_0 (dk_dq rfl))))).trans f_dp) (((m_1893.1 0 43 _ sM_0 (dk_dq rfl)).trans ((m_1889.1 0 43 _ sM_0 (dk_dq rfl)).trans ((dg_uf_F e_796 0 43).trans (m_2.1 0 43 _ sM_0 (dk_dq rfl))))).trans f_on) (((m_1893.1 0 45 _ sM_0 (dk_dq rfl)).trans ((m_1889.1 0 45 _ sM_0 (dk_dq rfl)).trans ((dg_uf_F e_796 0 45).trans (m_2.1 0 45 _ sM_0 (dk_dq rfl))))).trans f_om) (by omega) (by omega) m_1932 (dk_dq rfl) (dk_dq rfl) (w_1932_1 _ f_y_1937 (by omega))); rw [show (6 : Int32).toInt = 6 from by decide +kernel] at h9; exact h9.keep (dg_sm.uf (WF := []) (WA := [25]) dg_sm.rf e_1950 sM_25 (dk_dq rfl)) (dk_dq rfl) (dk_dq rfl) (dk_dq rfl) (dk_dq rfl) (dk_dq rfl) (dk_dq rfl) (dk_dq rfl) (dk_dq rfl)) (by obtain ⟨z9, h9⟩ := XFM.push (XFM.keep (XFM.keep (XFM.keep XF0 (dg_sm.uf (WF := []) (WA := [24]) dg_sm.rf e_796 sM_24 (dk_dq rfl)) (dk_dq rfl) (dk_dq rfl) (dk_dq rfl) (dk_dq rfl) (dk_dq rfl)) m_1889 (dk_dq rfl) (dk_dq rfl) (dk_dq rfl) (dk_dq rfl) (dk_dq rfl)) m_1893 (dk_dq rfl) (dk_dq rfl) (dk_dq rfl) (dk_dq rfl) (dk_dq rfl)) (TFM.keep (TFM.keep TF_796 m_1889 (dk_dq rfl) (dk_dq rfl) (dk_dq rfl) (dk_dq rfl) (dk_dq rfl) (dk_dq rfl) (dk_dq rfl) (dk_dq rfl)) m_1893 (dk_dq rfl) (dk_dq rfl) (dk_dq rfl) (dk_dq rfl) (dk_dq rfl) (dk_dq rfl) (dk_dq rfl) (dk_dq rfl)) (((m_1893.1 0 42 _ sM_0 (dk_dq rfl)).trans ((m_1889.1 0 42 _ sM_0 (dk_dq rfl)).trans ((dg_uf_F e_796 0 42).trans (m_2.1 0 42 _ sM_0 (dk_dq rfl))))).trans f_dp) (((m_1893.1 0 43 _ sM_0 (dk_dq rfl)).trans ((m_1889.1 0 43 _ sM_0 (dk_dq rfl)).trans ((dg_uf_F e_796 0 43).trans (m_2.1 0 43 _ sM_0 (dk_dq rfl))))).trans f_on) (((m_1893.1 0 45 _ sM_0 (dk_dq rfl)).trans ((m_1889.1 0 45 _ sM_0 (dk_dq rfl)).trans ((dg_uf_F e_796 0 45).trans (m_2.1 0 45 _ sM_0 (dk_dq rfl))))).trans f_om) (by omega) m_1932 (dk_dq rfl) (dk_dq rfl) (dk_dq rfl) (w_1932_1 _ f_y_1937 (by omega)).1; exact XFM.pr h9 (TFM.frm (TFM.keep (TFM.keep TF_796 m_1889 (dk_dq rfl) (dk_dq rfl) (dk_dq rfl) (dk_dq rfl) (dk_dq rfl) (dk_dq rfl) (dk_dq rfl) (dk_dq rfl)) m_1893 (dk_dq rfl) (dk_dq rfl) (dk_dq rfl) (dk_dq rfl) (dk_dq rfl) (dk_dq rfl) (dk_dq rfl) (dk_dq rfl)) (((m_1893.1 0 42 _ sM_0 (dk_dq rfl)).trans ((m_1889.1 0 42 _ sM_0 (dk_dq rfl)).trans ((dg_uf_F e_796 0 42).trans (m_2.1 0 42 _ sM_0 (dk_dq rfl))))).trans f_dp) (((m_1893.1 0 43 _ sM_0 (dk_dq rfl)).trans ((m_1889.1 0 43 _ sM_0 (dk_dq rfl)).trans ((dg_uf_F e_796 0 43).trans (m_2.1 0 43 _ sM_0 (dk_dq rfl))))).trans f_on) (((m_1893.1 0 45 _ sM_0 (dk_dq rfl)).trans ((m_1889.1 0 45 _ sM_0 (dk_dq rfl)).trans ((dg_uf_F e_796 0 45).trans (m_2.1 0 45 _ sM_0 (dk_dq rfl))))).trans f_om) (by omega) (by omega) m_1932 (dk_dq rfl) (dk_dq rfl) (w_1932_1 _ f_y_1937 (by omega))) f_y_1938 f_x_1960 (((m_1932.1 0 45 _ sM_0 (dk_dq rfl)).trans ((m_1893.1 0 45 _ sM_0 (dk_dq rfl)).trans ((m_1889.1 0 45 _ sM_0 (dk_dq rfl)).trans ((dg_uf_F e_796 0 45).trans (m_2.1 0 45 _ sM_0 (dk_dq rfl)))))).trans f_om) (by omega) e_1950) (q_am.mv (q_am.z f_x_1959 f_cd (by omega) (by omega)) ((dg_uf_F e_1950 0 34).trans ((m_1932.1 0 34 _ sM_0 (dk_dq rfl)).trans ((m_1893.1 0 34 _ sM_0 (dk_dq rfl)).trans ((m_1889.1 0 34 _ sM_0 (dk_dq rfl)).trans ((dg_uf_F e_796 0 34).trans (m_2.1 0 34 _ sM_0 (dk_dq rfl))))))) ((dg_uf_F e_1950 0 35).trans ((m_1932.1 0 35 _ sM_0 (dk_dq rfl)).trans ((m_1893.1 0 35 _ sM_0 (dk_dq rfl)).trans ((m_1889.1 0 35 _ sM_0 (dk_dq rfl)).trans ((dg_uf_F e_796 0 35).trans (m_2.1 0 35 _ sM_0 (dk_dq rfl))))))) ((dg_uf_ne e_1950 (dk_dq rfl)).trans ((m_1932.2 18 _ sM_18 (dk_dq rfl)).1.trans ((m_1893.2 18 _ sM_18 (dk_dq rfl)).1.trans ((m_1889.2 18 _ sM_18 (dk_dq rfl)).1.trans ((dg_uf_ne e_796 (dk_dq rfl)).trans (m_2.2 18 _ sM_18 (dk_dq rfl)).1))))) ((dg_uf_ne e_1950 (dk_dq rfl)).trans ((m_1932.2 19 _ sM_19 (dk_dq rfl)).1.trans ((m_1893.2 19 _ sM_19 (dk_dq rfl)).1.trans ((m_1889.2 19 _ sM_19 (dk_dq rfl)).1.trans ((dg_uf_ne e_796 (dk_dq rfl)).trans (m_2.2 19 _ sM_19 (dk_dq rfl)).1)))))) (fun out => by rw [show n_np 6 (x_1752).toInt = 44 from by unfold n_np; rw [if_pos (by omega)]; omega, List.append_nil]; exact (n_opd_if h171.out (h249.out.1 (by omega))).trans ((if_pos (by rw [show (t_ix tb tn (sa : Int32).toNatClampNeg) + 1 = (t_ix tb tn (y_1891 : Int32).toNatClampNeg) from by omega]; exact qw_1897_1.out (by omega))).trans (if_neg (by have h9 := ((w_1932_1 _ f_y_1937 (by omega)).2 _ (((m_1893.1 0 43 _ sM_0 (dk_dq rfl)).trans ((m_1889.1 0 43 _ sM_0 (dk_dq rfl)).trans ((dg_uf_F e_796 0 43).trans (m_2.1 0 43 _ sM_0 (dk_dq rfl))))).trans f_on)).1; have h8 := dk_clN on; omega)))) (by have h9 := (w_1932_0_6.out (by omega)).1 (by omega); omega) (by decide +kernel)), (TKM.keep w_1932_2 (dg_sm.uf (WF := []) (WA := [25]) dg_sm.rf e_1950 sM_25 (dk_dq rfl)) (dk_dq rfl) (dk_dq rfl) (dk_dq rfl) (dk_dq rfl) (dk_dq rfl) (dk_dq rfl) (dk_dq rfl) (dk_dq rfl)), (ZWM.keep (ZWM.keep (ZWM.keep (ZWM.keep (ZWM.keep (ZWM.keep ZW m_2 (dk_dq rfl) (dk_dq rfl) (dk_dq rfl) (dk_dq rfl)) (dg_sm.uf (WF := []) (WA := [24]) dg_sm.rf e_796 sM_24 (dk_dq rfl)) (dk_dq rfl) (dk_dq rfl) (dk_dq rfl) (dk_dq rfl)) m_1889 (dk_dq rfl) (dk_dq rfl) (dk_dq rfl) (dk_dq rfl)) m_1893 (dk_dq rfl) (dk_dq rfl) (dk_dq rfl) (dk_dq rfl)) m_1932 (dk_dq rfl) (dk_dq rfl) (dk_dq rfl) (dk_dq rfl)) (dg_sm.uf (WF := []) (WA := [25]) dg_sm.rf e_1950 sM_25 (dk_dq rfl)) (dk_dq rfl) (dk_dq rfl) (dk_dq rfl) (dk_dq rfl)), (G8M.keep (G8M.keep (G8M.keep (G8M.keep (G8M.keep (G8M.keep G8 m_2 (dk_dq rfl) (dk_dq rfl) (dk_dq rfl)) (dg_sm.uf (WF := []) (WA := [24]) dg_sm.rf e_796 sM_24 (dk_dq rfl)) (dk_dq rfl) (dk_dq rfl) (dk_dq rfl)) m_1889 (dk_dq rfl) (dk_dq rfl) (dk_dq rfl)) m_1893 (dk_dq rfl) (dk_dq rfl) (dk_dq rfl)) m_1932 (dk_dq rfl) (dk_dq rfl) (dk_dq rfl)) (dg_sm.uf (WF := []) (WA := [25]) dg_sm.rf e_1950 sM_25 (dk_dq rfl)) (dk_dq rfl) (dk_dq rfl) (dk_dq rfl)), trivial⟩ dX12_operand_312
                                  · as_aux_lemma =>
                                      have jc_1899 := dk_eqc (k := 0) (by decide +kernel) c_1899
                                      have qw_1897_1 : m_hid ((T_kd tb tn (t_ix tb tn (y_1891 : Int32).toNatClampNeg)).toInt ≠ 5 → g_s (T_kd tb tn) (T_vl tb tn) 40 (t_ix tb tn (y_1891 : Int32).toNatClampNeg) = false) := m_hid.mk (fun h5 => g_iff_f (TKM.iss (TKM.keep TK_1889 m_1893 (dk_dq rfl) (dk_dq rfl) (dk_dq rfl) (dk_dq rfl) (dk_dq rfl) (dk_dq rfl) (dk_dq rfl) (dk_dq rfl)) ((m_1893.1 0 3 _ sM_0 (dk_dq rfl)).trans f_y_1890) ((m_1893.1 0 4 _ sM_0 (dk_dq rfl)).trans f_y_1891) f_x_1895 h5 (c := 40) (by have h9 := w_1897_1; rw [show (40 : Int32).toInt = 40 from by decide +kernel] at h9; exact h9)) (by omega))
                                      clear w_1897_1
                                      refine lv_aload_n hx hb dX12_operand_267 rfl (lv_at hl 3 rfl) ?_
                                      refine lv_iconst (v := 1) hx hb dX12_operand_268 (by decide +kernel) ?_
                                      refine lv_aload_n hx hb dX12_operand_269 rfl (lv_at hl 3 rfl) ?_
                                      refine dg_get (C := RX12) (T := TX12) (N := 77) hx hb hts (fun w h => bw_mem (wU_X12 w h)) hown K hP sM_0 rfl 4 (dk_dq rfl) (hts _ (bw_mem wB_291)) (fun _ h9 => h9) (v := .int y_1891) ((m_1893.1 0 4 _ sM_0 (dk_dq rfl)).trans f_y_1891) dX12_operand_270 ?_
                                      have hz_1961 : (1 : Int32).toInt = 1 := by decide +kernel
                                      refine dg_callv hS hA1 hA (va_runV (As := [.int 1, .int y_1891]) (rest := []) F (c_m_blame l g D o S_1893 1 (by decide +kernel) y_1891 y_1894 f_y_1894 (by omega) I_1893 H.size) (cwV 2 hts (bw_V wB_306 wB_307 wB_308 wB_297 wB_305) rfl rfl rfl (by decide +kernel) ⟨Nat.le_of_ble_eq_true rfl, Nat.le_of_ble_eq_true rfl⟩) (dg_preV sM_0 rfl K ST hP hS hA1 hA) rfl rfl hl.1 rfl (lv_room (Nat.le_of_ble_eq_true rfl)) dX12_operand_273 ⟨Nat.le_of_ble_eq_true rfl, Nat.le_of_ble_eq_true rfl⟩) (fun S_1962 hw_1962 H locs hP hS => ?_)
                                      obtain ⟨I_1962, m_1962, w_1962_0, -⟩ := hw_1962
                                      have M_1962 := dg_sm.tr M_1893 m_1962 (dk_dq rfl) (dk_dq rfl)
                                      have hz_1963 : (1 : Int32).toInt = 1 := by decide +kernel
                                      obtain ⟨y_1964, f_y_1964, w_1962_0⟩ := w_1962_0
                                      have w_1962_0 : ((y_1894).toInt ≠ 0 → (y_1964).toInt = (y_1894).toInt) ∧ ((y_1894).toInt = 0 → (y_1964).toInt = ((1 : Int32)).toInt) := w_1962_0
                                      obtain ⟨w_1962_0_0, w_1962_0_1⟩ := w_1962_0
                                      have b_y_1964 : 0 ≤ (y_1964).toInt ∧ (y_1964).toInt ≤ 6 := dg_I.intb (lo := 0) (hi := 6) I_1962 sM_0 (by decide +kernel) f_y_1964
                                      have hbl_y_1964 : 1 ≤ (y_1964).toInt := by omega
                                      refine lv_aload_n hx hb dX12_operand_276 rfl (lv_at hl 3 rfl) ?_
                                      refine lv_iload_n hx hb dX12_operand_277 rfl (lv_at hl 0 rfl) ?_
                                      refine lv_bipush (v := 44) hx hb dX12_operand_278 (by decide +kernel) ?_
                                      refine lv_icmp_ne (tgt := 288) hx hb dX12_operand_280 (dk_dq rfl) (fun c_1965 => ?_) (fun c_1965 => ?_)
                                      · as_aux_lemma =>
                                          have jc_1965 := dk_neqc (k := 44) (by decide +kernel) c_1965
                                          have jtc_1965 : (x_1752).toInt ≤ 43 := by omega
                                          clear jc_1965
                                          refine lv_iconst (v := 3) hx hb dX12_operand_288 (by decide +kernel) ?_
                                          have hz_1966 : (3 : Int32).toInt = 3 := by decide +kernel
                                          refine dg_callv hS hA1 hA (va_runV (As := [.int 3]) (rest := []) F (c_m_frames l g D o S_1962 3 (by decide +kernel) tb tn y_1890 (((m_1962.1 0 3 _ sM_0 (dk_dq rfl)).trans (m_1893.1 0 3 _ sM_0 (dk_dq rfl))).trans f_y_1890) (by omega) y_1891 (((m_1962.1 0 4 _ sM_0 (dk_dq rfl)).trans (m_1893.1 0 4 _ sM_0 (dk_dq rfl))).trans f_y_1891) (by omega) y_1892 (((m_1962.1 0 5 _ sM_0 (dk_dq rfl)).trans (m_1893.1 0 5 _ sM_0 (dk_dq rfl))).trans f_y_1892) (by omega) sl (((m_1962.1 0 2 _ sM_0 (dk_dq rfl)).trans ((m_1893.1 0 2 _ sM_0 (dk_dq rfl)).trans ((m_1889.1 0 2 _ sM_0 (dk_dq rfl)).trans ((dg_uf_F e_796 0 2).trans (m_2.1 0 2 _ sM_0 (dk_dq rfl)))))).trans f_sl) (by omega) y_1964 f_y_1964 (by omega) dp (((m_1962.1 0 42 _ sM_0 (dk_dq rfl)).trans ((m_1893.1 0 42 _ sM_0 (dk_dq rfl)).trans ((m_1889.1 0 42 _ sM_0 (dk_dq rfl)).trans ((dg_uf_F e_796 0 42).trans (m_2.1 0 42 _ sM_0 (dk_dq rfl)))))).trans f_dp) (by omega) om (((m_1962.1 0 45 _ sM_0 (dk_dq rfl)).trans ((m_1893.1 0 45 _ sM_0 (dk_dq rfl)).trans ((m_1889.1 0 45 _ sM_0 (dk_dq rfl)).trans ((dg_uf_F e_796 0 45).trans (m_2.1 0 45 _ sM_0 (dk_dq rfl)))))).trans f_om) (by omega) on (((m_1962.1 0 43 _ sM_0 (dk_dq rfl)).trans ((m_1893.1 0 43 _ sM_0 (dk_dq rfl)).trans ((m_1889.1 0 43 _ sM_0 (dk_dq rfl)).trans ((dg_uf_F e_796 0 43).trans (m_2.1 0 43 _ sM_0 (dk_dq rfl)))))).trans f_on) (by omega) (by omega) (by omega) (TKM.keep (TKM.keep TK_1889 m_1893 (dk_dq rfl) (dk_dq rfl) (dk_dq rfl) (dk_dq rfl) (dk_dq rfl) (dk_dq rfl) (dk_dq rfl) (dk_dq rfl)) m_1962 (dk_dq rfl) (dk_dq rfl) (dk_dq rfl) (dk_dq rfl) (dk_dq rfl) (dk_dq rfl) (dk_dq rfl) (dk_dq rfl)) I_1962 H.size) (cwV 1 hts (bw_V wB_431 wB_432 wB_433 wB_297 wB_430) rfl rfl rfl (by decide +kernel) ⟨Nat.le_of_ble_eq_true rfl, Nat.le_of_ble_eq_true rfl⟩) (dg_preV sM_0 rfl K ST hP hS hA1 hA) rfl rfl hl.1 rfl (lv_room (Nat.le_of_ble_eq_true rfl)) dX12_operand_289 ⟨Nat.le_of_ble_eq_true rfl, Nat.le_of_ble_eq_true rfl⟩) (fun S_1967 hw_1967 H locs hP hS => ?_)
                                          obtain ⟨I_1967, m_1967, w_1967_0, w_1967_1, w_1967_2, -⟩ := hw_1967
                                          have M_1967 := dg_sm.tr M_1962 m_1967 (dk_dq rfl) (dk_dq rfl)
                                          have hz_1968 : (3 : Int32).toInt = 3 := by decide +kernel
                                          obtain ⟨y_1969, y_1970, y_1971, y_1972, y_1973, f_y_1969, f_y_1970, f_y_1971, f_y_1972, f_y_1973, w_1967_0⟩ := w_1967_0
                                          have w_1967_0 : (((y_1970).toInt ≤ (y_1971).toInt ∧ (y_1971).toInt ≤ (sl).toInt ∧ ((y_1969).toInt ≠ 0 → (y_1970).toInt + 1 ≤ (y_1971).toInt)) ∧ (y_1891).toInt ≤ (y_1970).toInt ∧ ((y_1964).toInt ≠ 0 → (y_1972).toInt ≠ 0) ∧ (((y_1972).toInt = 0 → ((y_1891).toInt + 1 ≤ (y_1970).toInt ∧ (y_1973).toInt = (dp).toInt + 1)))) ∧ m_hid ((y_1964).toInt = 0 → (((y_1972).toInt = 0 → (t_ix tb tn (y_1970 : Int32).toNatClampNeg) = (t_ix tb tn (y_1891 : Int32).toNatClampNeg) + 1) ∧ ((y_1972).toInt ≠ 0 → (on).toInt = 7))) := w_1967_0
                                          obtain ⟨⟨⟨w_1967_0_0, w_1967_0_1, w_1967_0_2⟩, w_1967_0_3, w_1967_0_4, w_1967_0_5⟩, w_1967_0_6⟩ := w_1967_0
                                          have w_1967_0_4r := w_1967_0_4 (by omega)
                                          clear w_1967_0_4
                                          have b_y_1969 : 0 ≤ (y_1969).toInt ∧ (y_1969).toInt ≤ 3 := dg_I.intb (lo := 0) (hi := 3) I_1967 sM_0 (by decide +kernel) f_y_1969
                                          have b_y_1970 : 0 ≤ (y_1970).toInt ∧ (y_1970).toInt ≤ 1600 := dg_I.intb (lo := 0) (hi := 1600) I_1967 sM_0 (by decide +kernel) f_y_1970
                                          have b_y_1971 : 0 ≤ (y_1971).toInt ∧ (y_1971).toInt ≤ 1600 := dg_I.intb (lo := 0) (hi := 1600) I_1967 sM_0 (by decide +kernel) f_y_1971
                                          have b_y_1972 : 0 ≤ (y_1972).toInt ∧ (y_1972).toInt ≤ 6 := dg_I.intb (lo := 0) (hi := 6) I_1967 sM_0 (by decide +kernel) f_y_1972
                                          have b_y_1973 : 0 ≤ (y_1973).toInt ∧ (y_1973).toInt ≤ 20 := dg_I.intb (lo := 0) (hi := 20) I_1967 sM_0 (by decide +kernel) f_y_1973
                                          replace w_1967_1 : ∀ k9 : Int32, S_1967.1 0 8 = .int k9 → k9.toInt = 0 → FRM S_1962 S_1967 (3 : Int32) := w_1967_1
                                          refine lv_aload_n hx hb dX12_operand_292 rfl (lv_at hl 3 rfl) ?_
                                          refine dg_get (C := RX12) (T := TX12) (N := 77) hx hb hts (fun w h => bw_mem (wU_X12 w h)) hown K hP sM_0 rfl 8 (dk_dq rfl) (hts _ (bw_mem wB_303)) (fun _ h9 => h9) (v := .int y_1972) f_y_1972 dX12_operand_293 ?_
                                          refine lv_if_ne (tgt := 311) hx hb dX12_operand_296 (dk_dq rfl) (fun c_1974 => ?_) (fun c_1974 => ?_)
                                          · as_aux_lemma =>
                                              have jc_1974 := dk_neqc (k := 0) (by decide +kernel) c_1974
                                              have jbc_1974 : 1 ≤ (y_1972).toInt := by omega
                                              clear jc_1974
                                              clear w_1967_0_5
                                              refine lv_iconst (v := 0) hx hb dX12_operand_311 (by decide +kernel) ?_
                                              have hz_1975 : (0 : Int32).toInt = 0 := by decide +kernel
                                              have hz_1976 : (0 : Int32).toInt = 0 := by decide +kernel
                                              have hz_1977 : (0 : Int32).toInt = 0 := by decide +kernel
                                              have hz_1978 : (0 : Int32).toInt = 0 := by decide +kernel
                                              have hz_1979 : (0 : Int32).toInt = 0 := by decide +kernel
                                              have hz_1980 : (0 : Int32).toInt = 0 := by decide +kernel
                                              have hz_1981 : (0 : Int32).toInt = 0 := by decide +kernel
                                              have hz_1982 : (0 : Int32).toInt = 0 := by decide +kernel
                                              refine W.widen (k := 0) (n := 0) (Nat.le_of_ble_eq_true rfl) (Nat.le_of_ble_eq_true rfl) ?_
                                              rw [hQ9]
                                              exact dg_iret hx hb hr hlocks (by decide +kernel) hP hS ⟨I_1967, M_1967, (by decide +kernel), ⟨y_1969, y_1970, y_1971, y_1972, cd, y_1973, om, f_y_1969, f_y_1970, f_y_1971, f_y_1972, (((m_1967.1 0 34 _ sM_0 (dk_dq rfl)).trans ((m_1962.1 0 34 _ sM_0 (dk_dq rfl)).trans ((m_1893.1 0 34 _ sM_0 (dk_dq rfl)).trans ((m_1889.1 0 34 _ sM_0 (dk_dq rfl)).trans ((dg_uf_F e_796 0 34).trans (m_2.1 0 34 _ sM_0 (dk_dq rfl))))))).trans f_cd), f_y_1973, (((m_1967.1 0 45 _ sM_0 (dk_dq rfl)).trans ((m_1962.1 0 45 _ sM_0 (dk_dq rfl)).trans ((m_1893.1 0 45 _ sM_0 (dk_dq rfl)).trans ((m_1889.1 0 45 _ sM_0 (dk_dq rfl)).trans ((dg_uf_F e_796 0 45).trans (m_2.1 0 45 _ sM_0 (dk_dq rfl))))))).trans f_om), (by omega)⟩, (fun k9 hk9 hk0 => by have q9 := (f_y_1972).symm.trans hk9; cases q9; omega), (OPK.no f_sa f_fk f_y_1972 (by omega) (fun h0 => by rw [hM0]; exact m_st_f.trans ((m_opd_mm h171.out (h249.out.2 (by omega))).trans (m_mm_bad (by by_cases q5 : (T_kd tb tn (t_ix tb tn (y_1891 : Int32).toNatClampNeg)).toInt = 5; exact Or.inl (by rw [show (t_ix tb tn (sa : Int32).toNatClampNeg) + 1 = (t_ix tb tn (y_1891 : Int32).toNatClampNeg) from by omega]; exact g_s_5 q5); first | exact Or.inl (by rw [show (t_ix tb tn (sa : Int32).toNatClampNeg) + 1 = (t_ix tb tn (y_1891 : Int32).toNatClampNeg) from by omega]; exact qw_1897_1.out q5) | exact Or.inr (by have h9 := (w_1967_0_6.out (by omega)).2 (by omega); have h8 := dk_clN on; omega)))))), (OPN.no f_y_1972 (by omega)), w_1967_2, (ZWM.keep (ZWM.keep (ZWM.keep (ZWM.keep (ZWM.keep (ZWM.keep ZW m_2 (dk_dq rfl) (dk_dq rfl) (dk_dq rfl) (dk_dq rfl)) (dg_sm.uf (WF := []) (WA := [24]) dg_sm.rf e_796 sM_24 (dk_dq rfl)) (dk_dq rfl) (dk_dq rfl) (dk_dq rfl) (dk_dq rfl)) m_1889 (dk_dq rfl) (dk_dq rfl) (dk_dq rfl) (dk_dq rfl)) m_1893 (dk_dq rfl) (dk_dq rfl) (dk_dq rfl) (dk_dq rfl)) m_1962 (dk_dq rfl) (dk_dq rfl) (dk_dq rfl) (dk_dq rfl)) m_1967 (dk_dq rfl) (dk_dq rfl) (dk_dq rfl) (dk_dq rfl)), (G8M.keep (G8M.keep (G8M.keep (G8M.keep (G8M.keep (G8M.keep G8 m_2 (dk_dq rfl) (dk_dq rfl) (dk_dq rfl)) (dg_sm.uf (WF := []) (WA := [24]) dg_sm.rf e_796 sM_24 (dk_dq rfl)) (dk_dq rfl) (dk_dq rfl) (dk_dq rfl)) m_1889 (dk_dq rfl) (dk_dq rfl) (dk_dq rfl)) m_1893 (dk_dq rfl) (dk_dq rfl) (dk_dq rfl)) m_1962 (dk_dq rfl) (dk_dq rfl) (dk_dq rfl)) m_1967 (dk_dq rfl) (dk_dq rfl) (dk_dq rfl)), trivial⟩ dX12_operand_312
                                          · as_aux_lemma =>
                                              have jc_1974 := dk_eqc (k := 0) (by decide +kernel) c_1974
                                              have w_1967_0_5r := w_1967_0_5 (by omega)
                                              clear w_1967_0_5
                                              obtain ⟨w_1967_0_5r_0, w_1967_0_5r_1⟩ := w_1967_0_5r
                                              refine lv_aload_n hx hb dX12_operand_299 rfl (lv_at hl 3 rfl) ?_
                                              refine dg_get (C := RX12) (T := TX12) (N := 77) hx hb hts (fun w h => bw_mem (wU_X12 w h)) hown K hP sM_0 rfl 40 (dk_dq rfl) (hts _ (bw_mem wB_435)) (fun _ h9 => h9) (v := .ref (o + 25)) (show S_1967.1 0 40 = .ref (o + 25) from dg_I.rel (d := 25) I_1967 sM_0 (by decide +kernel)) dX12_operand_300 ?_
                                              refine lv_aload_n hx hb dX12_operand_303 rfl (lv_at hl 3 rfl) ?_
                                              refine dg_get (C := RX12) (T := TX12) (N := 77) hx hb hts (fun w h => bw_mem (wU_X12 w h)) hown K hP sM_0 rfl 42 (dk_dq rfl) (hts _ (bw_mem wB_406)) (fun _ h9 => h9) (v := .int y_1973) f_y_1973 dX12_operand_304 ?_
                                              refine lv_iconst (v := 1) hx hb dX12_operand_307 (by decide +kernel) ?_
                                              refine lv_isub hx hb dX12_operand_308 ?_
                                              refine lv_topi (fun x_1983 ex_1983 => ?_)
                                              have jx_1983 : (x_1983).toInt = (y_1973).toInt - 1 := by rw [ex_1983]; exact dk_subT2 rfl (by decide +kernel) (by omega)
                                              refine lv_iload_n hx hb dX12_operand_309 rfl (lv_at hl 0 rfl) ?_
                                              have hin_1984 : vp_in x_1983 20 := (dk_inv2 (by omega))
                                              refine dg_iast hx hb K hP hS hA1 sM_25 hin_1984 dX12_operand_310 (fun S_1985 e_1985 H locs hP hS => ?_)
                                              have I_1985 := dg_I.uf0 I_1967 e_1985 sM_25 (by decide +kernel)
                                              have M_1985 := dg_sm.uf M_1967 e_1985 sM_25 (dk_dq rfl)
                                              have P0_1985 : P0M S_1985 := PBM.openp (PBM.keep (PBM.keep (PBM.keep PB_796 m_1889 (dk_dq rfl) (dk_dq rfl) (dk_dq rfl) (dk_dq rfl) (dk_dq rfl) (dk_dq rfl) (dk_dq rfl) (dk_dq rfl) (dk_dq rfl) (dk_dq rfl) (dk_dq rfl) (dk_dq rfl) (dk_dq rfl) (dk_dq rfl) (dk_dq rfl)) m_1893 (dk_dq rfl) (dk_dq rfl) (dk_dq rfl) (dk_dq rfl) (dk_dq rfl) (dk_dq rfl) (dk_dq rfl) (dk_dq rfl) (dk_dq rfl) (dk_dq rfl) (dk_dq rfl) (dk_dq rfl) (dk_dq rfl) (dk_dq rfl) (dk_dq rfl)) m_1962 (dk_dq rfl) (dk_dq rfl) (dk_dq rfl) (dk_dq rfl) (dk_dq rfl) (dk_dq rfl) (dk_dq rfl) (dk_dq rfl) (dk_dq rfl) (dk_dq rfl) (dk_dq rfl) (dk_dq rfl) (dk_dq rfl) (dk_dq rfl) (dk_dq rfl)) (((m_1962.1 0 42 _ sM_0 (dk_dq rfl)).trans ((m_1893.1 0 42 _ sM_0 (dk_dq rfl)).trans ((m_1889.1 0 42 _ sM_0 (dk_dq rfl)).trans ((dg_uf_F e_796 0 42).trans (m_2.1 0 42 _ sM_0 (dk_dq rfl)))))).trans f_dp) (((m_1962.1 0 43 _ sM_0 (dk_dq rfl)).trans ((m_1893.1 0 43 _ sM_0 (dk_dq rfl)).trans ((m_1889.1 0 43 _ sM_0 (dk_dq rfl)).trans ((dg_uf_F e_796 0 43).trans (m_2.1 0 43 _ sM_0 (dk_dq rfl)))))).trans f_on) (((m_1962.1 0 45 _ sM_0 (dk_dq rfl)).trans ((m_1893.1 0 45 _ sM_0 (dk_dq rfl)).trans ((m_1889.1 0 45 _ sM_0 (dk_dq rfl)).trans ((dg_uf_F e_796 0 45).trans (m_2.1 0 45 _ sM_0 (dk_dq rfl)))))).trans f_om) (w_1967_1 _ f_y_1972 (by omega)) m_1967 (dk_dq rfl) (dk_dq rfl) (dk_dq rfl) (dk_dq rfl) (by omega) f_y_1973 (by omega) e_1985
                                              refine lv_iconst (v := 0) hx hb dX12_operand_311 (by decide +kernel) ?_
                                              have hz_1986 : (0 : Int32).toInt = 0 := by decide +kernel
                                              have hz_1987 : (0 : Int32).toInt = 0 := by decide +kernel
                                              have hz_1988 : (0 : Int32).toInt = 0 := by decide +kernel
                                              have hz_1989 : (0 : Int32).toInt = 0 := by decide +kernel
                                              have hz_1990 : (0 : Int32).toInt = 0 := by decide +kernel
                                              have hz_1991 : (0 : Int32).toInt = 0 := by decide +kernel
                                              have hz_1992 : (0 : Int32).toInt = 0 := by decide +kernel
                                              have hz_1993 : (0 : Int32).toInt = 0 := by decide +kernel
                                              obtain ⟨x_1994, f_x_1994, b_x_1994⟩ := dg_I.int (i := 0) (k := 35) (lo := 0) (hi := 1) I sM_0 (by decide +kernel)
                                              refine W.widen (k := 0) (n := 0) (Nat.le_of_ble_eq_true rfl) (Nat.le_of_ble_eq_true rfl) ?_
                                              rw [hQ9]
                                              exact dg_iret hx hb hr hlocks (by decide +kernel) hP hS ⟨I_1985, M_1985, (by decide +kernel), ⟨y_1969, y_1970, y_1971, y_1972, cd, y_1973, om, ((dg_uf_F e_1985 0 3).trans f_y_1969), ((dg_uf_F e_1985 0 4).trans f_y_1970), ((dg_uf_F e_1985 0 5).trans f_y_1971), ((dg_uf_F e_1985 0 8).trans f_y_1972), (((dg_uf_F e_1985 0 34).trans ((m_1967.1 0 34 _ sM_0 (dk_dq rfl)).trans ((m_1962.1 0 34 _ sM_0 (dk_dq rfl)).trans ((m_1893.1 0 34 _ sM_0 (dk_dq rfl)).trans ((m_1889.1 0 34 _ sM_0 (dk_dq rfl)).trans ((dg_uf_F e_796 0 34).trans (m_2.1 0 34 _ sM_0 (dk_dq rfl)))))))).trans f_cd), ((dg_uf_F e_1985 0 42).trans f_y_1973), (((dg_uf_F e_1985 0 45).trans ((m_1967.1 0 45 _ sM_0 (dk_dq rfl)).trans ((m_1962.1 0 45 _ sM_0 (dk_dq rfl)).trans ((m_1893.1 0 45 _ sM_0 (dk_dq rfl)).trans ((m_1889.1 0 45 _ sM_0 (dk_dq rfl)).trans ((dg_uf_F e_796 0 45).trans (m_2.1 0 45 _ sM_0 (dk_dq rfl)))))))).trans f_om), (by omega)⟩, (fun k9 hk9 hk0 => ⟨fun h9 => absurd h9 (by decide +kernel), fun _ => P0_1985⟩), (by exfalso; omega), (by exfalso; omega), (TKM.keep w_1967_2 (dg_sm.uf (WF := []) (WA := [25]) dg_sm.rf e_1985 sM_25 (dk_dq rfl)) (dk_dq rfl) (dk_dq rfl) (dk_dq rfl) (dk_dq rfl) (dk_dq rfl) (dk_dq rfl) (dk_dq rfl) (dk_dq rfl)), (ZWM.keep (ZWM.keep (ZWM.keep (ZWM.keep (ZWM.keep (ZWM.keep (ZWM.keep ZW m_2 (dk_dq rfl) (dk_dq rfl) (dk_dq rfl) (dk_dq rfl)) (dg_sm.uf (WF := []) (WA := [24]) dg_sm.rf e_796 sM_24 (dk_dq rfl)) (dk_dq rfl) (dk_dq rfl) (dk_dq rfl) (dk_dq rfl)) m_1889 (dk_dq rfl) (dk_dq rfl) (dk_dq rfl) (dk_dq rfl)) m_1893 (dk_dq rfl) (dk_dq rfl) (dk_dq rfl) (dk_dq rfl)) m_1962 (dk_dq rfl) (dk_dq rfl) (dk_dq rfl) (dk_dq rfl)) m_1967 (dk_dq rfl) (dk_dq rfl) (dk_dq rfl) (dk_dq rfl)) (dg_sm.uf (WF := []) (WA := [25]) dg_sm.rf e_1985 sM_25 (dk_dq rfl)) (dk_dq rfl) (dk_dq rfl) (dk_dq rfl) (dk_dq rfl)), (G8M.keep (G8M.keep (G8M.keep (G8M.keep (G8M.keep (G8M.keep (G8M.keep G8 m_2 (dk_dq rfl) (dk_dq rfl) (dk_dq rfl)) (dg_sm.uf (WF := []) (WA := [24]) dg_sm.rf e_796 sM_24 (dk_dq rfl)) (dk_dq rfl) (dk_dq rfl) (dk_dq rfl)) m_1889 (dk_dq rfl) (dk_dq rfl) (dk_dq rfl)) m_1893 (dk_dq rfl) (dk_dq rfl) (dk_dq rfl)) m_1962 (dk_dq rfl) (dk_dq rfl) (dk_dq rfl)) m_1967 (dk_dq rfl) (dk_dq rfl) (dk_dq rfl)) (dg_sm.uf (WF := []) (WA := [25]) dg_sm.rf e_1985 sM_25 (dk_dq rfl)) (dk_dq rfl) (dk_dq rfl) (dk_dq rfl)), trivial⟩ dX12_operand_312
                                      · as_aux_lemma =>
                                          have jc_1965 := dk_eqc (k := 44) (by decide +kernel) c_1965
                                          refine lv_bipush (v := 6) hx hb dX12_operand_283 (by decide +kernel) ?_
                                          refine lv_goto (tgt := 289) hx hb dX12_operand_285 (dk_dq rfl) ?_
                                          have hz_1995 : (6 : Int32).toInt = 6 := by decide +kernel
                                          refine dg_callv hS hA1 hA (va_runV (As := [.int 6]) (rest := []) F (c_m_frames l g D o S_1962 6 (by decide +kernel) tb tn y_1890 (((m_1962.1 0 3 _ sM_0 (dk_dq rfl)).trans (m_1893.1 0 3 _ sM_0 (dk_dq rfl))).trans f_y_1890) (by omega) y_1891 (((m_1962.1 0 4 _ sM_0 (dk_dq rfl)).trans (m_1893.1 0 4 _ sM_0 (dk_dq rfl))).trans f_y_1891) (by omega) y_1892 (((m_1962.1 0 5 _ sM_0 (dk_dq rfl)).trans (m_1893.1 0 5 _ sM_0 (dk_dq rfl))).trans f_y_1892) (by omega) sl (((m_1962.1 0 2 _ sM_0 (dk_dq rfl)).trans ((m_1893.1 0 2 _ sM_0 (dk_dq rfl)).trans ((m_1889.1 0 2 _ sM_0 (dk_dq rfl)).trans ((dg_uf_F e_796 0 2).trans (m_2.1 0 2 _ sM_0 (dk_dq rfl)))))).trans f_sl) (by omega) y_1964 f_y_1964 (by omega) dp (((m_1962.1 0 42 _ sM_0 (dk_dq rfl)).trans ((m_1893.1 0 42 _ sM_0 (dk_dq rfl)).trans ((m_1889.1 0 42 _ sM_0 (dk_dq rfl)).trans ((dg_uf_F e_796 0 42).trans (m_2.1 0 42 _ sM_0 (dk_dq rfl)))))).trans f_dp) (by omega) om (((m_1962.1 0 45 _ sM_0 (dk_dq rfl)).trans ((m_1893.1 0 45 _ sM_0 (dk_dq rfl)).trans ((m_1889.1 0 45 _ sM_0 (dk_dq rfl)).trans ((dg_uf_F e_796 0 45).trans (m_2.1 0 45 _ sM_0 (dk_dq rfl)))))).trans f_om) (by omega) on (((m_1962.1 0 43 _ sM_0 (dk_dq rfl)).trans ((m_1893.1 0 43 _ sM_0 (dk_dq rfl)).trans ((m_1889.1 0 43 _ sM_0 (dk_dq rfl)).trans ((dg_uf_F e_796 0 43).trans (m_2.1 0 43 _ sM_0 (dk_dq rfl)))))).trans f_on) (by omega) (by omega) (by omega) (TKM.keep (TKM.keep TK_1889 m_1893 (dk_dq rfl) (dk_dq rfl) (dk_dq rfl) (dk_dq rfl) (dk_dq rfl) (dk_dq rfl) (dk_dq rfl) (dk_dq rfl)) m_1962 (dk_dq rfl) (dk_dq rfl) (dk_dq rfl) (dk_dq rfl) (dk_dq rfl) (dk_dq rfl) (dk_dq rfl) (dk_dq rfl)) I_1962 H.size) (cwV 1 hts (bw_V wB_431 wB_432 wB_433 wB_297 wB_430) rfl rfl rfl (by decide +kernel) ⟨Nat.le_of_ble_eq_true rfl, Nat.le_of_ble_eq_true rfl⟩) (dg_preV sM_0 rfl K ST hP hS hA1 hA) rfl rfl hl.1 rfl (lv_room (Nat.le_of_ble_eq_true rfl)) dX12_operand_289 ⟨Nat.le_of_ble_eq_true rfl, Nat.le_of_ble_eq_true rfl⟩) (fun S_1996 hw_1996 H locs hP hS => ?_)
                                          obtain ⟨I_1996, m_1996, w_1996_0, w_1996_1, w_1996_2, -⟩ := hw_1996
                                          have M_1996 := dg_sm.tr M_1962 m_1996 (dk_dq rfl) (dk_dq rfl)
                                          have hz_1997 : (6 : Int32).toInt = 6 := by decide +kernel
                                          obtain ⟨y_1998, y_1999, y_2000, y_2001, y_2002, f_y_1998, f_y_1999, f_y_2000, f_y_2001, f_y_2002, w_1996_0⟩ := w_1996_0
                                          have w_1996_0 : (((y_1999).toInt ≤ (y_2000).toInt ∧ (y_2000).toInt ≤ (sl).toInt ∧ ((y_1998).toInt ≠ 0 → (y_1999).toInt + 1 ≤ (y_2000).toInt)) ∧ (y_1891).toInt ≤ (y_1999).toInt ∧ ((y_1964).toInt ≠ 0 → (y_2001).toInt ≠ 0) ∧ (((y_2001).toInt = 0 → ((y_1891).toInt + 1 ≤ (y_1999).toInt ∧ (y_2002).toInt = (dp).toInt + 1)))) ∧ m_hid ((y_1964).toInt = 0 → (((y_2001).toInt = 0 → (t_ix tb tn (y_1999 : Int32).toNatClampNeg) = (t_ix tb tn (y_1891 : Int32).toNatClampNeg) + 1) ∧ ((y_2001).toInt ≠ 0 → (on).toInt = 7))) := w_1996_0
                                          obtain ⟨⟨⟨w_1996_0_0, w_1996_0_1, w_1996_0_2⟩, w_1996_0_3, w_1996_0_4, w_1996_0_5⟩, w_1996_0_6⟩ := w_1996_0
                                          have w_1996_0_4r := w_1996_0_4 (by omega)
                                          clear w_1996_0_4
                                          have b_y_1998 : 0 ≤ (y_1998).toInt ∧ (y_1998).toInt ≤ 3 := dg_I.intb (lo := 0) (hi := 3) I_1996 sM_0 (by decide +kernel) f_y_1998
                                          have b_y_1999 : 0 ≤ (y_1999).toInt ∧ (y_1999).toInt ≤ 1600 := dg_I.intb (lo := 0) (hi := 1600) I_1996 sM_0 (by decide +kernel) f_y_1999
                                          have b_y_2000 : 0 ≤ (y_2000).toInt ∧ (y_2000).toInt ≤ 1600 := dg_I.intb (lo := 0) (hi := 1600) I_1996 sM_0 (by decide +kernel) f_y_2000
                                          have b_y_2001 : 0 ≤ (y_2001).toInt ∧ (y_2001).toInt ≤ 6 := dg_I.intb (lo := 0) (hi := 6) I_1996 sM_0 (by decide +kernel) f_y_2001
                                          have b_y_2002 : 0 ≤ (y_2002).toInt ∧ (y_2002).toInt ≤ 20 := dg_I.intb (lo := 0) (hi := 20) I_1996 sM_0 (by decide +kernel) f_y_2002
                                          replace w_1996_1 : ∀ k9 : Int32, S_1996.1 0 8 = .int k9 → k9.toInt = 0 → FRM S_1962 S_1996 (6 : Int32) := w_1996_1
                                          refine lv_aload_n hx hb dX12_operand_292 rfl (lv_at hl 3 rfl) ?_
                                          refine dg_get (C := RX12) (T := TX12) (N := 77) hx hb hts (fun w h => bw_mem (wU_X12 w h)) hown K hP sM_0 rfl 8 (dk_dq rfl) (hts _ (bw_mem wB_303)) (fun _ h9 => h9) (v := .int y_2001) f_y_2001 dX12_operand_293 ?_
                                          refine lv_if_ne (tgt := 311) hx hb dX12_operand_296 (dk_dq rfl) (fun c_2003 => ?_) (fun c_2003 => ?_)
                                          · as_aux_lemma =>
                                              have jc_2003 := dk_neqc (k := 0) (by decide +kernel) c_2003
                                              have jbc_2003 : 1 ≤ (y_2001).toInt := by omega
                                              clear jc_2003
                                              clear w_1996_0_5
                                              refine lv_iconst (v := 0) hx hb dX12_operand_311 (by decide +kernel) ?_
                                              have hz_2004 : (0 : Int32).toInt = 0 := by decide +kernel
                                              have hz_2005 : (0 : Int32).toInt = 0 := by decide +kernel
                                              have hz_2006 : (0 : Int32).toInt = 0 := by decide +kernel
                                              have hz_2007 : (0 : Int32).toInt = 0 := by decide +kernel
                                              have hz_2008 : (0 : Int32).toInt = 0 := by decide +kernel
                                              have hz_2009 : (0 : Int32).toInt = 0 := by decide +kernel
                                              have hz_2010 : (0 : Int32).toInt = 0 := by decide +kernel
                                              have hz_2011 : (0 : Int32).toInt = 0 := by decide +kernel
                                              refine W.widen (k := 0) (n := 0) (Nat.le_of_ble_eq_true rfl) (Nat.le_of_ble_eq_true rfl) ?_
                                              rw [hQ9]
                                              exact dg_iret hx hb hr hlocks (by decide +kernel) hP hS ⟨I_1996, M_1996, (by decide +kernel), ⟨y_1998, y_1999, y_2000, y_2001, cd, y_2002, om, f_y_1998, f_y_1999, f_y_2000, f_y_2001, (((m_1996.1 0 34 _ sM_0 (dk_dq rfl)).trans ((m_1962.1 0 34 _ sM_0 (dk_dq rfl)).trans ((m_1893.1 0 34 _ sM_0 (dk_dq rfl)).trans ((m_1889.1 0 34 _ sM_0 (dk_dq rfl)).trans ((dg_uf_F e_796 0 34).trans (m_2.1 0 34 _ sM_0 (dk_dq rfl))))))).trans f_cd), f_y_2002, (((m_1996.1 0 45 _ sM_0 (dk_dq rfl)).trans ((m_1962.1 0 45 _ sM_0 (dk_dq rfl)).trans ((m_1893.1 0 45 _ sM_0 (dk_dq rfl)).trans ((m_1889.1 0 45 _ sM_0 (dk_dq rfl)).trans ((dg_uf_F e_796 0 45).trans (m_2.1 0 45 _ sM_0 (dk_dq rfl))))))).trans f_om), (by omega)⟩, (fun k9 hk9 hk0 => by have q9 := (f_y_2001).symm.trans hk9; cases q9; omega), (OPK.no f_sa f_fk f_y_2001 (by omega) (fun h0 => by rw [hM0]; exact m_st_f.trans ((m_opd_if h171.out (h249.out.1 (by omega))).trans (m_mm_bad (by by_cases q5 : (T_kd tb tn (t_ix tb tn (y_1891 : Int32).toNatClampNeg)).toInt = 5; exact Or.inl (by rw [show (t_ix tb tn (sa : Int32).toNatClampNeg) + 1 = (t_ix tb tn (y_1891 : Int32).toNatClampNeg) from by omega]; exact g_s_5 q5); first | exact Or.inl (by rw [show (t_ix tb tn (sa : Int32).toNatClampNeg) + 1 = (t_ix tb tn (y_1891 : Int32).toNatClampNeg) from by omega]; exact qw_1897_1.out q5) | exact Or.inr (by have h9 := (w_1996_0_6.out (by omega)).2 (by omega); have h8 := dk_clN on; omega)))))), (OPN.no f_y_2001 (by omega)), w_1996_2, (ZWM.keep (ZWM.keep (ZWM.keep (ZWM.keep (ZWM.keep (ZWM.keep ZW m_2 (dk_dq rfl) (dk_dq rfl) (dk_dq rfl) (dk_dq rfl)) (dg_sm.uf (WF := []) (WA := [24]) dg_sm.rf e_796 sM_24 (dk_dq rfl)) (dk_dq rfl) (dk_dq rfl) (dk_dq rfl) (dk_dq rfl)) m_1889 (dk_dq rfl) (dk_dq rfl) (dk_dq rfl) (dk_dq rfl)) m_1893 (dk_dq rfl) (dk_dq rfl) (dk_dq rfl) (dk_dq rfl)) m_1962 (dk_dq rfl) (dk_dq rfl) (dk_dq rfl) (dk_dq rfl)) m_1996 (dk_dq rfl) (dk_dq rfl) (dk_dq rfl) (dk_dq rfl)), (G8M.keep (G8M.keep (G8M.keep (G8M.keep (G8M.keep (G8M.keep G8 m_2 (dk_dq rfl) (dk_dq rfl) (dk_dq rfl)) (dg_sm.uf (WF := []) (WA := [24]) dg_sm.rf e_796 sM_24 (dk_dq rfl)) (dk_dq rfl) (dk_dq rfl) (dk_dq rfl)) m_1889 (dk_dq rfl) (dk_dq rfl) (dk_dq rfl)) m_1893 (dk_dq rfl) (dk_dq rfl) (dk_dq rfl)) m_1962 (dk_dq rfl) (dk_dq rfl) (dk_dq rfl)) m_1996 (dk_dq rfl) (dk_dq rfl) (dk_dq rfl)), trivial⟩ dX12_operand_312
                                          · as_aux_lemma =>
                                              have jc_2003 := dk_eqc (k := 0) (by decide +kernel) c_2003
                                              have w_1996_0_5r := w_1996_0_5 (by omega)
                                              clear w_1996_0_5
                                              obtain ⟨w_1996_0_5r_0, w_1996_0_5r_1⟩ := w_1996_0_5r
                                              refine lv_aload_n hx hb dX12_operand_299 rfl (lv_at hl 3 rfl) ?_
                                              refine dg_get (C := RX12) (T := TX12) (N := 77) hx hb hts (fun w h => bw_mem (wU_X12 w h)) hown K hP sM_0 rfl 40 (dk_dq rfl) (hts _ (bw_mem wB_435)) (fun _ h9 => h9) (v := .ref (o + 25)) (show S_1996.1 0 40 = .ref (o + 25) from dg_I.rel (d := 25) I_1996 sM_0 (by decide +kernel)) dX12_operand_300 ?_
                                              refine lv_aload_n hx hb dX12_operand_303 rfl (lv_at hl 3 rfl) ?_
                                              refine dg_get (C := RX12) (T := TX12) (N := 77) hx hb hts (fun w h => bw_mem (wU_X12 w h)) hown K hP sM_0 rfl 42 (dk_dq rfl) (hts _ (bw_mem wB_406)) (fun _ h9 => h9) (v := .int y_2002) f_y_2002 dX12_operand_304 ?_
                                              refine lv_iconst (v := 1) hx hb dX12_operand_307 (by decide +kernel) ?_
                                              refine lv_isub hx hb dX12_operand_308 ?_
                                              refine lv_topi (fun x_2012 ex_2012 => ?_)
                                              have jx_2012 : (x_2012).toInt = (y_2002).toInt - 1 := by rw [ex_2012]; exact dk_subT2 rfl (by decide +kernel) (by omega)
                                              refine lv_iload_n hx hb dX12_operand_309 rfl (lv_at hl 0 rfl) ?_
                                              have hin_2013 : vp_in x_2012 20 := (dk_inv2 (by omega))
                                              refine dg_iast hx hb K hP hS hA1 sM_25 hin_2013 dX12_operand_310 (fun S_2014 e_2014 H locs hP hS => ?_)
                                              have I_2014 := dg_I.uf0 I_1996 e_2014 sM_25 (by decide +kernel)
                                              have M_2014 := dg_sm.uf M_1996 e_2014 sM_25 (dk_dq rfl)
                                              have P0_2014 : P0M S_2014 := PBM.openp (PBM.keep (PBM.keep (PBM.keep PB_796 m_1889 (dk_dq rfl) (dk_dq rfl) (dk_dq rfl) (dk_dq rfl) (dk_dq rfl) (dk_dq rfl) (dk_dq rfl) (dk_dq rfl) (dk_dq rfl) (dk_dq rfl) (dk_dq rfl) (dk_dq rfl) (dk_dq rfl) (dk_dq rfl) (dk_dq rfl)) m_1893 (dk_dq rfl) (dk_dq rfl) (dk_dq rfl) (dk_dq rfl) (dk_dq rfl) (dk_dq rfl) (dk_dq rfl) (dk_dq rfl) (dk_dq rfl) (dk_dq rfl) (dk_dq rfl) (dk_dq rfl) (dk_dq rfl) (dk_dq rfl) (dk_dq rfl)) m_1962 (dk_dq rfl) (dk_dq rfl) (dk_dq rfl) (dk_dq rfl) (dk_dq rfl) (dk_dq rfl) (dk_dq rfl) (dk_dq rfl) (dk_dq rfl) (dk_dq rfl) (dk_dq rfl) (dk_dq rfl) (dk_dq rfl) (dk_dq rfl) (dk_dq rfl)) (((m_1962.1 0 42 _ sM_0 (dk_dq rfl)).trans ((m_1893.1 0 42 _ sM_0 (dk_dq rfl)).trans ((m_1889.1 0 42 _ sM_0 (dk_dq rfl)).trans ((dg_uf_F e_796 0 42).trans (m_2.1 0 42 _ sM_0 (dk_dq rfl)))))).trans f_dp) (((m_1962.1 0 43 _ sM_0 (dk_dq rfl)).trans ((m_1893.1 0 43 _ sM_0 (dk_dq rfl)).trans ((m_1889.1 0 43 _ sM_0 (dk_dq rfl)).trans ((dg_uf_F e_796 0 43).trans (m_2.1 0 43 _ sM_0 (dk_dq rfl)))))).trans f_on) (((m_1962.1 0 45 _ sM_0 (dk_dq rfl)).trans ((m_1893.1 0 45 _ sM_0 (dk_dq rfl)).trans ((m_1889.1 0 45 _ sM_0 (dk_dq rfl)).trans ((dg_uf_F e_796 0 45).trans (m_2.1 0 45 _ sM_0 (dk_dq rfl)))))).trans f_om) (w_1996_1 _ f_y_2001 (by omega)) m_1996 (dk_dq rfl) (dk_dq rfl) (dk_dq rfl) (dk_dq rfl) (by omega) f_y_2002 (by omega) e_2014
                                              refine lv_iconst (v := 0) hx hb dX12_operand_311 (by decide +kernel) ?_
                                              have hz_2015 : (0 : Int32).toInt = 0 := by decide +kernel
                                              have hz_2016 : (0 : Int32).toInt = 0 := by decide +kernel
                                              have hz_2017 : (0 : Int32).toInt = 0 := by decide +kernel
                                              have hz_2018 : (0 : Int32).toInt = 0 := by decide +kernel
                                              have hz_2019 : (0 : Int32).toInt = 0 := by decide +kernel
                                              have hz_2020 : (0 : Int32).toInt = 0 := by decide +kernel
                                              have hz_2021 : (0 : Int32).toInt = 0 := by decide +kernel
                                              have hz_2022 : (0 : Int32).toInt = 0 := by decide +kernel
                                              obtain ⟨x_2023, f_x_2023, b_x_2023⟩ := dg_I.int (i := 0) (k := 35) (lo := 0) (hi := 1) I sM_0 (by decide +kernel)
                                              refine W.widen (k := 0) (n := 0) (Nat.le_of_ble_eq_true rfl) (Nat.le_of_ble_eq_true rfl) ?_
                                              rw [hQ9]
                                              exact dg_iret hx hb hr hlocks (by decide +kernel) hP hS ⟨I_2014, M_2014, (by decide +kernel), ⟨y_1998, y_1999, y_2000, y_2001, cd, y_2002, om, ((dg_uf_F e_2014 0 3).trans f_y_1998), ((dg_uf_F e_2014 0 4).trans f_y_1999), ((dg_uf_F e_2014 0 5).trans f_y_2000), ((dg_uf_F e_2014 0 8).trans f_y_2001), (((dg_uf_F e_2014 0 34).trans ((m_1996.1 0 34 _ sM_0 (dk_dq rfl)).trans ((m_1962.1 0 34 _ sM_0 (dk_dq rfl)).trans ((m_1893.1 0 34 _ sM_0 (dk_dq rfl)).trans ((m_1889.1 0 34 _ sM_0 (dk_dq rfl)).trans ((dg_uf_F e_796 0 34).trans (m_2.1 0 34 _ sM_0 (dk_dq rfl)))))))).trans f_cd), ((dg_uf_F e_2014 0 42).trans f_y_2002), (((dg_uf_F e_2014 0 45).trans ((m_1996.1 0 45 _ sM_0 (dk_dq rfl)).trans ((m_1962.1 0 45 _ sM_0 (dk_dq rfl)).trans ((m_1893.1 0 45 _ sM_0 (dk_dq rfl)).trans ((m_1889.1 0 45 _ sM_0 (dk_dq rfl)).trans ((dg_uf_F e_796 0 45).trans (m_2.1 0 45 _ sM_0 (dk_dq rfl)))))))).trans f_om), (by omega)⟩, (fun k9 hk9 hk0 => ⟨fun h9 => absurd h9 (by decide +kernel), fun _ => P0_2014⟩), (by exfalso; omega), (by exfalso; omega), (TKM.keep w_1996_2 (dg_sm.uf (WF := []) (WA := [25]) dg_sm.rf e_2014 sM_25 (dk_dq rfl)) (dk_dq rfl) (dk_dq rfl) (dk_dq rfl) (dk_dq rfl) (dk_dq rfl) (dk_dq rfl) (dk_dq rfl) (dk_dq rfl)), (ZWM.keep (ZWM.keep (ZWM.keep (ZWM.keep (ZWM.keep (ZWM.keep (ZWM.keep ZW m_2 (dk_dq rfl) (dk_dq rfl) (dk_dq rfl) (dk_dq rfl)) (dg_sm.uf (WF := []) (WA := [24]) dg_sm.rf e_796 sM_24 (dk_dq rfl)) (dk_dq rfl) (dk_dq rfl) (dk_dq rfl) (dk_dq rfl)) m_1889 (dk_dq rfl) (dk_dq rfl) (dk_dq rfl) (dk_dq rfl)) m_1893 (dk_dq rfl) (dk_dq rfl) (dk_dq rfl) (dk_dq rfl)) m_1962 (dk_dq rfl) (dk_dq rfl) (dk_dq rfl) (dk_dq rfl)) m_1996 (dk_dq rfl) (dk_dq rfl) (dk_dq rfl) (dk_dq rfl)) (dg_sm.uf (WF := []) (WA := [25]) dg_sm.rf e_2014 sM_25 (dk_dq rfl)) (dk_dq rfl) (dk_dq rfl) (dk_dq rfl) (dk_dq rfl)), (G8M.keep (G8M.keep (G8M.keep (G8M.keep (G8M.keep (G8M.keep (G8M.keep G8 m_2 (dk_dq rfl) (dk_dq rfl) (dk_dq rfl)) (dg_sm.uf (WF := []) (WA := [24]) dg_sm.rf e_796 sM_24 (dk_dq rfl)) (dk_dq rfl) (dk_dq rfl) (dk_dq rfl)) m_1889 (dk_dq rfl) (dk_dq rfl) (dk_dq rfl)) m_1893 (dk_dq rfl) (dk_dq rfl) (dk_dq rfl)) m_1962 (dk_dq rfl) (dk_dq rfl) (dk_dq rfl)) m_1996 (dk_dq rfl) (dk_dq rfl) (dk_dq rfl)) (dg_sm.uf (WF := []) (WA := [25]) dg_sm.rf e_2014 sM_25 (dk_dq rfl)) (dk_dq rfl) (dk_dq rfl) (dk_dq rfl)), trivial⟩ dX12_operand_312
                              refine lv_if_eq (tgt := 232) hx hb dX12_operand_224 (dk_dq rfl) (fun c_2024 => ?_) (fun c_2024 => ?_)
                              · as_aux_lemma =>
                                  have jc_2024 := dk_eqc (k := 0) (by decide +kernel) c_2024
                                  have qw_1745_1 : g_o (T_kd tb tn) (T_vl tb tn) 25 (t_ix tb tn (sa : Int32).toNatClampNeg) = false := g_iff_f (TKM.isw (TKM.keep (TKM.keep TK m_2 (dk_dq rfl) (dk_dq rfl) (dk_dq rfl) (dk_dq rfl) (dk_dq rfl) (dk_dq rfl) (dk_dq rfl) (dk_dq rfl)) (dg_sm.uf (WF := []) (WA := [24]) dg_sm.rf e_796 sM_24 (dk_dq rfl)) (dk_dq rfl) (dk_dq rfl) (dk_dq rfl) (dk_dq rfl) (dk_dq rfl) (dk_dq rfl) (dk_dq rfl) (dk_dq rfl)) (((dg_uf_F e_796 0 3).trans (m_2.1 0 3 _ sM_0 (dk_dq rfl))).trans f_sg) (((dg_uf_F e_796 0 4).trans (m_2.1 0 4 _ sM_0 (dk_dq rfl))).trans f_sa) hk5.out (j := 25) (C := 7170414) (dk_dq rfl) (by decide +kernel) w_1745_1) (by omega)
                                  clear w_1745_1
                                  refine lv_aload_n hx hb dX12_operand_232 rfl (lv_at hl 2 rfl) ?_
                                  refine lv_ldc2 hx hb hown (hts _ (bw_mem wB_351)) dX12_operand_233 ?_
                                  refine dg_calli hS hA1 hA (va_runV (As := [.long 7168376]) (rest := []) F (c_m_isWord l g D o S_796 7168376 sg (((dg_uf_F e_796 0 3).trans (m_2.1 0 3 _ sM_0 (dk_dq rfl))).trans f_sg) (by omega) I_796 H.size) (cwV 1 hts (bw_V wB_322 wB_323 wB_324 wB_297 wB_321) rfl rfl rfl (by decide +kernel) ⟨Nat.le_of_ble_eq_true rfl, Nat.le_of_ble_eq_true rfl⟩) (dg_preV sM_0 rfl K ST hP hS hA1 hA) rfl rfl hl.1 rfl (lv_room (Nat.le_of_ble_eq_true rfl)) dX12_operand_236 ⟨Nat.le_of_ble_eq_true rfl, Nat.le_of_ble_eq_true rfl⟩) (fun x_2025 S_2026 hw_2026 H locs hP hS => ?_)
                                  rw [hw_2026.1] at hP
                                  obtain ⟨hq_2026, w_2026_0, w_2026_1, -⟩ := hw_2026
                                  try rw [hq_2026] at w_2026_1
                                  have w_2026_0 : 0 ≤ (x_2025).toInt ∧ (x_2025).toInt ≤ 1 := w_2026_0
                                  replace w_2026_1 : ∀ w9 : Int64, S_796.1 0 7 = .long w9 → ((x_2025).toInt = 1 ↔ ((sg).toInt = 1 ∧ w9.toInt = ((7168376 : Int64)).toInt)) := w_2026_1
                                  refine lv_if_eq (tgt := 247) hx hb dX12_operand_239 (dk_dq rfl) (fun c_2027 => ?_) (fun c_2027 => ?_)
                                  · have jc_2027 := dk_eqc (k := 0) (by decide +kernel) c_2027
                                    have qw_2026_1 : g_o (T_kd tb tn) (T_vl tb tn) 26 (t_ix tb tn (sa : Int32).toNatClampNeg) = false := g_iff_f (TKM.isw (TKM.keep (TKM.keep TK m_2 (dk_dq rfl) (dk_dq rfl) (dk_dq rfl) (dk_dq rfl) (dk_dq rfl) (dk_dq rfl) (dk_dq rfl) (dk_dq rfl)) (dg_sm.uf (WF := []) (WA := [24]) dg_sm.rf e_796 sM_24 (dk_dq rfl)) (dk_dq rfl) (dk_dq rfl) (dk_dq rfl) (dk_dq rfl) (dk_dq rfl) (dk_dq rfl) (dk_dq rfl) (dk_dq rfl)) (((dg_uf_F e_796 0 3).trans (m_2.1 0 3 _ sM_0 (dk_dq rfl))).trans f_sg) (((dg_uf_F e_796 0 4).trans (m_2.1 0 4 _ sM_0 (dk_dq rfl))).trans f_sa) hk5.out (j := 26) (C := 7168376) (dk_dq rfl) (by decide +kernel) w_2026_1) (by omega)
                                    clear w_2026_1
                                    refine lv_bipush (v := 44) hx hb dX12_operand_247 (by decide +kernel) ?_
                                    have hz_2028 : (44 : Int32).toInt = 44 := by decide +kernel
                                    have hz_2029 : (44 : Int32).toInt = 44 := by decide +kernel
                                    have hz_2030 : (44 : Int32).toInt = 44 := by decide +kernel
                                    have hz_2031 : (44 : Int32).toInt = 44 := by decide +kernel
                                    exact J_1888 44 (by decide +kernel) (by omega) (m_hid.mk ⟨fun _ => by rcases h217.out with q9 | q9 | q9; exact absurd (qw_1745_1.symm.trans q9) (dk_dq rfl); exact absurd (qw_2026_1.symm.trans q9) (dk_dq rfl); exact q9, fun q9 => absurd (by decide +kernel) q9⟩) (m_hid.mk ⟨fun q9 => absurd q9 (by decide +kernel), fun q9 => absurd q9 (by decide +kernel)⟩) _ _ hP hS _ (lv_sub hl [0, 1, 2] rfl)
                                  · as_aux_lemma =>
                                      have jc_2027 := dk_neqc (k := 0) (by decide +kernel) c_2027
                                      have jbc_2027 : 1 ≤ (x_2025).toInt := by omega
                                      clear jc_2027
                                      have qw_2026_1 : g_o (T_kd tb tn) (T_vl tb tn) 26 (t_ix tb tn (sa : Int32).toNatClampNeg) = true := (TKM.isw (TKM.keep (TKM.keep TK m_2 (dk_dq rfl) (dk_dq rfl) (dk_dq rfl) (dk_dq rfl) (dk_dq rfl) (dk_dq rfl) (dk_dq rfl) (dk_dq rfl)) (dg_sm.uf (WF := []) (WA := [24]) dg_sm.rf e_796 sM_24 (dk_dq rfl)) (dk_dq rfl) (dk_dq rfl) (dk_dq rfl) (dk_dq rfl) (dk_dq rfl) (dk_dq rfl) (dk_dq rfl) (dk_dq rfl)) (((dg_uf_F e_796 0 3).trans (m_2.1 0 3 _ sM_0 (dk_dq rfl))).trans f_sg) (((dg_uf_F e_796 0 4).trans (m_2.1 0 4 _ sM_0 (dk_dq rfl))).trans f_sa) hk5.out (j := 26) (C := 7168376) (dk_dq rfl) (by decide +kernel) w_2026_1).mp (by omega)
                                      obtain ⟨x_2032, f_x_2032⟩ := dg_I.long (i := 0) (k := 7) I_796 sM_0 (by decide +kernel)
                                      have w_2026_1_r : (sg).toInt = 1 := by obtain ⟨w9, hw9⟩ : ∃ w9, S_796.1 0 7 = .long w9 := ⟨_, f_x_2032⟩; exact ((w_2026_1 w9 hw9).mp (by omega)).1
                                      clear w_2026_1
                                      have hlx_2r := hlx_2 (by omega)
                                      clear hlx_2
                                      refine lv_bipush (v := 37) hx hb dX12_operand_242 (by decide +kernel) ?_
                                      refine lv_goto (tgt := 249) hx hb dX12_operand_244 (dk_dq rfl) ?_
                                      have hz_2033 : (37 : Int32).toInt = 37 := by decide +kernel
                                      have hz_2034 : (37 : Int32).toInt = 37 := by decide +kernel
                                      have hz_2035 : (37 : Int32).toInt = 37 := by decide +kernel
                                      have hz_2036 : (37 : Int32).toInt = 37 := by decide +kernel
                                      exact J_1888 37 (by decide +kernel) (by omega) (m_hid.mk ⟨fun q9 => absurd q9 (by decide +kernel), fun _ => Or.inr qw_2026_1⟩) (m_hid.mk ⟨fun q9 => absurd q9 (by decide +kernel), fun _ => qw_2026_1⟩) _ _ hP hS _ (lv_sub hl [0, 1, 2] rfl)
                              · as_aux_lemma =>
                                  have jc_2024 := dk_neqc (k := 0) (by decide +kernel) c_2024
                                  have jbc_2024 : 1 ≤ (x_1744).toInt := by omega
                                  clear jc_2024
                                  have qw_1745_1 : g_o (T_kd tb tn) (T_vl tb tn) 25 (t_ix tb tn (sa : Int32).toNatClampNeg) = true := (TKM.isw (TKM.keep (TKM.keep TK m_2 (dk_dq rfl) (dk_dq rfl) (dk_dq rfl) (dk_dq rfl) (dk_dq rfl) (dk_dq rfl) (dk_dq rfl) (dk_dq rfl)) (dg_sm.uf (WF := []) (WA := [24]) dg_sm.rf e_796 sM_24 (dk_dq rfl)) (dk_dq rfl) (dk_dq rfl) (dk_dq rfl) (dk_dq rfl) (dk_dq rfl) (dk_dq rfl) (dk_dq rfl) (dk_dq rfl)) (((dg_uf_F e_796 0 3).trans (m_2.1 0 3 _ sM_0 (dk_dq rfl))).trans f_sg) (((dg_uf_F e_796 0 4).trans (m_2.1 0 4 _ sM_0 (dk_dq rfl))).trans f_sa) hk5.out (j := 25) (C := 7170414) (dk_dq rfl) (by decide +kernel) w_1745_1).mp (by omega)
                                  obtain ⟨x_2037, f_x_2037⟩ := dg_I.long (i := 0) (k := 7) I_796 sM_0 (by decide +kernel)
                                  have w_1745_1_r : (sg).toInt = 1 := by obtain ⟨w9, hw9⟩ : ∃ w9, S_796.1 0 7 = .long w9 := ⟨_, f_x_2037⟩; exact ((w_1745_1 w9 hw9).mp (by omega)).1
                                  clear w_1745_1
                                  have hlx_2r := hlx_2 (by omega)
                                  clear hlx_2
                                  refine lv_bipush (v := 36) hx hb dX12_operand_227 (by decide +kernel) ?_
                                  refine lv_goto (tgt := 249) hx hb dX12_operand_229 (dk_dq rfl) ?_
                                  have hz_2038 : (36 : Int32).toInt = 36 := by decide +kernel
                                  have hz_2039 : (36 : Int32).toInt = 36 := by decide +kernel
                                  have hz_2040 : (36 : Int32).toInt = 36 := by decide +kernel
                                  have hz_2041 : (36 : Int32).toInt = 36 := by decide +kernel
                                  exact J_1888 36 (by decide +kernel) (by omega) (m_hid.mk ⟨fun q9 => absurd q9 (by decide +kernel), fun _ => Or.inl qw_1745_1⟩) (m_hid.mk ⟨fun _ => qw_1745_1, fun q9 => absurd q9 (by decide +kernel)⟩) _ _ hP hS _ (lv_sub hl [0, 1, 2] rfl)
                          refine lv_if_ne (tgt := 217) hx hb dX12_operand_194 (dk_dq rfl) (fun c_2042 => ?_) (fun c_2042 => ?_)
                          · have jc_2042 := dk_neqc (k := 0) (by decide +kernel) c_2042
                            have jbc_2042 : 1 ≤ (x_1472).toInt := by omega
                            clear jc_2042
                            have qw_1473_1 : g_o (T_kd tb tn) (T_vl tb tn) 25 (t_ix tb tn (sa : Int32).toNatClampNeg) = true := (TKM.isw (TKM.keep (TKM.keep TK m_2 (dk_dq rfl) (dk_dq rfl) (dk_dq rfl) (dk_dq rfl) (dk_dq rfl) (dk_dq rfl) (dk_dq rfl) (dk_dq rfl)) (dg_sm.uf (WF := []) (WA := [24]) dg_sm.rf e_796 sM_24 (dk_dq rfl)) (dk_dq rfl) (dk_dq rfl) (dk_dq rfl) (dk_dq rfl) (dk_dq rfl) (dk_dq rfl) (dk_dq rfl) (dk_dq rfl)) (((dg_uf_F e_796 0 3).trans (m_2.1 0 3 _ sM_0 (dk_dq rfl))).trans f_sg) (((dg_uf_F e_796 0 4).trans (m_2.1 0 4 _ sM_0 (dk_dq rfl))).trans f_sa) hk5.out (j := 25) (C := 7170414) (dk_dq rfl) (by decide +kernel) w_1473_1).mp (by omega)
                            obtain ⟨x_2043, f_x_2043⟩ := dg_I.long (i := 0) (k := 7) I_796 sM_0 (by decide +kernel)
                            have w_1473_1_r : (sg).toInt = 1 := by obtain ⟨w9, hw9⟩ : ∃ w9, S_796.1 0 7 = .long w9 := ⟨_, f_x_2043⟩; exact ((w_1473_1 w9 hw9).mp (by omega)).1
                            clear w_1473_1
                            have hlx_2r := hlx_2 (by omega)
                            clear hlx_2
                            exact J_1743 ()  (by omega) (m_hid.mk (Or.inl qw_1473_1)) _ _ hP hS _ (lv_sub hl [0, 1, 2] rfl)
                          · as_aux_lemma =>
                              have jc_2042 := dk_eqc (k := 0) (by decide +kernel) c_2042
                              have qw_1473_1 : g_o (T_kd tb tn) (T_vl tb tn) 25 (t_ix tb tn (sa : Int32).toNatClampNeg) = false := g_iff_f (TKM.isw (TKM.keep (TKM.keep TK m_2 (dk_dq rfl) (dk_dq rfl) (dk_dq rfl) (dk_dq rfl) (dk_dq rfl) (dk_dq rfl) (dk_dq rfl) (dk_dq rfl)) (dg_sm.uf (WF := []) (WA := [24]) dg_sm.rf e_796 sM_24 (dk_dq rfl)) (dk_dq rfl) (dk_dq rfl) (dk_dq rfl) (dk_dq rfl) (dk_dq rfl) (dk_dq rfl) (dk_dq rfl) (dk_dq rfl)) (((dg_uf_F e_796 0 3).trans (m_2.1 0 3 _ sM_0 (dk_dq rfl))).trans f_sg) (((dg_uf_F e_796 0 4).trans (m_2.1 0 4 _ sM_0 (dk_dq rfl))).trans f_sa) hk5.out (j := 25) (C := 7170414) (dk_dq rfl) (by decide +kernel) w_1473_1) (by omega)
                              clear w_1473_1
                              refine lv_aload_n hx hb dX12_operand_197 rfl (lv_at hl 2 rfl) ?_
                              refine lv_ldc2 hx hb hown (hts _ (bw_mem wB_351)) dX12_operand_198 ?_
                              refine dg_calli hS hA1 hA (va_runV (As := [.long 7168376]) (rest := []) F (c_m_isWord l g D o S_796 7168376 sg (((dg_uf_F e_796 0 3).trans (m_2.1 0 3 _ sM_0 (dk_dq rfl))).trans f_sg) (by omega) I_796 H.size) (cwV 1 hts (bw_V wB_322 wB_323 wB_324 wB_297 wB_321) rfl rfl rfl (by decide +kernel) ⟨Nat.le_of_ble_eq_true rfl, Nat.le_of_ble_eq_true rfl⟩) (dg_preV sM_0 rfl K ST hP hS hA1 hA) rfl rfl hl.1 rfl (lv_room (Nat.le_of_ble_eq_true rfl)) dX12_operand_201 ⟨Nat.le_of_ble_eq_true rfl, Nat.le_of_ble_eq_true rfl⟩) (fun x_2044 S_2045 hw_2045 H locs hP hS => ?_)
                              rw [hw_2045.1] at hP
                              obtain ⟨hq_2045, w_2045_0, w_2045_1, -⟩ := hw_2045
                              try rw [hq_2045] at w_2045_1
                              have w_2045_0 : 0 ≤ (x_2044).toInt ∧ (x_2044).toInt ≤ 1 := w_2045_0
                              replace w_2045_1 : ∀ w9 : Int64, S_796.1 0 7 = .long w9 → ((x_2044).toInt = 1 ↔ ((sg).toInt = 1 ∧ w9.toInt = ((7168376 : Int64)).toInt)) := w_2045_1
                              refine lv_if_ne (tgt := 217) hx hb dX12_operand_204 (dk_dq rfl) (fun c_2046 => ?_) (fun c_2046 => ?_)
                              · have jc_2046 := dk_neqc (k := 0) (by decide +kernel) c_2046
                                have jbc_2046 : 1 ≤ (x_2044).toInt := by omega
                                clear jc_2046
                                have qw_2045_1 : g_o (T_kd tb tn) (T_vl tb tn) 26 (t_ix tb tn (sa : Int32).toNatClampNeg) = true := (TKM.isw (TKM.keep (TKM.keep TK m_2 (dk_dq rfl) (dk_dq rfl) (dk_dq rfl) (dk_dq rfl) (dk_dq rfl) (dk_dq rfl) (dk_dq rfl) (dk_dq rfl)) (dg_sm.uf (WF := []) (WA := [24]) dg_sm.rf e_796 sM_24 (dk_dq rfl)) (dk_dq rfl) (dk_dq rfl) (dk_dq rfl) (dk_dq rfl) (dk_dq rfl) (dk_dq rfl) (dk_dq rfl) (dk_dq rfl)) (((dg_uf_F e_796 0 3).trans (m_2.1 0 3 _ sM_0 (dk_dq rfl))).trans f_sg) (((dg_uf_F e_796 0 4).trans (m_2.1 0 4 _ sM_0 (dk_dq rfl))).trans f_sa) hk5.out (j := 26) (C := 7168376) (dk_dq rfl) (by decide +kernel) w_2045_1).mp (by omega)
                                obtain ⟨x_2047, f_x_2047⟩ := dg_I.long (i := 0) (k := 7) I_796 sM_0 (by decide +kernel)
                                have w_2045_1_r : (sg).toInt = 1 := by obtain ⟨w9, hw9⟩ : ∃ w9, S_796.1 0 7 = .long w9 := ⟨_, f_x_2047⟩; exact ((w_2045_1 w9 hw9).mp (by omega)).1
                                clear w_2045_1
                                have hlx_2r := hlx_2 (by omega)
                                clear hlx_2
                                exact J_1743 ()  (by omega) (m_hid.mk (Or.inr (Or.inl qw_2045_1))) _ _ hP hS _ (lv_sub hl [0, 1, 2] rfl)
                              · as_aux_lemma =>
                                  have jc_2046 := dk_eqc (k := 0) (by decide +kernel) c_2046
                                  have qw_2045_1 : g_o (T_kd tb tn) (T_vl tb tn) 26 (t_ix tb tn (sa : Int32).toNatClampNeg) = false := g_iff_f (TKM.isw (TKM.keep (TKM.keep TK m_2 (dk_dq rfl) (dk_dq rfl) (dk_dq rfl) (dk_dq rfl) (dk_dq rfl) (dk_dq rfl) (dk_dq rfl) (dk_dq rfl)) (dg_sm.uf (WF := []) (WA := [24]) dg_sm.rf e_796 sM_24 (dk_dq rfl)) (dk_dq rfl) (dk_dq rfl) (dk_dq rfl) (dk_dq rfl) (dk_dq rfl) (dk_dq rfl) (dk_dq rfl) (dk_dq rfl)) (((dg_uf_F e_796 0 3).trans (m_2.1 0 3 _ sM_0 (dk_dq rfl))).trans f_sg) (((dg_uf_F e_796 0 4).trans (m_2.1 0 4 _ sM_0 (dk_dq rfl))).trans f_sa) hk5.out (j := 26) (C := 7168376) (dk_dq rfl) (by decide +kernel) w_2045_1) (by omega)
                                  clear w_2045_1
                                  refine lv_aload_n hx hb dX12_operand_207 rfl (lv_at hl 2 rfl) ?_
                                  refine lv_ldc2 hx hb hown (hts _ (bw_mem wB_345)) dX12_operand_208 ?_
                                  refine dg_calli hS hA1 hA (va_runV (As := [.long 26982]) (rest := []) F (c_m_isWord l g D o S_796 26982 sg (((dg_uf_F e_796 0 3).trans (m_2.1 0 3 _ sM_0 (dk_dq rfl))).trans f_sg) (by omega) I_796 H.size) (cwV 1 hts (bw_V wB_322 wB_323 wB_324 wB_297 wB_321) rfl rfl rfl (by decide +kernel) ⟨Nat.le_of_ble_eq_true rfl, Nat.le_of_ble_eq_true rfl⟩) (dg_preV sM_0 rfl K ST hP hS hA1 hA) rfl rfl hl.1 rfl (lv_room (Nat.le_of_ble_eq_true rfl)) dX12_operand_211 ⟨Nat.le_of_ble_eq_true rfl, Nat.le_of_ble_eq_true rfl⟩) (fun x_2048 S_2049 hw_2049 H locs hP hS => ?_)
                                  rw [hw_2049.1] at hP
                                  obtain ⟨hq_2049, w_2049_0, w_2049_1, -⟩ := hw_2049
                                  try rw [hq_2049] at w_2049_1
                                  have w_2049_0 : 0 ≤ (x_2048).toInt ∧ (x_2048).toInt ≤ 1 := w_2049_0
                                  replace w_2049_1 : ∀ w9 : Int64, S_796.1 0 7 = .long w9 → ((x_2048).toInt = 1 ↔ ((sg).toInt = 1 ∧ w9.toInt = ((26982 : Int64)).toInt)) := w_2049_1
                                  refine lv_if_eq (tgt := 313) hx hb dX12_operand_214 (dk_dq rfl) (fun c_2050 => ?_) (fun c_2050 => ?_)
                                  · as_aux_lemma =>
                                      have jc_2050 := dk_eqc (k := 0) (by decide +kernel) c_2050
                                      have qw_2049_1 : g_o (T_kd tb tn) (T_vl tb tn) 20 (t_ix tb tn (sa : Int32).toNatClampNeg) = false := g_iff_f (TKM.isw (TKM.keep (TKM.keep TK m_2 (dk_dq rfl) (dk_dq rfl) (dk_dq rfl) (dk_dq rfl) (dk_dq rfl) (dk_dq rfl) (dk_dq rfl) (dk_dq rfl)) (dg_sm.uf (WF := []) (WA := [24]) dg_sm.rf e_796 sM_24 (dk_dq rfl)) (dk_dq rfl) (dk_dq rfl) (dk_dq rfl) (dk_dq rfl) (dk_dq rfl) (dk_dq rfl) (dk_dq rfl) (dk_dq rfl)) (((dg_uf_F e_796 0 3).trans (m_2.1 0 3 _ sM_0 (dk_dq rfl))).trans f_sg) (((dg_uf_F e_796 0 4).trans (m_2.1 0 4 _ sM_0 (dk_dq rfl))).trans f_sa) hk5.out (j := 20) (C := 26982) (dk_dq rfl) (by decide +kernel) w_2049_1) (by omega)
                                      clear w_2049_1
                                      refine lv_aload_n hx hb dX12_operand_313 rfl (lv_at hl 2 rfl) ?_
                                      refine dg_get (C := RX12) (T := TX12) (N := 77) hx hb hts (fun w h => bw_mem (wU_X12 w h)) hown K hP sM_0 rfl 3 (dk_dq rfl) (hts _ (bw_mem wB_292)) (fun _ h9 => h9) (v := .int sg) (((dg_uf_F e_796 0 3).trans (m_2.1 0 3 _ sM_0 (dk_dq rfl))).trans f_sg) dX12_operand_314 ?_
                                      refine lv_iconst (v := 2) hx hb dX12_operand_317 (by decide +kernel) ?_
                                      have J_2166 : ∀ (x_2076 : Int32), ((-1) ≤ (x_2076).toInt ∧ (x_2076).toInt ≤ 6) → ((x_2076 : Int32).toInt ≠ -1 → (sg).toInt ≠ 0) → (m_hid (SRT (T_kd tb tn) (T_vl tb tn) (t_ix tb tn (sa : Int32).toNatClampNeg) (x_2076 : Int32).toInt)) → ∀ (H : Heap) (locs : List Loc), va_P D vwCl (dg_w g shM o rfM S_796) H → va_S A s.heap H locs → ∀ ls : Array Slot, lv_has ls 4 [(2, .int x_14), (1, .int x_5), (0, .ref (o + 0))] → W p l e ({ frames := 4, cells := 0, slots := 0, locals := 98 } : Room) s m args below meth c H locs 0 0 Q9 (F0 m 411 ls [.int x_2076]) := by
                                        as_aux_lemma =>
                                          intro x_2076 b_x_2076 rel_0 rel_1 H locs hP hS ls hl
                                          have h411 := rel_1
                                          refine lv_istore_n (lv' := [(3, .int x_2076), (2, .int x_14), (1, .int x_5), (0, .ref (o + 0))]) hx hb dX12_operand_411 rfl hl (dk_dq rfl) rfl (fun ls hl => ?_)
                                          refine lv_iload_n hx hb dX12_operand_412 rfl (lv_at hl 0 rfl) ?_
                                          refine lv_iconst (v := 4) hx hb dX12_operand_413 (by decide +kernel) ?_
                                          refine lv_icmp_lt (tgt := 444) hx hb dX12_operand_414 (dk_dq rfl) (fun c_2167 => ?_) (fun c_2167 => ?_)
                                          · as_aux_lemma =>
                                              have jc_2167 := dk_ltc (k := 4) (by decide +kernel) c_2167
                                              refine lv_iload_n hx hb dX12_operand_444 rfl (lv_at hl 0 rfl) ?_
                                              refine lv_iconst (v := (-1)) hx hb dX12_operand_445 (by decide +kernel) ?_
                                              refine lv_icmp_ne (tgt := 458) hx hb dX12_operand_446 (dk_dq rfl) (fun c_2168 => ?_) (fun c_2168 => ?_)
                                              · as_aux_lemma =>
                                                  have jc_2168 := dk_neqc (k := (-1)) (by decide +kernel) c_2168
                                                  have jbc_2168 : 0 ≤ (x_2076).toInt := by omega
                                                  clear jc_2168
                                                  have rel_0r := rel_0 (by omega)
                                                  clear rel_0
                                                  have rel_0rb : 1 ≤ (sg).toInt := by omega
                                                  clear rel_0r
                                                  have hlx_2r := hlx_2 (by omega)
                                                  clear hlx_2
                                                  refine lv_aload_n hx hb dX12_operand_458 rfl (lv_at hl 3 rfl) ?_
                                                  refine dg_get (C := RX12) (T := TX12) (N := 77) hx hb hts (fun w h => bw_mem (wU_X12 w h)) hown K hP sM_0 rfl 8 (dk_dq rfl) (hts _ (bw_mem wB_303)) (fun _ h9 => h9) (v := .int y_3) ((dg_uf_F e_796 0 8).trans f_y_3) dX12_operand_459 ?_
                                                  refine lv_if_le (tgt := 467) hx hb dX12_operand_462 (dk_dq rfl) (fun _ => ?_) (fun c => absurd (dk_lep (k := 0) (by decide +kernel) (by omega)) c)
                                                  refine lv_aload_n hx hb dX12_operand_467 rfl (lv_at hl 3 rfl) ?_
                                                  refine lv_iload_n hx hb dX12_operand_468 rfl (lv_at hl 0 rfl) ?_
                                                  refine lv_aload_n hx hb dX12_operand_469 rfl (lv_at hl 3 rfl) ?_
                                                  refine dg_get (C := RX12) (T := TX12) (N := 77) hx hb hts (fun w h => bw_mem (wU_X12 w h)) hown K hP sM_0 rfl 6 (dk_dq rfl) (hts _ (bw_mem wB_301)) (fun _ h9 => h9) (v := .int va) (((dg_uf_F e_796 0 6).trans (m_2.1 0 6 _ sM_0 (dk_dq rfl))).trans f_va) dX12_operand_470 ?_
                                                  refine dg_callv hS hA1 hA (va_runV (As := [.int x_2076, .int va]) (rest := []) F (c_m_add l g D o S_796 x_2076 (by omega) va (by omega) S0 cd (((dg_uf_F e_796 0 34).trans (m_2.1 0 34 _ sM_0 (dk_dq rfl))).trans f_cd) (by omega) (ZWM.keep (ZWM.keep ZW m_2 (dk_dq rfl) (dk_dq rfl) (dk_dq rfl) (dk_dq rfl)) (dg_sm.uf (WF := []) (WA := [24]) dg_sm.rf e_796 sM_24 (dk_dq rfl)) (dk_dq rfl) (dk_dq rfl) (dk_dq rfl) (dk_dq rfl)) (ZKM.keep (ZKM.keep ZK m_2 (dk_dq rfl) (dk_dq rfl)) (dg_sm.uf (WF := []) (WA := [24]) dg_sm.rf e_796 sM_24 (dk_dq rfl)) (dk_dq rfl) (dk_dq rfl)) (G8M.keep (G8M.keep G8 m_2 (dk_dq rfl) (dk_dq rfl) (dk_dq rfl)) (dg_sm.uf (WF := []) (WA := [24]) dg_sm.rf e_796 sM_24 (dk_dq rfl)) (dk_dq rfl) (dk_dq rfl) (dk_dq rfl)) I_796 H.size) (cwV 2 hts (bw_V wB_412 wB_413 wB_414 wB_297 wB_411) rfl rfl rfl (by decide +kernel) ⟨Nat.le_of_ble_eq_true rfl, Nat.le_of_ble_eq_true rfl⟩) (dg_preV sM_0 rfl K ST hP hS hA1 hA) rfl rfl hl.1 rfl (lv_room (Nat.le_of_ble_eq_true rfl)) dX12_operand_473 ⟨Nat.le_of_ble_eq_true rfl, Nat.le_of_ble_eq_true rfl⟩) (fun S_2169 hw_2169 H locs hP hS => ?_)
                                                  obtain ⟨I_2169, m_2169, w_2169_0, w_2169_1, w_2169_2, w_2169_3, w_2169_4, -⟩ := hw_2169
                                                  have M_2169 := dg_sm.tr M_796 m_2169 (dk_dq rfl) (dk_dq rfl)
                                                  obtain ⟨y_2170, f_y_2170, w_2169_0⟩ := w_2169_0
                                                  have w_2169_0 : (y_2170).toInt = (cd).toInt + 1 := w_2169_0
                                                  have b_y_2170 : 0 ≤ (y_2170).toInt ∧ (y_2170).toInt ≤ 1600 := dg_I.intb (lo := 0) (hi := 1600) I_2169 sM_0 (by decide +kernel) f_y_2170
                                                  replace w_2169_1 : ADM S_796 S_2169 x_2076 := w_2169_1
                                                  have P1_2169 : P1M S_2169 := PBM.leaf PB_796 (((dg_uf_F e_796 0 42).trans (m_2.1 0 42 _ sM_0 (dk_dq rfl))).trans f_dp) (((dg_uf_F e_796 0 43).trans (m_2.1 0 43 _ sM_0 (dk_dq rfl))).trans f_on) (((dg_uf_F e_796 0 45).trans (m_2.1 0 45 _ sM_0 (dk_dq rfl))).trans f_om) m_2169 w_2169_1 (by omega)
                                                  replace w_2169_2 : A5M S_796 S_2169 x_2076 va := w_2169_2
                                                  obtain ⟨x_2171, f_x_2171, b_x_2171⟩ := dg_I.int (i := 0) (k := 35) (lo := 0) (hi := 1) I sM_0 (by decide +kernel)
                                                  obtain ⟨x_2172, f_x_2172, b_x_2172⟩ := dg_I.int (i := 0) (k := 34) (lo := 0) (hi := 1600) I_796 sM_0 (by decide +kernel)
                                                  have qa_2169 : q_am S S_2169 ([n_at (T_kd tb tn) (T_vl tb tn) (t_ix tb tn (sa : Int32).toNatClampNeg)]) := (q_am.fs (q_am.to (A5M.q w_2169_2 (((dg_uf_F e_796 0 35).trans (m_2.1 0 35 _ sM_0 (dk_dq rfl))).trans f_x_2171) f_x_2172 (by omega) (by omega)) (by rw [SRT.at h411.out (by omega) (fun q9 => ((TKM.num (TKM.keep (TKM.keep TK m_2 (dk_dq rfl) (dk_dq rfl) (dk_dq rfl) (dk_dq rfl) (dk_dq rfl) (dk_dq rfl) (dk_dq rfl) (dk_dq rfl)) (dg_sm.uf (WF := []) (WA := [24]) dg_sm.rf e_796 sM_24 (dk_dq rfl)) (dk_dq rfl) (dk_dq rfl) (dk_dq rfl) (dk_dq rfl) (dk_dq rfl) (dk_dq rfl) (dk_dq rfl) (dk_dq rfl)) (((dg_uf_F e_796 0 3).trans (m_2.1 0 3 _ sM_0 (dk_dq rfl))).trans f_sg) (((dg_uf_F e_796 0 4).trans (m_2.1 0 4 _ sM_0 (dk_dq rfl))).trans f_sa) (((dg_uf_F e_796 0 6).trans (m_2.1 0 6 _ sM_0 (dk_dq rfl))).trans f_va) hk5.out).2 ((TKM.num (TKM.keep (TKM.keep TK m_2 (dk_dq rfl) (dk_dq rfl) (dk_dq rfl) (dk_dq rfl) (dk_dq rfl) (dk_dq rfl) (dk_dq rfl) (dk_dq rfl)) (dg_sm.uf (WF := []) (WA := [24]) dg_sm.rf e_796 sM_24 (dk_dq rfl)) (dk_dq rfl) (dk_dq rfl) (dk_dq rfl) (dk_dq rfl) (dk_dq rfl) (dk_dq rfl) (dk_dq rfl) (dk_dq rfl)) (((dg_uf_F e_796 0 3).trans (m_2.1 0 3 _ sM_0 (dk_dq rfl))).trans f_sg) (((dg_uf_F e_796 0 4).trans (m_2.1 0 4 _ sM_0 (dk_dq rfl))).trans f_sa) (((dg_uf_F e_796 0 6).trans (m_2.1 0 6 _ sM_0 (dk_dq rfl))).trans f_va) hk5.out).1.mp (g_n_iff.mp (h411.out.1 q9)))).symm)])) ((dg_uf_F e_796 0 34).trans (m_2.1 0 34 _ sM_0 (dk_dq rfl))) ((dg_uf_F e_796 0 35).trans (m_2.1 0 35 _ sM_0 (dk_dq rfl))) ((dg_uf_ne e_796 (dk_dq rfl)).trans (m_2.2 18 _ sM_18 (dk_dq rfl)).1) ((dg_uf_ne e_796 (dk_dq rfl)).trans (m_2.2 19 _ sM_19 (dk_dq rfl)).1))
                                                  refine lv_aload_n hx hb dX12_operand_476 rfl (lv_at hl 3 rfl) ?_
                                                  refine dg_callv hS hA1 hA (va_runV (As := []) (rest := []) F (c_m_ahead l g D o S_2169 tb tn se (((m_2169.1 0 5 _ sM_0 (dk_dq rfl)).trans ((dg_uf_F e_796 0 5).trans (m_2.1 0 5 _ sM_0 (dk_dq rfl)))).trans f_se) (by omega) sl (((m_2169.1 0 2 _ sM_0 (dk_dq rfl)).trans ((dg_uf_F e_796 0 2).trans (m_2.1 0 2 _ sM_0 (dk_dq rfl)))).trans f_sl) (by omega) (by omega) (TKM.keep (TKM.keep (TKM.keep TK m_2 (dk_dq rfl) (dk_dq rfl) (dk_dq rfl) (dk_dq rfl) (dk_dq rfl) (dk_dq rfl) (dk_dq rfl) (dk_dq rfl)) (dg_sm.uf (WF := []) (WA := [24]) dg_sm.rf e_796 sM_24 (dk_dq rfl)) (dk_dq rfl) (dk_dq rfl) (dk_dq rfl) (dk_dq rfl) (dk_dq rfl) (dk_dq rfl) (dk_dq rfl) (dk_dq rfl)) m_2169 (dk_dq rfl) (dk_dq rfl) (dk_dq rfl) (dk_dq rfl) (dk_dq rfl) (dk_dq rfl) (dk_dq rfl) (dk_dq rfl)).1 I_2169 H.size) (cwV 0 hts (bw_V wB_318 wB_319 wB_320 wB_297 wB_317) rfl rfl rfl (by decide +kernel) ⟨Nat.le_of_ble_eq_true rfl, Nat.le_of_ble_eq_true rfl⟩) (dg_preV sM_0 rfl K ST hP hS hA1 hA) rfl rfl hl.1 rfl (lv_room (Nat.le_of_ble_eq_true rfl)) dX12_operand_477 ⟨Nat.le_of_ble_eq_true rfl, Nat.le_of_ble_eq_true rfl⟩) (fun S_2173 hw_2173 H locs hP hS => ?_)
                                                  obtain ⟨I_2173, m_2173, w_2173_0, w_2173_1, -⟩ := hw_2173
                                                  have M_2173 := dg_sm.tr M_2169 m_2173 (dk_dq rfl) (dk_dq rfl)
                                                  obtain ⟨y_2174, y_2175, y_2176, f_y_2174, f_y_2175, f_y_2176, w_2173_0⟩ := w_2173_0
                                                  have w_2173_0 : (se).toInt ≤ (y_2175).toInt ∧ (y_2175).toInt ≤ (y_2176).toInt ∧ (y_2176).toInt ≤ (sl).toInt ∧ ((y_2174).toInt ≠ 0 → (y_2175).toInt + 1 ≤ (y_2176).toInt) := w_2173_0
                                                  obtain ⟨w_2173_0_0, w_2173_0_1, w_2173_0_2, w_2173_0_3⟩ := w_2173_0
                                                  have b_y_2174 : 0 ≤ (y_2174).toInt ∧ (y_2174).toInt ≤ 3 := dg_I.intb (lo := 0) (hi := 3) I_2173 sM_0 (by decide +kernel) f_y_2174
                                                  have b_y_2175 : 0 ≤ (y_2175).toInt ∧ (y_2175).toInt ≤ 1600 := dg_I.intb (lo := 0) (hi := 1600) I_2173 sM_0 (by decide +kernel) f_y_2175
                                                  have b_y_2176 : 0 ≤ (y_2176).toInt ∧ (y_2176).toInt ≤ 1600 := dg_I.intb (lo := 0) (hi := 1600) I_2173 sM_0 (by decide +kernel) f_y_2176
                                                  replace w_2173_1 : TNX tb tn se S_2173 := w_2173_1
                                                  obtain ⟨TK_2173, nx_2173, -⟩ := TKM.nx (TKM.keep (TKM.keep (TKM.keep TK m_2 (dk_dq rfl) (dk_dq rfl) (dk_dq rfl) (dk_dq rfl) (dk_dq rfl) (dk_dq rfl) (dk_dq rfl) (dk_dq rfl)) (dg_sm.uf (WF := []) (WA := [24]) dg_sm.rf e_796 sM_24 (dk_dq rfl)) (dk_dq rfl) (dk_dq rfl) (dk_dq rfl) (dk_dq rfl) (dk_dq rfl) (dk_dq rfl) (dk_dq rfl) (dk_dq rfl)) m_2169 (dk_dq rfl) (dk_dq rfl) (dk_dq rfl) (dk_dq rfl) (dk_dq rfl) (dk_dq rfl) (dk_dq rfl) (dk_dq rfl)) (((m_2169.1 0 4 _ sM_0 (dk_dq rfl)).trans ((dg_uf_F e_796 0 4).trans (m_2.1 0 4 _ sM_0 (dk_dq rfl)))).trans f_sa) (((m_2169.1 0 5 _ sM_0 (dk_dq rfl)).trans ((dg_uf_F e_796 0 5).trans (m_2.1 0 5 _ sM_0 (dk_dq rfl)))).trans f_se) w_2173_1 m_2173 (dk_dq rfl) (dk_dq rfl) f_y_2175
                                                  replace nx_2173 := nx_2173 (fun q9 => absurd ((TKM.zero (TKM.keep (TKM.keep (TKM.keep TK m_2 (dk_dq rfl) (dk_dq rfl) (dk_dq rfl) (dk_dq rfl) (dk_dq rfl) (dk_dq rfl) (dk_dq rfl) (dk_dq rfl)) (dg_sm.uf (WF := []) (WA := [24]) dg_sm.rf e_796 sM_24 (dk_dq rfl)) (dk_dq rfl) (dk_dq rfl) (dk_dq rfl) (dk_dq rfl) (dk_dq rfl) (dk_dq rfl) (dk_dq rfl) (dk_dq rfl)) m_2169 (dk_dq rfl) (dk_dq rfl) (dk_dq rfl) (dk_dq rfl) (dk_dq rfl) (dk_dq rfl) (dk_dq rfl) (dk_dq rfl)) (((m_2169.1 0 3 _ sM_0 (dk_dq rfl)).trans ((dg_uf_F e_796 0 3).trans (m_2.1 0 3 _ sM_0 (dk_dq rfl)))).trans f_sg) (((m_2169.1 0 4 _ sM_0 (dk_dq rfl)).trans ((dg_uf_F e_796 0 4).trans (m_2.1 0 4 _ sM_0 (dk_dq rfl)))).trans f_sa)).mpr q9) (by omega))
                                                  refine lv_iconst (v := 1) hx hb dX12_operand_480 (by decide +kernel) ?_
                                                  have hz_2177 : (1 : Int32).toInt = 1 := by decide +kernel
                                                  have hz_2178 : (1 : Int32).toInt = 1 := by decide +kernel
                                                  have hz_2179 : (1 : Int32).toInt = 1 := by decide +kernel
                                                  have hz_2180 : (1 : Int32).toInt = 1 := by decide +kernel
                                                  have hz_2181 : (1 : Int32).toInt = 1 := by decide +kernel
                                                  have hz_2182 : (1 : Int32).toInt = 1 := by decide +kernel
                                                  have hz_2183 : (1 : Int32).toInt = 1 := by decide +kernel
                                                  have hz_2184 : (1 : Int32).toInt = 1 := by decide +kernel
                                                  refine W.widen (k := 0) (n := 0) (Nat.le_of_ble_eq_true rfl) (Nat.le_of_ble_eq_true rfl) ?_
                                                  rw [hQ9]
                                                  exact dg_iret hx hb hr hlocks (by decide +kernel) hP hS ⟨I_2173, M_2173, (by decide +kernel), ⟨y_2174, y_2175, y_2176, y_3, y_2170, dp, om, f_y_2174, f_y_2175, f_y_2176, (((m_2173.1 0 8 _ sM_0 (dk_dq rfl)).trans ((m_2169.1 0 8 _ sM_0 (dk_dq rfl)).trans (dg_uf_F e_796 0 8))).trans f_y_3), ((m_2173.1 0 34 _ sM_0 (dk_dq rfl)).trans f_y_2170), (((m_2173.1 0 42 _ sM_0 (dk_dq rfl)).trans ((m_2169.1 0 42 _ sM_0 (dk_dq rfl)).trans ((dg_uf_F e_796 0 42).trans (m_2.1 0 42 _ sM_0 (dk_dq rfl))))).trans f_dp), (((m_2173.1 0 45 _ sM_0 (dk_dq rfl)).trans ((m_2169.1 0 45 _ sM_0 (dk_dq rfl)).trans ((dg_uf_F e_796 0 45).trans (m_2.1 0 45 _ sM_0 (dk_dq rfl))))).trans f_om), (by omega)⟩, (fun k9 hk9 hk0 => ⟨fun _ => (P1M.keep P1_2169 m_2173 (dk_dq rfl) (dk_dq rfl) (dk_dq rfl) (dk_dq rfl) (dk_dq rfl) (dk_dq rfl) (dk_dq rfl) (dk_dq rfl) (dk_dq rfl) (dk_dq rfl) (dk_dq rfl) (dk_dq rfl) (dk_dq rfl) (dk_dq rfl) (dk_dq rfl)), fun h9 => absurd h9 (by decide +kernel)⟩), (OPK.ok f_sa (((m_2173.1 0 8 _ sM_0 (dk_dq rfl)).trans ((m_2169.1 0 8 _ sM_0 (dk_dq rfl)).trans (dg_uf_F e_796 0 8))).trans f_y_3) f_y_2175 (by omega) hM0 (TFM.keep (TFM.keep TF_796 m_2169 (dk_dq rfl) (dk_dq rfl) (dk_dq rfl) (dk_dq rfl) (dk_dq rfl) (dk_dq rfl) (dk_dq rfl) (dk_dq rfl)) m_2173 (dk_dq rfl) (dk_dq rfl) (dk_dq rfl) (dk_dq rfl) (dk_dq rfl) (dk_dq rfl) (dk_dq rfl) (dk_dq rfl)) (m_st_f.trans (m_opd_at h171.out h187.out qw_2049_1 qw_1473_1 qw_2045_1 (SRT.good h411.out (by omega)))) (by omega) (by decide +kernel)), (OPN.ok f_sa f_y_2175 hN0 (TFM.keep (TFM.keep TF_796 m_2169 (dk_dq rfl) (dk_dq rfl) (dk_dq rfl) (dk_dq rfl) (dk_dq rfl) (dk_dq rfl) (dk_dq rfl) (dk_dq rfl)) m_2173 (dk_dq rfl) (dk_dq rfl) (dk_dq rfl) (dk_dq rfl) (dk_dq rfl) (dk_dq rfl) (dk_dq rfl) (dk_dq rfl)) (XFM.keep (XFM.keep (XFM.keep XF0 (dg_sm.uf (WF := []) (WA := [24]) dg_sm.rf e_796 sM_24 (dk_dq rfl)) (dk_dq rfl) (dk_dq rfl) (dk_dq rfl) (dk_dq rfl) (dk_dq rfl)) m_2169 (dk_dq rfl) (dk_dq rfl) (dk_dq rfl) (dk_dq rfl) (dk_dq rfl)) m_2173 (dk_dq rfl) (dk_dq rfl) (dk_dq rfl) (dk_dq rfl) (dk_dq rfl)) (q_am.mv qa_2169 (m_2173.1 0 34 _ sM_0 (dk_dq rfl)) (m_2173.1 0 35 _ sM_0 (dk_dq rfl)) (m_2173.2 18 _ sM_18 (dk_dq rfl)).1 (m_2173.2 19 _ sM_19 (dk_dq rfl)).1) (fun out => (n_opd_at h171.out h187.out qw_2049_1 qw_1473_1 qw_2045_1 (SRT.good h411.out (by omega)))) (by omega) (by decide +kernel)), TK_2173, (ZWM.keep w_2169_3 m_2173 (dk_dq rfl) (dk_dq rfl) (dk_dq rfl) (dk_dq rfl)), (G8M.keep w_2169_4 m_2173 (dk_dq rfl) (dk_dq rfl) (dk_dq rfl)), trivial⟩ dX12_operand_481
                                              · as_aux_lemma =>
                                                  have jc_2168 := dk_eqc (k := (-1)) (by decide +kernel) c_2168
                                                  clear rel_0
                                                  refine lv_aload_n hx hb dX12_operand_449 rfl (lv_at hl 3 rfl) ?_
                                                  refine lv_iconst (v := 1) hx hb dX12_operand_450 (by decide +kernel) ?_
                                                  refine lv_aload_n hx hb dX12_operand_451 rfl (lv_at hl 3 rfl) ?_
                                                  refine dg_get (C := RX12) (T := TX12) (N := 77) hx hb hts (fun w h => bw_mem (wU_X12 w h)) hown K hP sM_0 rfl 4 (dk_dq rfl) (hts _ (bw_mem wB_291)) (fun _ h9 => h9) (v := .int sa) (((dg_uf_F e_796 0 4).trans (m_2.1 0 4 _ sM_0 (dk_dq rfl))).trans f_sa) dX12_operand_452 ?_
                                                  have hz_2185 : (1 : Int32).toInt = 1 := by decide +kernel
                                                  refine dg_callv hS hA1 hA (va_runV (As := [.int 1, .int sa]) (rest := []) F (c_m_blame l g D o S_796 1 (by decide +kernel) sa y_3 ((dg_uf_F e_796 0 8).trans f_y_3) (by omega) I_796 H.size) (cwV 2 hts (bw_V wB_306 wB_307 wB_308 wB_297 wB_305) rfl rfl rfl (by decide +kernel) ⟨Nat.le_of_ble_eq_true rfl, Nat.le_of_ble_eq_true rfl⟩) (dg_preV sM_0 rfl K ST hP hS hA1 hA) rfl rfl hl.1 rfl (lv_room (Nat.le_of_ble_eq_true rfl)) dX12_operand_455 ⟨Nat.le_of_ble_eq_true rfl, Nat.le_of_ble_eq_true rfl⟩) (fun S_2186 hw_2186 H locs hP hS => ?_)
                                                  obtain ⟨I_2186, m_2186, w_2186_0, -⟩ := hw_2186
                                                  have M_2186 := dg_sm.tr M_796 m_2186 (dk_dq rfl) (dk_dq rfl)
                                                  have hz_2187 : (1 : Int32).toInt = 1 := by decide +kernel
                                                  obtain ⟨y_2188, f_y_2188, w_2186_0⟩ := w_2186_0
                                                  have w_2186_0 : ((y_3).toInt ≠ 0 → (y_2188).toInt = (y_3).toInt) ∧ ((y_3).toInt = 0 → (y_2188).toInt = ((1 : Int32)).toInt) := w_2186_0
                                                  obtain ⟨w_2186_0_0, w_2186_0_1⟩ := w_2186_0
                                                  clear w_2186_0_0
                                                  have w_2186_0_1r := w_2186_0_1 (by omega)
                                                  clear w_2186_0_1
                                                  have b_y_2188 : 0 ≤ (y_2188).toInt ∧ (y_2188).toInt ≤ 6 := dg_I.intb (lo := 0) (hi := 6) I_2186 sM_0 (by decide +kernel) f_y_2188
                                                  have hbl_y_2188 : 1 ≤ (y_2188).toInt := by omega
                                                  refine lv_aload_n hx hb dX12_operand_458 rfl (lv_at hl 3 rfl) ?_
                                                  refine dg_get (C := RX12) (T := TX12) (N := 77) hx hb hts (fun w h => bw_mem (wU_X12 w h)) hown K hP sM_0 rfl 8 (dk_dq rfl) (hts _ (bw_mem wB_303)) (fun _ h9 => h9) (v := .int y_2188) f_y_2188 dX12_operand_459 ?_
                                                  refine lv_if_le (tgt := 467) hx hb dX12_operand_462 (dk_dq rfl) (fun c => absurd c (fun z => absurd (dk_lec (k := 0) (by decide +kernel) z) (by omega))) (fun _ => ?_)
                                                  refine lv_iconst (v := 1) hx hb dX12_operand_465 (by decide +kernel) ?_
                                                  have hz_2189 : (1 : Int32).toInt = 1 := by decide +kernel
                                                  have hz_2190 : (1 : Int32).toInt = 1 := by decide +kernel
                                                  have hz_2191 : (1 : Int32).toInt = 1 := by decide +kernel
                                                  have hz_2192 : (1 : Int32).toInt = 1 := by decide +kernel
                                                  have hz_2193 : (1 : Int32).toInt = 1 := by decide +kernel
                                                  have hz_2194 : (1 : Int32).toInt = 1 := by decide +kernel
                                                  have hz_2195 : (1 : Int32).toInt = 1 := by decide +kernel
                                                  have hz_2196 : (1 : Int32).toInt = 1 := by decide +kernel
                                                  refine W.widen (k := 0) (n := 0) (Nat.le_of_ble_eq_true rfl) (Nat.le_of_ble_eq_true rfl) ?_
                                                  rw [hQ9]
                                                  exact dg_iret hx hb hr hlocks (by decide +kernel) hP hS ⟨I_2186, M_2186, (by decide +kernel), ⟨sg, sa, se, y_2188, cd, dp, om, (((m_2186.1 0 3 _ sM_0 (dk_dq rfl)).trans ((dg_uf_F e_796 0 3).trans (m_2.1 0 3 _ sM_0 (dk_dq rfl)))).trans f_sg), (((m_2186.1 0 4 _ sM_0 (dk_dq rfl)).trans ((dg_uf_F e_796 0 4).trans (m_2.1 0 4 _ sM_0 (dk_dq rfl)))).trans f_sa), (((m_2186.1 0 5 _ sM_0 (dk_dq rfl)).trans ((dg_uf_F e_796 0 5).trans (m_2.1 0 5 _ sM_0 (dk_dq rfl)))).trans f_se), f_y_2188, (((m_2186.1 0 34 _ sM_0 (dk_dq rfl)).trans ((dg_uf_F e_796 0 34).trans (m_2.1 0 34 _ sM_0 (dk_dq rfl)))).trans f_cd), (((m_2186.1 0 42 _ sM_0 (dk_dq rfl)).trans ((dg_uf_F e_796 0 42).trans (m_2.1 0 42 _ sM_0 (dk_dq rfl)))).trans f_dp), (((m_2186.1 0 45 _ sM_0 (dk_dq rfl)).trans ((dg_uf_F e_796 0 45).trans (m_2.1 0 45 _ sM_0 (dk_dq rfl)))).trans f_om), (by omega)⟩, (fun k9 hk9 hk0 => by have q9 := (f_y_2188).symm.trans hk9; cases q9; omega), (OPK.no f_sa f_fk f_y_2188 (by omega) (fun h0 => by rw [hM0]; exact m_st_f.trans (m_opd_no h171.out h187.out qw_2049_1 qw_1473_1 qw_2045_1 (SRT.bad h411.out (by omega))))), (OPN.no f_y_2188 (by omega)), (TKM.keep (TKM.keep (TKM.keep TK m_2 (dk_dq rfl) (dk_dq rfl) (dk_dq rfl) (dk_dq rfl) (dk_dq rfl) (dk_dq rfl) (dk_dq rfl) (dk_dq rfl)) (dg_sm.uf (WF := []) (WA := [24]) dg_sm.rf e_796 sM_24 (dk_dq rfl)) (dk_dq rfl) (dk_dq rfl) (dk_dq rfl) (dk_dq rfl) (dk_dq rfl) (dk_dq rfl) (dk_dq rfl) (dk_dq rfl)) m_2186 (dk_dq rfl) (dk_dq rfl) (dk_dq rfl) (dk_dq rfl) (dk_dq rfl) (dk_dq rfl) (dk_dq rfl) (dk_dq rfl)), (ZWM.keep (ZWM.keep (ZWM.keep ZW m_2 (dk_dq rfl) (dk_dq rfl) (dk_dq rfl) (dk_dq rfl)) (dg_sm.uf (WF := []) (WA := [24]) dg_sm.rf e_796 sM_24 (dk_dq rfl)) (dk_dq rfl) (dk_dq rfl) (dk_dq rfl) (dk_dq rfl)) m_2186 (dk_dq rfl) (dk_dq rfl) (dk_dq rfl) (dk_dq rfl)), (G8M.keep (G8M.keep (G8M.keep G8 m_2 (dk_dq rfl) (dk_dq rfl) (dk_dq rfl)) (dg_sm.uf (WF := []) (WA := [24]) dg_sm.rf e_796 sM_24 (dk_dq rfl)) (dk_dq rfl) (dk_dq rfl) (dk_dq rfl)) m_2186 (dk_dq rfl) (dk_dq rfl) (dk_dq rfl)), trivial⟩ dX12_operand_466
                                          · as_aux_lemma =>
                                              have jc_2167 := dk_nltc (k := 4) (by decide +kernel) c_2167
                                              have rel_0r := rel_0 (by omega)
                                              clear rel_0
                                              have rel_0rb : 1 ≤ (sg).toInt := by omega
                                              clear rel_0r
                                              have hlx_2r := hlx_2 (by omega)
                                              clear hlx_2
                                              refine lv_iload_n hx hb dX12_operand_417 rfl (lv_at hl 0 rfl) ?_
                                              refine lv_iconst (v := 4) hx hb dX12_operand_418 (by decide +kernel) ?_
                                              refine lv_icmp_ne (tgt := 426) hx hb dX12_operand_419 (dk_dq rfl) (fun c_2197 => ?_) (fun c_2197 => ?_)
                                              · as_aux_lemma =>
                                                  have jc_2197 := dk_neqc (k := 4) (by decide +kernel) c_2197
                                                  have jbc_2197 : 5 ≤ (x_2076).toInt := by omega
                                                  clear jc_2197
                                                  refine lv_iconst (v := 0) hx hb dX12_operand_426 (by decide +kernel) ?_
                                                  refine lv_aload_n hx hb dX12_operand_427 rfl (lv_at hl 3 rfl) ?_
                                                  refine dg_get (C := RX12) (T := TX12) (N := 77) hx hb hts (fun w h => bw_mem (wU_X12 w h)) hown K hP sM_0 rfl 36 (dk_dq rfl) (hts _ (bw_mem wB_434)) (fun _ h9 => h9) (v := .int lw) (((dg_uf_F e_796 0 36).trans (m_2.1 0 36 _ sM_0 (dk_dq rfl))).trans f_lw) dX12_operand_428 ?_
                                                  refine lv_if_ne (tgt := 438) hx hb dX12_operand_431 (dk_dq rfl) (fun c_2198 => ?_) (fun c_2198 => ?_)
                                                  · as_aux_lemma =>
                                                      have jc_2198 := dk_neqc (k := 0) (by decide +kernel) c_2198
                                                      have jbc_2198 : 1 ≤ (lw).toInt := by omega
                                                      clear jc_2198
                                                      refine lv_iconst (v := 0) hx hb dX12_operand_438 (by decide +kernel) ?_
                                                      refine lv_icmp_eq (tgt := 444) hx hb dX12_operand_439 (dk_dq rfl) (fun _ => ?_) (fun c => absurd (by decide +kernel) c)
                                                      refine lv_iload_n hx hb dX12_operand_444 rfl (lv_at hl 0 rfl) ?_
                                                      refine lv_iconst (v := (-1)) hx hb dX12_operand_445 (by decide +kernel) ?_
                                                      refine lv_icmp_ne (tgt := 458) hx hb dX12_operand_446 (dk_dq rfl) (fun _ => ?_) (fun c => absurd c (fun z => absurd (dk_eqc (k := (-1)) (by decide +kernel) z) (by omega)))
                                                      refine lv_aload_n hx hb dX12_operand_458 rfl (lv_at hl 3 rfl) ?_
                                                      refine dg_get (C := RX12) (T := TX12) (N := 77) hx hb hts (fun w h => bw_mem (wU_X12 w h)) hown K hP sM_0 rfl 8 (dk_dq rfl) (hts _ (bw_mem wB_303)) (fun _ h9 => h9) (v := .int y_3) ((dg_uf_F e_796 0 8).trans f_y_3) dX12_operand_459 ?_
                                                      refine lv_if_le (tgt := 467) hx hb dX12_operand_462 (dk_dq rfl) (fun _ => ?_) (fun c => absurd (dk_lep (k := 0) (by decide +kernel) (by omega)) c)
                                                      refine lv_aload_n hx hb dX12_operand_467 rfl (lv_at hl 3 rfl) ?_
                                                      refine lv_iload_n hx hb dX12_operand_468 rfl (lv_at hl 0 rfl) ?_
                                                      refine lv_aload_n hx hb dX12_operand_469 rfl (lv_at hl 3 rfl) ?_
                                                      refine dg_get (C := RX12) (T := TX12) (N := 77) hx hb hts (fun w h => bw_mem (wU_X12 w h)) hown K hP sM_0 rfl 6 (dk_dq rfl) (hts _ (bw_mem wB_301)) (fun _ h9 => h9) (v := .int va) (((dg_uf_F e_796 0 6).trans (m_2.1 0 6 _ sM_0 (dk_dq rfl))).trans f_va) dX12_operand_470 ?_
                                                      refine dg_callv hS hA1 hA (va_runV (As := [.int x_2076, .int va]) (rest := []) F (c_m_add l g D o S_796 x_2076 (by omega) va (by omega) S0 cd (((dg_uf_F e_796 0 34).trans (m_2.1 0 34 _ sM_0 (dk_dq rfl))).trans f_cd) (by omega) (ZWM.keep (ZWM.keep ZW m_2 (dk_dq rfl) (dk_dq rfl) (dk_dq rfl) (dk_dq rfl)) (dg_sm.uf (WF := []) (WA := [24]) dg_sm.rf e_796 sM_24 (dk_dq rfl)) (dk_dq rfl) (dk_dq rfl) (dk_dq rfl) (dk_dq rfl)) (ZKM.keep (ZKM.keep ZK m_2 (dk_dq rfl) (dk_dq rfl)) (dg_sm.uf (WF := []) (WA := [24]) dg_sm.rf e_796 sM_24 (dk_dq rfl)) (dk_dq rfl) (dk_dq rfl)) (G8M.keep (G8M.keep G8 m_2 (dk_dq rfl) (dk_dq rfl) (dk_dq rfl)) (dg_sm.uf (WF := []) (WA := [24]) dg_sm.rf e_796 sM_24 (dk_dq rfl)) (dk_dq rfl) (dk_dq rfl) (dk_dq rfl)) I_796 H.size) (cwV 2 hts (bw_V wB_412 wB_413 wB_414 wB_297 wB_411) rfl rfl rfl (by decide +kernel) ⟨Nat.le_of_ble_eq_true rfl, Nat.le_of_ble_eq_true rfl⟩) (dg_preV sM_0 rfl K ST hP hS hA1 hA) rfl rfl hl.1 rfl (lv_room (Nat.le_of_ble_eq_true rfl)) dX12_operand_473 ⟨Nat.le_of_ble_eq_true rfl, Nat.le_of_ble_eq_true rfl⟩) (fun S_2199 hw_2199 H locs hP hS => ?_)
                                                      obtain ⟨I_2199, m_2199, w_2199_0, w_2199_1, w_2199_2, w_2199_3, w_2199_4, -⟩ := hw_2199
                                                      have M_2199 := dg_sm.tr M_796 m_2199 (dk_dq rfl) (dk_dq rfl)
                                                      obtain ⟨y_2200, f_y_2200, w_2199_0⟩ := w_2199_0
                                                      have w_2199_0 : (y_2200).toInt = (cd).toInt + 1 := w_2199_0
                                                      have b_y_2200 : 0 ≤ (y_2200).toInt ∧ (y_2200).toInt ≤ 1600 := dg_I.intb (lo := 0) (hi := 1600) I_2199 sM_0 (by decide +kernel) f_y_2200
                                                      replace w_2199_1 : ADM S_796 S_2199 x_2076 := w_2199_1
                                                      have P1_2199 : P1M S_2199 := PBM.leaf PB_796 (((dg_uf_F e_796 0 42).trans (m_2.1 0 42 _ sM_0 (dk_dq rfl))).trans f_dp) (((dg_uf_F e_796 0 43).trans (m_2.1 0 43 _ sM_0 (dk_dq rfl))).trans f_on) (((dg_uf_F e_796 0 45).trans (m_2.1 0 45 _ sM_0 (dk_dq rfl))).trans f_om) m_2199 w_2199_1 (by omega)
                                                      replace w_2199_2 : A5M S_796 S_2199 x_2076 va := w_2199_2
                                                      obtain ⟨x_2201, f_x_2201, b_x_2201⟩ := dg_I.int (i := 0) (k := 35) (lo := 0) (hi := 1) I sM_0 (by decide +kernel)
                                                      obtain ⟨x_2202, f_x_2202, b_x_2202⟩ := dg_I.int (i := 0) (k := 34) (lo := 0) (hi := 1600) I_796 sM_0 (by decide +kernel)
                                                      have qa_2199 : q_am S S_2199 ([n_at (T_kd tb tn) (T_vl tb tn) (t_ix tb tn (sa : Int32).toNatClampNeg)]) := (q_am.fs (q_am.to (A5M.q w_2199_2 (((dg_uf_F e_796 0 35).trans (m_2.1 0 35 _ sM_0 (dk_dq rfl))).trans f_x_2201) f_x_2202 (by omega) (by omega)) (by rw [SRT.at h411.out (by omega) (fun q9 => ((TKM.num (TKM.keep (TKM.keep TK m_2 (dk_dq rfl) (dk_dq rfl) (dk_dq rfl) (dk_dq rfl) (dk_dq rfl) (dk_dq rfl) (dk_dq rfl) (dk_dq rfl)) (dg_sm.uf (WF := []) (WA := [24]) dg_sm.rf e_796 sM_24 (dk_dq rfl)) (dk_dq rfl) (dk_dq rfl) (dk_dq rfl) (dk_dq rfl) (dk_dq rfl) (dk_dq rfl) (dk_dq rfl) (dk_dq rfl)) (((dg_uf_F e_796 0 3).trans (m_2.1 0 3 _ sM_0 (dk_dq rfl))).trans f_sg) (((dg_uf_F e_796 0 4).trans (m_2.1 0 4 _ sM_0 (dk_dq rfl))).trans f_sa) (((dg_uf_F e_796 0 6).trans (m_2.1 0 6 _ sM_0 (dk_dq rfl))).trans f_va) hk5.out).2 ((TKM.num (TKM.keep (TKM.keep TK m_2 (dk_dq rfl) (dk_dq rfl) (dk_dq rfl) (dk_dq rfl) (dk_dq rfl) (dk_dq rfl) (dk_dq rfl) (dk_dq rfl)) (dg_sm.uf (WF := []) (WA := [24]) dg_sm.rf e_796 sM_24 (dk_dq rfl)) (dk_dq rfl) (dk_dq rfl) (dk_dq rfl) (dk_dq rfl) (dk_dq rfl) (dk_dq rfl) (dk_dq rfl) (dk_dq rfl)) (((dg_uf_F e_796 0 3).trans (m_2.1 0 3 _ sM_0 (dk_dq rfl))).trans f_sg) (((dg_uf_F e_796 0 4).trans (m_2.1 0 4 _ sM_0 (dk_dq rfl))).trans f_sa) (((dg_uf_F e_796 0 6).trans (m_2.1 0 6 _ sM_0 (dk_dq rfl))).trans f_va) hk5.out).1.mp (g_n_iff.mp (h411.out.1 q9)))).symm)])) ((dg_uf_F e_796 0 34).trans (m_2.1 0 34 _ sM_0 (dk_dq rfl))) ((dg_uf_F e_796 0 35).trans (m_2.1 0 35 _ sM_0 (dk_dq rfl))) ((dg_uf_ne e_796 (dk_dq rfl)).trans (m_2.2 18 _ sM_18 (dk_dq rfl)).1) ((dg_uf_ne e_796 (dk_dq rfl)).trans (m_2.2 19 _ sM_19 (dk_dq rfl)).1))
                                                      refine lv_aload_n hx hb dX12_operand_476 rfl (lv_at hl 3 rfl) ?_
                                                      refine dg_callv hS hA1 hA (va_runV (As := []) (rest := []) F (c_m_ahead l g D o S_2199 tb tn se (((m_2199.1 0 5 _ sM_0 (dk_dq rfl)).trans ((dg_uf_F e_796 0 5).trans (m_2.1 0 5 _ sM_0 (dk_dq rfl)))).trans f_se) (by omega) sl (((m_2199.1 0 2 _ sM_0 (dk_dq rfl)).trans ((dg_uf_F e_796 0 2).trans (m_2.1 0 2 _ sM_0 (dk_dq rfl)))).trans f_sl) (by omega) (by omega) (TKM.keep (TKM.keep (TKM.keep TK m_2 (dk_dq rfl) (dk_dq rfl) (dk_dq rfl) (dk_dq rfl) (dk_dq rfl) (dk_dq rfl) (dk_dq rfl) (dk_dq rfl)) (dg_sm.uf (WF := []) (WA := [24]) dg_sm.rf e_796 sM_24 (dk_dq rfl)) (dk_dq rfl) (dk_dq rfl) (dk_dq rfl) (dk_dq rfl) (dk_dq rfl) (dk_dq rfl) (dk_dq rfl) (dk_dq rfl)) m_2199 (dk_dq rfl) (dk_dq rfl) (dk_dq rfl) (dk_dq rfl) (dk_dq rfl) (dk_dq rfl) (dk_dq rfl) (dk_dq rfl)).1 I_2199 H.size) (cwV 0 hts (bw_V wB_318 wB_319 wB_320 wB_297 wB_317) rfl rfl rfl (by decide +kernel) ⟨Nat.le_of_ble_eq_true rfl, Nat.le_of_ble_eq_true rfl⟩) (dg_preV sM_0 rfl K ST hP hS hA1 hA) rfl rfl hl.1 rfl (lv_room (Nat.le_of_ble_eq_true rfl)) dX12_operand_477 ⟨Nat.le_of_ble_eq_true rfl, Nat.le_of_ble_eq_true rfl⟩) (fun S_2203 hw_2203 H locs hP hS => ?_)
                                                      obtain ⟨I_2203, m_2203, w_2203_0, w_2203_1, -⟩ := hw_2203
                                                      have M_2203 := dg_sm.tr M_2199 m_2203 (dk_dq rfl) (dk_dq rfl)
                                                      obtain ⟨y_2204, y_2205, y_2206, f_y_2204, f_y_2205, f_y_2206, w_2203_0⟩ := w_2203_0
                                                      have w_2203_0 : (se).toInt ≤ (y_2205).toInt ∧ (y_2205).toInt ≤ (y_2206).toInt ∧ (y_2206).toInt ≤ (sl).toInt ∧ ((y_2204).toInt ≠ 0 → (y_2205).toInt + 1 ≤ (y_2206).toInt) := w_2203_0
                                                      obtain ⟨w_2203_0_0, w_2203_0_1, w_2203_0_2, w_2203_0_3⟩ := w_2203_0
                                                      have b_y_2204 : 0 ≤ (y_2204).toInt ∧ (y_2204).toInt ≤ 3 := dg_I.intb (lo := 0) (hi := 3) I_2203 sM_0 (by decide +kernel) f_y_2204
                                                      have b_y_2205 : 0 ≤ (y_2205).toInt ∧ (y_2205).toInt ≤ 1600 := dg_I.intb (lo := 0) (hi := 1600) I_2203 sM_0 (by decide +kernel) f_y_2205
                                                      have b_y_2206 : 0 ≤ (y_2206).toInt ∧ (y_2206).toInt ≤ 1600 := dg_I.intb (lo := 0) (hi := 1600) I_2203 sM_0 (by decide +kernel) f_y_2206
                                                      replace w_2203_1 : TNX tb tn se S_2203 := w_2203_1
                                                      obtain ⟨TK_2203, nx_2203, -⟩ := TKM.nx (TKM.keep (TKM.keep (TKM.keep TK m_2 (dk_dq rfl) (dk_dq rfl) (dk_dq rfl) (dk_dq rfl) (dk_dq rfl) (dk_dq rfl) (dk_dq rfl) (dk_dq rfl)) (dg_sm.uf (WF := []) (WA := [24]) dg_sm.rf e_796 sM_24 (dk_dq rfl)) (dk_dq rfl) (dk_dq rfl) (dk_dq rfl) (dk_dq rfl) (dk_dq rfl) (dk_dq rfl) (dk_dq rfl) (dk_dq rfl)) m_2199 (dk_dq rfl) (dk_dq rfl) (dk_dq rfl) (dk_dq rfl) (dk_dq rfl) (dk_dq rfl) (dk_dq rfl) (dk_dq rfl)) (((m_2199.1 0 4 _ sM_0 (dk_dq rfl)).trans ((dg_uf_F e_796 0 4).trans (m_2.1 0 4 _ sM_0 (dk_dq rfl)))).trans f_sa) (((m_2199.1 0 5 _ sM_0 (dk_dq rfl)).trans ((dg_uf_F e_796 0 5).trans (m_2.1 0 5 _ sM_0 (dk_dq rfl)))).trans f_se) w_2203_1 m_2203 (dk_dq rfl) (dk_dq rfl) f_y_2205
                                                      replace nx_2203 := nx_2203 (fun q9 => absurd ((TKM.zero (TKM.keep (TKM.keep (TKM.keep TK m_2 (dk_dq rfl) (dk_dq rfl) (dk_dq rfl) (dk_dq rfl) (dk_dq rfl) (dk_dq rfl) (dk_dq rfl) (dk_dq rfl)) (dg_sm.uf (WF := []) (WA := [24]) dg_sm.rf e_796 sM_24 (dk_dq rfl)) (dk_dq rfl) (dk_dq rfl) (dk_dq rfl) (dk_dq rfl) (dk_dq rfl) (dk_dq rfl) (dk_dq rfl) (dk_dq rfl)) m_2199 (dk_dq rfl) (dk_dq rfl) (dk_dq rfl) (dk_dq rfl) (dk_dq rfl) (dk_dq rfl) (dk_dq rfl) (dk_dq rfl)) (((m_2199.1 0 3 _ sM_0 (dk_dq rfl)).trans ((dg_uf_F e_796 0 3).trans (m_2.1 0 3 _ sM_0 (dk_dq rfl)))).trans f_sg) (((m_2199.1 0 4 _ sM_0 (dk_dq rfl)).trans ((dg_uf_F e_796 0 4).trans (m_2.1 0 4 _ sM_0 (dk_dq rfl)))).trans f_sa)).mpr q9) (by omega))
                                                      refine lv_iconst (v := 1) hx hb dX12_operand_480 (by decide +kernel) ?_
                                                      have hz_2207 : (1 : Int32).toInt = 1 := by decide +kernel
                                                      have hz_2208 : (1 : Int32).toInt = 1 := by decide +kernel
                                                      have hz_2209 : (1 : Int32).toInt = 1 := by decide +kernel
                                                      have hz_2210 : (1 : Int32).toInt = 1 := by decide +kernel
                                                      have hz_2211 : (1 : Int32).toInt = 1 := by decide +kernel
                                                      have hz_2212 : (1 : Int32).toInt = 1 := by decide +kernel
                                                      have hz_2213 : (1 : Int32).toInt = 1 := by decide +kernel
                                                      have hz_2214 : (1 : Int32).toInt = 1 := by decide +kernel
                                                      refine W.widen (k := 0) (n := 0) (Nat.le_of_ble_eq_true rfl) (Nat.le_of_ble_eq_true rfl) ?_
                                                      rw [hQ9]
                                                      exact dg_iret hx hb hr hlocks (by decide +kernel) hP hS ⟨I_2203, M_2203, (by decide +kernel), ⟨y_2204, y_2205, y_2206, y_3, y_2200, dp, om, f_y_2204, f_y_2205, f_y_2206, (((m_2203.1 0 8 _ sM_0 (dk_dq rfl)).trans ((m_2199.1 0 8 _ sM_0 (dk_dq rfl)).trans (dg_uf_F e_796 0 8))).trans f_y_3), ((m_2203.1 0 34 _ sM_0 (dk_dq rfl)).trans f_y_2200), (((m_2203.1 0 42 _ sM_0 (dk_dq rfl)).trans ((m_2199.1 0 42 _ sM_0 (dk_dq rfl)).trans ((dg_uf_F e_796 0 42).trans (m_2.1 0 42 _ sM_0 (dk_dq rfl))))).trans f_dp), (((m_2203.1 0 45 _ sM_0 (dk_dq rfl)).trans ((m_2199.1 0 45 _ sM_0 (dk_dq rfl)).trans ((dg_uf_F e_796 0 45).trans (m_2.1 0 45 _ sM_0 (dk_dq rfl))))).trans f_om), (by omega)⟩, (fun k9 hk9 hk0 => ⟨fun _ => (P1M.keep P1_2199 m_2203 (dk_dq rfl) (dk_dq rfl) (dk_dq rfl) (dk_dq rfl) (dk_dq rfl) (dk_dq rfl) (dk_dq rfl) (dk_dq rfl) (dk_dq rfl) (dk_dq rfl) (dk_dq rfl) (dk_dq rfl) (dk_dq rfl) (dk_dq rfl) (dk_dq rfl)), fun h9 => absurd h9 (by decide +kernel)⟩), (OPK.ok f_sa (((m_2203.1 0 8 _ sM_0 (dk_dq rfl)).trans ((m_2199.1 0 8 _ sM_0 (dk_dq rfl)).trans (dg_uf_F e_796 0 8))).trans f_y_3) f_y_2205 (by omega) hM0 (TFM.keep (TFM.keep TF_796 m_2199 (dk_dq rfl) (dk_dq rfl) (dk_dq rfl) (dk_dq rfl) (dk_dq rfl) (dk_dq rfl) (dk_dq rfl) (dk_dq rfl)) m_2203 (dk_dq rfl) (dk_dq rfl) (dk_dq rfl) (dk_dq rfl) (dk_dq rfl) (dk_dq rfl) (dk_dq rfl) (dk_dq rfl)) (m_st_f.trans (m_opd_at h171.out h187.out qw_2049_1 qw_1473_1 qw_2045_1 (SRT.good h411.out (by omega)))) (by omega) (by decide +kernel)), (OPN.ok f_sa f_y_2205 hN0 (TFM.keep (TFM.keep TF_796 m_2199 (dk_dq rfl) (dk_dq rfl) (dk_dq rfl) (dk_dq rfl) (dk_dq rfl) (dk_dq rfl) (dk_dq rfl) (dk_dq rfl)) m_2203 (dk_dq rfl) (dk_dq rfl) (dk_dq rfl) (dk_dq rfl) (dk_dq rfl) (dk_dq rfl) (dk_dq rfl) (dk_dq rfl)) (XFM.keep (XFM.keep (XFM.keep XF0 (dg_sm.uf (WF := []) (WA := [24]) dg_sm.rf e_796 sM_24 (dk_dq rfl)) (dk_dq rfl) (dk_dq rfl) (dk_dq rfl) (dk_dq rfl) (dk_dq rfl)) m_2199 (dk_dq rfl) (dk_dq rfl) (dk_dq rfl) (dk_dq rfl) (dk_dq rfl)) m_2203 (dk_dq rfl) (dk_dq rfl) (dk_dq rfl) (dk_dq rfl) (dk_dq rfl)) (q_am.mv qa_2199 (m_2203.1 0 34 _ sM_0 (dk_dq rfl)) (m_2203.1 0 35 _ sM_0 (dk_dq rfl)) (m_2203.2 18 _ sM_18 (dk_dq rfl)).1 (m_2203.2 19 _ sM_19 (dk_dq rfl)).1) (fun out => (n_opd_at h171.out h187.out qw_2049_1 qw_1473_1 qw_2045_1 (SRT.good h411.out (by omega)))) (by omega) (by decide +kernel)), TK_2203, (ZWM.keep w_2199_3 m_2203 (dk_dq rfl) (dk_dq rfl) (dk_dq rfl) (dk_dq rfl)), (G8M.keep w_2199_4 m_2203 (dk_dq rfl) (dk_dq rfl) (dk_dq rfl)), trivial⟩ dX12_operand_481
                                                  · as_aux_lemma =>
                                                      have jc_2198 := dk_eqc (k := 0) (by decide +kernel) c_2198
                                                      refine lv_iconst (v := 1) hx hb dX12_operand_434 (by decide +kernel) ?_
                                                      refine lv_goto (tgt := 439) hx hb dX12_operand_435 (dk_dq rfl) ?_
                                                      refine lv_icmp_eq (tgt := 444) hx hb dX12_operand_439 (dk_dq rfl) (fun c => absurd c (by decide +kernel)) (fun _ => ?_)
                                                      refine lv_iconst (v := (-1)) hx hb dX12_operand_442 (by decide +kernel) ?_
                                                      refine lv_istore_n (lv' := [(3, .int (-1)), (2, .int x_14), (1, .int x_5), (0, .ref (o + 0))]) hx hb dX12_operand_443 rfl hl (dk_dq rfl) rfl (fun ls hl => ?_)
                                                      refine lv_iload_n hx hb dX12_operand_444 rfl (lv_at hl 0 rfl) ?_
                                                      refine lv_iconst (v := (-1)) hx hb dX12_operand_445 (by decide +kernel) ?_
                                                      refine lv_icmp_ne (tgt := 458) hx hb dX12_operand_446 (dk_dq rfl) (fun c => absurd (by decide +kernel) c) (fun _ => ?_)
                                                      refine lv_aload_n hx hb dX12_operand_449 rfl (lv_at hl 3 rfl) ?_
                                                      refine lv_iconst (v := 1) hx hb dX12_operand_450 (by decide +kernel) ?_
                                                      refine lv_aload_n hx hb dX12_operand_451 rfl (lv_at hl 3 rfl) ?_
                                                      refine dg_get (C := RX12) (T := TX12) (N := 77) hx hb hts (fun w h => bw_mem (wU_X12 w h)) hown K hP sM_0 rfl 4 (dk_dq rfl) (hts _ (bw_mem wB_291)) (fun _ h9 => h9) (v := .int sa) (((dg_uf_F e_796 0 4).trans (m_2.1 0 4 _ sM_0 (dk_dq rfl))).trans f_sa) dX12_operand_452 ?_
                                                      have hz_2215 : (1 : Int32).toInt = 1 := by decide +kernel
                                                      refine dg_callv hS hA1 hA (va_runV (As := [.int 1, .int sa]) (rest := []) F (c_m_blame l g D o S_796 1 (by decide +kernel) sa y_3 ((dg_uf_F e_796 0 8).trans f_y_3) (by omega) I_796 H.size) (cwV 2 hts (bw_V wB_306 wB_307 wB_308 wB_297 wB_305) rfl rfl rfl (by decide +kernel) ⟨Nat.le_of_ble_eq_true rfl, Nat.le_of_ble_eq_true rfl⟩) (dg_preV sM_0 rfl K ST hP hS hA1 hA) rfl rfl hl.1 rfl (lv_room (Nat.le_of_ble_eq_true rfl)) dX12_operand_455 ⟨Nat.le_of_ble_eq_true rfl, Nat.le_of_ble_eq_true rfl⟩) (fun S_2216 hw_2216 H locs hP hS => ?_)
                                                      obtain ⟨I_2216, m_2216, w_2216_0, -⟩ := hw_2216
                                                      have M_2216 := dg_sm.tr M_796 m_2216 (dk_dq rfl) (dk_dq rfl)
                                                      have hz_2217 : (1 : Int32).toInt = 1 := by decide +kernel
                                                      obtain ⟨y_2218, f_y_2218, w_2216_0⟩ := w_2216_0
                                                      have w_2216_0 : ((y_3).toInt ≠ 0 → (y_2218).toInt = (y_3).toInt) ∧ ((y_3).toInt = 0 → (y_2218).toInt = ((1 : Int32)).toInt) := w_2216_0
                                                      obtain ⟨w_2216_0_0, w_2216_0_1⟩ := w_2216_0
                                                      clear w_2216_0_0
                                                      have w_2216_0_1r := w_2216_0_1 (by omega)
                                                      clear w_2216_0_1
                                                      have b_y_2218 : 0 ≤ (y_2218).toInt ∧ (y_2218).toInt ≤ 6 := dg_I.intb (lo := 0) (hi := 6) I_2216 sM_0 (by decide +kernel) f_y_2218
                                                      have hbl_y_2218 : 1 ≤ (y_2218).toInt := by omega
                                                      refine lv_aload_n hx hb dX12_operand_458 rfl (lv_at hl 3 rfl) ?_
                                                      refine dg_get (C := RX12) (T := TX12) (N := 77) hx hb hts (fun w h => bw_mem (wU_X12 w h)) hown K hP sM_0 rfl 8 (dk_dq rfl) (hts _ (bw_mem wB_303)) (fun _ h9 => h9) (v := .int y_2218) f_y_2218 dX12_operand_459 ?_
                                                      refine lv_if_le (tgt := 467) hx hb dX12_operand_462 (dk_dq rfl) (fun c => absurd c (fun z => absurd (dk_lec (k := 0) (by decide +kernel) z) (by omega))) (fun _ => ?_)
                                                      refine lv_iconst (v := 1) hx hb dX12_operand_465 (by decide +kernel) ?_
                                                      have hz_2219 : (1 : Int32).toInt = 1 := by decide +kernel
                                                      have hz_2220 : (1 : Int32).toInt = 1 := by decide +kernel
                                                      have hz_2221 : (1 : Int32).toInt = 1 := by decide +kernel
                                                      have hz_2222 : (1 : Int32).toInt = 1 := by decide +kernel
                                                      have hz_2223 : (1 : Int32).toInt = 1 := by decide +kernel
                                                      have hz_2224 : (1 : Int32).toInt = 1 := by decide +kernel
                                                      have hz_2225 : (1 : Int32).toInt = 1 := by decide +kernel
                                                      have hz_2226 : (1 : Int32).toInt = 1 := by decide +kernel
                                                      refine W.widen (k := 0) (n := 0) (Nat.le_of_ble_eq_true rfl) (Nat.le_of_ble_eq_true rfl) ?_
                                                      rw [hQ9]
                                                      exact dg_iret hx hb hr hlocks (by decide +kernel) hP hS ⟨I_2216, M_2216, (by decide +kernel), ⟨sg, sa, se, y_2218, cd, dp, om, (((m_2216.1 0 3 _ sM_0 (dk_dq rfl)).trans ((dg_uf_F e_796 0 3).trans (m_2.1 0 3 _ sM_0 (dk_dq rfl)))).trans f_sg), (((m_2216.1 0 4 _ sM_0 (dk_dq rfl)).trans ((dg_uf_F e_796 0 4).trans (m_2.1 0 4 _ sM_0 (dk_dq rfl)))).trans f_sa), (((m_2216.1 0 5 _ sM_0 (dk_dq rfl)).trans ((dg_uf_F e_796 0 5).trans (m_2.1 0 5 _ sM_0 (dk_dq rfl)))).trans f_se), f_y_2218, (((m_2216.1 0 34 _ sM_0 (dk_dq rfl)).trans ((dg_uf_F e_796 0 34).trans (m_2.1 0 34 _ sM_0 (dk_dq rfl)))).trans f_cd), (((m_2216.1 0 42 _ sM_0 (dk_dq rfl)).trans ((dg_uf_F e_796 0 42).trans (m_2.1 0 42 _ sM_0 (dk_dq rfl)))).trans f_dp), (((m_2216.1 0 45 _ sM_0 (dk_dq rfl)).trans ((dg_uf_F e_796 0 45).trans (m_2.1 0 45 _ sM_0 (dk_dq rfl)))).trans f_om), (by omega)⟩, (fun k9 hk9 hk0 => by have q9 := (f_y_2218).symm.trans hk9; cases q9; omega), (OPK.no f_sa f_fk f_y_2218 (by omega) (fun h0 => by rw [hM0]; exact m_st_f.trans (m_opd_no h171.out h187.out qw_2049_1 qw_1473_1 qw_2045_1 (SRT.bad h411.out (by omega))))), (OPN.no f_y_2218 (by omega)), (TKM.keep (TKM.keep (TKM.keep TK m_2 (dk_dq rfl) (dk_dq rfl) (dk_dq rfl) (dk_dq rfl) (dk_dq rfl) (dk_dq rfl) (dk_dq rfl) (dk_dq rfl)) (dg_sm.uf (WF := []) (WA := [24]) dg_sm.rf e_796 sM_24 (dk_dq rfl)) (dk_dq rfl) (dk_dq rfl) (dk_dq rfl) (dk_dq rfl) (dk_dq rfl) (dk_dq rfl) (dk_dq rfl) (dk_dq rfl)) m_2216 (dk_dq rfl) (dk_dq rfl) (dk_dq rfl) (dk_dq rfl) (dk_dq rfl) (dk_dq rfl) (dk_dq rfl) (dk_dq rfl)), (ZWM.keep (ZWM.keep (ZWM.keep ZW m_2 (dk_dq rfl) (dk_dq rfl) (dk_dq rfl) (dk_dq rfl)) (dg_sm.uf (WF := []) (WA := [24]) dg_sm.rf e_796 sM_24 (dk_dq rfl)) (dk_dq rfl) (dk_dq rfl) (dk_dq rfl) (dk_dq rfl)) m_2216 (dk_dq rfl) (dk_dq rfl) (dk_dq rfl) (dk_dq rfl)), (G8M.keep (G8M.keep (G8M.keep G8 m_2 (dk_dq rfl) (dk_dq rfl) (dk_dq rfl)) (dg_sm.uf (WF := []) (WA := [24]) dg_sm.rf e_796 sM_24 (dk_dq rfl)) (dk_dq rfl) (dk_dq rfl) (dk_dq rfl)) m_2216 (dk_dq rfl) (dk_dq rfl) (dk_dq rfl)), trivial⟩ dX12_operand_466
                                              · as_aux_lemma =>
                                                  have jc_2197 := dk_eqc (k := 4) (by decide +kernel) c_2197
                                                  refine lv_iconst (v := 1) hx hb dX12_operand_422 (by decide +kernel) ?_
                                                  refine lv_goto (tgt := 427) hx hb dX12_operand_423 (dk_dq rfl) ?_
                                                  refine lv_aload_n hx hb dX12_operand_427 rfl (lv_at hl 3 rfl) ?_
                                                  refine dg_get (C := RX12) (T := TX12) (N := 77) hx hb hts (fun w h => bw_mem (wU_X12 w h)) hown K hP sM_0 rfl 36 (dk_dq rfl) (hts _ (bw_mem wB_434)) (fun _ h9 => h9) (v := .int lw) (((dg_uf_F e_796 0 36).trans (m_2.1 0 36 _ sM_0 (dk_dq rfl))).trans f_lw) dX12_operand_428 ?_
                                                  refine lv_if_ne (tgt := 438) hx hb dX12_operand_431 (dk_dq rfl) (fun c_2227 => ?_) (fun c_2227 => ?_)
                                                  · as_aux_lemma =>
                                                      have jc_2227 := dk_neqc (k := 0) (by decide +kernel) c_2227
                                                      have jbc_2227 : 1 ≤ (lw).toInt := by omega
                                                      clear jc_2227
                                                      refine lv_iconst (v := 0) hx hb dX12_operand_438 (by decide +kernel) ?_
                                                      refine lv_icmp_eq (tgt := 444) hx hb dX12_operand_439 (dk_dq rfl) (fun c => absurd c (by decide +kernel)) (fun _ => ?_)
                                                      refine lv_iconst (v := (-1)) hx hb dX12_operand_442 (by decide +kernel) ?_
                                                      refine lv_istore_n (lv' := [(3, .int (-1)), (2, .int x_14), (1, .int x_5), (0, .ref (o + 0))]) hx hb dX12_operand_443 rfl hl (dk_dq rfl) rfl (fun ls hl => ?_)
                                                      refine lv_iload_n hx hb dX12_operand_444 rfl (lv_at hl 0 rfl) ?_
                                                      refine lv_iconst (v := (-1)) hx hb dX12_operand_445 (by decide +kernel) ?_
                                                      refine lv_icmp_ne (tgt := 458) hx hb dX12_operand_446 (dk_dq rfl) (fun c => absurd (by decide +kernel) c) (fun _ => ?_)
                                                      refine lv_aload_n hx hb dX12_operand_449 rfl (lv_at hl 3 rfl) ?_
                                                      refine lv_iconst (v := 1) hx hb dX12_operand_450 (by decide +kernel) ?_
                                                      refine lv_aload_n hx hb dX12_operand_451 rfl (lv_at hl 3 rfl) ?_
                                                      refine dg_get (C := RX12) (T := TX12) (N := 77) hx hb hts (fun w h => bw_mem (wU_X12 w h)) hown K hP sM_0 rfl 4 (dk_dq rfl) (hts _ (bw_mem wB_291)) (fun _ h9 => h9) (v := .int sa) (((dg_uf_F e_796 0 4).trans (m_2.1 0 4 _ sM_0 (dk_dq rfl))).trans f_sa) dX12_operand_452 ?_
                                                      have hz_2228 : (1 : Int32).toInt = 1 := by decide +kernel
                                                      refine dg_callv hS hA1 hA (va_runV (As := [.int 1, .int sa]) (rest := []) F (c_m_blame l g D o S_796 1 (by decide +kernel) sa y_3 ((dg_uf_F e_796 0 8).trans f_y_3) (by omega) I_796 H.size) (cwV 2 hts (bw_V wB_306 wB_307 wB_308 wB_297 wB_305) rfl rfl rfl (by decide +kernel) ⟨Nat.le_of_ble_eq_true rfl, Nat.le_of_ble_eq_true rfl⟩) (dg_preV sM_0 rfl K ST hP hS hA1 hA) rfl rfl hl.1 rfl (lv_room (Nat.le_of_ble_eq_true rfl)) dX12_operand_455 ⟨Nat.le_of_ble_eq_true rfl, Nat.le_of_ble_eq_true rfl⟩) (fun S_2229 hw_2229 H locs hP hS => ?_)
                                                      obtain ⟨I_2229, m_2229, w_2229_0, -⟩ := hw_2229
                                                      have M_2229 := dg_sm.tr M_796 m_2229 (dk_dq rfl) (dk_dq rfl)
                                                      have hz_2230 : (1 : Int32).toInt = 1 := by decide +kernel
                                                      obtain ⟨y_2231, f_y_2231, w_2229_0⟩ := w_2229_0
                                                      have w_2229_0 : ((y_3).toInt ≠ 0 → (y_2231).toInt = (y_3).toInt) ∧ ((y_3).toInt = 0 → (y_2231).toInt = ((1 : Int32)).toInt) := w_2229_0
                                                      obtain ⟨w_2229_0_0, w_2229_0_1⟩ := w_2229_0
                                                      clear w_2229_0_0
                                                      have w_2229_0_1r := w_2229_0_1 (by omega)
                                                      clear w_2229_0_1
                                                      have b_y_2231 : 0 ≤ (y_2231).toInt ∧ (y_2231).toInt ≤ 6 := dg_I.intb (lo := 0) (hi := 6) I_2229 sM_0 (by decide +kernel) f_y_2231
                                                      have hbl_y_2231 : 1 ≤ (y_2231).toInt := by omega
                                                      refine lv_aload_n hx hb dX12_operand_458 rfl (lv_at hl 3 rfl) ?_
                                                      refine dg_get (C := RX12) (T := TX12) (N := 77) hx hb hts (fun w h => bw_mem (wU_X12 w h)) hown K hP sM_0 rfl 8 (dk_dq rfl) (hts _ (bw_mem wB_303)) (fun _ h9 => h9) (v := .int y_2231) f_y_2231 dX12_operand_459 ?_
                                                      refine lv_if_le (tgt := 467) hx hb dX12_operand_462 (dk_dq rfl) (fun c => absurd c (fun z => absurd (dk_lec (k := 0) (by decide +kernel) z) (by omega))) (fun _ => ?_)
                                                      refine lv_iconst (v := 1) hx hb dX12_operand_465 (by decide +kernel) ?_
                                                      have hz_2232 : (1 : Int32).toInt = 1 := by decide +kernel
                                                      have hz_2233 : (1 : Int32).toInt = 1 := by decide +kernel
                                                      have hz_2234 : (1 : Int32).toInt = 1 := by decide +kernel
                                                      have hz_2235 : (1 : Int32).toInt = 1 := by decide +kernel
                                                      have hz_2236 : (1 : Int32).toInt = 1 := by decide +kernel
                                                      have hz_2237 : (1 : Int32).toInt = 1 := by decide +kernel
                                                      have hz_2238 : (1 : Int32).toInt = 1 := by decide +kernel
                                                      have hz_2239 : (1 : Int32).toInt = 1 := by decide +kernel
                                                      refine W.widen (k := 0) (n := 0) (Nat.le_of_ble_eq_true rfl) (Nat.le_of_ble_eq_true rfl) ?_
                                                      rw [hQ9]
                                                      exact dg_iret hx hb hr hlocks (by decide +kernel) hP hS ⟨I_2229, M_2229, (by decide +kernel), ⟨sg, sa, se, y_2231, cd, dp, om, (((m_2229.1 0 3 _ sM_0 (dk_dq rfl)).trans ((dg_uf_F e_796 0 3).trans (m_2.1 0 3 _ sM_0 (dk_dq rfl)))).trans f_sg), (((m_2229.1 0 4 _ sM_0 (dk_dq rfl)).trans ((dg_uf_F e_796 0 4).trans (m_2.1 0 4 _ sM_0 (dk_dq rfl)))).trans f_sa), (((m_2229.1 0 5 _ sM_0 (dk_dq rfl)).trans ((dg_uf_F e_796 0 5).trans (m_2.1 0 5 _ sM_0 (dk_dq rfl)))).trans f_se), f_y_2231, (((m_2229.1 0 34 _ sM_0 (dk_dq rfl)).trans ((dg_uf_F e_796 0 34).trans (m_2.1 0 34 _ sM_0 (dk_dq rfl)))).trans f_cd), (((m_2229.1 0 42 _ sM_0 (dk_dq rfl)).trans ((dg_uf_F e_796 0 42).trans (m_2.1 0 42 _ sM_0 (dk_dq rfl)))).trans f_dp), (((m_2229.1 0 45 _ sM_0 (dk_dq rfl)).trans ((dg_uf_F e_796 0 45).trans (m_2.1 0 45 _ sM_0 (dk_dq rfl)))).trans f_om), (by omega)⟩, (fun k9 hk9 hk0 => by have q9 := (f_y_2231).symm.trans hk9; cases q9; omega), (OPK.no f_sa f_fk f_y_2231 (by omega) (fun h0 => by rw [hM0]; exact m_st_f.trans (m_opd_no h171.out h187.out qw_2049_1 qw_1473_1 qw_2045_1 (SRT.bad h411.out (by omega))))), (OPN.no f_y_2231 (by omega)), (TKM.keep (TKM.keep (TKM.keep TK m_2 (dk_dq rfl) (dk_dq rfl) (dk_dq rfl) (dk_dq rfl) (dk_dq rfl) (dk_dq rfl) (dk_dq rfl) (dk_dq rfl)) (dg_sm.uf (WF := []) (WA := [24]) dg_sm.rf e_796 sM_24 (dk_dq rfl)) (dk_dq rfl) (dk_dq rfl) (dk_dq rfl) (dk_dq rfl) (dk_dq rfl) (dk_dq rfl) (dk_dq rfl) (dk_dq rfl)) m_2229 (dk_dq rfl) (dk_dq rfl) (dk_dq rfl) (dk_dq rfl) (dk_dq rfl) (dk_dq rfl) (dk_dq rfl) (dk_dq rfl)), (ZWM.keep (ZWM.keep (ZWM.keep ZW m_2 (dk_dq rfl) (dk_dq rfl) (dk_dq rfl) (dk_dq rfl)) (dg_sm.uf (WF := []) (WA := [24]) dg_sm.rf e_796 sM_24 (dk_dq rfl)) (dk_dq rfl) (dk_dq rfl) (dk_dq rfl) (dk_dq rfl)) m_2229 (dk_dq rfl) (dk_dq rfl) (dk_dq rfl) (dk_dq rfl)), (G8M.keep (G8M.keep (G8M.keep G8 m_2 (dk_dq rfl) (dk_dq rfl) (dk_dq rfl)) (dg_sm.uf (WF := []) (WA := [24]) dg_sm.rf e_796 sM_24 (dk_dq rfl)) (dk_dq rfl) (dk_dq rfl) (dk_dq rfl)) m_2229 (dk_dq rfl) (dk_dq rfl) (dk_dq rfl)), trivial⟩ dX12_operand_466
                                                  · as_aux_lemma =>
                                                      have jc_2227 := dk_eqc (k := 0) (by decide +kernel) c_2227
                                                      refine lv_iconst (v := 1) hx hb dX12_operand_434 (by decide +kernel) ?_
                                                      refine lv_goto (tgt := 439) hx hb dX12_operand_435 (dk_dq rfl) ?_
                                                      refine lv_icmp_eq (tgt := 444) hx hb dX12_operand_439 (dk_dq rfl) (fun _ => ?_) (fun c => absurd (by decide +kernel) c)
                                                      refine lv_iload_n hx hb dX12_operand_444 rfl (lv_at hl 0 rfl) ?_
                                                      refine lv_iconst (v := (-1)) hx hb dX12_operand_445 (by decide +kernel) ?_
                                                      refine lv_icmp_ne (tgt := 458) hx hb dX12_operand_446 (dk_dq rfl) (fun _ => ?_) (fun c => absurd c (fun z => absurd (dk_eqc (k := (-1)) (by decide +kernel) z) (by omega)))
                                                      refine lv_aload_n hx hb dX12_operand_458 rfl (lv_at hl 3 rfl) ?_
                                                      refine dg_get (C := RX12) (T := TX12) (N := 77) hx hb hts (fun w h => bw_mem (wU_X12 w h)) hown K hP sM_0 rfl 8 (dk_dq rfl) (hts _ (bw_mem wB_303)) (fun _ h9 => h9) (v := .int y_3) ((dg_uf_F e_796 0 8).trans f_y_3) dX12_operand_459 ?_
                                                      refine lv_if_le (tgt := 467) hx hb dX12_operand_462 (dk_dq rfl) (fun _ => ?_) (fun c => absurd (dk_lep (k := 0) (by decide +kernel) (by omega)) c)
                                                      refine lv_aload_n hx hb dX12_operand_467 rfl (lv_at hl 3 rfl) ?_
                                                      refine lv_iload_n hx hb dX12_operand_468 rfl (lv_at hl 0 rfl) ?_
                                                      refine lv_aload_n hx hb dX12_operand_469 rfl (lv_at hl 3 rfl) ?_
                                                      refine dg_get (C := RX12) (T := TX12) (N := 77) hx hb hts (fun w h => bw_mem (wU_X12 w h)) hown K hP sM_0 rfl 6 (dk_dq rfl) (hts _ (bw_mem wB_301)) (fun _ h9 => h9) (v := .int va) (((dg_uf_F e_796 0 6).trans (m_2.1 0 6 _ sM_0 (dk_dq rfl))).trans f_va) dX12_operand_470 ?_
                                                      refine dg_callv hS hA1 hA (va_runV (As := [.int x_2076, .int va]) (rest := []) F (c_m_add l g D o S_796 x_2076 (by omega) va (by omega) S0 cd (((dg_uf_F e_796 0 34).trans (m_2.1 0 34 _ sM_0 (dk_dq rfl))).trans f_cd) (by omega) (ZWM.keep (ZWM.keep ZW m_2 (dk_dq rfl) (dk_dq rfl) (dk_dq rfl) (dk_dq rfl)) (dg_sm.uf (WF := []) (WA := [24]) dg_sm.rf e_796 sM_24 (dk_dq rfl)) (dk_dq rfl) (dk_dq rfl) (dk_dq rfl) (dk_dq rfl)) (ZKM.keep (ZKM.keep ZK m_2 (dk_dq rfl) (dk_dq rfl)) (dg_sm.uf (WF := []) (WA := [24]) dg_sm.rf e_796 sM_24 (dk_dq rfl)) (dk_dq rfl) (dk_dq rfl)) (G8M.keep (G8M.keep G8 m_2 (dk_dq rfl) (dk_dq rfl) (dk_dq rfl)) (dg_sm.uf (WF := []) (WA := [24]) dg_sm.rf e_796 sM_24 (dk_dq rfl)) (dk_dq rfl) (dk_dq rfl) (dk_dq rfl)) I_796 H.size) (cwV 2 hts (bw_V wB_412 wB_413 wB_414 wB_297 wB_411) rfl rfl rfl (by decide +kernel) ⟨Nat.le_of_ble_eq_true rfl, Nat.le_of_ble_eq_true rfl⟩) (dg_preV sM_0 rfl K ST hP hS hA1 hA) rfl rfl hl.1 rfl (lv_room (Nat.le_of_ble_eq_true rfl)) dX12_operand_473 ⟨Nat.le_of_ble_eq_true rfl, Nat.le_of_ble_eq_true rfl⟩) (fun S_2240 hw_2240 H locs hP hS => ?_)
                                                      obtain ⟨I_2240, m_2240, w_2240_0, w_2240_1, w_2240_2, w_2240_3, w_2240_4, -⟩ := hw_2240
                                                      have M_2240 := dg_sm.tr M_796 m_2240 (dk_dq rfl) (dk_dq rfl)
                                                      obtain ⟨y_2241, f_y_2241, w_2240_0⟩ := w_2240_0
                                                      have w_2240_0 : (y_2241).toInt = (cd).toInt + 1 := w_2240_0
                                                      have b_y_2241 : 0 ≤ (y_2241).toInt ∧ (y_2241).toInt ≤ 1600 := dg_I.intb (lo := 0) (hi := 1600) I_2240 sM_0 (by decide +kernel) f_y_2241
                                                      replace w_2240_1 : ADM S_796 S_2240 x_2076 := w_2240_1
                                                      have P1_2240 : P1M S_2240 := PBM.leaf PB_796 (((dg_uf_F e_796 0 42).trans (m_2.1 0 42 _ sM_0 (dk_dq rfl))).trans f_dp) (((dg_uf_F e_796 0 43).trans (m_2.1 0 43 _ sM_0 (dk_dq rfl))).trans f_on) (((dg_uf_F e_796 0 45).trans (m_2.1 0 45 _ sM_0 (dk_dq rfl))).trans f_om) m_2240 w_2240_1 (by omega)
                                                      replace w_2240_2 : A5M S_796 S_2240 x_2076 va := w_2240_2
                                                      obtain ⟨x_2242, f_x_2242, b_x_2242⟩ := dg_I.int (i := 0) (k := 35) (lo := 0) (hi := 1) I sM_0 (by decide +kernel)
                                                      obtain ⟨x_2243, f_x_2243, b_x_2243⟩ := dg_I.int (i := 0) (k := 34) (lo := 0) (hi := 1600) I_796 sM_0 (by decide +kernel)
                                                      have qa_2240 : q_am S S_2240 ([n_at (T_kd tb tn) (T_vl tb tn) (t_ix tb tn (sa : Int32).toNatClampNeg)]) := (q_am.fs (q_am.to (A5M.q w_2240_2 (((dg_uf_F e_796 0 35).trans (m_2.1 0 35 _ sM_0 (dk_dq rfl))).trans f_x_2242) f_x_2243 (by omega) (by omega)) (by rw [SRT.at h411.out (by omega) (fun q9 => ((TKM.num (TKM.keep (TKM.keep TK m_2 (dk_dq rfl) (dk_dq rfl) (dk_dq rfl) (dk_dq rfl) (dk_dq rfl) (dk_dq rfl) (dk_dq rfl) (dk_dq rfl)) (dg_sm.uf (WF := []) (WA := [24]) dg_sm.rf e_796 sM_24 (dk_dq rfl)) (dk_dq rfl) (dk_dq rfl) (dk_dq rfl) (dk_dq rfl) (dk_dq rfl) (dk_dq rfl) (dk_dq rfl) (dk_dq rfl)) (((dg_uf_F e_796 0 3).trans (m_2.1 0 3 _ sM_0 (dk_dq rfl))).trans f_sg) (((dg_uf_F e_796 0 4).trans (m_2.1 0 4 _ sM_0 (dk_dq rfl))).trans f_sa) (((dg_uf_F e_796 0 6).trans (m_2.1 0 6 _ sM_0 (dk_dq rfl))).trans f_va) hk5.out).2 ((TKM.num (TKM.keep (TKM.keep TK m_2 (dk_dq rfl) (dk_dq rfl) (dk_dq rfl) (dk_dq rfl) (dk_dq rfl) (dk_dq rfl) (dk_dq rfl) (dk_dq rfl)) (dg_sm.uf (WF := []) (WA := [24]) dg_sm.rf e_796 sM_24 (dk_dq rfl)) (dk_dq rfl) (dk_dq rfl) (dk_dq rfl) (dk_dq rfl) (dk_dq rfl) (dk_dq rfl) (dk_dq rfl) (dk_dq rfl)) (((dg_uf_F e_796 0 3).trans (m_2.1 0 3 _ sM_0 (dk_dq rfl))).trans f_sg) (((dg_uf_F e_796 0 4).trans (m_2.1 0 4 _ sM_0 (dk_dq rfl))).trans f_sa) (((dg_uf_F e_796 0 6).trans (m_2.1 0 6 _ sM_0 (dk_dq rfl))).trans f_va) hk5.out).1.mp (g_n_iff.mp (h411.out.1 q9)))).symm)])) ((dg_uf_F e_796 0 34).trans (m_2.1 0 34 _ sM_0 (dk_dq rfl))) ((dg_uf_F e_796 0 35).trans (m_2.1 0 35 _ sM_0 (dk_dq rfl))) ((dg_uf_ne e_796 (dk_dq rfl)).trans (m_2.2 18 _ sM_18 (dk_dq rfl)).1) ((dg_uf_ne e_796 (dk_dq rfl)).trans (m_2.2 19 _ sM_19 (dk_dq rfl)).1))
                                                      refine lv_aload_n hx hb dX12_operand_476 rfl (lv_at hl 3 rfl) ?_
                                                      refine dg_callv hS hA1 hA (va_runV (As := []) (rest := []) F (c_m_ahead l g D o S_2240 tb tn se (((m_2240.1 0 5 _ sM_0 (dk_dq rfl)).trans ((dg_uf_F e_796 0 5).trans (m_2.1 0 5 _ sM_0 (dk_dq rfl)))).trans f_se) (by omega) sl (((m_2240.1 0 2 _ sM_0 (dk_dq rfl)).trans ((dg_uf_F e_796 0 2).trans (m_2.1 0 2 _ sM_0 (dk_dq rfl)))).trans f_sl) (by omega) (by omega) (TKM.keep (TKM.keep (TKM.keep TK m_2 (dk_dq rfl) (dk_dq rfl) (dk_dq rfl) (dk_dq rfl) (dk_dq rfl) (dk_dq rfl) (dk_dq rfl) (dk_dq rfl)) (dg_sm.uf (WF := []) (WA := [24]) dg_sm.rf e_796 sM_24 (dk_dq rfl)) (dk_dq rfl) (dk_dq rfl) (dk_dq rfl) (dk_dq rfl) (dk_dq rfl) (dk_dq rfl) (dk_dq rfl) (dk_dq rfl)) m_2240 (dk_dq rfl) (dk_dq rfl) (dk_dq rfl) (dk_dq rfl) (dk_dq rfl) (dk_dq rfl) (dk_dq rfl) (dk_dq rfl)).1 I_2240 H.size) (cwV 0 hts (bw_V wB_318 wB_319 wB_320 wB_297 wB_317) rfl rfl rfl (by decide +kernel) ⟨Nat.le_of_ble_eq_true rfl, Nat.le_of_ble_eq_true rfl⟩) (dg_preV sM_0 rfl K ST hP hS hA1 hA) rfl rfl hl.1 rfl (lv_room (Nat.le_of_ble_eq_true rfl)) dX12_operand_477 ⟨Nat.le_of_ble_eq_true rfl, Nat.le_of_ble_eq_true rfl⟩) (fun S_2244 hw_2244 H locs hP hS => ?_)
                                                      obtain ⟨I_2244, m_2244, w_2244_0, w_2244_1, -⟩ := hw_2244
                                                      have M_2244 := dg_sm.tr M_2240 m_2244 (dk_dq rfl) (dk_dq rfl)
                                                      obtain ⟨y_2245, y_2246, y_2247, f_y_2245, f_y_2246, f_y_2247, w_2244_0⟩ := w_2244_0
                                                      have w_2244_0 : (se).toInt ≤ (y_2246).toInt ∧ (y_2246).toInt ≤ (y_2247).toInt ∧ (y_2247).toInt ≤ (sl).toInt ∧ ((y_2245).toInt ≠ 0 → (y_2246).toInt + 1 ≤ (y_2247).toInt) := w_2244_0
                                                      obtain ⟨w_2244_0_0, w_2244_0_1, w_2244_0_2, w_2244_0_3⟩ := w_2244_0
                                                      have b_y_2245 : 0 ≤ (y_2245).toInt ∧ (y_2245).toInt ≤ 3 := dg_I.intb (lo := 0) (hi := 3) I_2244 sM_0 (by decide +kernel) f_y_2245
                                                      have b_y_2246 : 0 ≤ (y_2246).toInt ∧ (y_2246).toInt ≤ 1600 := dg_I.intb (lo := 0) (hi := 1600) I_2244 sM_0 (by decide +kernel) f_y_2246
                                                      have b_y_2247 : 0 ≤ (y_2247).toInt ∧ (y_2247).toInt ≤ 1600 := dg_I.intb (lo := 0) (hi := 1600) I_2244 sM_0 (by decide +kernel) f_y_2247
                                                      replace w_2244_1 : TNX tb tn se S_2244 := w_2244_1
                                                      obtain ⟨TK_2244, nx_2244, -⟩ := TKM.nx (TKM.keep (TKM.keep (TKM.keep TK m_2 (dk_dq rfl) (dk_dq rfl) (dk_dq rfl) (dk_dq rfl) (dk_dq rfl) (dk_dq rfl) (dk_dq rfl) (dk_dq rfl)) (dg_sm.uf (WF := []) (WA := [24]) dg_sm.rf e_796 sM_24 (dk_dq rfl)) (dk_dq rfl) (dk_dq rfl) (dk_dq rfl) (dk_dq rfl) (dk_dq rfl) (dk_dq rfl) (dk_dq rfl) (dk_dq rfl)) m_2240 (dk_dq rfl) (dk_dq rfl) (dk_dq rfl) (dk_dq rfl) (dk_dq rfl) (dk_dq rfl) (dk_dq rfl) (dk_dq rfl)) (((m_2240.1 0 4 _ sM_0 (dk_dq rfl)).trans ((dg_uf_F e_796 0 4).trans (m_2.1 0 4 _ sM_0 (dk_dq rfl)))).trans f_sa) (((m_2240.1 0 5 _ sM_0 (dk_dq rfl)).trans ((dg_uf_F e_796 0 5).trans (m_2.1 0 5 _ sM_0 (dk_dq rfl)))).trans f_se) w_2244_1 m_2244 (dk_dq rfl) (dk_dq rfl) f_y_2246
                                                      replace nx_2244 := nx_2244 (fun q9 => absurd ((TKM.zero (TKM.keep (TKM.keep (TKM.keep TK m_2 (dk_dq rfl) (dk_dq rfl) (dk_dq rfl) (dk_dq rfl) (dk_dq rfl) (dk_dq rfl) (dk_dq rfl) (dk_dq rfl)) (dg_sm.uf (WF := []) (WA := [24]) dg_sm.rf e_796 sM_24 (dk_dq rfl)) (dk_dq rfl) (dk_dq rfl) (dk_dq rfl) (dk_dq rfl) (dk_dq rfl) (dk_dq rfl) (dk_dq rfl) (dk_dq rfl)) m_2240 (dk_dq rfl) (dk_dq rfl) (dk_dq rfl) (dk_dq rfl) (dk_dq rfl) (dk_dq rfl) (dk_dq rfl) (dk_dq rfl)) (((m_2240.1 0 3 _ sM_0 (dk_dq rfl)).trans ((dg_uf_F e_796 0 3).trans (m_2.1 0 3 _ sM_0 (dk_dq rfl)))).trans f_sg) (((m_2240.1 0 4 _ sM_0 (dk_dq rfl)).trans ((dg_uf_F e_796 0 4).trans (m_2.1 0 4 _ sM_0 (dk_dq rfl)))).trans f_sa)).mpr q9) (by omega))
                                                      refine lv_iconst (v := 1) hx hb dX12_operand_480 (by decide +kernel) ?_
                                                      have hz_2248 : (1 : Int32).toInt = 1 := by decide +kernel
                                                      have hz_2249 : (1 : Int32).toInt = 1 := by decide +kernel
                                                      have hz_2250 : (1 : Int32).toInt = 1 := by decide +kernel
                                                      have hz_2251 : (1 : Int32).toInt = 1 := by decide +kernel
                                                      have hz_2252 : (1 : Int32).toInt = 1 := by decide +kernel
                                                      have hz_2253 : (1 : Int32).toInt = 1 := by decide +kernel
                                                      have hz_2254 : (1 : Int32).toInt = 1 := by decide +kernel
                                                      have hz_2255 : (1 : Int32).toInt = 1 := by decide +kernel
                                                      refine W.widen (k := 0) (n := 0) (Nat.le_of_ble_eq_true rfl) (Nat.le_of_ble_eq_true rfl) ?_
                                                      rw [hQ9]
                                                      exact dg_iret hx hb hr hlocks (by decide +kernel) hP hS ⟨I_2244, M_2244, (by decide +kernel), ⟨y_2245, y_2246, y_2247, y_3, y_2241, dp, om, f_y_2245, f_y_2246, f_y_2247, (((m_2244.1 0 8 _ sM_0 (dk_dq rfl)).trans ((m_2240.1 0 8 _ sM_0 (dk_dq rfl)).trans (dg_uf_F e_796 0 8))).trans f_y_3), ((m_2244.1 0 34 _ sM_0 (dk_dq rfl)).trans f_y_2241), (((m_2244.1 0 42 _ sM_0 (dk_dq rfl)).trans ((m_2240.1 0 42 _ sM_0 (dk_dq rfl)).trans ((dg_uf_F e_796 0 42).trans (m_2.1 0 42 _ sM_0 (dk_dq rfl))))).trans f_dp), (((m_2244.1 0 45 _ sM_0 (dk_dq rfl)).trans ((m_2240.1 0 45 _ sM_0 (dk_dq rfl)).trans ((dg_uf_F e_796 0 45).trans (m_2.1 0 45 _ sM_0 (dk_dq rfl))))).trans f_om), (by omega)⟩, (fun k9 hk9 hk0 => ⟨fun _ => (P1M.keep P1_2240 m_2244 (dk_dq rfl) (dk_dq rfl) (dk_dq rfl) (dk_dq rfl) (dk_dq rfl) (dk_dq rfl) (dk_dq rfl) (dk_dq rfl) (dk_dq rfl) (dk_dq rfl) (dk_dq rfl) (dk_dq rfl) (dk_dq rfl) (dk_dq rfl) (dk_dq rfl)), fun h9 => absurd h9 (by decide +kernel)⟩), (OPK.ok f_sa (((m_2244.1 0 8 _ sM_0 (dk_dq rfl)).trans ((m_2240.1 0 8 _ sM_0 (dk_dq rfl)).trans (dg_uf_F e_796 0 8))).trans f_y_3) f_y_2246 (by omega) hM0 (TFM.keep (TFM.keep TF_796 m_2240 (dk_dq rfl) (dk_dq rfl) (dk_dq rfl) (dk_dq rfl) (dk_dq rfl) (dk_dq rfl) (dk_dq rfl) (dk_dq rfl)) m_2244 (dk_dq rfl) (dk_dq rfl) (dk_dq rfl) (dk_dq rfl) (dk_dq rfl) (dk_dq rfl) (dk_dq rfl) (dk_dq rfl)) (m_st_f.trans (m_opd_at h171.out h187.out qw_2049_1 qw_1473_1 qw_2045_1 (SRT.good h411.out (by omega)))) (by omega) (by decide +kernel)), (OPN.ok f_sa f_y_2246 hN0 (TFM.keep (TFM.keep TF_796 m_2240 (dk_dq rfl) (dk_dq rfl) (dk_dq rfl) (dk_dq rfl) (dk_dq rfl) (dk_dq rfl) (dk_dq rfl) (dk_dq rfl)) m_2244 (dk_dq rfl) (dk_dq rfl) (dk_dq rfl) (dk_dq rfl) (dk_dq rfl) (dk_dq rfl) (dk_dq rfl) (dk_dq rfl)) (XFM.keep (XFM.keep (XFM.keep XF0 (dg_sm.uf (WF := []) (WA := [24]) dg_sm.rf e_796 sM_24 (dk_dq rfl)) (dk_dq rfl) (dk_dq rfl) (dk_dq rfl) (dk_dq rfl) (dk_dq rfl)) m_2240 (dk_dq rfl) (dk_dq rfl) (dk_dq rfl) (dk_dq rfl) (dk_dq rfl)) m_2244 (dk_dq rfl) (dk_dq rfl) (dk_dq rfl) (dk_dq rfl) (dk_dq rfl)) (q_am.mv qa_2240 (m_2244.1 0 34 _ sM_0 (dk_dq rfl)) (m_2244.1 0 35 _ sM_0 (dk_dq rfl)) (m_2244.2 18 _ sM_18 (dk_dq rfl)).1 (m_2244.2 19 _ sM_19 (dk_dq rfl)).1) (fun out => (n_opd_at h171.out h187.out qw_2049_1 qw_1473_1 qw_2045_1 (SRT.good h411.out (by omega)))) (by omega) (by decide +kernel)), TK_2244, (ZWM.keep w_2240_3 m_2244 (dk_dq rfl) (dk_dq rfl) (dk_dq rfl) (dk_dq rfl)), (G8M.keep w_2240_4 m_2244 (dk_dq rfl) (dk_dq rfl) (dk_dq rfl)), trivial⟩ dX12_operand_481
                                      refine lv_icmp_ne (tgt := 325) hx hb dX12_operand_318 (dk_dq rfl) (fun c_2256 => ?_) (fun c_2256 => ?_)
                                      · as_aux_lemma =>
                                          have jc_2256 := dk_neqc (k := 2) (by decide +kernel) c_2256
                                          have hn2 := m_hid.mk (show (sg).toInt ≠ 2 from by omega)
                                          clear jc_2256
                                          refine lv_aload_n hx hb dX12_operand_325 rfl (lv_at hl 2 rfl) ?_
                                          refine lv_ldc2 hx hb hown (hts _ (bw_mem wB_330)) dX12_operand_326 ?_
                                          refine dg_calli hS hA1 hA (va_runV (As := [.long 444300616805]) (rest := []) F (c_m_isWord l g D o S_796 444300616805 sg (((dg_uf_F e_796 0 3).trans (m_2.1 0 3 _ sM_0 (dk_dq rfl))).trans f_sg) (by omega) I_796 H.size) (cwV 1 hts (bw_V wB_322 wB_323 wB_324 wB_297 wB_321) rfl rfl rfl (by decide +kernel) ⟨Nat.le_of_ble_eq_true rfl, Nat.le_of_ble_eq_true rfl⟩) (dg_preV sM_0 rfl K ST hP hS hA1 hA) rfl rfl hl.1 rfl (lv_room (Nat.le_of_ble_eq_true rfl)) dX12_operand_329 ⟨Nat.le_of_ble_eq_true rfl, Nat.le_of_ble_eq_true rfl⟩) (fun x_2257 S_2258 hw_2258 H locs hP hS => ?_)
                                          rw [hw_2258.1] at hP
                                          obtain ⟨hq_2258, w_2258_0, w_2258_1, -⟩ := hw_2258
                                          try rw [hq_2258] at w_2258_1
                                          have w_2258_0 : 0 ≤ (x_2257).toInt ∧ (x_2257).toInt ≤ 1 := w_2258_0
                                          replace w_2258_1 : ∀ w9 : Int64, S_796.1 0 7 = .long w9 → ((x_2257).toInt = 1 ↔ ((sg).toInt = 1 ∧ w9.toInt = ((444300616805 : Int64)).toInt)) := w_2258_1
                                          refine lv_if_eq (tgt := 339) hx hb dX12_operand_332 (dk_dq rfl) (fun c_2259 => ?_) (fun c_2259 => ?_)
                                          · as_aux_lemma =>
                                              have jc_2259 := dk_eqc (k := 0) (by decide +kernel) c_2259
                                              have qw_2258_1 : g_o (T_kd tb tn) (T_vl tb tn) 5 (t_ix tb tn (sa : Int32).toNatClampNeg) = false := g_iff_f (TKM.isw (TKM.keep (TKM.keep TK m_2 (dk_dq rfl) (dk_dq rfl) (dk_dq rfl) (dk_dq rfl) (dk_dq rfl) (dk_dq rfl) (dk_dq rfl) (dk_dq rfl)) (dg_sm.uf (WF := []) (WA := [24]) dg_sm.rf e_796 sM_24 (dk_dq rfl)) (dk_dq rfl) (dk_dq rfl) (dk_dq rfl) (dk_dq rfl) (dk_dq rfl) (dk_dq rfl) (dk_dq rfl) (dk_dq rfl)) (((dg_uf_F e_796 0 3).trans (m_2.1 0 3 _ sM_0 (dk_dq rfl))).trans f_sg) (((dg_uf_F e_796 0 4).trans (m_2.1 0 4 _ sM_0 (dk_dq rfl))).trans f_sa) hk5.out (j := 5) (C := 444300616805) (dk_dq rfl) (by decide +kernel) w_2258_1) (by omega)
                                              clear w_2258_1
                                              refine lv_aload_n hx hb dX12_operand_339 rfl (lv_at hl 2 rfl) ?_
                                              refine lv_ldc2 hx hb hown (hts _ (bw_mem wB_340)) dX12_operand_340 ?_
                                              refine dg_calli hS hA1 hA (va_runV (As := [.long 431198598248]) (rest := []) F (c_m_isWord l g D o S_796 431198598248 sg (((dg_uf_F e_796 0 3).trans (m_2.1 0 3 _ sM_0 (dk_dq rfl))).trans f_sg) (by omega) I_796 H.size) (cwV 1 hts (bw_V wB_322 wB_323 wB_324 wB_297 wB_321) rfl rfl rfl (by decide +kernel) ⟨Nat.le_of_ble_eq_true rfl, Nat.le_of_ble_eq_true rfl⟩) (dg_preV sM_0 rfl K ST hP hS hA1 hA) rfl rfl hl.1 rfl (lv_room (Nat.le_of_ble_eq_true rfl)) dX12_operand_343 ⟨Nat.le_of_ble_eq_true rfl, Nat.le_of_ble_eq_true rfl⟩) (fun x_2260 S_2261 hw_2261 H locs hP hS => ?_)
                                              rw [hw_2261.1] at hP
                                              obtain ⟨hq_2261, w_2261_0, w_2261_1, -⟩ := hw_2261
                                              try rw [hq_2261] at w_2261_1
                                              have w_2261_0 : 0 ≤ (x_2260).toInt ∧ (x_2260).toInt ≤ 1 := w_2261_0
                                              replace w_2261_1 : ∀ w9 : Int64, S_796.1 0 7 = .long w9 → ((x_2260).toInt = 1 ↔ ((sg).toInt = 1 ∧ w9.toInt = ((431198598248 : Int64)).toInt)) := w_2261_1
                                              refine lv_if_eq (tgt := 353) hx hb dX12_operand_346 (dk_dq rfl) (fun c_2262 => ?_) (fun c_2262 => ?_)
                                              · as_aux_lemma =>
                                                  have jc_2262 := dk_eqc (k := 0) (by decide +kernel) c_2262
                                                  have qw_2261_1 : g_o (T_kd tb tn) (T_vl tb tn) 15 (t_ix tb tn (sa : Int32).toNatClampNeg) = false := g_iff_f (TKM.isw (TKM.keep (TKM.keep TK m_2 (dk_dq rfl) (dk_dq rfl) (dk_dq rfl) (dk_dq rfl) (dk_dq rfl) (dk_dq rfl) (dk_dq rfl) (dk_dq rfl)) (dg_sm.uf (WF := []) (WA := [24]) dg_sm.rf e_796 sM_24 (dk_dq rfl)) (dk_dq rfl) (dk_dq rfl) (dk_dq rfl) (dk_dq rfl) (dk_dq rfl) (dk_dq rfl) (dk_dq rfl) (dk_dq rfl)) (((dg_uf_F e_796 0 3).trans (m_2.1 0 3 _ sM_0 (dk_dq rfl))).trans f_sg) (((dg_uf_F e_796 0 4).trans (m_2.1 0 4 _ sM_0 (dk_dq rfl))).trans f_sa) hk5.out (j := 15) (C := 431198598248) (dk_dq rfl) (by decide +kernel) w_2261_1) (by omega)
                                                  clear w_2261_1
                                                  refine lv_aload_n hx hb dX12_operand_353 rfl (lv_at hl 2 rfl) ?_
                                                  refine lv_ldc2 hx hb hown (hts _ (bw_mem wB_341)) dX12_operand_354 ?_
                                                  refine dg_calli hS hA1 hA (va_runV (As := [.long 495672977012]) (rest := []) F (c_m_isWord l g D o S_796 495672977012 sg (((dg_uf_F e_796 0 3).trans (m_2.1 0 3 _ sM_0 (dk_dq rfl))).trans f_sg) (by omega) I_796 H.size) (cwV 1 hts (bw_V wB_322 wB_323 wB_324 wB_297 wB_321) rfl rfl rfl (by decide +kernel) ⟨Nat.le_of_ble_eq_true rfl, Nat.le_of_ble_eq_true rfl⟩) (dg_preV sM_0 rfl K ST hP hS hA1 hA) rfl rfl hl.1 rfl (lv_room (Nat.le_of_ble_eq_true rfl)) dX12_operand_357 ⟨Nat.le_of_ble_eq_true rfl, Nat.le_of_ble_eq_true rfl⟩) (fun x_2263 S_2264 hw_2264 H locs hP hS => ?_)
                                                  rw [hw_2264.1] at hP
                                                  obtain ⟨hq_2264, w_2264_0, w_2264_1, -⟩ := hw_2264
                                                  try rw [hq_2264] at w_2264_1
                                                  have w_2264_0 : 0 ≤ (x_2263).toInt ∧ (x_2263).toInt ≤ 1 := w_2264_0
                                                  replace w_2264_1 : ∀ w9 : Int64, S_796.1 0 7 = .long w9 → ((x_2263).toInt = 1 ↔ ((sg).toInt = 1 ∧ w9.toInt = ((495672977012 : Int64)).toInt)) := w_2264_1
                                                  refine lv_if_eq (tgt := 367) hx hb dX12_operand_360 (dk_dq rfl) (fun c_2265 => ?_) (fun c_2265 => ?_)
                                                  · as_aux_lemma =>
                                                      have jc_2265 := dk_eqc (k := 0) (by decide +kernel) c_2265
                                                      have qw_2264_1 : g_o (T_kd tb tn) (T_vl tb tn) 16 (t_ix tb tn (sa : Int32).toNatClampNeg) = false := g_iff_f (TKM.isw (TKM.keep (TKM.keep TK m_2 (dk_dq rfl) (dk_dq rfl) (dk_dq rfl) (dk_dq rfl) (dk_dq rfl) (dk_dq rfl) (dk_dq rfl) (dk_dq rfl)) (dg_sm.uf (WF := []) (WA := [24]) dg_sm.rf e_796 sM_24 (dk_dq rfl)) (dk_dq rfl) (dk_dq rfl) (dk_dq rfl) (dk_dq rfl) (dk_dq rfl) (dk_dq rfl) (dk_dq rfl) (dk_dq rfl)) (((dg_uf_F e_796 0 3).trans (m_2.1 0 3 _ sM_0 (dk_dq rfl))).trans f_sg) (((dg_uf_F e_796 0 4).trans (m_2.1 0 4 _ sM_0 (dk_dq rfl))).trans f_sa) hk5.out (j := 16) (C := 495672977012) (dk_dq rfl) (by decide +kernel) w_2264_1) (by omega)
                                                      clear w_2264_1
                                                      refine lv_aload_n hx hb dX12_operand_367 rfl (lv_at hl 2 rfl) ?_
                                                      refine lv_ldc2 hx hb hown (hts _ (bw_mem wB_342)) dX12_operand_368 ?_
                                                      refine dg_calli hS hA1 hA (va_runV (As := [.long 6709618]) (rest := []) F (c_m_isWord l g D o S_796 6709618 sg (((dg_uf_F e_796 0 3).trans (m_2.1 0 3 _ sM_0 (dk_dq rfl))).trans f_sg) (by omega) I_796 H.size) (cwV 1 hts (bw_V wB_322 wB_323 wB_324 wB_297 wB_321) rfl rfl rfl (by decide +kernel) ⟨Nat.le_of_ble_eq_true rfl, Nat.le_of_ble_eq_true rfl⟩) (dg_preV sM_0 rfl K ST hP hS hA1 hA) rfl rfl hl.1 rfl (lv_room (Nat.le_of_ble_eq_true rfl)) dX12_operand_371 ⟨Nat.le_of_ble_eq_true rfl, Nat.le_of_ble_eq_true rfl⟩) (fun x_2266 S_2267 hw_2267 H locs hP hS => ?_)
                                                      rw [hw_2267.1] at hP
                                                      obtain ⟨hq_2267, w_2267_0, w_2267_1, -⟩ := hw_2267
                                                      try rw [hq_2267] at w_2267_1
                                                      have w_2267_0 : 0 ≤ (x_2266).toInt ∧ (x_2266).toInt ≤ 1 := w_2267_0
                                                      replace w_2267_1 : ∀ w9 : Int64, S_796.1 0 7 = .long w9 → ((x_2266).toInt = 1 ↔ ((sg).toInt = 1 ∧ w9.toInt = ((6709618 : Int64)).toInt)) := w_2267_1
                                                      refine lv_if_eq (tgt := 381) hx hb dX12_operand_374 (dk_dq rfl) (fun c_2268 => ?_) (fun c_2268 => ?_)
                                                      · as_aux_lemma =>
                                                          have jc_2268 := dk_eqc (k := 0) (by decide +kernel) c_2268
                                                          have qw_2267_1 : g_o (T_kd tb tn) (T_vl tb tn) 17 (t_ix tb tn (sa : Int32).toNatClampNeg) = false := g_iff_f (TKM.isw (TKM.keep (TKM.keep TK m_2 (dk_dq rfl) (dk_dq rfl) (dk_dq rfl) (dk_dq rfl) (dk_dq rfl) (dk_dq rfl) (dk_dq rfl) (dk_dq rfl)) (dg_sm.uf (WF := []) (WA := [24]) dg_sm.rf e_796 sM_24 (dk_dq rfl)) (dk_dq rfl) (dk_dq rfl) (dk_dq rfl) (dk_dq rfl) (dk_dq rfl) (dk_dq rfl) (dk_dq rfl) (dk_dq rfl)) (((dg_uf_F e_796 0 3).trans (m_2.1 0 3 _ sM_0 (dk_dq rfl))).trans f_sg) (((dg_uf_F e_796 0 4).trans (m_2.1 0 4 _ sM_0 (dk_dq rfl))).trans f_sa) hk5.out (j := 17) (C := 6709618) (dk_dq rfl) (by decide +kernel) w_2267_1) (by omega)
                                                          clear w_2267_1
                                                          refine lv_aload_n hx hb dX12_operand_381 rfl (lv_at hl 2 rfl) ?_
                                                          refine lv_ldc2 hx hb hown (hts _ (bw_mem wB_343)) dX12_operand_382 ?_
                                                          refine dg_calli hS hA1 hA (va_runV (As := [.long 1869636974]) (rest := []) F (c_m_isWord l g D o S_796 1869636974 sg (((dg_uf_F e_796 0 3).trans (m_2.1 0 3 _ sM_0 (dk_dq rfl))).trans f_sg) (by omega) I_796 H.size) (cwV 1 hts (bw_V wB_322 wB_323 wB_324 wB_297 wB_321) rfl rfl rfl (by decide +kernel) ⟨Nat.le_of_ble_eq_true rfl, Nat.le_of_ble_eq_true rfl⟩) (dg_preV sM_0 rfl K ST hP hS hA1 hA) rfl rfl hl.1 rfl (lv_room (Nat.le_of_ble_eq_true rfl)) dX12_operand_385 ⟨Nat.le_of_ble_eq_true rfl, Nat.le_of_ble_eq_true rfl⟩) (fun x_2269 S_2270 hw_2270 H locs hP hS => ?_)
                                                          rw [hw_2270.1] at hP
                                                          obtain ⟨hq_2270, w_2270_0, w_2270_1, -⟩ := hw_2270
                                                          try rw [hq_2270] at w_2270_1
                                                          have w_2270_0 : 0 ≤ (x_2269).toInt ∧ (x_2269).toInt ≤ 1 := w_2270_0
                                                          replace w_2270_1 : ∀ w9 : Int64, S_796.1 0 7 = .long w9 → ((x_2269).toInt = 1 ↔ ((sg).toInt = 1 ∧ w9.toInt = ((1869636974 : Int64)).toInt)) := w_2270_1
                                                          refine lv_if_eq (tgt := 395) hx hb dX12_operand_388 (dk_dq rfl) (fun c_2271 => ?_) (fun c_2271 => ?_)
                                                          · as_aux_lemma =>
                                                              have jc_2271 := dk_eqc (k := 0) (by decide +kernel) c_2271
                                                              have qw_2270_1 : g_o (T_kd tb tn) (T_vl tb tn) 18 (t_ix tb tn (sa : Int32).toNatClampNeg) = false := g_iff_f (TKM.isw (TKM.keep (TKM.keep TK m_2 (dk_dq rfl) (dk_dq rfl) (dk_dq rfl) (dk_dq rfl) (dk_dq rfl) (dk_dq rfl) (dk_dq rfl) (dk_dq rfl)) (dg_sm.uf (WF := []) (WA := [24]) dg_sm.rf e_796 sM_24 (dk_dq rfl)) (dk_dq rfl) (dk_dq rfl) (dk_dq rfl) (dk_dq rfl) (dk_dq rfl) (dk_dq rfl) (dk_dq rfl) (dk_dq rfl)) (((dg_uf_F e_796 0 3).trans (m_2.1 0 3 _ sM_0 (dk_dq rfl))).trans f_sg) (((dg_uf_F e_796 0 4).trans (m_2.1 0 4 _ sM_0 (dk_dq rfl))).trans f_sa) hk5.out (j := 18) (C := 1869636974) (dk_dq rfl) (by decide +kernel) w_2270_1) (by omega)
                                                              clear w_2270_1
                                                              refine lv_aload_n hx hb dX12_operand_395 rfl (lv_at hl 2 rfl) ?_
                                                              refine lv_ldc2 hx hb hown (hts _ (bw_mem wB_344)) dX12_operand_396 ?_
                                                              refine dg_calli hS hA1 hA (va_runV (As := [.long 7104884]) (rest := []) F (c_m_isWord l g D o S_796 7104884 sg (((dg_uf_F e_796 0 3).trans (m_2.1 0 3 _ sM_0 (dk_dq rfl))).trans f_sg) (by omega) I_796 H.size) (cwV 1 hts (bw_V wB_322 wB_323 wB_324 wB_297 wB_321) rfl rfl rfl (by decide +kernel) ⟨Nat.le_of_ble_eq_true rfl, Nat.le_of_ble_eq_true rfl⟩) (dg_preV sM_0 rfl K ST hP hS hA1 hA) rfl rfl hl.1 rfl (lv_room (Nat.le_of_ble_eq_true rfl)) dX12_operand_399 ⟨Nat.le_of_ble_eq_true rfl, Nat.le_of_ble_eq_true rfl⟩) (fun x_2272 S_2273 hw_2273 H locs hP hS => ?_)
                                                              rw [hw_2273.1] at hP
                                                              obtain ⟨hq_2273, w_2273_0, w_2273_1, -⟩ := hw_2273
                                                              try rw [hq_2273] at w_2273_1
                                                              have w_2273_0 : 0 ≤ (x_2272).toInt ∧ (x_2272).toInt ≤ 1 := w_2273_0
                                                              replace w_2273_1 : ∀ w9 : Int64, S_796.1 0 7 = .long w9 → ((x_2272).toInt = 1 ↔ ((sg).toInt = 1 ∧ w9.toInt = ((7104884 : Int64)).toInt)) := w_2273_1
                                                              refine lv_if_eq (tgt := 410) hx hb dX12_operand_402 (dk_dq rfl) (fun c_2274 => ?_) (fun c_2274 => ?_)
                                                              · have jc_2274 := dk_eqc (k := 0) (by decide +kernel) c_2274
                                                                have qw_2273_1 : g_o (T_kd tb tn) (T_vl tb tn) 19 (t_ix tb tn (sa : Int32).toNatClampNeg) = false := g_iff_f (TKM.isw (TKM.keep (TKM.keep TK m_2 (dk_dq rfl) (dk_dq rfl) (dk_dq rfl) (dk_dq rfl) (dk_dq rfl) (dk_dq rfl) (dk_dq rfl) (dk_dq rfl)) (dg_sm.uf (WF := []) (WA := [24]) dg_sm.rf e_796 sM_24 (dk_dq rfl)) (dk_dq rfl) (dk_dq rfl) (dk_dq rfl) (dk_dq rfl) (dk_dq rfl) (dk_dq rfl) (dk_dq rfl) (dk_dq rfl)) (((dg_uf_F e_796 0 3).trans (m_2.1 0 3 _ sM_0 (dk_dq rfl))).trans f_sg) (((dg_uf_F e_796 0 4).trans (m_2.1 0 4 _ sM_0 (dk_dq rfl))).trans f_sa) hk5.out (j := 19) (C := 7104884) (dk_dq rfl) (by decide +kernel) w_2273_1) (by omega)
                                                                clear w_2273_1
                                                                refine lv_iconst (v := (-1)) hx hb dX12_operand_410 (by decide +kernel) ?_
                                                                have hz_2275 : (-1 : Int32).toInt = (-1) := by decide +kernel
                                                                have hz_2276 : (-1 : Int32).toInt = (-1) := by decide +kernel
                                                                have hz_2277 : (-1 : Int32).toInt = (-1) := by decide +kernel
                                                                exact J_2166 (-1) (by decide +kernel) (by omega) (m_hid.mk (SRT.no (g_iff_f g_n_iff.symm (fun q9 => hn2.out ((TKM.num (TKM.keep (TKM.keep TK m_2 (dk_dq rfl) (dk_dq rfl) (dk_dq rfl) (dk_dq rfl) (dk_dq rfl) (dk_dq rfl) (dk_dq rfl) (dk_dq rfl)) (dg_sm.uf (WF := []) (WA := [24]) dg_sm.rf e_796 sM_24 (dk_dq rfl)) (dk_dq rfl) (dk_dq rfl) (dk_dq rfl) (dk_dq rfl) (dk_dq rfl) (dk_dq rfl) (dk_dq rfl) (dk_dq rfl)) (((dg_uf_F e_796 0 3).trans (m_2.1 0 3 _ sM_0 (dk_dq rfl))).trans f_sg) (((dg_uf_F e_796 0 4).trans (m_2.1 0 4 _ sM_0 (dk_dq rfl))).trans f_sa) (((dg_uf_F e_796 0 6).trans (m_2.1 0 6 _ sM_0 (dk_dq rfl))).trans f_va) hk5.out).1.mp q9))) qw_2258_1 qw_2261_1 qw_2264_1 qw_2267_1 qw_2270_1 qw_2273_1 (by decide +kernel))) _ _ hP hS _ (lv_sub hl [0, 1, 2] rfl)
                                                              · have jc_2274 := dk_neqc (k := 0) (by decide +kernel) c_2274
                                                                have jbc_2274 : 1 ≤ (x_2272).toInt := by omega
                                                                clear jc_2274
                                                                have qw_2273_1 : g_o (T_kd tb tn) (T_vl tb tn) 19 (t_ix tb tn (sa : Int32).toNatClampNeg) = true := (TKM.isw (TKM.keep (TKM.keep TK m_2 (dk_dq rfl) (dk_dq rfl) (dk_dq rfl) (dk_dq rfl) (dk_dq rfl) (dk_dq rfl) (dk_dq rfl) (dk_dq rfl)) (dg_sm.uf (WF := []) (WA := [24]) dg_sm.rf e_796 sM_24 (dk_dq rfl)) (dk_dq rfl) (dk_dq rfl) (dk_dq rfl) (dk_dq rfl) (dk_dq rfl) (dk_dq rfl) (dk_dq rfl) (dk_dq rfl)) (((dg_uf_F e_796 0 3).trans (m_2.1 0 3 _ sM_0 (dk_dq rfl))).trans f_sg) (((dg_uf_F e_796 0 4).trans (m_2.1 0 4 _ sM_0 (dk_dq rfl))).trans f_sa) hk5.out (j := 19) (C := 7104884) (dk_dq rfl) (by decide +kernel) w_2273_1).mp (by omega)
                                                                obtain ⟨x_2278, f_x_2278⟩ := dg_I.long (i := 0) (k := 7) I_796 sM_0 (by decide +kernel)
                                                                have w_2273_1_r : (sg).toInt = 1 := by obtain ⟨w9, hw9⟩ : ∃ w9, S_796.1 0 7 = .long w9 := ⟨_, f_x_2278⟩; exact ((w_2273_1 w9 hw9).mp (by omega)).1
                                                                clear w_2273_1
                                                                have hlx_2r := hlx_2 (by omega)
                                                                clear hlx_2
                                                                refine lv_bipush (v := 6) hx hb dX12_operand_405 (by decide +kernel) ?_
                                                                refine lv_goto (tgt := 411) hx hb dX12_operand_407 (dk_dq rfl) ?_
                                                                have hz_2279 : (6 : Int32).toInt = 6 := by decide +kernel
                                                                have hz_2280 : (6 : Int32).toInt = 6 := by decide +kernel
                                                                have hz_2281 : (6 : Int32).toInt = 6 := by decide +kernel
                                                                exact J_2166 6 (by decide +kernel) (by omega) (m_hid.mk (SRT.k6 qw_2273_1 (by decide +kernel))) _ _ hP hS _ (lv_sub hl [0, 1, 2] rfl)
                                                          · have jc_2271 := dk_neqc (k := 0) (by decide +kernel) c_2271
                                                            have jbc_2271 : 1 ≤ (x_2269).toInt := by omega
                                                            clear jc_2271
                                                            have qw_2270_1 : g_o (T_kd tb tn) (T_vl tb tn) 18 (t_ix tb tn (sa : Int32).toNatClampNeg) = true := (TKM.isw (TKM.keep (TKM.keep TK m_2 (dk_dq rfl) (dk_dq rfl) (dk_dq rfl) (dk_dq rfl) (dk_dq rfl) (dk_dq rfl) (dk_dq rfl) (dk_dq rfl)) (dg_sm.uf (WF := []) (WA := [24]) dg_sm.rf e_796 sM_24 (dk_dq rfl)) (dk_dq rfl) (dk_dq rfl) (dk_dq rfl) (dk_dq rfl) (dk_dq rfl) (dk_dq rfl) (dk_dq rfl) (dk_dq rfl)) (((dg_uf_F e_796 0 3).trans (m_2.1 0 3 _ sM_0 (dk_dq rfl))).trans f_sg) (((dg_uf_F e_796 0 4).trans (m_2.1 0 4 _ sM_0 (dk_dq rfl))).trans f_sa) hk5.out (j := 18) (C := 1869636974) (dk_dq rfl) (by decide +kernel) w_2270_1).mp (by omega)
                                                            obtain ⟨x_2282, f_x_2282⟩ := dg_I.long (i := 0) (k := 7) I_796 sM_0 (by decide +kernel)
                                                            have w_2270_1_r : (sg).toInt = 1 := by obtain ⟨w9, hw9⟩ : ∃ w9, S_796.1 0 7 = .long w9 := ⟨_, f_x_2282⟩; exact ((w_2270_1 w9 hw9).mp (by omega)).1
                                                            clear w_2270_1
                                                            have hlx_2r := hlx_2 (by omega)
                                                            clear hlx_2
                                                            refine lv_iconst (v := 5) hx hb dX12_operand_391 (by decide +kernel) ?_
                                                            refine lv_goto (tgt := 411) hx hb dX12_operand_392 (dk_dq rfl) ?_
                                                            have hz_2283 : (5 : Int32).toInt = 5 := by decide +kernel
                                                            have hz_2284 : (5 : Int32).toInt = 5 := by decide +kernel
                                                            have hz_2285 : (5 : Int32).toInt = 5 := by decide +kernel
                                                            exact J_2166 5 (by decide +kernel) (by omega) (m_hid.mk (SRT.k5 qw_2270_1 (by decide +kernel))) _ _ hP hS _ (lv_sub hl [0, 1, 2] rfl)
                                                      · have jc_2268 := dk_neqc (k := 0) (by decide +kernel) c_2268
                                                        have jbc_2268 : 1 ≤ (x_2266).toInt := by omega
                                                        clear jc_2268
                                                        have qw_2267_1 : g_o (T_kd tb tn) (T_vl tb tn) 17 (t_ix tb tn (sa : Int32).toNatClampNeg) = true := (TKM.isw (TKM.keep (TKM.keep TK m_2 (dk_dq rfl) (dk_dq rfl) (dk_dq rfl) (dk_dq rfl) (dk_dq rfl) (dk_dq rfl) (dk_dq rfl) (dk_dq rfl)) (dg_sm.uf (WF := []) (WA := [24]) dg_sm.rf e_796 sM_24 (dk_dq rfl)) (dk_dq rfl) (dk_dq rfl) (dk_dq rfl) (dk_dq rfl) (dk_dq rfl) (dk_dq rfl) (dk_dq rfl) (dk_dq rfl)) (((dg_uf_F e_796 0 3).trans (m_2.1 0 3 _ sM_0 (dk_dq rfl))).trans f_sg) (((dg_uf_F e_796 0 4).trans (m_2.1 0 4 _ sM_0 (dk_dq rfl))).trans f_sa) hk5.out (j := 17) (C := 6709618) (dk_dq rfl) (by decide +kernel) w_2267_1).mp (by omega)
                                                        obtain ⟨x_2286, f_x_2286⟩ := dg_I.long (i := 0) (k := 7) I_796 sM_0 (by decide +kernel)
                                                        have w_2267_1_r : (sg).toInt = 1 := by obtain ⟨w9, hw9⟩ : ∃ w9, S_796.1 0 7 = .long w9 := ⟨_, f_x_2286⟩; exact ((w_2267_1 w9 hw9).mp (by omega)).1
                                                        clear w_2267_1
                                                        have hlx_2r := hlx_2 (by omega)
                                                        clear hlx_2
                                                        refine lv_iconst (v := 4) hx hb dX12_operand_377 (by decide +kernel) ?_
                                                        refine lv_goto (tgt := 411) hx hb dX12_operand_378 (dk_dq rfl) ?_
                                                        have hz_2287 : (4 : Int32).toInt = 4 := by decide +kernel
                                                        have hz_2288 : (4 : Int32).toInt = 4 := by decide +kernel
                                                        have hz_2289 : (4 : Int32).toInt = 4 := by decide +kernel
                                                        exact J_2166 4 (by decide +kernel) (by omega) (m_hid.mk (SRT.k4 qw_2267_1 (by decide +kernel))) _ _ hP hS _ (lv_sub hl [0, 1, 2] rfl)
                                                  · have jc_2265 := dk_neqc (k := 0) (by decide +kernel) c_2265
                                                    have jbc_2265 : 1 ≤ (x_2263).toInt := by omega
                                                    clear jc_2265
                                                    have qw_2264_1 : g_o (T_kd tb tn) (T_vl tb tn) 16 (t_ix tb tn (sa : Int32).toNatClampNeg) = true := (TKM.isw (TKM.keep (TKM.keep TK m_2 (dk_dq rfl) (dk_dq rfl) (dk_dq rfl) (dk_dq rfl) (dk_dq rfl) (dk_dq rfl) (dk_dq rfl) (dk_dq rfl)) (dg_sm.uf (WF := []) (WA := [24]) dg_sm.rf e_796 sM_24 (dk_dq rfl)) (dk_dq rfl) (dk_dq rfl) (dk_dq rfl) (dk_dq rfl) (dk_dq rfl) (dk_dq rfl) (dk_dq rfl) (dk_dq rfl)) (((dg_uf_F e_796 0 3).trans (m_2.1 0 3 _ sM_0 (dk_dq rfl))).trans f_sg) (((dg_uf_F e_796 0 4).trans (m_2.1 0 4 _ sM_0 (dk_dq rfl))).trans f_sa) hk5.out (j := 16) (C := 495672977012) (dk_dq rfl) (by decide +kernel) w_2264_1).mp (by omega)
                                                    obtain ⟨x_2290, f_x_2290⟩ := dg_I.long (i := 0) (k := 7) I_796 sM_0 (by decide +kernel)
                                                    have w_2264_1_r : (sg).toInt = 1 := by obtain ⟨w9, hw9⟩ : ∃ w9, S_796.1 0 7 = .long w9 := ⟨_, f_x_2290⟩; exact ((w_2264_1 w9 hw9).mp (by omega)).1
                                                    clear w_2264_1
                                                    have hlx_2r := hlx_2 (by omega)
                                                    clear hlx_2
                                                    refine lv_iconst (v := 3) hx hb dX12_operand_363 (by decide +kernel) ?_
                                                    refine lv_goto (tgt := 411) hx hb dX12_operand_364 (dk_dq rfl) ?_
                                                    have hz_2291 : (3 : Int32).toInt = 3 := by decide +kernel
                                                    have hz_2292 : (3 : Int32).toInt = 3 := by decide +kernel
                                                    have hz_2293 : (3 : Int32).toInt = 3 := by decide +kernel
                                                    exact J_2166 3 (by decide +kernel) (by omega) (m_hid.mk (SRT.k3 qw_2264_1 (by decide +kernel))) _ _ hP hS _ (lv_sub hl [0, 1, 2] rfl)
                                              · have jc_2262 := dk_neqc (k := 0) (by decide +kernel) c_2262
                                                have jbc_2262 : 1 ≤ (x_2260).toInt := by omega
                                                clear jc_2262
                                                have qw_2261_1 : g_o (T_kd tb tn) (T_vl tb tn) 15 (t_ix tb tn (sa : Int32).toNatClampNeg) = true := (TKM.isw (TKM.keep (TKM.keep TK m_2 (dk_dq rfl) (dk_dq rfl) (dk_dq rfl) (dk_dq rfl) (dk_dq rfl) (dk_dq rfl) (dk_dq rfl) (dk_dq rfl)) (dg_sm.uf (WF := []) (WA := [24]) dg_sm.rf e_796 sM_24 (dk_dq rfl)) (dk_dq rfl) (dk_dq rfl) (dk_dq rfl) (dk_dq rfl) (dk_dq rfl) (dk_dq rfl) (dk_dq rfl) (dk_dq rfl)) (((dg_uf_F e_796 0 3).trans (m_2.1 0 3 _ sM_0 (dk_dq rfl))).trans f_sg) (((dg_uf_F e_796 0 4).trans (m_2.1 0 4 _ sM_0 (dk_dq rfl))).trans f_sa) hk5.out (j := 15) (C := 431198598248) (dk_dq rfl) (by decide +kernel) w_2261_1).mp (by omega)
                                                obtain ⟨x_2294, f_x_2294⟩ := dg_I.long (i := 0) (k := 7) I_796 sM_0 (by decide +kernel)
                                                have w_2261_1_r : (sg).toInt = 1 := by obtain ⟨w9, hw9⟩ : ∃ w9, S_796.1 0 7 = .long w9 := ⟨_, f_x_2294⟩; exact ((w_2261_1 w9 hw9).mp (by omega)).1
                                                clear w_2261_1
                                                have hlx_2r := hlx_2 (by omega)
                                                clear hlx_2
                                                refine lv_iconst (v := 2) hx hb dX12_operand_349 (by decide +kernel) ?_
                                                refine lv_goto (tgt := 411) hx hb dX12_operand_350 (dk_dq rfl) ?_
                                                have hz_2295 : (2 : Int32).toInt = 2 := by decide +kernel
                                                have hz_2296 : (2 : Int32).toInt = 2 := by decide +kernel
                                                have hz_2297 : (2 : Int32).toInt = 2 := by decide +kernel
                                                exact J_2166 2 (by decide +kernel) (by omega) (m_hid.mk (SRT.k2 qw_2261_1 (by decide +kernel))) _ _ hP hS _ (lv_sub hl [0, 1, 2] rfl)
                                          · have jc_2259 := dk_neqc (k := 0) (by decide +kernel) c_2259
                                            have jbc_2259 : 1 ≤ (x_2257).toInt := by omega
                                            clear jc_2259
                                            have qw_2258_1 : g_o (T_kd tb tn) (T_vl tb tn) 5 (t_ix tb tn (sa : Int32).toNatClampNeg) = true := (TKM.isw (TKM.keep (TKM.keep TK m_2 (dk_dq rfl) (dk_dq rfl) (dk_dq rfl) (dk_dq rfl) (dk_dq rfl) (dk_dq rfl) (dk_dq rfl) (dk_dq rfl)) (dg_sm.uf (WF := []) (WA := [24]) dg_sm.rf e_796 sM_24 (dk_dq rfl)) (dk_dq rfl) (dk_dq rfl) (dk_dq rfl) (dk_dq rfl) (dk_dq rfl) (dk_dq rfl) (dk_dq rfl) (dk_dq rfl)) (((dg_uf_F e_796 0 3).trans (m_2.1 0 3 _ sM_0 (dk_dq rfl))).trans f_sg) (((dg_uf_F e_796 0 4).trans (m_2.1 0 4 _ sM_0 (dk_dq rfl))).trans f_sa) hk5.out (j := 5) (C := 444300616805) (dk_dq rfl) (by decide +kernel) w_2258_1).mp (by omega)
                                            obtain ⟨x_2298, f_x_2298⟩ := dg_I.long (i := 0) (k := 7) I_796 sM_0 (by decide +kernel)
                                            have w_2258_1_r : (sg).toInt = 1 := by obtain ⟨w9, hw9⟩ : ∃ w9, S_796.1 0 7 = .long w9 := ⟨_, f_x_2298⟩; exact ((w_2258_1 w9 hw9).mp (by omega)).1
                                            clear w_2258_1
                                            have hlx_2r := hlx_2 (by omega)
                                            clear hlx_2
                                            refine lv_iconst (v := 1) hx hb dX12_operand_335 (by decide +kernel) ?_
                                            refine lv_goto (tgt := 411) hx hb dX12_operand_336 (dk_dq rfl) ?_
                                            have hz_2299 : (1 : Int32).toInt = 1 := by decide +kernel
                                            have hz_2300 : (1 : Int32).toInt = 1 := by decide +kernel
                                            have hz_2301 : (1 : Int32).toInt = 1 := by decide +kernel
                                            exact J_2166 1 (by decide +kernel) (by omega) (m_hid.mk (SRT.k1 qw_2258_1 (by decide +kernel))) _ _ hP hS _ (lv_sub hl [0, 1, 2] rfl)
                                      · have jc_2256 := dk_eqc (k := 2) (by decide +kernel) c_2256
                                        have hlx_2r := hlx_2 (by omega)
                                        clear hlx_2
                                        refine lv_iconst (v := 0) hx hb dX12_operand_321 (by decide +kernel) ?_
                                        refine lv_goto (tgt := 411) hx hb dX12_operand_322 (dk_dq rfl) ?_
                                        have hz_2302 : (0 : Int32).toInt = 0 := by decide +kernel
                                        have hz_2303 : (0 : Int32).toInt = 0 := by decide +kernel
                                        have hz_2304 : (0 : Int32).toInt = 0 := by decide +kernel
                                        exact J_2166 0 (by decide +kernel) (by omega) (m_hid.mk (SRT.n (g_n_iff.mpr ((TKM.num (TKM.keep (TKM.keep TK m_2 (dk_dq rfl) (dk_dq rfl) (dk_dq rfl) (dk_dq rfl) (dk_dq rfl) (dk_dq rfl) (dk_dq rfl) (dk_dq rfl)) (dg_sm.uf (WF := []) (WA := [24]) dg_sm.rf e_796 sM_24 (dk_dq rfl)) (dk_dq rfl) (dk_dq rfl) (dk_dq rfl) (dk_dq rfl) (dk_dq rfl) (dk_dq rfl) (dk_dq rfl) (dk_dq rfl)) (((dg_uf_F e_796 0 3).trans (m_2.1 0 3 _ sM_0 (dk_dq rfl))).trans f_sg) (((dg_uf_F e_796 0 4).trans (m_2.1 0 4 _ sM_0 (dk_dq rfl))).trans f_sa) (((dg_uf_F e_796 0 6).trans (m_2.1 0 6 _ sM_0 (dk_dq rfl))).trans f_va) hk5.out).1.mpr (by omega))) (by decide +kernel))) _ _ hP hS _ (lv_sub hl [0, 1, 2] rfl)
                                  · have jc_2050 := dk_neqc (k := 0) (by decide +kernel) c_2050
                                    have jbc_2050 : 1 ≤ (x_2048).toInt := by omega
                                    clear jc_2050
                                    have qw_2049_1 : g_o (T_kd tb tn) (T_vl tb tn) 20 (t_ix tb tn (sa : Int32).toNatClampNeg) = true := (TKM.isw (TKM.keep (TKM.keep TK m_2 (dk_dq rfl) (dk_dq rfl) (dk_dq rfl) (dk_dq rfl) (dk_dq rfl) (dk_dq rfl) (dk_dq rfl) (dk_dq rfl)) (dg_sm.uf (WF := []) (WA := [24]) dg_sm.rf e_796 sM_24 (dk_dq rfl)) (dk_dq rfl) (dk_dq rfl) (dk_dq rfl) (dk_dq rfl) (dk_dq rfl) (dk_dq rfl) (dk_dq rfl) (dk_dq rfl)) (((dg_uf_F e_796 0 3).trans (m_2.1 0 3 _ sM_0 (dk_dq rfl))).trans f_sg) (((dg_uf_F e_796 0 4).trans (m_2.1 0 4 _ sM_0 (dk_dq rfl))).trans f_sa) hk5.out (j := 20) (C := 26982) (dk_dq rfl) (by decide +kernel) w_2049_1).mp (by omega)
                                    obtain ⟨x_2305, f_x_2305⟩ := dg_I.long (i := 0) (k := 7) I_796 sM_0 (by decide +kernel)
                                    have w_2049_1_r : (sg).toInt = 1 := by obtain ⟨w9, hw9⟩ : ∃ w9, S_796.1 0 7 = .long w9 := ⟨_, f_x_2305⟩; exact ((w_2049_1 w9 hw9).mp (by omega)).1
                                    clear w_2049_1
                                    have hlx_2r := hlx_2 (by omega)
                                    clear hlx_2
                                    exact J_1743 ()  (by omega) (m_hid.mk (Or.inr (Or.inr qw_2049_1))) _ _ hP hS _ (lv_sub hl [0, 1, 2] rfl)
                      · as_aux_lemma =>
                          have jc_1471 := dk_neqc (k := 0) (by decide +kernel) c_1471
                          have jbc_1471 : 1 ≤ (x_1468).toInt := by omega
                          clear jc_1471
                          have qw_1469_1 : g_s (T_kd tb tn) (T_vl tb tn) 40 (t_ix tb tn (sa : Int32).toNatClampNeg) = true := (TKM.iss (TKM.keep (TKM.keep TK m_2 (dk_dq rfl) (dk_dq rfl) (dk_dq rfl) (dk_dq rfl) (dk_dq rfl) (dk_dq rfl) (dk_dq rfl) (dk_dq rfl)) (dg_sm.uf (WF := []) (WA := [24]) dg_sm.rf e_796 sM_24 (dk_dq rfl)) (dk_dq rfl) (dk_dq rfl) (dk_dq rfl) (dk_dq rfl) (dk_dq rfl) (dk_dq rfl) (dk_dq rfl) (dk_dq rfl)) (((dg_uf_F e_796 0 3).trans (m_2.1 0 3 _ sM_0 (dk_dq rfl))).trans f_sg) (((dg_uf_F e_796 0 4).trans (m_2.1 0 4 _ sM_0 (dk_dq rfl))).trans f_sa) (((dg_uf_F e_796 0 6).trans (m_2.1 0 6 _ sM_0 (dk_dq rfl))).trans f_va) hk5.out (c := 40) (by have h9 := w_1469_1; rw [show (40 : Int32).toInt = 40 from by decide +kernel] at h9; exact h9)).mp (by omega)
                          have w_1469_1_r := w_1469_1.mp (by omega)
                          obtain ⟨w_1469_1_r1, w_1469_1_r2⟩ := w_1469_1_r
                          clear w_1469_1
                          have hlx_2r := hlx_2 (by omega)
                          clear hlx_2
                          refine lv_aload_n hx hb dX12_operand_180 rfl (lv_at hl 2 rfl) ?_
                          refine lv_iconst (v := 2) hx hb dX12_operand_181 (by decide +kernel) ?_
                          have hz_2306 : (2 : Int32).toInt = 2 := by decide +kernel
                          refine dg_callv hS hA1 hA (va_runV (As := [.int 2]) (rest := []) F (c_m_frames l g D o S_796 2 (by decide +kernel) tb tn sg (((dg_uf_F e_796 0 3).trans (m_2.1 0 3 _ sM_0 (dk_dq rfl))).trans f_sg) (by omega) sa (((dg_uf_F e_796 0 4).trans (m_2.1 0 4 _ sM_0 (dk_dq rfl))).trans f_sa) (by omega) se (((dg_uf_F e_796 0 5).trans (m_2.1 0 5 _ sM_0 (dk_dq rfl))).trans f_se) (by omega) sl (((dg_uf_F e_796 0 2).trans (m_2.1 0 2 _ sM_0 (dk_dq rfl))).trans f_sl) (by omega) y_3 ((dg_uf_F e_796 0 8).trans f_y_3) (by omega) dp (((dg_uf_F e_796 0 42).trans (m_2.1 0 42 _ sM_0 (dk_dq rfl))).trans f_dp) (by omega) om (((dg_uf_F e_796 0 45).trans (m_2.1 0 45 _ sM_0 (dk_dq rfl))).trans f_om) (by omega) on (((dg_uf_F e_796 0 43).trans (m_2.1 0 43 _ sM_0 (dk_dq rfl))).trans f_on) (by omega) (by omega) (by omega) (TKM.keep (TKM.keep TK m_2 (dk_dq rfl) (dk_dq rfl) (dk_dq rfl) (dk_dq rfl) (dk_dq rfl) (dk_dq rfl) (dk_dq rfl) (dk_dq rfl)) (dg_sm.uf (WF := []) (WA := [24]) dg_sm.rf e_796 sM_24 (dk_dq rfl)) (dk_dq rfl) (dk_dq rfl) (dk_dq rfl) (dk_dq rfl) (dk_dq rfl) (dk_dq rfl) (dk_dq rfl) (dk_dq rfl)) I_796 H.size) (cwV 1 hts (bw_V wB_431 wB_432 wB_433 wB_297 wB_430) rfl rfl rfl (by decide +kernel) ⟨Nat.le_of_ble_eq_true rfl, Nat.le_of_ble_eq_true rfl⟩) (dg_preV sM_0 rfl K ST hP hS hA1 hA) rfl rfl hl.1 rfl (lv_room (Nat.le_of_ble_eq_true rfl)) dX12_operand_182 ⟨Nat.le_of_ble_eq_true rfl, Nat.le_of_ble_eq_true rfl⟩) (fun S_2307 hw_2307 H locs hP hS => ?_)
                          obtain ⟨I_2307, m_2307, w_2307_0, w_2307_1, w_2307_2, -⟩ := hw_2307
                          have M_2307 := dg_sm.tr M_796 m_2307 (dk_dq rfl) (dk_dq rfl)
                          have hz_2308 : (2 : Int32).toInt = 2 := by decide +kernel
                          obtain ⟨y_2309, y_2310, y_2311, y_2312, y_2313, f_y_2309, f_y_2310, f_y_2311, f_y_2312, f_y_2313, w_2307_0⟩ := w_2307_0
                          have w_2307_0 : (((y_2310).toInt ≤ (y_2311).toInt ∧ (y_2311).toInt ≤ (sl).toInt ∧ ((y_2309).toInt ≠ 0 → (y_2310).toInt + 1 ≤ (y_2311).toInt)) ∧ (sa).toInt ≤ (y_2310).toInt ∧ ((y_3).toInt ≠ 0 → (y_2312).toInt ≠ 0) ∧ (((y_2312).toInt = 0 → ((sa).toInt + 1 ≤ (y_2310).toInt ∧ (y_2313).toInt = (dp).toInt + 1)))) ∧ m_hid ((y_3).toInt = 0 → (((y_2312).toInt = 0 → (t_ix tb tn (y_2310 : Int32).toNatClampNeg) = (t_ix tb tn (sa : Int32).toNatClampNeg) + 1) ∧ ((y_2312).toInt ≠ 0 → (on).toInt = 7))) := w_2307_0
                          obtain ⟨⟨⟨w_2307_0_0, w_2307_0_1, w_2307_0_2⟩, w_2307_0_3, w_2307_0_4, w_2307_0_5⟩, w_2307_0_6⟩ := w_2307_0
                          clear w_2307_0_4
                          have b_y_2309 : 0 ≤ (y_2309).toInt ∧ (y_2309).toInt ≤ 3 := dg_I.intb (lo := 0) (hi := 3) I_2307 sM_0 (by decide +kernel) f_y_2309
                          have b_y_2310 : 0 ≤ (y_2310).toInt ∧ (y_2310).toInt ≤ 1600 := dg_I.intb (lo := 0) (hi := 1600) I_2307 sM_0 (by decide +kernel) f_y_2310
                          have b_y_2311 : 0 ≤ (y_2311).toInt ∧ (y_2311).toInt ≤ 1600 := dg_I.intb (lo := 0) (hi := 1600) I_2307 sM_0 (by decide +kernel) f_y_2311
                          have b_y_2312 : 0 ≤ (y_2312).toInt ∧ (y_2312).toInt ≤ 6 := dg_I.intb (lo := 0) (hi := 6) I_2307 sM_0 (by decide +kernel) f_y_2312
                          have b_y_2313 : 0 ≤ (y_2313).toInt ∧ (y_2313).toInt ≤ 20 := dg_I.intb (lo := 0) (hi := 20) I_2307 sM_0 (by decide +kernel) f_y_2313
                          replace w_2307_1 : ∀ k9 : Int32, S_2307.1 0 8 = .int k9 → k9.toInt = 0 → FRM S_796 S_2307 (2 : Int32) := w_2307_1
                          refine lv_iconst (v := 0) hx hb dX12_operand_185 (by decide +kernel) ?_
                          have hz_2314 : (0 : Int32).toInt = 0 := by decide +kernel
                          have hz_2315 : (0 : Int32).toInt = 0 := by decide +kernel
                          have hz_2316 : (0 : Int32).toInt = 0 := by decide +kernel
                          have hz_2317 : (0 : Int32).toInt = 0 := by decide +kernel
                          have hz_2318 : (0 : Int32).toInt = 0 := by decide +kernel
                          have hz_2319 : (0 : Int32).toInt = 0 := by decide +kernel
                          have hz_2320 : (0 : Int32).toInt = 0 := by decide +kernel
                          have hz_2321 : (0 : Int32).toInt = 0 := by decide +kernel
                          obtain ⟨x_2322, f_x_2322, b_x_2322⟩ := dg_I.int (i := 0) (k := 35) (lo := 0) (hi := 1) I sM_0 (by decide +kernel)
                          refine W.widen (k := 0) (n := 0) (Nat.le_of_ble_eq_true rfl) (Nat.le_of_ble_eq_true rfl) ?_
                          rw [hQ9]
                          exact dg_iret hx hb hr hlocks (by decide +kernel) hP hS ⟨I_2307, M_2307, (by decide +kernel), ⟨y_2309, y_2310, y_2311, y_2312, cd, y_2313, om, f_y_2309, f_y_2310, f_y_2311, f_y_2312, (((m_2307.1 0 34 _ sM_0 (dk_dq rfl)).trans ((dg_uf_F e_796 0 34).trans (m_2.1 0 34 _ sM_0 (dk_dq rfl)))).trans f_cd), f_y_2313, (((m_2307.1 0 45 _ sM_0 (dk_dq rfl)).trans ((dg_uf_F e_796 0 45).trans (m_2.1 0 45 _ sM_0 (dk_dq rfl)))).trans f_om), (by omega)⟩, (fun k9 hk9 hk0 => ⟨fun h9 => absurd h9 (by decide +kernel), fun _ => by first | (exact PBM.opens PB_796 (((dg_uf_F e_796 0 42).trans (m_2.1 0 42 _ sM_0 (dk_dq rfl))).trans f_dp) (((dg_uf_F e_796 0 43).trans (m_2.1 0 43 _ sM_0 (dk_dq rfl))).trans f_on) (((dg_uf_F e_796 0 45).trans (m_2.1 0 45 _ sM_0 (dk_dq rfl))).trans f_om) (w_2307_1 k9 hk9 hk0) m_2307 (dk_dq rfl) (dk_dq rfl) (dk_dq rfl) (dk_dq rfl) (by omega)) | (have q9 := (f_y_2312).symm.trans hk9; cases q9; omega)⟩), (OPK.fr f_sa f_y_2312 f_y_2310 hM0 TF_796 (((dg_uf_F e_796 0 42).trans (m_2.1 0 42 _ sM_0 (dk_dq rfl))).trans f_dp) (((dg_uf_F e_796 0 43).trans (m_2.1 0 43 _ sM_0 (dk_dq rfl))).trans f_on) (((dg_uf_F e_796 0 45).trans (m_2.1 0 45 _ sM_0 (dk_dq rfl))).trans f_om) (by omega) (by omega) m_2307 (dk_dq rfl) (dk_dq rfl) w_2307_1 (by rw [show (2 : Int32).toInt = 2 from by decide +kernel]; exact m_st_f.trans (m_opd_par h171.out qw_1469_1)) (fun q9 => (w_2307_0_6.out (by omega)).1 q9) (fun q9 => by have h9 := (w_2307_0_6.out (by omega)).2 q9; have h8 := dk_clN on; omega) (by decide +kernel)), (OPN.fr (v := 0) f_sa f_y_2312 f_y_2310 hN0 TF_796 (XFM.keep XF0 (dg_sm.uf (WF := []) (WA := [24]) dg_sm.rf e_796 sM_24 (dk_dq rfl)) (dk_dq rfl) (dk_dq rfl) (dk_dq rfl) (dk_dq rfl) (dk_dq rfl)) (((dg_uf_F e_796 0 42).trans (m_2.1 0 42 _ sM_0 (dk_dq rfl))).trans f_dp) (((dg_uf_F e_796 0 43).trans (m_2.1 0 43 _ sM_0 (dk_dq rfl))).trans f_on) (((dg_uf_F e_796 0 45).trans (m_2.1 0 45 _ sM_0 (dk_dq rfl))).trans f_om) (by omega) (by omega) m_2307 (dk_dq rfl) (dk_dq rfl) (dk_dq rfl) w_2307_1 (q_am.mv (q_am.z f_x_2322 f_cd (by omega) (by omega)) ((m_2307.1 0 34 _ sM_0 (dk_dq rfl)).trans ((dg_uf_F e_796 0 34).trans (m_2.1 0 34 _ sM_0 (dk_dq rfl)))) ((m_2307.1 0 35 _ sM_0 (dk_dq rfl)).trans ((dg_uf_F e_796 0 35).trans (m_2.1 0 35 _ sM_0 (dk_dq rfl)))) ((m_2307.2 18 _ sM_18 (dk_dq rfl)).1.trans ((dg_uf_ne e_796 (dk_dq rfl)).trans (m_2.2 18 _ sM_18 (dk_dq rfl)).1)) ((m_2307.2 19 _ sM_19 (dk_dq rfl)).1.trans ((dg_uf_ne e_796 (dk_dq rfl)).trans (m_2.2 19 _ sM_19 (dk_dq rfl)).1))) (fun out => by rw [show (2 : Int32).toInt = 2 from by decide +kernel]; exact (n_opd_par h171.out qw_1469_1)) (fun z9 => by rw [show (2 : Int32).toInt = 2 from by decide +kernel]; rfl) (fun q9 => (w_2307_0_6.out (by omega)).1 q9) (by decide +kernel)), w_2307_2, (ZWM.keep (ZWM.keep (ZWM.keep ZW m_2 (dk_dq rfl) (dk_dq rfl) (dk_dq rfl) (dk_dq rfl)) (dg_sm.uf (WF := []) (WA := [24]) dg_sm.rf e_796 sM_24 (dk_dq rfl)) (dk_dq rfl) (dk_dq rfl) (dk_dq rfl) (dk_dq rfl)) m_2307 (dk_dq rfl) (dk_dq rfl) (dk_dq rfl) (dk_dq rfl)), (G8M.keep (G8M.keep (G8M.keep G8 m_2 (dk_dq rfl) (dk_dq rfl) (dk_dq rfl)) (dg_sm.uf (WF := []) (WA := [24]) dg_sm.rf e_796 sM_24 (dk_dq rfl)) (dk_dq rfl) (dk_dq rfl) (dk_dq rfl)) m_2307 (dk_dq rfl) (dk_dq rfl) (dk_dq rfl)), trivial⟩ dX12_operand_186
                  refine lv_if_eq (tgt := 171) hx hb dX12_operand_138 (dk_dq rfl) (fun c_2323 => ?_) (fun c_2323 => ?_)
                  · have jc_2323 := dk_eqc (k := 0) (by decide +kernel) c_2323
                    exact J_1467 ()  (m_hid.mk (m_fst_no (Or.inl (hff.out (by omega))))) _ _ hP hS _ (lv_sub hl [0, 1, 2] rfl)
                  · as_aux_lemma =>
                      have jc_2323 := dk_neqc (k := 0) (by decide +kernel) c_2323
                      have jbc_2323 : 1 ≤ (x_14).toInt := by omega
                      clear jc_2323
                      refine lv_aload_n hx hb dX12_operand_141 rfl (lv_at hl 2 rfl) ?_
                      refine lv_ldc2 hx hb hown (hts _ (bw_mem wB_349)) dX12_operand_142 ?_
                      refine dg_calli hS hA1 hA (va_runV (As := [.long 6384748]) (rest := []) F (c_m_isWord l g D o S_796 6384748 sg (((dg_uf_F e_796 0 3).trans (m_2.1 0 3 _ sM_0 (dk_dq rfl))).trans f_sg) (by omega) I_796 H.size) (cwV 1 hts (bw_V wB_322 wB_323 wB_324 wB_297 wB_321) rfl rfl rfl (by decide +kernel) ⟨Nat.le_of_ble_eq_true rfl, Nat.le_of_ble_eq_true rfl⟩) (dg_preV sM_0 rfl K ST hP hS hA1 hA) rfl rfl hl.1 rfl (lv_room (Nat.le_of_ble_eq_true rfl)) dX12_operand_145 ⟨Nat.le_of_ble_eq_true rfl, Nat.le_of_ble_eq_true rfl⟩) (fun x_2324 S_2325 hw_2325 H locs hP hS => ?_)
                      rw [hw_2325.1] at hP
                      obtain ⟨hq_2325, w_2325_0, w_2325_1, -⟩ := hw_2325
                      try rw [hq_2325] at w_2325_1
                      have w_2325_0 : 0 ≤ (x_2324).toInt ∧ (x_2324).toInt ≤ 1 := w_2325_0
                      replace w_2325_1 : ∀ w9 : Int64, S_796.1 0 7 = .long w9 → ((x_2324).toInt = 1 ↔ ((sg).toInt = 1 ∧ w9.toInt = ((6384748 : Int64)).toInt)) := w_2325_1
                      refine lv_if_eq (tgt := 171) hx hb dX12_operand_148 (dk_dq rfl) (fun c_2326 => ?_) (fun c_2326 => ?_)
                      · have jc_2326 := dk_eqc (k := 0) (by decide +kernel) c_2326
                        have qw_2325_1 : g_o (T_kd tb tn) (T_vl tb tn) 24 (t_ix tb tn (sa : Int32).toNatClampNeg) = false := g_iff_f (TKM.isw (TKM.keep (TKM.keep TK m_2 (dk_dq rfl) (dk_dq rfl) (dk_dq rfl) (dk_dq rfl) (dk_dq rfl) (dk_dq rfl) (dk_dq rfl) (dk_dq rfl)) (dg_sm.uf (WF := []) (WA := [24]) dg_sm.rf e_796 sM_24 (dk_dq rfl)) (dk_dq rfl) (dk_dq rfl) (dk_dq rfl) (dk_dq rfl) (dk_dq rfl) (dk_dq rfl) (dk_dq rfl) (dk_dq rfl)) (((dg_uf_F e_796 0 3).trans (m_2.1 0 3 _ sM_0 (dk_dq rfl))).trans f_sg) (((dg_uf_F e_796 0 4).trans (m_2.1 0 4 _ sM_0 (dk_dq rfl))).trans f_sa) hk5.out (j := 24) (C := 6384748) (dk_dq rfl) (by decide +kernel) w_2325_1) (by omega)
                        clear w_2325_1
                        exact J_1467 ()  (m_hid.mk (m_fst_no (Or.inr ⟨(h137.out (by omega)).1, (h137.out (by omega)).2, qw_2325_1⟩))) _ _ hP hS _ (lv_sub hl [0, 1, 2] rfl)
                      · as_aux_lemma =>
                          have jc_2326 := dk_neqc (k := 0) (by decide +kernel) c_2326
                          have jbc_2326 : 1 ≤ (x_2324).toInt := by omega
                          clear jc_2326
                          have qw_2325_1 : g_o (T_kd tb tn) (T_vl tb tn) 24 (t_ix tb tn (sa : Int32).toNatClampNeg) = true := (TKM.isw (TKM.keep (TKM.keep TK m_2 (dk_dq rfl) (dk_dq rfl) (dk_dq rfl) (dk_dq rfl) (dk_dq rfl) (dk_dq rfl) (dk_dq rfl) (dk_dq rfl)) (dg_sm.uf (WF := []) (WA := [24]) dg_sm.rf e_796 sM_24 (dk_dq rfl)) (dk_dq rfl) (dk_dq rfl) (dk_dq rfl) (dk_dq rfl) (dk_dq rfl) (dk_dq rfl) (dk_dq rfl) (dk_dq rfl)) (((dg_uf_F e_796 0 3).trans (m_2.1 0 3 _ sM_0 (dk_dq rfl))).trans f_sg) (((dg_uf_F e_796 0 4).trans (m_2.1 0 4 _ sM_0 (dk_dq rfl))).trans f_sa) hk5.out (j := 24) (C := 6384748) (dk_dq rfl) (by decide +kernel) w_2325_1).mp (by omega)
                          obtain ⟨x_2327, f_x_2327⟩ := dg_I.long (i := 0) (k := 7) I_796 sM_0 (by decide +kernel)
                          have w_2325_1_r : (sg).toInt = 1 := by obtain ⟨w9, hw9⟩ : ∃ w9, S_796.1 0 7 = .long w9 := ⟨_, f_x_2327⟩; exact ((w_2325_1 w9 hw9).mp (by omega)).1
                          clear w_2325_1
                          have hlx_2r := hlx_2 (by omega)
                          clear hlx_2
                          refine lv_aload_n hx hb dX12_operand_151 rfl (lv_at hl 2 rfl) ?_
                          refine lv_bipush (v := 30) hx hb dX12_operand_152 (by decide +kernel) ?_
                          refine lv_iconst (v := 0) hx hb dX12_operand_154 (by decide +kernel) ?_
                          have hz_2328 : (30 : Int32).toInt = 30 := by decide +kernel
                          have hz_2329 : (0 : Int32).toInt = 0 := by decide +kernel
                          refine dg_callv hS hA1 hA (va_runV (As := [.int 30, .int 0]) (rest := []) F (c_m_add l g D o S_796 30 (by decide +kernel) 0 (by decide +kernel) S0 cd (((dg_uf_F e_796 0 34).trans (m_2.1 0 34 _ sM_0 (dk_dq rfl))).trans f_cd) (by omega) (ZWM.keep (ZWM.keep ZW m_2 (dk_dq rfl) (dk_dq rfl) (dk_dq rfl) (dk_dq rfl)) (dg_sm.uf (WF := []) (WA := [24]) dg_sm.rf e_796 sM_24 (dk_dq rfl)) (dk_dq rfl) (dk_dq rfl) (dk_dq rfl) (dk_dq rfl)) (ZKM.keep (ZKM.keep ZK m_2 (dk_dq rfl) (dk_dq rfl)) (dg_sm.uf (WF := []) (WA := [24]) dg_sm.rf e_796 sM_24 (dk_dq rfl)) (dk_dq rfl) (dk_dq rfl)) (G8M.keep (G8M.keep G8 m_2 (dk_dq rfl) (dk_dq rfl) (dk_dq rfl)) (dg_sm.uf (WF := []) (WA := [24]) dg_sm.rf e_796 sM_24 (dk_dq rfl)) (dk_dq rfl) (dk_dq rfl) (dk_dq rfl)) I_796 H.size) (cwV 2 hts (bw_V wB_412 wB_413 wB_414 wB_297 wB_411) rfl rfl rfl (by decide +kernel) ⟨Nat.le_of_ble_eq_true rfl, Nat.le_of_ble_eq_true rfl⟩) (dg_preV sM_0 rfl K ST hP hS hA1 hA) rfl rfl hl.1 rfl (lv_room (Nat.le_of_ble_eq_true rfl)) dX12_operand_155 ⟨Nat.le_of_ble_eq_true rfl, Nat.le_of_ble_eq_true rfl⟩) (fun S_2330 hw_2330 H locs hP hS => ?_)
                          obtain ⟨I_2330, m_2330, w_2330_0, w_2330_1, w_2330_2, w_2330_3, w_2330_4, -⟩ := hw_2330
                          have M_2330 := dg_sm.tr M_796 m_2330 (dk_dq rfl) (dk_dq rfl)
                          have hz_2331 : (30 : Int32).toInt = 30 := by decide +kernel
                          have hz_2332 : (0 : Int32).toInt = 0 := by decide +kernel
                          obtain ⟨y_2333, f_y_2333, w_2330_0⟩ := w_2330_0
                          have w_2330_0 : (y_2333).toInt = (cd).toInt + 1 := w_2330_0
                          have b_y_2333 : 0 ≤ (y_2333).toInt ∧ (y_2333).toInt ≤ 1600 := dg_I.intb (lo := 0) (hi := 1600) I_2330 sM_0 (by decide +kernel) f_y_2333
                          replace w_2330_1 : ADM S_796 S_2330 (30 : Int32) := w_2330_1
                          have P1_2330 : P1M S_2330 := PBM.leaf PB_796 (((dg_uf_F e_796 0 42).trans (m_2.1 0 42 _ sM_0 (dk_dq rfl))).trans f_dp) (((dg_uf_F e_796 0 43).trans (m_2.1 0 43 _ sM_0 (dk_dq rfl))).trans f_on) (((dg_uf_F e_796 0 45).trans (m_2.1 0 45 _ sM_0 (dk_dq rfl))).trans f_om) m_2330 w_2330_1 (by omega)
                          replace w_2330_2 : A5M S_796 S_2330 (30 : Int32) (0 : Int32) := w_2330_2
                          obtain ⟨x_2334, f_x_2334, b_x_2334⟩ := dg_I.int (i := 0) (k := 35) (lo := 0) (hi := 1) I sM_0 (by decide +kernel)
                          obtain ⟨x_2335, f_x_2335, b_x_2335⟩ := dg_I.int (i := 0) (k := 34) (lo := 0) (hi := 1600) I_796 sM_0 (by decide +kernel)
                          have qa_2330 : q_am S S_2330 ([-7]) := (q_am.fs (q_am.to (A5M.q w_2330_2 (((dg_uf_F e_796 0 35).trans (m_2.1 0 35 _ sM_0 (dk_dq rfl))).trans f_x_2334) f_x_2335 (by omega) (by omega)) (by decide +kernel : [-7] = [d_2 (30 : Int32).toInt (0 : Int32).toInt])) ((dg_uf_F e_796 0 34).trans (m_2.1 0 34 _ sM_0 (dk_dq rfl))) ((dg_uf_F e_796 0 35).trans (m_2.1 0 35 _ sM_0 (dk_dq rfl))) ((dg_uf_ne e_796 (dk_dq rfl)).trans (m_2.2 18 _ sM_18 (dk_dq rfl)).1) ((dg_uf_ne e_796 (dk_dq rfl)).trans (m_2.2 19 _ sM_19 (dk_dq rfl)).1))
                          refine lv_aload_n hx hb dX12_operand_158 rfl (lv_at hl 2 rfl) ?_
                          refine dg_get (C := RX12) (T := TX12) (N := 77) hx hb hts (fun w h => bw_mem (wU_X12 w h)) hown K hP sM_0 rfl 38 (dk_dq rfl) (hts _ (bw_mem wB_417)) (fun _ h9 => h9) (v := .ref (o + 23)) (show S_2330.1 0 38 = .ref (o + 23) from dg_I.rel (d := 23) I_2330 sM_0 (by decide +kernel)) dX12_operand_159 ?_
                          refine lv_iload_n hx hb dX12_operand_162 rfl (lv_at hl 1 rfl) ?_
                          refine lv_iconst (v := 2) hx hb dX12_operand_163 (by decide +kernel) ?_
                          have hin_2336 : vp_in x_5 20 := (dk_inv2 (by omega))
                          have hz_2338 : (2 : Int32).toInt = 2 := by decide +kernel
                          refine dg_iast hx hb K hP hS hA1 sM_23 hin_2336 dX12_operand_164 (fun S_2337 e_2337 H locs hP hS => ?_)
                          have I_2337 := dg_I.ufu (lo := 0) (hi := 2) I_2330 e_2337 sM_23 (by decide +kernel) (show 0 ≤ ((2 : Int32)).toInt ∧ ((2 : Int32)).toInt ≤ 2 from (by decide +kernel))
                          have M_2337 := dg_sm.uf M_2330 e_2337 sM_23 (dk_dq rfl)
                          have hz_2339 : (2 : Int32).toInt = 2 := by decide +kernel
                          have P1_2337 : P1M S_2337 := P1M.close5 P1_2330 (((m_2330.1 0 42 _ sM_0 (dk_dq rfl)).trans ((dg_uf_F e_796 0 42).trans (m_2.1 0 42 _ sM_0 (dk_dq rfl)))).trans f_dp) (by omega) (by omega) (by omega) e_2337
                          have hz_2340 : (2 : Int32).toInt = 2 := by decide +kernel
                          have TF_2337 : TFM (x_7).toInt 2 false nt0 R0 (on).toNatClampNeg S_2337 := (by have h9 := (TFM.ph' (TFM.keep TF_796 m_2330 (dk_dq rfl) (dk_dq rfl) (dk_dq rfl) (dk_dq rfl) (dk_dq rfl) (dk_dq rfl) (dk_dq rfl) (dk_dq rfl)) (((m_2330.1 0 42 _ sM_0 (dk_dq rfl)).trans ((dg_uf_F e_796 0 42).trans (m_2.1 0 42 _ sM_0 (dk_dq rfl)))).trans f_dp) (((m_2330.1 0 43 _ sM_0 (dk_dq rfl)).trans ((dg_uf_F e_796 0 43).trans (m_2.1 0 43 _ sM_0 (dk_dq rfl)))).trans f_on) (((m_2330.1 0 45 _ sM_0 (dk_dq rfl)).trans ((dg_uf_F e_796 0 45).trans (m_2.1 0 45 _ sM_0 (dk_dq rfl)))).trans f_om) (fx := x_5) (by omega) (by omega) e_2337); rw [show (2 : Int32).toInt = 2 from by decide +kernel] at h9; exact h9)
                          as_aux_lemma =>
                            refine lv_aload_n hx hb dX12_operand_165 rfl (lv_at hl 2 rfl) ?_
                            refine dg_callv hS hA1 hA (va_runV (As := []) (rest := []) F (c_m_ahead l g D o S_2337 tb tn se (((dg_uf_F e_2337 0 5).trans ((m_2330.1 0 5 _ sM_0 (dk_dq rfl)).trans ((dg_uf_F e_796 0 5).trans (m_2.1 0 5 _ sM_0 (dk_dq rfl))))).trans f_se) (by omega) sl (((dg_uf_F e_2337 0 2).trans ((m_2330.1 0 2 _ sM_0 (dk_dq rfl)).trans ((dg_uf_F e_796 0 2).trans (m_2.1 0 2 _ sM_0 (dk_dq rfl))))).trans f_sl) (by omega) (by omega) (TKM.keep (TKM.keep (TKM.keep (TKM.keep TK m_2 (dk_dq rfl) (dk_dq rfl) (dk_dq rfl) (dk_dq rfl) (dk_dq rfl) (dk_dq rfl) (dk_dq rfl) (dk_dq rfl)) (dg_sm.uf (WF := []) (WA := [24]) dg_sm.rf e_796 sM_24 (dk_dq rfl)) (dk_dq rfl) (dk_dq rfl) (dk_dq rfl) (dk_dq rfl) (dk_dq rfl) (dk_dq rfl) (dk_dq rfl) (dk_dq rfl)) m_2330 (dk_dq rfl) (dk_dq rfl) (dk_dq rfl) (dk_dq rfl) (dk_dq rfl) (dk_dq rfl) (dk_dq rfl) (dk_dq rfl)) (dg_sm.uf (WF := []) (WA := [23]) dg_sm.rf e_2337 sM_23 (dk_dq rfl)) (dk_dq rfl) (dk_dq rfl) (dk_dq rfl) (dk_dq rfl) (dk_dq rfl) (dk_dq rfl) (dk_dq rfl) (dk_dq rfl)).1 I_2337 H.size) (cwV 0 hts (bw_V wB_318 wB_319 wB_320 wB_297 wB_317) rfl rfl rfl (by decide +kernel) ⟨Nat.le_of_ble_eq_true rfl, Nat.le_of_ble_eq_true rfl⟩) (dg_preV sM_0 rfl K ST hP hS hA1 hA) rfl rfl hl.1 rfl (lv_room (Nat.le_of_ble_eq_true rfl)) dX12_operand_166 ⟨Nat.le_of_ble_eq_true rfl, Nat.le_of_ble_eq_true rfl⟩) (fun S_2341 hw_2341 H locs hP hS => ?_)
                            obtain ⟨I_2341, m_2341, w_2341_0, w_2341_1, -⟩ := hw_2341
                            have M_2341 := dg_sm.tr M_2337 m_2341 (dk_dq rfl) (dk_dq rfl)
                            obtain ⟨y_2342, y_2343, y_2344, f_y_2342, f_y_2343, f_y_2344, w_2341_0⟩ := w_2341_0
                            have w_2341_0 : (se).toInt ≤ (y_2343).toInt ∧ (y_2343).toInt ≤ (y_2344).toInt ∧ (y_2344).toInt ≤ (sl).toInt ∧ ((y_2342).toInt ≠ 0 → (y_2343).toInt + 1 ≤ (y_2344).toInt) := w_2341_0
                            obtain ⟨w_2341_0_0, w_2341_0_1, w_2341_0_2, w_2341_0_3⟩ := w_2341_0
                            have b_y_2342 : 0 ≤ (y_2342).toInt ∧ (y_2342).toInt ≤ 3 := dg_I.intb (lo := 0) (hi := 3) I_2341 sM_0 (by decide +kernel) f_y_2342
                            have b_y_2343 : 0 ≤ (y_2343).toInt ∧ (y_2343).toInt ≤ 1600 := dg_I.intb (lo := 0) (hi := 1600) I_2341 sM_0 (by decide +kernel) f_y_2343
                            have b_y_2344 : 0 ≤ (y_2344).toInt ∧ (y_2344).toInt ≤ 1600 := dg_I.intb (lo := 0) (hi := 1600) I_2341 sM_0 (by decide +kernel) f_y_2344
                            replace w_2341_1 : TNX tb tn se S_2341 := w_2341_1
                            obtain ⟨TK_2341, nx_2341, -⟩ := TKM.nx (TKM.keep (TKM.keep (TKM.keep (TKM.keep TK m_2 (dk_dq rfl) (dk_dq rfl) (dk_dq rfl) (dk_dq rfl) (dk_dq rfl) (dk_dq rfl) (dk_dq rfl) (dk_dq rfl)) (dg_sm.uf (WF := []) (WA := [24]) dg_sm.rf e_796 sM_24 (dk_dq rfl)) (dk_dq rfl) (dk_dq rfl) (dk_dq rfl) (dk_dq rfl) (dk_dq rfl) (dk_dq rfl) (dk_dq rfl) (dk_dq rfl)) m_2330 (dk_dq rfl) (dk_dq rfl) (dk_dq rfl) (dk_dq rfl) (dk_dq rfl) (dk_dq rfl) (dk_dq rfl) (dk_dq rfl)) (dg_sm.uf (WF := []) (WA := [23]) dg_sm.rf e_2337 sM_23 (dk_dq rfl)) (dk_dq rfl) (dk_dq rfl) (dk_dq rfl) (dk_dq rfl) (dk_dq rfl) (dk_dq rfl) (dk_dq rfl) (dk_dq rfl)) (((dg_uf_F e_2337 0 4).trans ((m_2330.1 0 4 _ sM_0 (dk_dq rfl)).trans ((dg_uf_F e_796 0 4).trans (m_2.1 0 4 _ sM_0 (dk_dq rfl))))).trans f_sa) (((dg_uf_F e_2337 0 5).trans ((m_2330.1 0 5 _ sM_0 (dk_dq rfl)).trans ((dg_uf_F e_796 0 5).trans (m_2.1 0 5 _ sM_0 (dk_dq rfl))))).trans f_se) w_2341_1 m_2341 (dk_dq rfl) (dk_dq rfl) f_y_2343
                            replace nx_2341 := nx_2341 (fun q9 => absurd ((TKM.zero (TKM.keep (TKM.keep (TKM.keep (TKM.keep TK m_2 (dk_dq rfl) (dk_dq rfl) (dk_dq rfl) (dk_dq rfl) (dk_dq rfl) (dk_dq rfl) (dk_dq rfl) (dk_dq rfl)) (dg_sm.uf (WF := []) (WA := [24]) dg_sm.rf e_796 sM_24 (dk_dq rfl)) (dk_dq rfl) (dk_dq rfl) (dk_dq rfl) (dk_dq rfl) (dk_dq rfl) (dk_dq rfl) (dk_dq rfl) (dk_dq rfl)) m_2330 (dk_dq rfl) (dk_dq rfl) (dk_dq rfl) (dk_dq rfl) (dk_dq rfl) (dk_dq rfl) (dk_dq rfl) (dk_dq rfl)) (dg_sm.uf (WF := []) (WA := [23]) dg_sm.rf e_2337 sM_23 (dk_dq rfl)) (dk_dq rfl) (dk_dq rfl) (dk_dq rfl) (dk_dq rfl) (dk_dq rfl) (dk_dq rfl) (dk_dq rfl) (dk_dq rfl)) (((dg_uf_F e_2337 0 3).trans ((m_2330.1 0 3 _ sM_0 (dk_dq rfl)).trans ((dg_uf_F e_796 0 3).trans (m_2.1 0 3 _ sM_0 (dk_dq rfl))))).trans f_sg) (((dg_uf_F e_2337 0 4).trans ((m_2330.1 0 4 _ sM_0 (dk_dq rfl)).trans ((dg_uf_F e_796 0 4).trans (m_2.1 0 4 _ sM_0 (dk_dq rfl))))).trans f_sa)).mpr q9) (by omega))
                            refine lv_iconst (v := 1) hx hb dX12_operand_169 (by decide +kernel) ?_
                            have hz_2345 : (1 : Int32).toInt = 1 := by decide +kernel
                            have hz_2346 : (1 : Int32).toInt = 1 := by decide +kernel
                            have hz_2347 : (1 : Int32).toInt = 1 := by decide +kernel
                            have hz_2348 : (1 : Int32).toInt = 1 := by decide +kernel
                            have hz_2349 : (1 : Int32).toInt = 1 := by decide +kernel
                            have hz_2350 : (1 : Int32).toInt = 1 := by decide +kernel
                            have hz_2351 : (1 : Int32).toInt = 1 := by decide +kernel
                            have hz_2352 : (1 : Int32).toInt = 1 := by decide +kernel
                            refine W.widen (k := 0) (n := 0) (Nat.le_of_ble_eq_true rfl) (Nat.le_of_ble_eq_true rfl) ?_
                            rw [hQ9]
                            exact dg_iret hx hb hr hlocks (by decide +kernel) hP hS ⟨I_2341, M_2341, (by decide +kernel), ⟨y_2342, y_2343, y_2344, y_3, y_2333, dp, om, f_y_2342, f_y_2343, f_y_2344, (((m_2341.1 0 8 _ sM_0 (dk_dq rfl)).trans ((dg_uf_F e_2337 0 8).trans ((m_2330.1 0 8 _ sM_0 (dk_dq rfl)).trans (dg_uf_F e_796 0 8)))).trans f_y_3), (((m_2341.1 0 34 _ sM_0 (dk_dq rfl)).trans (dg_uf_F e_2337 0 34)).trans f_y_2333), (((m_2341.1 0 42 _ sM_0 (dk_dq rfl)).trans ((dg_uf_F e_2337 0 42).trans ((m_2330.1 0 42 _ sM_0 (dk_dq rfl)).trans ((dg_uf_F e_796 0 42).trans (m_2.1 0 42 _ sM_0 (dk_dq rfl)))))).trans f_dp), (((m_2341.1 0 45 _ sM_0 (dk_dq rfl)).trans ((dg_uf_F e_2337 0 45).trans ((m_2330.1 0 45 _ sM_0 (dk_dq rfl)).trans ((dg_uf_F e_796 0 45).trans (m_2.1 0 45 _ sM_0 (dk_dq rfl)))))).trans f_om), (by omega)⟩, (fun k9 hk9 hk0 => ⟨fun _ => (P1M.keep P1_2337 m_2341 (dk_dq rfl) (dk_dq rfl) (dk_dq rfl) (dk_dq rfl) (dk_dq rfl) (dk_dq rfl) (dk_dq rfl) (dk_dq rfl) (dk_dq rfl) (dk_dq rfl) (dk_dq rfl) (dk_dq rfl) (dk_dq rfl) (dk_dq rfl) (dk_dq rfl)), fun h9 => absurd h9 (by decide +kernel)⟩), (OPK.ok f_sa (((m_2341.1 0 8 _ sM_0 (dk_dq rfl)).trans ((dg_uf_F e_2337 0 8).trans ((m_2330.1 0 8 _ sM_0 (dk_dq rfl)).trans (dg_uf_F e_796 0 8)))).trans f_y_3) f_y_2343 (by omega) hM0 (TFM.keep TF_2337 m_2341 (dk_dq rfl) (dk_dq rfl) (dk_dq rfl) (dk_dq rfl) (dk_dq rfl) (dk_dq rfl) (dk_dq rfl) (dk_dq rfl)) (m_st_f.trans (m_opd_all (hft.out (by omega)).1 (hft.out (by omega)).2 qw_2325_1)) (by omega) (by decide +kernel)), (OPN.ok f_sa f_y_2343 hN0 (TFM.keep TF_2337 m_2341 (dk_dq rfl) (dk_dq rfl) (dk_dq rfl) (dk_dq rfl) (dk_dq rfl) (dk_dq rfl) (dk_dq rfl) (dk_dq rfl)) (XFM.keep (XFM.keep (XFM.keep (XFM.keep XF0 (dg_sm.uf (WF := []) (WA := [24]) dg_sm.rf e_796 sM_24 (dk_dq rfl)) (dk_dq rfl) (dk_dq rfl) (dk_dq rfl) (dk_dq rfl) (dk_dq rfl)) m_2330 (dk_dq rfl) (dk_dq rfl) (dk_dq rfl) (dk_dq rfl) (dk_dq rfl)) (dg_sm.uf (WF := []) (WA := [23]) dg_sm.rf e_2337 sM_23 (dk_dq rfl)) (dk_dq rfl) (dk_dq rfl) (dk_dq rfl) (dk_dq rfl) (dk_dq rfl)) m_2341 (dk_dq rfl) (dk_dq rfl) (dk_dq rfl) (dk_dq rfl) (dk_dq rfl)) (q_am.mv qa_2330 ((m_2341.1 0 34 _ sM_0 (dk_dq rfl)).trans (dg_uf_F e_2337 0 34)) ((m_2341.1 0 35 _ sM_0 (dk_dq rfl)).trans (dg_uf_F e_2337 0 35)) ((m_2341.2 18 _ sM_18 (dk_dq rfl)).1.trans (dg_uf_ne e_2337 (dk_dq rfl))) ((m_2341.2 19 _ sM_19 (dk_dq rfl)).1.trans (dg_uf_ne e_2337 (dk_dq rfl)))) (fun out => (n_opd_all (hft.out (by omega)).1 (hft.out (by omega)).2 qw_2325_1)) (by omega) (by decide +kernel)), TK_2341, (ZWM.keep (ZWM.keep w_2330_3 (dg_sm.uf (WF := []) (WA := [23]) dg_sm.rf e_2337 sM_23 (dk_dq rfl)) (dk_dq rfl) (dk_dq rfl) (dk_dq rfl) (dk_dq rfl)) m_2341 (dk_dq rfl) (dk_dq rfl) (dk_dq rfl) (dk_dq rfl)), (G8M.keep (G8M.keep w_2330_4 (dg_sm.uf (WF := []) (WA := [23]) dg_sm.rf e_2337 sM_23 (dk_dq rfl)) (dk_dq rfl) (dk_dq rfl) (dk_dq rfl)) m_2341 (dk_dq rfl) (dk_dq rfl) (dk_dq rfl)), trivial⟩ dX12_operand_170
              refine lv_if_eq (tgt := 137) hx hb dX12_operand_118 (dk_dq rfl) (fun c_2353 => ?_) (fun c_2353 => ?_)
              · have jc_2353 := dk_eqc (k := 0) (by decide +kernel) c_2353
                exact J_1144 ()  (m_hid.mk (fun q9 => by exfalso; omega)) _ _ hP hS _ (lv_sub hl [0, 1, 2] rfl)
              · as_aux_lemma =>
                  have jc_2353 := dk_neqc (k := 0) (by decide +kernel) c_2353
                  have jbc_2353 : 1 ≤ (x_14).toInt := by omega
                  clear jc_2353
                  refine lv_aload_n hx hb dX12_operand_121 rfl (lv_at hl 2 rfl) ?_
                  refine lv_bipush (v := 91) hx hb dX12_operand_122 (by decide +kernel) ?_
                  refine dg_calli hS hA1 hA (va_runV (As := [.int 91]) (rest := []) F (c_m_isSign l g D o S_796 91 sg (((dg_uf_F e_796 0 3).trans (m_2.1 0 3 _ sM_0 (dk_dq rfl))).trans f_sg) (by omega) va (((dg_uf_F e_796 0 6).trans (m_2.1 0 6 _ sM_0 (dk_dq rfl))).trans f_va) (by omega) I_796 H.size) (cwV 1 hts (bw_V wB_314 wB_315 wB_316 wB_297 wB_313) rfl rfl rfl (by decide +kernel) ⟨Nat.le_of_ble_eq_true rfl, Nat.le_of_ble_eq_true rfl⟩) (dg_preV sM_0 rfl K ST hP hS hA1 hA) rfl rfl hl.1 rfl (lv_room (Nat.le_of_ble_eq_true rfl)) dX12_operand_124 ⟨Nat.le_of_ble_eq_true rfl, Nat.le_of_ble_eq_true rfl⟩) (fun x_2354 S_2355 hw_2355 H locs hP hS => ?_)
                  rw [hw_2355.1] at hP
                  obtain ⟨hq_2355, w_2355_0, w_2355_1, -⟩ := hw_2355
                  have hz_2356 : (91 : Int32).toInt = 91 := by decide +kernel
                  have w_2355_0 : 0 ≤ (x_2354).toInt ∧ (x_2354).toInt ≤ 1 := w_2355_0
                  have w_2355_1 : (x_2354).toInt = 1 ↔ ((sg).toInt = 3 ∧ (va).toInt = ((91 : Int32)).toInt) := w_2355_1
                  refine lv_if_eq (tgt := 137) hx hb dX12_operand_127 (dk_dq rfl) (fun c_2357 => ?_) (fun c_2357 => ?_)
                  · have jc_2357 := dk_eqc (k := 0) (by decide +kernel) c_2357
                    have qw_2355_1 : g_s (T_kd tb tn) (T_vl tb tn) 91 (t_ix tb tn (sa : Int32).toNatClampNeg) = false := g_iff_f (TKM.iss (TKM.keep (TKM.keep TK m_2 (dk_dq rfl) (dk_dq rfl) (dk_dq rfl) (dk_dq rfl) (dk_dq rfl) (dk_dq rfl) (dk_dq rfl) (dk_dq rfl)) (dg_sm.uf (WF := []) (WA := [24]) dg_sm.rf e_796 sM_24 (dk_dq rfl)) (dk_dq rfl) (dk_dq rfl) (dk_dq rfl) (dk_dq rfl) (dk_dq rfl) (dk_dq rfl) (dk_dq rfl) (dk_dq rfl)) (((dg_uf_F e_796 0 3).trans (m_2.1 0 3 _ sM_0 (dk_dq rfl))).trans f_sg) (((dg_uf_F e_796 0 4).trans (m_2.1 0 4 _ sM_0 (dk_dq rfl))).trans f_sa) (((dg_uf_F e_796 0 6).trans (m_2.1 0 6 _ sM_0 (dk_dq rfl))).trans f_va) hk5.out (c := 91) (by have h9 := w_2355_1; rw [show (91 : Int32).toInt = 91 from by decide +kernel] at h9; exact h9)) (by omega)
                    clear w_2355_1
                    exact J_1144 ()  (m_hid.mk (fun q9 => ⟨h110.out q9, qw_2355_1⟩)) _ _ hP hS _ (lv_sub hl [0, 1, 2] rfl)
                  · as_aux_lemma =>
                      have jc_2357 := dk_neqc (k := 0) (by decide +kernel) c_2357
                      have jbc_2357 : 1 ≤ (x_2354).toInt := by omega
                      clear jc_2357
                      have qw_2355_1 : g_s (T_kd tb tn) (T_vl tb tn) 91 (t_ix tb tn (sa : Int32).toNatClampNeg) = true := (TKM.iss (TKM.keep (TKM.keep TK m_2 (dk_dq rfl) (dk_dq rfl) (dk_dq rfl) (dk_dq rfl) (dk_dq rfl) (dk_dq rfl) (dk_dq rfl) (dk_dq rfl)) (dg_sm.uf (WF := []) (WA := [24]) dg_sm.rf e_796 sM_24 (dk_dq rfl)) (dk_dq rfl) (dk_dq rfl) (dk_dq rfl) (dk_dq rfl) (dk_dq rfl) (dk_dq rfl) (dk_dq rfl) (dk_dq rfl)) (((dg_uf_F e_796 0 3).trans (m_2.1 0 3 _ sM_0 (dk_dq rfl))).trans f_sg) (((dg_uf_F e_796 0 4).trans (m_2.1 0 4 _ sM_0 (dk_dq rfl))).trans f_sa) (((dg_uf_F e_796 0 6).trans (m_2.1 0 6 _ sM_0 (dk_dq rfl))).trans f_va) hk5.out (c := 91) (by have h9 := w_2355_1; rw [show (91 : Int32).toInt = 91 from by decide +kernel] at h9; exact h9)).mp (by omega)
                      have w_2355_1_r := w_2355_1.mp (by omega)
                      obtain ⟨w_2355_1_r1, w_2355_1_r2⟩ := w_2355_1_r
                      clear w_2355_1
                      have hlx_2r := hlx_2 (by omega)
                      clear hlx_2
                      refine lv_aload_n hx hb dX12_operand_130 rfl (lv_at hl 2 rfl) ?_
                      refine lv_iconst (v := 5) hx hb dX12_operand_131 (by decide +kernel) ?_
                      have hz_2358 : (5 : Int32).toInt = 5 := by decide +kernel
                      refine dg_callv hS hA1 hA (va_runV (As := [.int 5]) (rest := []) F (c_m_frames l g D o S_796 5 (by decide +kernel) tb tn sg (((dg_uf_F e_796 0 3).trans (m_2.1 0 3 _ sM_0 (dk_dq rfl))).trans f_sg) (by omega) sa (((dg_uf_F e_796 0 4).trans (m_2.1 0 4 _ sM_0 (dk_dq rfl))).trans f_sa) (by omega) se (((dg_uf_F e_796 0 5).trans (m_2.1 0 5 _ sM_0 (dk_dq rfl))).trans f_se) (by omega) sl (((dg_uf_F e_796 0 2).trans (m_2.1 0 2 _ sM_0 (dk_dq rfl))).trans f_sl) (by omega) y_3 ((dg_uf_F e_796 0 8).trans f_y_3) (by omega) dp (((dg_uf_F e_796 0 42).trans (m_2.1 0 42 _ sM_0 (dk_dq rfl))).trans f_dp) (by omega) om (((dg_uf_F e_796 0 45).trans (m_2.1 0 45 _ sM_0 (dk_dq rfl))).trans f_om) (by omega) on (((dg_uf_F e_796 0 43).trans (m_2.1 0 43 _ sM_0 (dk_dq rfl))).trans f_on) (by omega) (by omega) (by omega) (TKM.keep (TKM.keep TK m_2 (dk_dq rfl) (dk_dq rfl) (dk_dq rfl) (dk_dq rfl) (dk_dq rfl) (dk_dq rfl) (dk_dq rfl) (dk_dq rfl)) (dg_sm.uf (WF := []) (WA := [24]) dg_sm.rf e_796 sM_24 (dk_dq rfl)) (dk_dq rfl) (dk_dq rfl) (dk_dq rfl) (dk_dq rfl) (dk_dq rfl) (dk_dq rfl) (dk_dq rfl) (dk_dq rfl)) I_796 H.size) (cwV 1 hts (bw_V wB_431 wB_432 wB_433 wB_297 wB_430) rfl rfl rfl (by decide +kernel) ⟨Nat.le_of_ble_eq_true rfl, Nat.le_of_ble_eq_true rfl⟩) (dg_preV sM_0 rfl K ST hP hS hA1 hA) rfl rfl hl.1 rfl (lv_room (Nat.le_of_ble_eq_true rfl)) dX12_operand_132 ⟨Nat.le_of_ble_eq_true rfl, Nat.le_of_ble_eq_true rfl⟩) (fun S_2359 hw_2359 H locs hP hS => ?_)
                      obtain ⟨I_2359, m_2359, w_2359_0, w_2359_1, w_2359_2, -⟩ := hw_2359
                      have M_2359 := dg_sm.tr M_796 m_2359 (dk_dq rfl) (dk_dq rfl)
                      have hz_2360 : (5 : Int32).toInt = 5 := by decide +kernel
                      obtain ⟨y_2361, y_2362, y_2363, y_2364, y_2365, f_y_2361, f_y_2362, f_y_2363, f_y_2364, f_y_2365, w_2359_0⟩ := w_2359_0
                      have w_2359_0 : (((y_2362).toInt ≤ (y_2363).toInt ∧ (y_2363).toInt ≤ (sl).toInt ∧ ((y_2361).toInt ≠ 0 → (y_2362).toInt + 1 ≤ (y_2363).toInt)) ∧ (sa).toInt ≤ (y_2362).toInt ∧ ((y_3).toInt ≠ 0 → (y_2364).toInt ≠ 0) ∧ (((y_2364).toInt = 0 → ((sa).toInt + 1 ≤ (y_2362).toInt ∧ (y_2365).toInt = (dp).toInt + 1)))) ∧ m_hid ((y_3).toInt = 0 → (((y_2364).toInt = 0 → (t_ix tb tn (y_2362 : Int32).toNatClampNeg) = (t_ix tb tn (sa : Int32).toNatClampNeg) + 1) ∧ ((y_2364).toInt ≠ 0 → (on).toInt = 7))) := w_2359_0
                      obtain ⟨⟨⟨w_2359_0_0, w_2359_0_1, w_2359_0_2⟩, w_2359_0_3, w_2359_0_4, w_2359_0_5⟩, w_2359_0_6⟩ := w_2359_0
                      clear w_2359_0_4
                      have b_y_2361 : 0 ≤ (y_2361).toInt ∧ (y_2361).toInt ≤ 3 := dg_I.intb (lo := 0) (hi := 3) I_2359 sM_0 (by decide +kernel) f_y_2361
                      have b_y_2362 : 0 ≤ (y_2362).toInt ∧ (y_2362).toInt ≤ 1600 := dg_I.intb (lo := 0) (hi := 1600) I_2359 sM_0 (by decide +kernel) f_y_2362
                      have b_y_2363 : 0 ≤ (y_2363).toInt ∧ (y_2363).toInt ≤ 1600 := dg_I.intb (lo := 0) (hi := 1600) I_2359 sM_0 (by decide +kernel) f_y_2363
                      have b_y_2364 : 0 ≤ (y_2364).toInt ∧ (y_2364).toInt ≤ 6 := dg_I.intb (lo := 0) (hi := 6) I_2359 sM_0 (by decide +kernel) f_y_2364
                      have b_y_2365 : 0 ≤ (y_2365).toInt ∧ (y_2365).toInt ≤ 20 := dg_I.intb (lo := 0) (hi := 20) I_2359 sM_0 (by decide +kernel) f_y_2365
                      replace w_2359_1 : ∀ k9 : Int32, S_2359.1 0 8 = .int k9 → k9.toInt = 0 → FRM S_796 S_2359 (5 : Int32) := w_2359_1
                      refine lv_iconst (v := 0) hx hb dX12_operand_135 (by decide +kernel) ?_
                      have hz_2366 : (0 : Int32).toInt = 0 := by decide +kernel
                      have hz_2367 : (0 : Int32).toInt = 0 := by decide +kernel
                      have hz_2368 : (0 : Int32).toInt = 0 := by decide +kernel
                      have hz_2369 : (0 : Int32).toInt = 0 := by decide +kernel
                      have hz_2370 : (0 : Int32).toInt = 0 := by decide +kernel
                      have hz_2371 : (0 : Int32).toInt = 0 := by decide +kernel
                      have hz_2372 : (0 : Int32).toInt = 0 := by decide +kernel
                      have hz_2373 : (0 : Int32).toInt = 0 := by decide +kernel
                      obtain ⟨x_2374, f_x_2374, b_x_2374⟩ := dg_I.int (i := 0) (k := 35) (lo := 0) (hi := 1) I sM_0 (by decide +kernel)
                      refine W.widen (k := 0) (n := 0) (Nat.le_of_ble_eq_true rfl) (Nat.le_of_ble_eq_true rfl) ?_
                      rw [hQ9]
                      exact dg_iret hx hb hr hlocks (by decide +kernel) hP hS ⟨I_2359, M_2359, (by decide +kernel), ⟨y_2361, y_2362, y_2363, y_2364, cd, y_2365, om, f_y_2361, f_y_2362, f_y_2363, f_y_2364, (((m_2359.1 0 34 _ sM_0 (dk_dq rfl)).trans ((dg_uf_F e_796 0 34).trans (m_2.1 0 34 _ sM_0 (dk_dq rfl)))).trans f_cd), f_y_2365, (((m_2359.1 0 45 _ sM_0 (dk_dq rfl)).trans ((dg_uf_F e_796 0 45).trans (m_2.1 0 45 _ sM_0 (dk_dq rfl)))).trans f_om), (by omega)⟩, (fun k9 hk9 hk0 => ⟨fun h9 => absurd h9 (by decide +kernel), fun _ => by first | (exact PBM.opens PB_796 (((dg_uf_F e_796 0 42).trans (m_2.1 0 42 _ sM_0 (dk_dq rfl))).trans f_dp) (((dg_uf_F e_796 0 43).trans (m_2.1 0 43 _ sM_0 (dk_dq rfl))).trans f_on) (((dg_uf_F e_796 0 45).trans (m_2.1 0 45 _ sM_0 (dk_dq rfl))).trans f_om) (w_2359_1 k9 hk9 hk0) m_2359 (dk_dq rfl) (dk_dq rfl) (dk_dq rfl) (dk_dq rfl) (by omega)) | (have q9 := (f_y_2364).symm.trans hk9; cases q9; omega)⟩), (OPK.fr f_sa f_y_2364 f_y_2362 hM0 TF_796 (((dg_uf_F e_796 0 42).trans (m_2.1 0 42 _ sM_0 (dk_dq rfl))).trans f_dp) (((dg_uf_F e_796 0 43).trans (m_2.1 0 43 _ sM_0 (dk_dq rfl))).trans f_on) (((dg_uf_F e_796 0 45).trans (m_2.1 0 45 _ sM_0 (dk_dq rfl))).trans f_om) (by omega) (by omega) m_2359 (dk_dq rfl) (dk_dq rfl) w_2359_1 (by rw [show (5 : Int32).toInt = 5 from by decide +kernel]; exact m_st_f.trans (m_opd_br (hft.out (by omega)).1 (hft.out (by omega)).2 qw_2355_1)) (fun q9 => (w_2359_0_6.out (by omega)).1 q9) (fun q9 => by have h9 := (w_2359_0_6.out (by omega)).2 q9; have h8 := dk_clN on; omega) (by decide +kernel)), (OPN.fr (v := 0) f_sa f_y_2364 f_y_2362 hN0 TF_796 (XFM.keep XF0 (dg_sm.uf (WF := []) (WA := [24]) dg_sm.rf e_796 sM_24 (dk_dq rfl)) (dk_dq rfl) (dk_dq rfl) (dk_dq rfl) (dk_dq rfl) (dk_dq rfl)) (((dg_uf_F e_796 0 42).trans (m_2.1 0 42 _ sM_0 (dk_dq rfl))).trans f_dp) (((dg_uf_F e_796 0 43).trans (m_2.1 0 43 _ sM_0 (dk_dq rfl))).trans f_on) (((dg_uf_F e_796 0 45).trans (m_2.1 0 45 _ sM_0 (dk_dq rfl))).trans f_om) (by omega) (by omega) m_2359 (dk_dq rfl) (dk_dq rfl) (dk_dq rfl) w_2359_1 (q_am.mv (q_am.z f_x_2374 f_cd (by omega) (by omega)) ((m_2359.1 0 34 _ sM_0 (dk_dq rfl)).trans ((dg_uf_F e_796 0 34).trans (m_2.1 0 34 _ sM_0 (dk_dq rfl)))) ((m_2359.1 0 35 _ sM_0 (dk_dq rfl)).trans ((dg_uf_F e_796 0 35).trans (m_2.1 0 35 _ sM_0 (dk_dq rfl)))) ((m_2359.2 18 _ sM_18 (dk_dq rfl)).1.trans ((dg_uf_ne e_796 (dk_dq rfl)).trans (m_2.2 18 _ sM_18 (dk_dq rfl)).1)) ((m_2359.2 19 _ sM_19 (dk_dq rfl)).1.trans ((dg_uf_ne e_796 (dk_dq rfl)).trans (m_2.2 19 _ sM_19 (dk_dq rfl)).1))) (fun out => by rw [show (5 : Int32).toInt = 5 from by decide +kernel]; exact (n_opd_br (hft.out (by omega)).1 (hft.out (by omega)).2 qw_2355_1)) (fun z9 => by rw [show (5 : Int32).toInt = 5 from by decide +kernel]; rfl) (fun q9 => (w_2359_0_6.out (by omega)).1 q9) (by decide +kernel)), w_2359_2, (ZWM.keep (ZWM.keep (ZWM.keep ZW m_2 (dk_dq rfl) (dk_dq rfl) (dk_dq rfl) (dk_dq rfl)) (dg_sm.uf (WF := []) (WA := [24]) dg_sm.rf e_796 sM_24 (dk_dq rfl)) (dk_dq rfl) (dk_dq rfl) (dk_dq rfl) (dk_dq rfl)) m_2359 (dk_dq rfl) (dk_dq rfl) (dk_dq rfl) (dk_dq rfl)), (G8M.keep (G8M.keep (G8M.keep G8 m_2 (dk_dq rfl) (dk_dq rfl) (dk_dq rfl)) (dg_sm.uf (WF := []) (WA := [24]) dg_sm.rf e_796 sM_24 (dk_dq rfl)) (dk_dq rfl) (dk_dq rfl) (dk_dq rfl)) m_2359 (dk_dq rfl) (dk_dq rfl) (dk_dq rfl)), trivial⟩ dX12_operand_136
          refine lv_if_eq (tgt := 110) hx hb dX12_operand_48 (dk_dq rfl) (fun c_2375 => ?_) (fun c_2375 => ?_)
          · have jc_2375 := dk_eqc (k := 0) (by decide +kernel) c_2375
            clear rel_0
            exact J_794 ()  (m_hid.mk (fun q9 => by exfalso; omega)) _ _ hP hS _ (lv_sub hl [0, 1, 2] rfl)
          · as_aux_lemma =>
              have jc_2375 := dk_neqc (k := 0) (by decide +kernel) c_2375
              have jbc_2375 : 1 ≤ (x_14).toInt := by omega
              clear jc_2375
              have rel_0r := rel_0 (by omega)
              clear rel_0
              obtain ⟨rel_0r_0, rel_0r_1⟩ := rel_0r
              refine lv_aload_n hx hb dX12_operand_51 rfl (lv_at hl 2 rfl) ?_
              refine lv_ldc2 hx hb hown (hts _ (bw_mem wB_348)) dX12_operand_52 ?_
              refine dg_calli hS hA1 hA (va_runV (As := [.long 7237492]) (rest := []) F (c_m_isWord l g D o S_2 7237492 sg ((m_2.1 0 3 _ sM_0 (dk_dq rfl)).trans f_sg) (by omega) I_2 H.size) (cwV 1 hts (bw_V wB_322 wB_323 wB_324 wB_297 wB_321) rfl rfl rfl (by decide +kernel) ⟨Nat.le_of_ble_eq_true rfl, Nat.le_of_ble_eq_true rfl⟩) (dg_preV sM_0 rfl K ST hP hS hA1 hA) rfl rfl hl.1 rfl (lv_room (Nat.le_of_ble_eq_true rfl)) dX12_operand_55 ⟨Nat.le_of_ble_eq_true rfl, Nat.le_of_ble_eq_true rfl⟩) (fun x_2376 S_2377 hw_2377 H locs hP hS => ?_)
              rw [hw_2377.1] at hP
              obtain ⟨hq_2377, w_2377_0, w_2377_1, -⟩ := hw_2377
              try rw [hq_2377] at w_2377_1
              have w_2377_0 : 0 ≤ (x_2376).toInt ∧ (x_2376).toInt ≤ 1 := w_2377_0
              replace w_2377_1 : ∀ w9 : Int64, S_2.1 0 7 = .long w9 → ((x_2376).toInt = 1 ↔ ((sg).toInt = 1 ∧ w9.toInt = ((7237492 : Int64)).toInt)) := w_2377_1
              refine lv_if_eq (tgt := 110) hx hb dX12_operand_58 (dk_dq rfl) (fun c_2378 => ?_) (fun c_2378 => ?_)
              · have jc_2378 := dk_eqc (k := 0) (by decide +kernel) c_2378
                have qw_2377_1 : g_o (T_kd tb tn) (T_vl tb tn) 23 (t_ix tb tn (sa : Int32).toNatClampNeg) = false := g_iff_f (TKM.isw (TKM.keep TK m_2 (dk_dq rfl) (dk_dq rfl) (dk_dq rfl) (dk_dq rfl) (dk_dq rfl) (dk_dq rfl) (dk_dq rfl) (dk_dq rfl)) ((m_2.1 0 3 _ sM_0 (dk_dq rfl)).trans f_sg) ((m_2.1 0 4 _ sM_0 (dk_dq rfl)).trans f_sa) hk5.out (j := 23) (C := 7237492) (dk_dq rfl) (by decide +kernel) w_2377_1) (by omega)
                clear w_2377_1
                exact J_794 ()  (m_hid.mk (fun _ => qw_2377_1)) _ _ hP hS _ (lv_sub hl [0, 1, 2] rfl)
              · as_aux_lemma =>
                  have jc_2378 := dk_neqc (k := 0) (by decide +kernel) c_2378
                  have jbc_2378 : 1 ≤ (x_2376).toInt := by omega
                  clear jc_2378
                  have qw_2377_1 : g_o (T_kd tb tn) (T_vl tb tn) 23 (t_ix tb tn (sa : Int32).toNatClampNeg) = true := (TKM.isw (TKM.keep TK m_2 (dk_dq rfl) (dk_dq rfl) (dk_dq rfl) (dk_dq rfl) (dk_dq rfl) (dk_dq rfl) (dk_dq rfl) (dk_dq rfl)) ((m_2.1 0 3 _ sM_0 (dk_dq rfl)).trans f_sg) ((m_2.1 0 4 _ sM_0 (dk_dq rfl)).trans f_sa) hk5.out (j := 23) (C := 7237492) (dk_dq rfl) (by decide +kernel) w_2377_1).mp (by omega)
                  obtain ⟨x_2379, f_x_2379⟩ := dg_I.long (i := 0) (k := 7) I_2 sM_0 (by decide +kernel)
                  have w_2377_1_r : (sg).toInt = 1 := by obtain ⟨w9, hw9⟩ : ∃ w9, S_2.1 0 7 = .long w9 := ⟨_, f_x_2379⟩; exact ((w_2377_1 w9 hw9).mp (by omega)).1
                  clear w_2377_1
                  have hlx_2r := hlx_2 (by omega)
                  clear hlx_2
                  refine lv_aload_n hx hb dX12_operand_61 rfl (lv_at hl 2 rfl) ?_
                  refine dg_get (C := RX12) (T := TX12) (N := 77) hx hb hts (fun w h => bw_mem (wU_X12 w h)) hown K hP sM_0 rfl 43 (dk_dq rfl) (hts _ (bw_mem wB_415)) (fun _ h9 => h9) (v := .int on) ((m_2.1 0 43 _ sM_0 (dk_dq rfl)).trans f_on) dX12_operand_62 ?_
                  refine lv_bipush (v := 7) hx hb dX12_operand_65 (by decide +kernel) ?_
                  refine lv_icmp_ne (tgt := 79) hx hb dX12_operand_67 (dk_dq rfl) (fun c_2380 => ?_) (fun c_2380 => ?_)
                  · as_aux_lemma =>
                      have jc_2380 := dk_neqc (k := 7) (by decide +kernel) c_2380
                      have jtc_2380 : (on).toInt ≤ 6 := by omega
                      clear jc_2380
                      refine lv_aload_n hx hb dX12_operand_79 rfl (lv_at hl 2 rfl) ?_
                      refine dg_get (C := RX12) (T := TX12) (N := 77) hx hb hts (fun w h => bw_mem (wU_X12 w h)) hown K hP sM_0 rfl 8 (dk_dq rfl) (hts _ (bw_mem wB_303)) (fun _ h9 => h9) (v := .int y_3) f_y_3 dX12_operand_80 ?_
                      refine lv_if_le (tgt := 88) hx hb dX12_operand_83 (dk_dq rfl) (fun _ => ?_) (fun c => absurd (dk_lep (k := 0) (by decide +kernel) (by omega)) c)
                      refine lv_aload_n hx hb dX12_operand_88 rfl (lv_at hl 2 rfl) ?_
                      refine lv_dup hx hb dX12_operand_89 rfl ?_
                      refine dg_get (C := RX12) (T := TX12) (N := 77) hx hb hts (fun w h => bw_mem (wU_X12 w h)) hown K hP sM_0 rfl 43 (dk_dq rfl) (hts _ (bw_mem wB_415)) (fun _ h9 => h9) (v := .int on) ((m_2.1 0 43 _ sM_0 (dk_dq rfl)).trans f_on) dX12_operand_90 ?_
                      refine lv_iconst (v := 1) hx hb dX12_operand_93 (by decide +kernel) ?_
                      refine lv_iadd hx hb dX12_operand_94 ?_
                      refine lv_topi (fun x_2381 ex_2381 => ?_)
                      have jx_2381 : (x_2381).toInt = (on).toInt + 1 := by rw [ex_2381]; exact dk_addT2 rfl (by decide +kernel) (by omega)
                      refine dg_put (ci := 12) (v := .int x_2381) (ty := tyX12 43) (C := RX12) (T := TX12) (N := 77) hx hb hts (fun w h => bw_mem (wU_X12 w h)) tyX12 tyX12_ok nmX12 hown K hP hS hA1 sM_0 rfl 43 (dk_dq rfl) (hts _ (bw_mem wB_415)) (fun _ h9 => h9) rfl (by decide +kernel) rfl rfl dX12_operand_95 (fun S_2382 e_2382 H locs hP hS => ?_)
                      have I_2382 := dg_I.uFi (lo := (-2147483648)) (hi := 2147483647) I_2 e_2382 sM_0 (by decide +kernel) (show (-2147483648) ≤ (x_2381).toInt ∧ (x_2381).toInt ≤ 2147483647 from (dk_full _))
                      have M_2382 := dg_sm.uF M_2 e_2382 sM_0 (dk_dq rfl)
                      have TF_2382 : TFM (x_7).toInt (x_405).toInt bg0 nt0 R0 ((on).toNatClampNeg + 1) S_2382 := TFM.opp TF0 ((m_2.1 0 43 _ sM_0 (dk_dq rfl)).trans f_on) e_2382 (by omega) (by omega)
                      refine lv_aload_n hx hb dX12_operand_98 rfl (lv_at hl 2 rfl) ?_
                      refine lv_bipush (v := 43) hx hb dX12_operand_99 (by decide +kernel) ?_
                      refine dg_callv hS hA1 hA (va_runV (As := [.int 43]) (rest := []) F (c_m_holdsBack l g D o S_2382 43 om (((dg_uF_ne e_2382 (fun z => absurd z.2 (dk_dq rfl))).trans (m_2.1 0 45 _ sM_0 (dk_dq rfl))).trans f_om) (by omega) I_2382 H.size) (cwV 1 hts (bw_V wB_427 wB_428 wB_429 wB_297 wB_426) rfl rfl rfl (by decide +kernel) ⟨Nat.le_of_ble_eq_true rfl, Nat.le_of_ble_eq_true rfl⟩) (dg_preV sM_0 rfl K ST hP hS hA1 hA) rfl rfl hl.1 rfl (lv_room (Nat.le_of_ble_eq_true rfl)) dX12_operand_101 ⟨Nat.le_of_ble_eq_true rfl, Nat.le_of_ble_eq_true rfl⟩) (fun S_2383 hw_2383 H locs hP hS => ?_)
                      obtain ⟨I_2383, m_2383, w_2383_0, w_2383_1, -⟩ := hw_2383
                      have M_2383 := dg_sm.tr M_2382 m_2383 (dk_dq rfl) (dk_dq rfl)
                      have hz_2384 : (43 : Int32).toInt = 43 := by decide +kernel
                      obtain ⟨y_2385, f_y_2385, w_2383_0⟩ := w_2383_0
                      have w_2383_0 : (y_2385).toInt = (om).toInt + 1 := w_2383_0
                      have b_y_2385 : 0 ≤ (y_2385).toInt ∧ (y_2385).toInt ≤ 500 := dg_I.intb (lo := 0) (hi := 500) I_2383 sM_0 (by decide +kernel) f_y_2385
                      replace w_2383_1 : HBM S_2382 S_2383 (43 : Int32) := w_2383_1
                      have hz_2386 : (43 : Int32).toInt = 43 := by decide +kernel
                      have XF_2383 : XFM (43 :: l0) p0 X0 S_2383 := (by have h9 := XFM.hb (XFM.keep XF0 (dg_sm.uF (WF := [(0, 43)]) (WA := []) dg_sm.rf e_2382 sM_0 (dk_dq rfl)) (dk_dq rfl) (dk_dq rfl) (dk_dq rfl) (dk_dq rfl) (dk_dq rfl)) TF_2382 (((dg_uF_ne e_2382 (fun z => absurd z.2 (dk_dq rfl))).trans (m_2.1 0 42 _ sM_0 (dk_dq rfl))).trans f_dp) (dg_uF_at e_2382) (((dg_uF_ne e_2382 (fun z => absurd z.2 (dk_dq rfl))).trans (m_2.1 0 45 _ sM_0 (dk_dq rfl))).trans f_om) (by omega) m_2383 w_2383_1; rw [show (43 : Int32).toInt = 43 from by decide +kernel] at h9; exact h9)
                      have P0_2383 : P0M S_2383 := P0M.not (P0M.keep P0 m_2 (dk_dq rfl) (dk_dq rfl) (dk_dq rfl) (dk_dq rfl) (dk_dq rfl) (dk_dq rfl) (dk_dq rfl) (dk_dq rfl) (dk_dq rfl) (dk_dq rfl) (dk_dq rfl) (dk_dq rfl) (dk_dq rfl) (dk_dq rfl) (dk_dq rfl)) ((m_2.1 0 42 _ sM_0 (dk_dq rfl)).trans f_dp) ((m_2.1 0 43 _ sM_0 (dk_dq rfl)).trans f_on) ((m_2.1 0 45 _ sM_0 (dk_dq rfl)).trans f_om) (fx := x_5) (by omega) ex_7.symm (by unfold dk_ts; omega) rel_0r_1 (by omega) e_2382 (by omega) m_2383 w_2383_1 (by omega)
                      have hz_2387 : (43 : Int32).toInt = 43 := by decide +kernel
                      have TF_2383 : TFM (x_7).toInt (x_405).toInt bg0 (nt0 + 1) R0 ((on).toNatClampNeg + 1) S_2383 := (by have h9 := TFM.hb TF_2382 (((dg_uF_ne e_2382 (fun z => absurd z.2 (dk_dq rfl))).trans (m_2.1 0 42 _ sM_0 (dk_dq rfl))).trans f_dp) (dg_uF_at e_2382) (((dg_uF_ne e_2382 (fun z => absurd z.2 (dk_dq rfl))).trans (m_2.1 0 45 _ sM_0 (dk_dq rfl))).trans f_om) (by omega) m_2383 w_2383_1; rw [if_pos (by decide +kernel)] at h9; exact h9)
                      refine lv_aload_n hx hb dX12_operand_104 rfl (lv_at hl 2 rfl) ?_
                      refine dg_callv hS hA1 hA (va_runV (As := []) (rest := []) F (c_m_ahead l g D o S_2383 tb tn se (((m_2383.1 0 5 _ sM_0 (dk_dq rfl)).trans ((dg_uF_ne e_2382 (fun z => absurd z.2 (dk_dq rfl))).trans (m_2.1 0 5 _ sM_0 (dk_dq rfl)))).trans f_se) (by omega) sl (((m_2383.1 0 2 _ sM_0 (dk_dq rfl)).trans ((dg_uF_ne e_2382 (fun z => absurd z.2 (dk_dq rfl))).trans (m_2.1 0 2 _ sM_0 (dk_dq rfl)))).trans f_sl) (by omega) (by omega) (TKM.keep (TKM.keep (TKM.keep TK m_2 (dk_dq rfl) (dk_dq rfl) (dk_dq rfl) (dk_dq rfl) (dk_dq rfl) (dk_dq rfl) (dk_dq rfl) (dk_dq rfl)) (dg_sm.uF (WF := [(0, 43)]) (WA := []) dg_sm.rf e_2382 sM_0 (dk_dq rfl)) (dk_dq rfl) (dk_dq rfl) (dk_dq rfl) (dk_dq rfl) (dk_dq rfl) (dk_dq rfl) (dk_dq rfl) (dk_dq rfl)) m_2383 (dk_dq rfl) (dk_dq rfl) (dk_dq rfl) (dk_dq rfl) (dk_dq rfl) (dk_dq rfl) (dk_dq rfl) (dk_dq rfl)).1 I_2383 H.size) (cwV 0 hts (bw_V wB_318 wB_319 wB_320 wB_297 wB_317) rfl rfl rfl (by decide +kernel) ⟨Nat.le_of_ble_eq_true rfl, Nat.le_of_ble_eq_true rfl⟩) (dg_preV sM_0 rfl K ST hP hS hA1 hA) rfl rfl hl.1 rfl (lv_room (Nat.le_of_ble_eq_true rfl)) dX12_operand_105 ⟨Nat.le_of_ble_eq_true rfl, Nat.le_of_ble_eq_true rfl⟩) (fun S_2388 hw_2388 H locs hP hS => ?_)
                      obtain ⟨I_2388, m_2388, w_2388_0, w_2388_1, -⟩ := hw_2388
                      have M_2388 := dg_sm.tr M_2383 m_2388 (dk_dq rfl) (dk_dq rfl)
                      obtain ⟨y_2389, y_2390, y_2391, f_y_2389, f_y_2390, f_y_2391, w_2388_0⟩ := w_2388_0
                      have w_2388_0 : (se).toInt ≤ (y_2390).toInt ∧ (y_2390).toInt ≤ (y_2391).toInt ∧ (y_2391).toInt ≤ (sl).toInt ∧ ((y_2389).toInt ≠ 0 → (y_2390).toInt + 1 ≤ (y_2391).toInt) := w_2388_0
                      obtain ⟨w_2388_0_0, w_2388_0_1, w_2388_0_2, w_2388_0_3⟩ := w_2388_0
                      have b_y_2389 : 0 ≤ (y_2389).toInt ∧ (y_2389).toInt ≤ 3 := dg_I.intb (lo := 0) (hi := 3) I_2388 sM_0 (by decide +kernel) f_y_2389
                      have b_y_2390 : 0 ≤ (y_2390).toInt ∧ (y_2390).toInt ≤ 1600 := dg_I.intb (lo := 0) (hi := 1600) I_2388 sM_0 (by decide +kernel) f_y_2390
                      have b_y_2391 : 0 ≤ (y_2391).toInt ∧ (y_2391).toInt ≤ 1600 := dg_I.intb (lo := 0) (hi := 1600) I_2388 sM_0 (by decide +kernel) f_y_2391
                      replace w_2388_1 : TNX tb tn se S_2388 := w_2388_1
                      obtain ⟨TK_2388, nx_2388, -⟩ := TKM.nx (TKM.keep (TKM.keep (TKM.keep TK m_2 (dk_dq rfl) (dk_dq rfl) (dk_dq rfl) (dk_dq rfl) (dk_dq rfl) (dk_dq rfl) (dk_dq rfl) (dk_dq rfl)) (dg_sm.uF (WF := [(0, 43)]) (WA := []) dg_sm.rf e_2382 sM_0 (dk_dq rfl)) (dk_dq rfl) (dk_dq rfl) (dk_dq rfl) (dk_dq rfl) (dk_dq rfl) (dk_dq rfl) (dk_dq rfl) (dk_dq rfl)) m_2383 (dk_dq rfl) (dk_dq rfl) (dk_dq rfl) (dk_dq rfl) (dk_dq rfl) (dk_dq rfl) (dk_dq rfl) (dk_dq rfl)) (((m_2383.1 0 4 _ sM_0 (dk_dq rfl)).trans ((dg_uF_ne e_2382 (fun z => absurd z.2 (dk_dq rfl))).trans (m_2.1 0 4 _ sM_0 (dk_dq rfl)))).trans f_sa) (((m_2383.1 0 5 _ sM_0 (dk_dq rfl)).trans ((dg_uF_ne e_2382 (fun z => absurd z.2 (dk_dq rfl))).trans (m_2.1 0 5 _ sM_0 (dk_dq rfl)))).trans f_se) w_2388_1 m_2388 (dk_dq rfl) (dk_dq rfl) f_y_2390
                      replace nx_2388 := nx_2388 (fun q9 => absurd ((TKM.zero (TKM.keep (TKM.keep (TKM.keep TK m_2 (dk_dq rfl) (dk_dq rfl) (dk_dq rfl) (dk_dq rfl) (dk_dq rfl) (dk_dq rfl) (dk_dq rfl) (dk_dq rfl)) (dg_sm.uF (WF := [(0, 43)]) (WA := []) dg_sm.rf e_2382 sM_0 (dk_dq rfl)) (dk_dq rfl) (dk_dq rfl) (dk_dq rfl) (dk_dq rfl) (dk_dq rfl) (dk_dq rfl) (dk_dq rfl) (dk_dq rfl)) m_2383 (dk_dq rfl) (dk_dq rfl) (dk_dq rfl) (dk_dq rfl) (dk_dq rfl) (dk_dq rfl) (dk_dq rfl) (dk_dq rfl)) (((m_2383.1 0 3 _ sM_0 (dk_dq rfl)).trans ((dg_uF_ne e_2382 (fun z => absurd z.2 (dk_dq rfl))).trans (m_2.1 0 3 _ sM_0 (dk_dq rfl)))).trans f_sg) (((m_2383.1 0 4 _ sM_0 (dk_dq rfl)).trans ((dg_uF_ne e_2382 (fun z => absurd z.2 (dk_dq rfl))).trans (m_2.1 0 4 _ sM_0 (dk_dq rfl)))).trans f_sa)).mpr q9) (by omega))
                      refine lv_iconst (v := 0) hx hb dX12_operand_108 (by decide +kernel) ?_
                      have hz_2392 : (0 : Int32).toInt = 0 := by decide +kernel
                      have hz_2393 : (0 : Int32).toInt = 0 := by decide +kernel
                      have hz_2394 : (0 : Int32).toInt = 0 := by decide +kernel
                      have hz_2395 : (0 : Int32).toInt = 0 := by decide +kernel
                      have hz_2396 : (0 : Int32).toInt = 0 := by decide +kernel
                      have hz_2397 : (0 : Int32).toInt = 0 := by decide +kernel
                      have hz_2398 : (0 : Int32).toInt = 0 := by decide +kernel
                      have hz_2399 : (0 : Int32).toInt = 0 := by decide +kernel
                      obtain ⟨x_2400, f_x_2400, b_x_2400⟩ := dg_I.int (i := 0) (k := 35) (lo := 0) (hi := 1) I sM_0 (by decide +kernel)
                      refine W.widen (k := 0) (n := 0) (Nat.le_of_ble_eq_true rfl) (Nat.le_of_ble_eq_true rfl) ?_
                      rw [hQ9]
                      exact dg_iret hx hb hr hlocks (by decide +kernel) hP hS ⟨I_2388, M_2388, (by decide +kernel), ⟨y_2389, y_2390, y_2391, y_3, cd, dp, y_2385, f_y_2389, f_y_2390, f_y_2391, (((m_2388.1 0 8 _ sM_0 (dk_dq rfl)).trans ((m_2383.1 0 8 _ sM_0 (dk_dq rfl)).trans (dg_uF_ne e_2382 (fun z => absurd z.2 (dk_dq rfl))))).trans f_y_3), (((m_2388.1 0 34 _ sM_0 (dk_dq rfl)).trans ((m_2383.1 0 34 _ sM_0 (dk_dq rfl)).trans ((dg_uF_ne e_2382 (fun z => absurd z.2 (dk_dq rfl))).trans (m_2.1 0 34 _ sM_0 (dk_dq rfl))))).trans f_cd), (((m_2388.1 0 42 _ sM_0 (dk_dq rfl)).trans ((m_2383.1 0 42 _ sM_0 (dk_dq rfl)).trans ((dg_uF_ne e_2382 (fun z => absurd z.2 (dk_dq rfl))).trans (m_2.1 0 42 _ sM_0 (dk_dq rfl))))).trans f_dp), ((m_2388.1 0 45 _ sM_0 (dk_dq rfl)).trans f_y_2385), (by omega)⟩, (fun k9 hk9 hk0 => ⟨fun h9 => absurd h9 (by decide +kernel), fun _ => (P0M.keep P0_2383 m_2388 (dk_dq rfl) (dk_dq rfl) (dk_dq rfl) (dk_dq rfl) (dk_dq rfl) (dk_dq rfl) (dk_dq rfl) (dk_dq rfl) (dk_dq rfl) (dk_dq rfl) (dk_dq rfl) (dk_dq rfl) (dk_dq rfl) (dk_dq rfl) (dk_dq rfl))⟩), (OPK.ok f_sa (((m_2388.1 0 8 _ sM_0 (dk_dq rfl)).trans ((m_2383.1 0 8 _ sM_0 (dk_dq rfl)).trans (dg_uF_ne e_2382 (fun z => absurd z.2 (dk_dq rfl))))).trans f_y_3) f_y_2390 (by omega) hM0 (by have h9 := (TFM.keep TF_2383 m_2388 (dk_dq rfl) (dk_dq rfl) (dk_dq rfl) (dk_dq rfl) (dk_dq rfl) (dk_dq rfl) (dk_dq rfl) (dk_dq rfl)); rw [(hft.out (by omega)).2] at h9; exact h9) (m_st_f.trans ((m_opd_not (hft.out (by omega)).1 (hft.out (by omega)).2 qw_2377_1).trans (if_neg (by have h9 := dk_clN on; omega)))) (by omega) (by decide +kernel)), (OPN.ok f_sa f_y_2390 hN0 (by have h9 := (TFM.keep TF_2383 m_2388 (dk_dq rfl) (dk_dq rfl) (dk_dq rfl) (dk_dq rfl) (dk_dq rfl) (dk_dq rfl) (dk_dq rfl) (dk_dq rfl)); rw [(hft.out (by omega)).2] at h9; exact h9) (XFM.keep XF_2383 m_2388 (dk_dq rfl) (dk_dq rfl) (dk_dq rfl) (dk_dq rfl) (dk_dq rfl)) (q_am.mv (q_am.z f_x_2400 f_cd (by omega) (by omega)) ((m_2388.1 0 34 _ sM_0 (dk_dq rfl)).trans ((m_2383.1 0 34 _ sM_0 (dk_dq rfl)).trans ((dg_uF_ne e_2382 (fun z => absurd z.2 (dk_dq rfl))).trans (m_2.1 0 34 _ sM_0 (dk_dq rfl))))) ((m_2388.1 0 35 _ sM_0 (dk_dq rfl)).trans ((m_2383.1 0 35 _ sM_0 (dk_dq rfl)).trans ((dg_uF_ne e_2382 (fun z => absurd z.2 (dk_dq rfl))).trans (m_2.1 0 35 _ sM_0 (dk_dq rfl))))) ((m_2388.2 18 _ sM_18 (dk_dq rfl)).1.trans ((m_2383.2 18 _ sM_18 (dk_dq rfl)).1.trans ((dg_uF_f e_2382 18).trans (m_2.2 18 _ sM_18 (dk_dq rfl)).1))) ((m_2388.2 19 _ sM_19 (dk_dq rfl)).1.trans ((m_2383.2 19 _ sM_19 (dk_dq rfl)).1.trans ((dg_uF_f e_2382 19).trans (m_2.2 19 _ sM_19 (dk_dq rfl)).1)))) (fun out => ((n_opd_not (hft.out (by omega)).1 (hft.out (by omega)).2 qw_2377_1).trans (if_neg (by have h9 := dk_clN on; omega))).trans (by first | rfl | rw [List.append_nil] | (simp only [n_Z, List.append_nil, List.append_assoc]; done))) (by omega) (by decide +kernel)), TK_2388, (ZWM.keep (ZWM.keep (ZWM.keep (ZWM.keep ZW m_2 (dk_dq rfl) (dk_dq rfl) (dk_dq rfl) (dk_dq rfl)) (dg_sm.uF (WF := [(0, 43)]) (WA := []) dg_sm.rf e_2382 sM_0 (dk_dq rfl)) (dk_dq rfl) (dk_dq rfl) (dk_dq rfl) (dk_dq rfl)) m_2383 (dk_dq rfl) (dk_dq rfl) (dk_dq rfl) (dk_dq rfl)) m_2388 (dk_dq rfl) (dk_dq rfl) (dk_dq rfl) (dk_dq rfl)), (G8M.keep (G8M.keep (G8M.keep (G8M.keep G8 m_2 (dk_dq rfl) (dk_dq rfl) (dk_dq rfl)) (dg_sm.uF (WF := [(0, 43)]) (WA := []) dg_sm.rf e_2382 sM_0 (dk_dq rfl)) (dk_dq rfl) (dk_dq rfl) (dk_dq rfl)) m_2383 (dk_dq rfl) (dk_dq rfl) (dk_dq rfl)) m_2388 (dk_dq rfl) (dk_dq rfl) (dk_dq rfl)), trivial⟩ dX12_operand_109
                  · as_aux_lemma =>
                      have jc_2380 := dk_eqc (k := 7) (by decide +kernel) c_2380
                      refine lv_aload_n hx hb dX12_operand_70 rfl (lv_at hl 2 rfl) ?_
                      refine lv_iconst (v := 5) hx hb dX12_operand_71 (by decide +kernel) ?_
                      refine lv_aload_n hx hb dX12_operand_72 rfl (lv_at hl 2 rfl) ?_
                      refine dg_get (C := RX12) (T := TX12) (N := 77) hx hb hts (fun w h => bw_mem (wU_X12 w h)) hown K hP sM_0 rfl 4 (dk_dq rfl) (hts _ (bw_mem wB_291)) (fun _ h9 => h9) (v := .int sa) ((m_2.1 0 4 _ sM_0 (dk_dq rfl)).trans f_sa) dX12_operand_73 ?_
                      have hz_2401 : (5 : Int32).toInt = 5 := by decide +kernel
                      refine dg_callv hS hA1 hA (va_runV (As := [.int 5, .int sa]) (rest := []) F (c_m_blame l g D o S_2 5 (by decide +kernel) sa y_3 f_y_3 (by omega) I_2 H.size) (cwV 2 hts (bw_V wB_306 wB_307 wB_308 wB_297 wB_305) rfl rfl rfl (by decide +kernel) ⟨Nat.le_of_ble_eq_true rfl, Nat.le_of_ble_eq_true rfl⟩) (dg_preV sM_0 rfl K ST hP hS hA1 hA) rfl rfl hl.1 rfl (lv_room (Nat.le_of_ble_eq_true rfl)) dX12_operand_76 ⟨Nat.le_of_ble_eq_true rfl, Nat.le_of_ble_eq_true rfl⟩) (fun S_2402 hw_2402 H locs hP hS => ?_)
                      obtain ⟨I_2402, m_2402, w_2402_0, -⟩ := hw_2402
                      have M_2402 := dg_sm.tr M_2 m_2402 (dk_dq rfl) (dk_dq rfl)
                      have hz_2403 : (5 : Int32).toInt = 5 := by decide +kernel
                      obtain ⟨y_2404, f_y_2404, w_2402_0⟩ := w_2402_0
                      have w_2402_0 : ((y_3).toInt ≠ 0 → (y_2404).toInt = (y_3).toInt) ∧ ((y_3).toInt = 0 → (y_2404).toInt = ((5 : Int32)).toInt) := w_2402_0
                      obtain ⟨w_2402_0_0, w_2402_0_1⟩ := w_2402_0
                      clear w_2402_0_0
                      have w_2402_0_1r := w_2402_0_1 (by omega)
                      clear w_2402_0_1
                      have b_y_2404 : 0 ≤ (y_2404).toInt ∧ (y_2404).toInt ≤ 6 := dg_I.intb (lo := 0) (hi := 6) I_2402 sM_0 (by decide +kernel) f_y_2404
                      have hbl_y_2404 : 1 ≤ (y_2404).toInt := by omega
                      refine lv_aload_n hx hb dX12_operand_79 rfl (lv_at hl 2 rfl) ?_
                      refine dg_get (C := RX12) (T := TX12) (N := 77) hx hb hts (fun w h => bw_mem (wU_X12 w h)) hown K hP sM_0 rfl 8 (dk_dq rfl) (hts _ (bw_mem wB_303)) (fun _ h9 => h9) (v := .int y_2404) f_y_2404 dX12_operand_80 ?_
                      refine lv_if_le (tgt := 88) hx hb dX12_operand_83 (dk_dq rfl) (fun c => absurd c (fun z => absurd (dk_lec (k := 0) (by decide +kernel) z) (by omega))) (fun _ => ?_)
                      refine lv_iconst (v := 1) hx hb dX12_operand_86 (by decide +kernel) ?_
                      have hz_2405 : (1 : Int32).toInt = 1 := by decide +kernel
                      have hz_2406 : (1 : Int32).toInt = 1 := by decide +kernel
                      have hz_2407 : (1 : Int32).toInt = 1 := by decide +kernel
                      have hz_2408 : (1 : Int32).toInt = 1 := by decide +kernel
                      have hz_2409 : (1 : Int32).toInt = 1 := by decide +kernel
                      have hz_2410 : (1 : Int32).toInt = 1 := by decide +kernel
                      have hz_2411 : (1 : Int32).toInt = 1 := by decide +kernel
                      have hz_2412 : (1 : Int32).toInt = 1 := by decide +kernel
                      refine W.widen (k := 0) (n := 0) (Nat.le_of_ble_eq_true rfl) (Nat.le_of_ble_eq_true rfl) ?_
                      rw [hQ9]
                      exact dg_iret hx hb hr hlocks (by decide +kernel) hP hS ⟨I_2402, M_2402, (by decide +kernel), ⟨sg, sa, se, y_2404, cd, dp, om, (((m_2402.1 0 3 _ sM_0 (dk_dq rfl)).trans (m_2.1 0 3 _ sM_0 (dk_dq rfl))).trans f_sg), (((m_2402.1 0 4 _ sM_0 (dk_dq rfl)).trans (m_2.1 0 4 _ sM_0 (dk_dq rfl))).trans f_sa), (((m_2402.1 0 5 _ sM_0 (dk_dq rfl)).trans (m_2.1 0 5 _ sM_0 (dk_dq rfl))).trans f_se), f_y_2404, (((m_2402.1 0 34 _ sM_0 (dk_dq rfl)).trans (m_2.1 0 34 _ sM_0 (dk_dq rfl))).trans f_cd), (((m_2402.1 0 42 _ sM_0 (dk_dq rfl)).trans (m_2.1 0 42 _ sM_0 (dk_dq rfl))).trans f_dp), (((m_2402.1 0 45 _ sM_0 (dk_dq rfl)).trans (m_2.1 0 45 _ sM_0 (dk_dq rfl))).trans f_om), (by omega)⟩, (fun k9 hk9 hk0 => by have q9 := (f_y_2404).symm.trans hk9; cases q9; omega), (OPK.no f_sa f_fk f_y_2404 (by omega) (fun h0 => by rw [hM0]; exact m_st_f.trans ((m_opd_not (hft.out (by omega)).1 (hft.out (by omega)).2 qw_2377_1).trans (if_pos (by have h9 := dk_clN on; omega))))), (OPN.no f_y_2404 (by omega)), (TKM.keep (TKM.keep TK m_2 (dk_dq rfl) (dk_dq rfl) (dk_dq rfl) (dk_dq rfl) (dk_dq rfl) (dk_dq rfl) (dk_dq rfl) (dk_dq rfl)) m_2402 (dk_dq rfl) (dk_dq rfl) (dk_dq rfl) (dk_dq rfl) (dk_dq rfl) (dk_dq rfl) (dk_dq rfl) (dk_dq rfl)), (ZWM.keep (ZWM.keep ZW m_2 (dk_dq rfl) (dk_dq rfl) (dk_dq rfl) (dk_dq rfl)) m_2402 (dk_dq rfl) (dk_dq rfl) (dk_dq rfl) (dk_dq rfl)), (G8M.keep (G8M.keep G8 m_2 (dk_dq rfl) (dk_dq rfl) (dk_dq rfl)) m_2402 (dk_dq rfl) (dk_dq rfl) (dk_dq rfl)), trivial⟩ dX12_operand_87
      refine lv_if_eq (tgt := 45) hx hb dX12_operand_29 (dk_dq rfl) (fun c_2413 => ?_) (fun c_2413 => ?_)
      · have jc_2413 := dk_eqc (k := 0) (by decide +kernel) c_2413
        clear w_9_1
        refine lv_iconst (v := 0) hx hb dX12_operand_45 (by decide +kernel) ?_
        have hz_2414 : (0 : Int32).toInt = 0 := by decide +kernel
        have hz_2415 : (0 : Int32).toInt = 0 := by decide +kernel
        have hz_2416 : (0 : Int32).toInt = 0 := by decide +kernel
        exact J_404 0 (by decide +kernel) (by omega) (m_hid.mk (fun q8 q9 => by omega)) _ _ hP hS _ (lv_sub hl [0, 1] rfl)
      · as_aux_lemma =>
          have jc_2413 := dk_neqc (k := 0) (by decide +kernel) c_2413
          have jbc_2413 : 1 ≤ (x_8).toInt := by omega
          clear jc_2413
          have w_9_1_r := w_9_1.mp (by omega)
          clear w_9_1
          refine lv_aload_n hx hb dX12_operand_32 rfl (lv_at hl 1 rfl) ?_
          refine dg_get (C := RX12) (T := TX12) (N := 77) hx hb hts (fun w h => bw_mem (wU_X12 w h)) hown K hP sM_0 rfl 39 (dk_dq rfl) (hts _ (bw_mem wB_418)) (fun _ h9 => h9) (v := .ref (o + 24)) (show S_2.1 0 39 = .ref (o + 24) from dg_I.rel (d := 24) I_2 sM_0 (by decide +kernel)) dX12_operand_33 ?_
          refine lv_iload_n hx hb dX12_operand_36 rfl (lv_at hl 0 rfl) ?_
          have hin_2417 : vp_in x_5 20 := (dk_inv2 (by omega))
          refine dg_zald hx hb K hP sM_24 hin_2417 dX12_operand_37 (fun x_2418 ex_2418 => ?_)
          have b_x_2418 := dk_all_at (dg_I.row (lo := 0) (hi := 1) I_2 sM_24 (by decide +kernel)) hin_2417 ex_2418
          have hb_x_2418 : (S_2.2.1 24 (x_5 : Int32).toNatClampNeg).toInt = (x_2418).toInt := by rw [ex_2418]
          refine lv_if_eq (tgt := 45) hx hb dX12_operand_38 (dk_dq rfl) (fun c_2419 => ?_) (fun c_2419 => ?_)
          · have jc_2419 := dk_eqc (k := 0) (by decide +kernel) c_2419
            refine lv_iconst (v := 0) hx hb dX12_operand_45 (by decide +kernel) ?_
            have hz_2420 : (0 : Int32).toInt = 0 := by decide +kernel
            have hz_2421 : (0 : Int32).toInt = 0 := by decide +kernel
            have hz_2422 : (0 : Int32).toInt = 0 := by decide +kernel
            exact J_404 0 (by decide +kernel) (by omega) (m_hid.mk (fun q8 q9 => by omega)) _ _ hP hS _ (lv_sub hl [0, 1] rfl)
          · have jc_2419 := dk_neqc (k := 0) (by decide +kernel) c_2419
            have jbc_2419 : 1 ≤ (x_2418).toInt := by omega
            clear jc_2419
            refine lv_iconst (v := 1) hx hb dX12_operand_41 (by decide +kernel) ?_
            refine lv_goto (tgt := 46) hx hb dX12_operand_42 (dk_dq rfl) ?_
            have hz_2423 : (1 : Int32).toInt = 1 := by decide +kernel
            have hz_2424 : (1 : Int32).toInt = 1 := by decide +kernel
            have hz_2425 : (1 : Int32).toInt = 1 := by decide +kernel
            exact J_404 1 (by decide +kernel) (by omega) (m_hid.mk (fun q8 q9 => by omega)) _ _ hP hS _ (lv_sub hl [0, 1] rfl)
  · have jc_4 := dk_nlec (k := 0) (by decide +kernel) c_4
    refine lv_iconst (v := 1) hx hb dX12_operand_11 (by decide +kernel) ?_
    have hz_2426 : (1 : Int32).toInt = 1 := by decide +kernel
    have hz_2427 : (1 : Int32).toInt = 1 := by decide +kernel
    have hz_2428 : (1 : Int32).toInt = 1 := by decide +kernel
    have hz_2429 : (1 : Int32).toInt = 1 := by decide +kernel
    have hz_2430 : (1 : Int32).toInt = 1 := by decide +kernel
    have hz_2431 : (1 : Int32).toInt = 1 := by decide +kernel
    have hz_2432 : (1 : Int32).toInt = 1 := by decide +kernel
    have hz_2433 : (1 : Int32).toInt = 1 := by decide +kernel
    refine W.widen (k := 0) (n := 0) (Nat.le_of_ble_eq_true rfl) (Nat.le_of_ble_eq_true rfl) ?_
    rw [hQ9]
    exact dg_iret hx hb hr hlocks (by decide +kernel) hP hS ⟨I_2, M_2, (by decide +kernel), ⟨sg, sa, se, y_3, cd, dp, om, ((m_2.1 0 3 _ sM_0 (dk_dq rfl)).trans f_sg), ((m_2.1 0 4 _ sM_0 (dk_dq rfl)).trans f_sa), ((m_2.1 0 5 _ sM_0 (dk_dq rfl)).trans f_se), f_y_3, ((m_2.1 0 34 _ sM_0 (dk_dq rfl)).trans f_cd), ((m_2.1 0 42 _ sM_0 (dk_dq rfl)).trans f_dp), ((m_2.1 0 45 _ sM_0 (dk_dq rfl)).trans f_om), (by omega)⟩, (fun k9 hk9 hk0 => by have q9 := (f_y_3).symm.trans hk9; cases q9; omega), (OPK.no f_sa f_fk f_y_3 (by omega) (fun h0 => MS5 P0 f_dp f_on f_om (by omega))), (OPN.no f_y_3 (by omega)), (TKM.keep TK m_2 (dk_dq rfl) (dk_dq rfl) (dk_dq rfl) (dk_dq rfl) (dk_dq rfl) (dk_dq rfl) (dk_dq rfl) (dk_dq rfl)), (ZWM.keep ZW m_2 (dk_dq rfl) (dk_dq rfl) (dk_dq rfl) (dk_dq rfl)), (G8M.keep G8 m_2 (dk_dq rfl) (dk_dq rfl) (dk_dq rfl)), trivial⟩ dX12_operand_12
