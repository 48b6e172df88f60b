/-! 43.m11a.lean.txt -/
theorem dX12_isLetter_0 : decode cX12_isLetter 0 = .ok (.iload_n 0, 1) := by decide +kernel
theorem dX12_isLetter_1 : decode cX12_isLetter 1 = .ok (.bipush 97, 2) := by decide +kernel
theorem dX12_isLetter_3 : decode cX12_isLetter 3 = .ok (.if_icmp .lt 13, 3) := by decide +kernel
theorem dX12_isLetter_6 : decode cX12_isLetter 6 = .ok (.iload_n 0, 1) := by decide +kernel
theorem dX12_isLetter_7 : decode cX12_isLetter 7 = .ok (.bipush 122, 2) := by decide +kernel
theorem dX12_isLetter_9 : decode cX12_isLetter 9 = .ok (.if_icmp .gt 7, 3) := by decide +kernel
theorem dX12_isLetter_12 : decode cX12_isLetter 12 = .ok (.iconst 1, 1) := by decide +kernel
theorem dX12_isLetter_13 : decode cX12_isLetter 13 = .ok (.goto 4, 3) := by decide +kernel
theorem dX12_isLetter_16 : decode cX12_isLetter 16 = .ok (.iconst 0, 1) := by decide +kernel
theorem dX12_isLetter_17 : decode cX12_isLetter 17 = .ok (.ireturn, 1) := by decide +kernel
theorem dX12_isDigit_0 : decode cX12_isDigit 0 = .ok (.iload_n 0, 1) := by decide +kernel
theorem dX12_isDigit_1 : decode cX12_isDigit 1 = .ok (.bipush 48, 2) := by decide +kernel
theorem dX12_isDigit_3 : decode cX12_isDigit 3 = .ok (.if_icmp .lt 13, 3) := by decide +kernel
theorem dX12_isDigit_6 : decode cX12_isDigit 6 = .ok (.iload_n 0, 1) := by decide +kernel
theorem dX12_isDigit_7 : decode cX12_isDigit 7 = .ok (.bipush 57, 2) := by decide +kernel
theorem dX12_isDigit_9 : decode cX12_isDigit 9 = .ok (.if_icmp .gt 7, 3) := by decide +kernel
theorem dX12_isDigit_12 : decode cX12_isDigit 12 = .ok (.iconst 1, 1) := by decide +kernel
theorem dX12_isDigit_13 : decode cX12_isDigit 13 = .ok (.goto 4, 3) := by decide +kernel
theorem dX12_isDigit_16 : decode cX12_isDigit 16 = .ok (.iconst 0, 1) := by decide +kernel
theorem dX12_isDigit_17 : decode cX12_isDigit 17 = .ok (.ireturn, 1) := by decide +kernel
theorem dX12_ahead_0 : decode cX12_ahead 0 = .ok (.aload_n 0, 1) := by decide +kernel
theorem dX12_ahead_1 : decode cX12_ahead 1 = .ok (.getfield 26, 3) := by decide +kernel
theorem dX12_ahead_4 : decode cX12_ahead 4 = .ok (.istore_n 1, 1) := by decide +kernel
theorem dX12_ahead_5 : decode cX12_ahead 5 = .ok (.iload_n 1, 1) := by decide +kernel
theorem dX12_ahead_6 : decode cX12_ahead 6 = .ok (.aload_n 0, 1) := by decide +kernel
theorem dX12_ahead_7 : decode cX12_ahead 7 = .ok (.getfield 17, 3) := by decide +kernel
theorem dX12_ahead_10 : decode cX12_ahead 10 = .ok (.if_icmp .ge 31, 3) := by decide +kernel
theorem dX12_ahead_13 : decode cX12_ahead 13 = .ok (.aload_n 0, 1) := by decide +kernel
theorem dX12_ahead_14 : decode cX12_ahead 14 = .ok (.getfield 7, 3) := by decide +kernel
theorem dX12_ahead_17 : decode cX12_ahead 17 = .ok (.iload_n 1, 1) := by decide +kernel
theorem dX12_ahead_18 : decode cX12_ahead 18 = .ok (.iaload, 1) := by decide +kernel
theorem dX12_ahead_19 : decode cX12_ahead 19 = .ok (.bipush 32, 2) := by decide +kernel
theorem dX12_ahead_21 : decode cX12_ahead 21 = .ok (.if_icmp .eq 14, 3) := by decide +kernel
theorem dX12_ahead_24 : decode cX12_ahead 24 = .ok (.aload_n 0, 1) := by decide +kernel
theorem dX12_ahead_25 : decode cX12_ahead 25 = .ok (.getfield 7, 3) := by decide +kernel
theorem dX12_ahead_28 : decode cX12_ahead 28 = .ok (.iload_n 1, 1) := by decide +kernel
theorem dX12_ahead_29 : decode cX12_ahead 29 = .ok (.iaload, 1) := by decide +kernel
theorem dX12_ahead_30 : decode cX12_ahead 30 = .ok (.bipush 10, 2) := by decide +kernel
theorem dX12_ahead_32 : decode cX12_ahead 32 = .ok (.if_icmp .ne 9, 3) := by decide +kernel
theorem dX12_ahead_35 : decode cX12_ahead 35 = .ok (.iinc 1 1, 3) := by decide +kernel
theorem dX12_ahead_38 : decode cX12_ahead 38 = .ok (.goto (-33), 3) := by decide +kernel
theorem dX12_ahead_41 : decode cX12_ahead 41 = .ok (.aload_n 0, 1) := by decide +kernel
theorem dX12_ahead_42 : decode cX12_ahead 42 = .ok (.iload_n 1, 1) := by decide +kernel
theorem dX12_ahead_43 : decode cX12_ahead 43 = .ok (.putfield 23, 3) := by decide +kernel
theorem dX12_ahead_46 : decode cX12_ahead 46 = .ok (.aload_n 0, 1) := by decide +kernel
theorem dX12_ahead_47 : decode cX12_ahead 47 = .ok (.iload_n 1, 1) := by decide +kernel
theorem dX12_ahead_48 : decode cX12_ahead 48 = .ok (.putfield 26, 3) := by decide +kernel
theorem dX12_ahead_51 : decode cX12_ahead 51 = .ok (.aload_n 0, 1) := by decide +kernel
theorem dX12_ahead_52 : decode cX12_ahead 52 = .ok (.iconst 0, 1) := by decide +kernel
theorem dX12_ahead_53 : decode cX12_ahead 53 = .ok (.putfield 20, 3) := by decide +kernel
theorem dX12_ahead_56 : decode cX12_ahead 56 = .ok (.aload_n 0, 1) := by decide +kernel
theorem dX12_ahead_57 : decode cX12_ahead 57 = .ok (.iconst (-1), 1) := by decide +kernel
theorem dX12_ahead_58 : decode cX12_ahead 58 = .ok (.putfield 48, 3) := by decide +kernel
theorem dX12_ahead_61 : decode cX12_ahead 61 = .ok (.iload_n 1, 1) := by decide +kernel
theorem dX12_ahead_62 : decode cX12_ahead 62 = .ok (.aload_n 0, 1) := by decide +kernel
theorem dX12_ahead_63 : decode cX12_ahead 63 = .ok (.getfield 17, 3) := by decide +kernel
theorem dX12_ahead_66 : decode cX12_ahead 66 = .ok (.if_icmp .lt 4, 3) := by decide +kernel
theorem dX12_ahead_69 : decode cX12_ahead 69 = .ok (.return_, 1) := by decide +kernel
theorem dX12_ahead_70 : decode cX12_ahead 70 = .ok (.aload_n 0, 1) := by decide +kernel
theorem dX12_ahead_71 : decode cX12_ahead 71 = .ok (.getfield 7, 3) := by decide +kernel
theorem dX12_ahead_74 : decode cX12_ahead 74 = .ok (.iload_n 1, 1) := by decide +kernel
theorem dX12_ahead_75 : decode cX12_ahead 75 = .ok (.iaload, 1) := by decide +kernel
theorem dX12_ahead_76 : decode cX12_ahead 76 = .ok (.invokestatic 259, 3) := by decide +kernel
theorem dX12_ahead_79 : decode cX12_ahead 79 = .ok (.istore_n 2, 1) := by decide +kernel
theorem dX12_ahead_80 : decode cX12_ahead 80 = .ok (.aload_n 0, 1) := by decide +kernel
theorem dX12_ahead_81 : decode cX12_ahead 81 = .ok (.getfield 7, 3) := by decide +kernel
theorem dX12_ahead_84 : decode cX12_ahead 84 = .ok (.iload_n 1, 1) := by decide +kernel
theorem dX12_ahead_85 : decode cX12_ahead 85 = .ok (.iaload, 1) := by decide +kernel
theorem dX12_ahead_86 : decode cX12_ahead 86 = .ok (.invokestatic 263, 3) := by decide +kernel
theorem dX12_ahead_89 : decode cX12_ahead 89 = .ok (.istore_n 3, 1) := by decide +kernel
theorem dX12_ahead_90 : decode cX12_ahead 90 = .ok (.iload_n 2, 1) := by decide +kernel
theorem dX12_ahead_91 : decode cX12_ahead 91 = .ok (.ifCond .ne 7, 3) := by decide +kernel
theorem dX12_ahead_94 : decode cX12_ahead 94 = .ok (.iload_n 3, 1) := by decide +kernel
theorem dX12_ahead_95 : decode cX12_ahead 95 = .ok (.ifCond .eq 40, 3) := by decide +kernel
theorem dX12_ahead_98 : decode cX12_ahead 98 = .ok (.iload_n 1, 1) := by decide +kernel
theorem dX12_ahead_99 : decode cX12_ahead 99 = .ok (.ifCond .le 36, 3) := by decide +kernel
theorem dX12_ahead_102 : decode cX12_ahead 102 = .ok (.aload_n 0, 1) := by decide +kernel
theorem dX12_ahead_103 : decode cX12_ahead 103 = .ok (.getfield 7, 3) := by decide +kernel
theorem dX12_ahead_106 : decode cX12_ahead 106 = .ok (.iload_n 1, 1) := by decide +kernel
theorem dX12_ahead_107 : decode cX12_ahead 107 = .ok (.iconst 1, 1) := by decide +kernel
theorem dX12_ahead_108 : decode cX12_ahead 108 = .ok (.isub, 1) := by decide +kernel
theorem dX12_ahead_109 : decode cX12_ahead 109 = .ok (.iaload, 1) := by decide +kernel
theorem dX12_ahead_110 : decode cX12_ahead 110 = .ok (.invokestatic 259, 3) := by decide +kernel
theorem dX12_ahead_113 : decode cX12_ahead 113 = .ok (.ifCond .ne 17, 3) := by decide +kernel
theorem dX12_ahead_116 : decode cX12_ahead 116 = .ok (.aload_n 0, 1) := by decide +kernel
theorem dX12_ahead_117 : decode cX12_ahead 117 = .ok (.getfield 7, 3) := by decide +kernel
theorem dX12_ahead_120 : decode cX12_ahead 120 = .ok (.iload_n 1, 1) := by decide +kernel
theorem dX12_ahead_121 : decode cX12_ahead 121 = .ok (.iconst 1, 1) := by decide +kernel
theorem dX12_ahead_122 : decode cX12_ahead 122 = .ok (.isub, 1) := by decide +kernel
theorem dX12_ahead_123 : decode cX12_ahead 123 = .ok (.iaload, 1) := by decide +kernel
theorem dX12_ahead_124 : decode cX12_ahead 124 = .ok (.invokestatic 263, 3) := by decide +kernel
theorem dX12_ahead_127 : decode cX12_ahead 127 = .ok (.ifCond .eq 8, 3) := by decide +kernel
theorem dX12_ahead_130 : decode cX12_ahead 130 = .ok (.aload_n 0, 1) := by decide +kernel
theorem dX12_ahead_131 : decode cX12_ahead 131 = .ok (.iload_n 1, 1) := by decide +kernel
theorem dX12_ahead_132 : decode cX12_ahead 132 = .ok (.putfield 48, 3) := by decide +kernel
theorem dX12_ahead_135 : decode cX12_ahead 135 = .ok (.aload_n 0, 1) := by decide +kernel
theorem dX12_ahead_136 : decode cX12_ahead 136 = .ok (.iconst 0, 1) := by decide +kernel
theorem dX12_ahead_137 : decode cX12_ahead 137 = .ok (.putfield 29, 3) := by decide +kernel
theorem dX12_ahead_140 : decode cX12_ahead 140 = .ok (.aload_n 0, 1) := by decide +kernel
theorem dX12_ahead_141 : decode cX12_ahead 141 = .ok (.lconst 0, 1) := by decide +kernel
theorem dX12_ahead_142 : decode cX12_ahead 142 = .ok (.putfield 32, 3) := by decide +kernel
theorem dX12_ahead_145 : decode cX12_ahead 145 = .ok (.aload_n 0, 1) := by decide +kernel
theorem dX12_ahead_146 : decode cX12_ahead 146 = .ok (.iconst 3, 1) := by decide +kernel
theorem dX12_ahead_147 : decode cX12_ahead 147 = .ok (.putfield 20, 3) := by decide +kernel
theorem dX12_ahead_150 : decode cX12_ahead 150 = .ok (.aload_n 0, 1) := by decide +kernel
theorem dX12_ahead_151 : decode cX12_ahead 151 = .ok (.iload_n 1, 1) := by decide +kernel
theorem dX12_ahead_152 : decode cX12_ahead 152 = .ok (.iconst 1, 1) := by decide +kernel
theorem dX12_ahead_153 : decode cX12_ahead 153 = .ok (.iadd, 1) := by decide +kernel
theorem dX12_ahead_154 : decode cX12_ahead 154 = .ok (.putfield 26, 3) := by decide +kernel
theorem dX12_ahead_157 : decode cX12_ahead 157 = .ok (.iload_n 2, 1) := by decide +kernel
theorem dX12_ahead_158 : decode cX12_ahead 158 = .ok (.ifCond .ne 18, 3) := by decide +kernel
theorem dX12_ahead_161 : decode cX12_ahead 161 = .ok (.iload_n 3, 1) := by decide +kernel
theorem dX12_ahead_162 : decode cX12_ahead 162 = .ok (.ifCond .ne 14, 3) := by decide +kernel
theorem dX12_ahead_165 : decode cX12_ahead 165 = .ok (.aload_n 0, 1) := by decide +kernel
theorem dX12_ahead_166 : decode cX12_ahead 166 = .ok (.aload_n 0, 1) := by decide +kernel
theorem dX12_ahead_167 : decode cX12_ahead 167 = .ok (.getfield 7, 3) := by decide +kernel
theorem dX12_ahead_170 : decode cX12_ahead 170 = .ok (.iload_n 1, 1) := by decide +kernel
theorem dX12_ahead_171 : decode cX12_ahead 171 = .ok (.iaload, 1) := by decide +kernel
theorem dX12_ahead_172 : decode cX12_ahead 172 = .ok (.putfield 29, 3) := by decide +kernel
theorem dX12_ahead_175 : decode cX12_ahead 175 = .ok (.return_, 1) := by decide +kernel
theorem dX12_ahead_176 : decode cX12_ahead 176 = .ok (.aload_n 0, 1) := by decide +kernel
theorem dX12_ahead_177 : decode cX12_ahead 177 = .ok (.iload_n 2, 1) := by decide +kernel
theorem dX12_ahead_178 : decode cX12_ahead 178 = .ok (.ifCond .eq 7, 3) := by decide +kernel
theorem dX12_ahead_181 : decode cX12_ahead 181 = .ok (.iconst 1, 1) := by decide +kernel
theorem dX12_ahead_182 : decode cX12_ahead 182 = .ok (.goto 4, 3) := by decide +kernel
theorem dX12_ahead_185 : decode cX12_ahead 185 = .ok (.iconst 2, 1) := by decide +kernel
theorem dX12_ahead_186 : decode cX12_ahead 186 = .ok (.putfield 20, 3) := by decide +kernel
theorem dX12_ahead_189 : decode cX12_ahead 189 = .ok (.iload_n 2, 1) := by decide +kernel
theorem dX12_ahead_190 : decode cX12_ahead 190 = .ok (.ifCond .eq 8, 3) := by decide +kernel
theorem dX12_ahead_193 : decode cX12_ahead 193 = .ok (.bipush 6, 2) := by decide +kernel
theorem dX12_ahead_195 : decode cX12_ahead 195 = .ok (.goto 4, 3) := by decide +kernel
theorem dX12_ahead_198 : decode cX12_ahead 198 = .ok (.iconst 4, 1) := by decide +kernel
theorem dX12_ahead_199 : decode cX12_ahead 199 = .ok (.istore 4, 2) := by decide +kernel
theorem dX12_ahead_201 : decode cX12_ahead 201 = .ok (.iconst 0, 1) := by decide +kernel
theorem dX12_ahead_202 : decode cX12_ahead 202 = .ok (.istore 5, 2) := by decide +kernel
theorem dX12_ahead_204 : decode cX12_ahead 204 = .ok (.iload_n 1, 1) := by decide +kernel
theorem dX12_ahead_205 : decode cX12_ahead 205 = .ok (.aload_n 0, 1) := by decide +kernel
theorem dX12_ahead_206 : decode cX12_ahead 206 = .ok (.getfield 17, 3) := by decide +kernel
theorem dX12_ahead_209 : decode cX12_ahead 209 = .ok (.if_icmp .ge 125, 3) := by decide +kernel
theorem dX12_ahead_212 : decode cX12_ahead 212 = .ok (.iload_n 2, 1) := by decide +kernel
theorem dX12_ahead_213 : decode cX12_ahead 213 = .ok (.ifCond .eq 18, 3) := by decide +kernel
theorem dX12_ahead_216 : decode cX12_ahead 216 = .ok (.aload_n 0, 1) := by decide +kernel
theorem dX12_ahead_217 : decode cX12_ahead 217 = .ok (.getfield 7, 3) := by decide +kernel
theorem dX12_ahead_220 : decode cX12_ahead 220 = .ok (.iload_n 1, 1) := by decide +kernel
theorem dX12_ahead_221 : decode cX12_ahead 221 = .ok (.iaload, 1) := by decide +kernel
theorem dX12_ahead_222 : decode cX12_ahead 222 = .ok (.invokestatic 259, 3) := by decide +kernel
theorem dX12_ahead_225 : decode cX12_ahead 225 = .ok (.ifCond .eq 109, 3) := by decide +kernel
theorem dX12_ahead_228 : decode cX12_ahead 228 = .ok (.goto 15, 3) := by decide +kernel
theorem dX12_ahead_231 : decode cX12_ahead 231 = .ok (.aload_n 0, 1) := by decide +kernel
theorem dX12_ahead_232 : decode cX12_ahead 232 = .ok (.getfield 7, 3) := by decide +kernel
theorem dX12_ahead_235 : decode cX12_ahead 235 = .ok (.iload_n 1, 1) := by decide +kernel
theorem dX12_ahead_236 : decode cX12_ahead 236 = .ok (.iaload, 1) := by decide +kernel
theorem dX12_ahead_237 : decode cX12_ahead 237 = .ok (.invokestatic 263, 3) := by decide +kernel
theorem dX12_ahead_240 : decode cX12_ahead 240 = .ok (.ifCond .eq 94, 3) := by decide +kernel
theorem dX12_ahead_243 : decode cX12_ahead 243 = .ok (.iload 5, 2) := by decide +kernel
theorem dX12_ahead_245 : decode cX12_ahead 245 = .ok (.iload 4, 2) := by decide +kernel
theorem dX12_ahead_247 : decode cX12_ahead 247 = .ok (.if_icmp .ne 16, 3) := by decide +kernel
theorem dX12_ahead_250 : decode cX12_ahead 250 = .ok (.aload_n 0, 1) := by decide +kernel
theorem dX12_ahead_251 : decode cX12_ahead 251 = .ok (.getfield 48, 3) := by decide +kernel
theorem dX12_ahead_254 : decode cX12_ahead 254 = .ok (.iconst (-1), 1) := by decide +kernel
theorem dX12_ahead_255 : decode cX12_ahead 255 = .ok (.if_icmp .ne 8, 3) := by decide +kernel
theorem dX12_ahead_258 : decode cX12_ahead 258 = .ok (.aload_n 0, 1) := by decide +kernel
theorem dX12_ahead_259 : decode cX12_ahead 259 = .ok (.iload_n 1, 1) := by decide +kernel
theorem dX12_ahead_260 : decode cX12_ahead 260 = .ok (.putfield 48, 3) := by decide +kernel
theorem dX12_ahead_263 : decode cX12_ahead 263 = .ok (.iload 5, 2) := by decide +kernel
theorem dX12_ahead_265 : decode cX12_ahead 265 = .ok (.iload 4, 2) := by decide +kernel
theorem dX12_ahead_267 : decode cX12_ahead 267 = .ok (.if_icmp .ge 26, 3) := by decide +kernel
theorem dX12_ahead_270 : decode cX12_ahead 270 = .ok (.iload_n 2, 1) := by decide +kernel
theorem dX12_ahead_271 : decode cX12_ahead 271 = .ok (.ifCond .eq 22, 3) := by decide +kernel
theorem dX12_ahead_274 : decode cX12_ahead 274 = .ok (.aload_n 0, 1) := by decide +kernel
theorem dX12_ahead_275 : decode cX12_ahead 275 = .ok (.aload_n 0, 1) := by decide +kernel
theorem dX12_ahead_276 : decode cX12_ahead 276 = .ok (.getfield 32, 3) := by decide +kernel
theorem dX12_ahead_279 : decode cX12_ahead 279 = .ok (.bipush 8, 2) := by decide +kernel
theorem dX12_ahead_281 : decode cX12_ahead 281 = .ok (.lshl, 1) := by decide +kernel
theorem dX12_ahead_282 : decode cX12_ahead 282 = .ok (.aload_n 0, 1) := by decide +kernel
theorem dX12_ahead_283 : decode cX12_ahead 283 = .ok (.getfield 7, 3) := by decide +kernel
theorem dX12_ahead_286 : decode cX12_ahead 286 = .ok (.iload_n 1, 1) := by decide +kernel
theorem dX12_ahead_287 : decode cX12_ahead 287 = .ok (.iaload, 1) := by decide +kernel
theorem dX12_ahead_288 : decode cX12_ahead 288 = .ok (.i2l, 1) := by decide +kernel
theorem dX12_ahead_289 : decode cX12_ahead 289 = .ok (.lor, 1) := by decide +kernel
theorem dX12_ahead_290 : decode cX12_ahead 290 = .ok (.putfield 32, 3) := by decide +kernel
theorem dX12_ahead_293 : decode cX12_ahead 293 = .ok (.iload 5, 2) := by decide +kernel
theorem dX12_ahead_295 : decode cX12_ahead 295 = .ok (.iload 4, 2) := by decide +kernel
theorem dX12_ahead_297 : decode cX12_ahead 297 = .ok (.if_icmp .ge 28, 3) := by decide +kernel
theorem dX12_ahead_300 : decode cX12_ahead 300 = .ok (.iload_n 3, 1) := by decide +kernel
theorem dX12_ahead_301 : decode cX12_ahead 301 = .ok (.ifCond .eq 24, 3) := by decide +kernel
theorem dX12_ahead_304 : decode cX12_ahead 304 = .ok (.aload_n 0, 1) := by decide +kernel
theorem dX12_ahead_305 : decode cX12_ahead 305 = .ok (.bipush 10, 2) := by decide +kernel
theorem dX12_ahead_307 : decode cX12_ahead 307 = .ok (.aload_n 0, 1) := by decide +kernel
theorem dX12_ahead_308 : decode cX12_ahead 308 = .ok (.getfield 29, 3) := by decide +kernel
theorem dX12_ahead_311 : decode cX12_ahead 311 = .ok (.imul, 1) := by decide +kernel
theorem dX12_ahead_312 : decode cX12_ahead 312 = .ok (.aload_n 0, 1) := by decide +kernel
theorem dX12_ahead_313 : decode cX12_ahead 313 = .ok (.getfield 7, 3) := by decide +kernel
theorem dX12_ahead_316 : decode cX12_ahead 316 = .ok (.iload_n 1, 1) := by decide +kernel
theorem dX12_ahead_317 : decode cX12_ahead 317 = .ok (.iaload, 1) := by decide +kernel
theorem dX12_ahead_318 : decode cX12_ahead 318 = .ok (.iadd, 1) := by decide +kernel
theorem dX12_ahead_319 : decode cX12_ahead 319 = .ok (.bipush 48, 2) := by decide +kernel
theorem dX12_ahead_321 : decode cX12_ahead 321 = .ok (.isub, 1) := by decide +kernel
theorem dX12_ahead_322 : decode cX12_ahead 322 = .ok (.putfield 29, 3) := by decide +kernel
theorem dX12_ahead_325 : decode cX12_ahead 325 = .ok (.iinc 5 1, 3) := by decide +kernel
theorem dX12_ahead_328 : decode cX12_ahead 328 = .ok (.iinc 1 1, 3) := by decide +kernel
theorem dX12_ahead_331 : decode cX12_ahead 331 = .ok (.goto (-127), 3) := by decide +kernel
theorem dX12_ahead_334 : decode cX12_ahead 334 = .ok (.aload_n 0, 1) := by decide +kernel
theorem dX12_ahead_335 : decode cX12_ahead 335 = .ok (.iload_n 1, 1) := by decide +kernel
theorem dX12_ahead_336 : decode cX12_ahead 336 = .ok (.putfield 26, 3) := by decide +kernel
theorem dX12_ahead_339 : decode cX12_ahead 339 = .ok (.return_, 1) := by decide +kernel
theorem wB_288 : Cond.fieldLink RX12 26 "DarkMineModel" "signEnd" "I" ∈ dgB := List.mem_filter.mpr ⟨tbl_6 _ (List.mem_of_getElem? (i := 168) (by decide +kernel)), by decide +kernel⟩
theorem wB_289 : Cond.fieldLink RX12 17 "DarkMineModel" "size" "I" ∈ dgB := List.mem_filter.mpr ⟨tbl_6 _ (List.mem_of_getElem? (i := 165) (by decide +kernel)), by decide +kernel⟩
theorem wB_290 : Cond.fieldLink RX12 7 "DarkMineModel" "tape" "[I" ∈ dgB := List.mem_filter.mpr ⟨tbl_6 _ (List.mem_of_getElem? (i := 163) (by decide +kernel)), by decide +kernel⟩
theorem wB_291 : Cond.fieldLink RX12 23 "DarkMineModel" "signAt" "I" ∈ dgB := List.mem_filter.mpr ⟨tbl_6 _ (List.mem_of_getElem? (i := 167) (by decide +kernel)), by decide +kernel⟩
theorem wB_292 : Cond.fieldLink RX12 20 "DarkMineModel" "sign" "I" ∈ dgB := List.mem_filter.mpr ⟨tbl_6 _ (List.mem_of_getElem? (i := 166) (by decide +kernel)), by decide +kernel⟩
theorem wB_293 : Cond.fieldLink RX12 48 "DarkMineModel" "lexAt" "I" ∈ dgB := List.mem_filter.mpr ⟨tbl_6 _ (List.mem_of_getElem? (i := 175) (by decide +kernel)), by decide +kernel⟩
theorem wB_294 : Cond.code yX12_isLetter cX12_isLetter 1 (some .boolean) ∈ dgB := List.mem_filter.mpr ⟨tbl_7 _ (List.mem_of_getElem? (i := 183) rfl), rfl⟩
theorem wB_295 : Cond.methodLink RX12 259 yX12_isLetter ∈ dgB := List.mem_filter.mpr ⟨tbl_7 _ (List.mem_of_getElem? (i := 181) (by decide +kernel)), by decide +kernel⟩
theorem wB_296 : Cond.static yX12_isLetter ∈ dgB := List.mem_filter.mpr ⟨tbl_7 _ (List.mem_of_getElem? (i := 182) (by decide +kernel)), by decide +kernel⟩
theorem wB_297 : Cond.initialized RX12 ∈ dgB := List.mem_filter.mpr ⟨tbl_1 _ (List.mem_of_getElem? (i := 15) (by decide +kernel)), by decide +kernel⟩
theorem wB_298 : Cond.code yX12_isDigit cX12_isDigit 1 (some .boolean) ∈ dgB := List.mem_filter.mpr ⟨tbl_7 _ (List.mem_of_getElem? (i := 186) rfl), rfl⟩
theorem wB_299 : Cond.methodLink RX12 263 yX12_isDigit ∈ dgB := List.mem_filter.mpr ⟨tbl_7 _ (List.mem_of_getElem? (i := 184) (by decide +kernel)), by decide +kernel⟩
theorem wB_300 : Cond.static yX12_isDigit ∈ dgB := List.mem_filter.mpr ⟨tbl_7 _ (List.mem_of_getElem? (i := 185) (by decide +kernel)), by decide +kernel⟩
theorem wB_301 : Cond.fieldLink RX12 29 "DarkMineModel" "value" "I" ∈ dgB := List.mem_filter.mpr ⟨tbl_6 _ (List.mem_of_getElem? (i := 169) (by decide +kernel)), by decide +kernel⟩
theorem wB_302 : Cond.fieldLink RX12 32 "DarkMineModel" "word" "J" ∈ dgB := List.mem_filter.mpr ⟨tbl_6 _ (List.mem_of_getElem? (i := 170) (by decide +kernel)), by decide +kernel⟩
set_option maxHeartbeats 8000000 in
set_option maxRecDepth 100000 in
theorem c_m_isLetter (l : Launch) (g : Nat → ClassId) (D : va_G) (o : Nat) (S : dg_S) (a1 : Int32) (I : CM o S) (sz : Nat) : Met l yX12_isLetter (bw yX12_isLetter cX12_isLetter 1 (some .boolean)) ({ frames := 1, cells := 0, slots := 0, locals := 32 } : Room) (dk_Pc g D (dg_w g shM o rfM S) sz [.int a1]) (va_Qi (fun (r : Int32) S' => S' = S ∧ (0 ≤ (r).toInt ∧ (r).toInt ≤ 1) ∧ ((r).toInt = 1 ↔ (97 ≤ (a1).toInt ∧ (a1).toInt ≤ 122)) ∧ True) (dg_B g D shM o rfM) (dg_A o shM.length sz)) 0 0 (dg_A o shM.length sz) := by
  refine dg_met (cc := cX12_isLetter) (maxL := 1) (ret := (some .boolean)) (by decide) rfl (Nat.le_of_ble_eq_true rfl) ?_
  intro p e s m args below meth c A hAe harg hx hb hr hml hts hown hlocks hin hP K hS hA1 hA ST hsz ls hl
  rw [← hAe]
  have F : CallFix p m c cX12_isLetter 1 s args (bw yX12_isLetter cX12_isLetter 1 (some .boolean)) RX12 := ⟨hx, hb, hml, hown, hts⟩
  have hl : lv_has ls 1 [(0, .int a1)] := hl
  have M_0 : dg_sm shM [] [] S S := dg_sm.rf
  refine lv_iload_n hx hb dX12_isLetter_0 rfl (lv_at hl 0 rfl) ?_
  refine lv_bipush (v := 97) hx hb dX12_isLetter_1 (by decide +kernel) ?_
  refine lv_icmp_lt (tgt := 16) hx hb dX12_isLetter_3 (by decide) (fun c_1 => ?_) (fun c_1 => ?_)
  · have jc_1 := dk_ltc (k := 97) (by decide +kernel) c_1
    refine lv_iconst (v := 0) hx hb dX12_isLetter_16 (by decide +kernel) ?_
    have hz_2 : (0 : Int32).toInt = 0 := by decide +kernel
    have hz_3 : (0 : Int32).toInt = 0 := by decide +kernel
    refine W.widen (k := 0) (n := 0) (Nat.le_of_ble_eq_true rfl) (Nat.le_of_ble_eq_true rfl) ?_
    exact dg_iret hx hb hr hlocks (by decide +kernel) hP hS ⟨rfl, (by decide +kernel), (by omega), trivial⟩ dX12_isLetter_17
  · have jc_1 := dk_nltc (k := 97) (by decide +kernel) c_1
    refine lv_iload_n hx hb dX12_isLetter_6 rfl (lv_at hl 0 rfl) ?_
    refine lv_bipush (v := 122) hx hb dX12_isLetter_7 (by decide +kernel) ?_
    refine lv_icmp_gt (tgt := 16) hx hb dX12_isLetter_9 (by decide) (fun c_4 => ?_) (fun c_4 => ?_)
    · have jc_4 := dk_gtc (k := 122) (by decide +kernel) c_4
      refine lv_iconst (v := 0) hx hb dX12_isLetter_16 (by decide +kernel) ?_
      have hz_5 : (0 : Int32).toInt = 0 := by decide +kernel
      have hz_6 : (0 : Int32).toInt = 0 := by decide +kernel
      refine W.widen (k := 0) (n := 0) (Nat.le_of_ble_eq_true rfl) (Nat.le_of_ble_eq_true rfl) ?_
      exact dg_iret hx hb hr hlocks (by decide +kernel) hP hS ⟨rfl, (by decide +kernel), (by omega), trivial⟩ dX12_isLetter_17
    · have jc_4 := dk_ngtc (k := 122) (by decide +kernel) c_4
      refine lv_iconst (v := 1) hx hb dX12_isLetter_12 (by decide +kernel) ?_
      refine lv_goto (tgt := 17) hx hb dX12_isLetter_13 (by decide) ?_
      have hz_7 : (1 : Int32).toInt = 1 := by decide +kernel
      have hz_8 : (1 : Int32).toInt = 1 := by decide +kernel
      refine W.widen (k := 0) (n := 0) (Nat.le_of_ble_eq_true rfl) (Nat.le_of_ble_eq_true rfl) ?_
      exact dg_iret hx hb hr hlocks (by decide +kernel) hP hS ⟨rfl, (by decide +kernel), (by omega), trivial⟩ dX12_isLetter_17
set_option maxHeartbeats 8000000 in
set_option maxRecDepth 100000 in
theorem c_m_isDigit (l : Launch) (g : Nat → ClassId) (D : va_G) (o : Nat) (S : dg_S) (a1 : Int32) (I : CM o S) (sz : Nat) : Met l yX12_isDigit (bw yX12_isDigit cX12_isDigit 1 (some .boolean)) ({ frames := 1, cells := 0, slots := 0, locals := 32 } : Room) (dk_Pc g D (dg_w g shM o rfM S) sz [.int a1]) (va_Qi (fun (r : Int32) S' => S' = S ∧ (0 ≤ (r).toInt ∧ (r).toInt ≤ 1) ∧ ((r).toInt = 1 ↔ (48 ≤ (a1).toInt ∧ (a1).toInt ≤ 57)) ∧ True) (dg_B g D shM o rfM) (dg_A o shM.length sz)) 0 0 (dg_A o shM.length sz) := by
  refine dg_met (cc := cX12_isDigit) (maxL := 1) (ret := (some .boolean)) (by decide) rfl (Nat.le_of_ble_eq_true rfl) ?_
  intro p e s m args below meth c A hAe harg hx hb hr hml hts hown hlocks hin hP K hS hA1 hA ST hsz ls hl
  rw [← hAe]
  have F : CallFix p m c cX12_isDigit 1 s args (bw yX12_isDigit cX12_isDigit 1 (some .boolean)) RX12 := ⟨hx, hb, hml, hown, hts⟩
  have hl : lv_has ls 1 [(0, .int a1)] := hl
  have M_0 : dg_sm shM [] [] S S := dg_sm.rf
  refine lv_iload_n hx hb dX12_isDigit_0 rfl (lv_at hl 0 rfl) ?_
  refine lv_bipush (v := 48) hx hb dX12_isDigit_1 (by decide +kernel) ?_
  refine lv_icmp_lt (tgt := 16) hx hb dX12_isDigit_3 (by decide) (fun c_1 => ?_) (fun c_1 => ?_)
  · have jc_1 := dk_ltc (k := 48) (by decide +kernel) c_1
    refine lv_iconst (v := 0) hx hb dX12_isDigit_16 (by decide +kernel) ?_
    have hz_2 : (0 : Int32).toInt = 0 := by decide +kernel
    have hz_3 : (0 : Int32).toInt = 0 := by decide +kernel
    refine W.widen (k := 0) (n := 0) (Nat.le_of_ble_eq_true rfl) (Nat.le_of_ble_eq_true rfl) ?_
    exact dg_iret hx hb hr hlocks (by decide +kernel) hP hS ⟨rfl, (by decide +kernel), (by omega), trivial⟩ dX12_isDigit_17
  · have jc_1 := dk_nltc (k := 48) (by decide +kernel) c_1
    refine lv_iload_n hx hb dX12_isDigit_6 rfl (lv_at hl 0 rfl) ?_
    refine lv_bipush (v := 57) hx hb dX12_isDigit_7 (by decide +kernel) ?_
    refine lv_icmp_gt (tgt := 16) hx hb dX12_isDigit_9 (by decide) (fun c_4 => ?_) (fun c_4 => ?_)
    · have jc_4 := dk_gtc (k := 57) (by decide +kernel) c_4
      refine lv_iconst (v := 0) hx hb dX12_isDigit_16 (by decide +kernel) ?_
      have hz_5 : (0 : Int32).toInt = 0 := by decide +kernel
      have hz_6 : (0 : Int32).toInt = 0 := by decide +kernel
      refine W.widen (k := 0) (n := 0) (Nat.le_of_ble_eq_true rfl) (Nat.le_of_ble_eq_true rfl) ?_
      exact dg_iret hx hb hr hlocks (by decide +kernel) hP hS ⟨rfl, (by decide +kernel), (by omega), trivial⟩ dX12_isDigit_17
    · have jc_4 := dk_ngtc (k := 57) (by decide +kernel) c_4
      refine lv_iconst (v := 1) hx hb dX12_isDigit_12 (by decide +kernel) ?_
      refine lv_goto (tgt := 17) hx hb dX12_isDigit_13 (by decide) ?_
      have hz_7 : (1 : Int32).toInt = 1 := by decide +kernel
      have hz_8 : (1 : Int32).toInt = 1 := by decide +kernel
      refine W.widen (k := 0) (n := 0) (Nat.le_of_ble_eq_true rfl) (Nat.le_of_ble_eq_true rfl) ?_
      exact dg_iret hx hb hr hlocks (by decide +kernel) hP hS ⟨rfl, (by decide +kernel), (by omega), trivial⟩ dX12_isDigit_17
set_option maxHeartbeats 8000000 in
set_option maxRecDepth 100000 in
theorem c_m_ahead (l : Launch) (g : Nat → ClassId) (D : va_G) (o : Nat) (S : dg_S) (tb : Nat → Int32) (tn : Nat) (se : Int32) (f_se : S.1 0 5 = .int se) (b_se : 0 ≤ (se).toInt ∧ (se).toInt ≤ 1600) (sl : Int32) (f_sl : S.1 0 2 = .int sl) (b_sl : 0 ≤ (sl).toInt ∧ (sl).toInt ≤ 1600) (hse : (se).toInt ≤ (sl).toInt) (TZ : TZM tb tn S) (I : CM o S) (sz : Nat) : Met l yX12_ahead (bw yX12_ahead cX12_ahead 6 none) ({ frames := 2, cells := 0, slots := 0, locals := 52 } : Room) (dk_Pc g D (dg_w g shM o rfM S) sz [.ref (o + 0)]) (va_Qv (fun S' => CM o S' ∧ dg_sm shM [(0, 3), (0, 4), (0, 5), (0, 6), (0, 7), (0, 12)] [] S S' ∧ (∃ y9_3 y9_4 y9_5 : Int32, S'.1 0 3 = .int y9_3 ∧ S'.1 0 4 = .int y9_4 ∧ S'.1 0 5 = .int y9_5 ∧ ((se).toInt ≤ (y9_4).toInt ∧ (y9_4).toInt ≤ (y9_5).toInt ∧ (y9_5).toInt ≤ (sl).toInt ∧ ((y9_3).toInt ≠ 0 → (y9_4).toInt + 1 ≤ (y9_5).toInt))) ∧ (TNX tb tn se S') ∧ True) (dg_B g D shM o rfM) (dg_A o shM.length sz)) 0 0 (dg_A o shM.length sz) := by
  refine dg_met (cc := cX12_ahead) (maxL := 6) (ret := none) (by decide) rfl (Nat.le_of_ble_eq_true rfl) ?_
  intro p e s m args below meth c A hAe harg hx hb hr hml hts hown hlocks hin hP K hS hA1 hA ST hsz ls hl
  rw [← hAe]
  have F : CallFix p m c cX12_ahead 6 s args (bw yX12_ahead cX12_ahead 6 none) RX12 := ⟨hx, hb, hml, hown, hts⟩
  have hl : lv_has ls 6 [(0, .ref (o + 0))] := hl
  have M_0 : dg_sm shM [(0, 3), (0, 4), (0, 5), (0, 6), (0, 7), (0, 12)] [] S S := dg_sm.rf
  have htb := TZ.1
  have hn16 := TZ.2.1
  have hsl := TZ.siz f_sl
  have hcs := dk_clN sl
  refine lv_aload_n hx hb dX12_ahead_0 rfl (lv_at hl 0 rfl) ?_
  refine dg_get (C := RX12) (T := TX12) (N := 77) hx hb hts (fun w h => bw_mem (wU_X12 w h)) hown K hP sM_0 rfl 5 (by decide) (hts _ (bw_mem wB_288)) (fun _ h9 => h9) (v := .int se) f_se dX12_ahead_1 ?_
  refine lv_istore_n (lv' := [(1, .int se), (0, .ref (o + 0))]) hx hb dX12_ahead_4 rfl hl (by decide) rfl (fun ls hl => ?_)
  have J_505 : ∀ (x_30 : Int32), (0 ≤ (x_30).toInt ∧ (x_30).toInt ≤ 1600) → ((se).toInt ≤ (x_30).toInt ∧ (x_30).toInt ≤ (sl).toInt) → (t_sk tb tn (se : Int32).toNatClampNeg = (x_30 : Int32).toNatClampNeg) → ∀ (H : Heap) (locs : List Loc), va_P D vwCl (dg_w g shM o rfM S) H → va_S A s.heap H locs → ∀ ls : Array Slot, lv_has ls 6 [(1, .int x_30), (0, .ref (o + 0))] → W p l e ({ frames := 2, cells := 0, slots := 0, locals := 52 } : Room) s m args below meth c H locs 0 0 (MQ below (va_Qv (fun S' => CM o S' ∧ dg_sm shM [(0, 3), (0, 4), (0, 5), (0, 6), (0, 7), (0, 12)] [] S S' ∧ (∃ y9_3 y9_4 y9_5 : Int32, S'.1 0 3 = .int y9_3 ∧ S'.1 0 4 = .int y9_4 ∧ S'.1 0 5 = .int y9_5 ∧ ((se).toInt ≤ (y9_4).toInt ∧ (y9_4).toInt ≤ (y9_5).toInt ∧ (y9_5).toInt ≤ (sl).toInt ∧ ((y9_3).toInt ≠ 0 → (y9_4).toInt + 1 ≤ (y9_5).toInt))) ∧ (TNX tb tn se S') ∧ True) (dg_B g D shM o rfM) A) args s 0 0 A) (F0 m 41 ls []) := by
    intro x_30 b_x_30 rel_0 rel_1 H locs hP hS ls hl
    have hs9 := rel_1
    have hca := dk_clN x_30
    refine lv_aload_n hx hb dX12_ahead_41 rfl (lv_at hl 1 rfl) ?_
    refine lv_iload_n hx hb dX12_ahead_42 rfl (lv_at hl 0 rfl) ?_
    refine dg_put (ci := 12) (v := .int x_30) (ty := tyX12 4) (C := RX12) (T := TX12) (N := 77) hx hb hts (fun w h => bw_mem (wU_X12 w h)) tyX12 tyX12_ok nmX12 hown K hP hS hA1 sM_0 rfl 4 (by decide) (hts _ (bw_mem wB_291)) (fun _ h9 => h9) rfl (by decide +kernel) rfl rfl dX12_ahead_43 (fun S_506 e_506 H locs hP hS => ?_)
    have I_506 := dg_I.uFi (lo := 0) (hi := 1600) I e_506 sM_0 (by decide +kernel) (show 0 ≤ (x_30).toInt ∧ (x_30).toInt ≤ 1600 from (by omega))
    have M_506 := dg_sm.uF M_0 e_506 sM_0 (by decide)
    refine lv_aload_n hx hb dX12_ahead_46 rfl (lv_at hl 1 rfl) ?_
    refine lv_iload_n hx hb dX12_ahead_47 rfl (lv_at hl 0 rfl) ?_
    refine dg_put (ci := 12) (v := .int x_30) (ty := tyX12 5) (C := RX12) (T := TX12) (N := 77) hx hb hts (fun w h => bw_mem (wU_X12 w h)) tyX12 tyX12_ok nmX12 hown K hP hS hA1 sM_0 rfl 5 (by decide) (hts _ (bw_mem wB_288)) (fun _ h9 => h9) rfl (by decide +kernel) rfl rfl dX12_ahead_48 (fun S_507 e_507 H locs hP hS => ?_)
    have I_507 := dg_I.uFi (lo := 0) (hi := 1600) I_506 e_507 sM_0 (by decide +kernel) (show 0 ≤ (x_30).toInt ∧ (x_30).toInt ≤ 1600 from (by omega))
    have M_507 := dg_sm.uF M_506 e_507 sM_0 (by decide)
    refine lv_aload_n hx hb dX12_ahead_51 rfl (lv_at hl 1 rfl) ?_
    refine lv_iconst (v := 0) hx hb dX12_ahead_52 (by decide +kernel) ?_
    have hz_508 : (0 : Int32).toInt = 0 := by decide +kernel
    refine dg_put (ci := 12) (v := .int 0) (ty := tyX12 3) (C := RX12) (T := TX12) (N := 77) hx hb hts (fun w h => bw_mem (wU_X12 w h)) tyX12 tyX12_ok nmX12 hown K hP hS hA1 sM_0 rfl 3 (by decide) (hts _ (bw_mem wB_292)) (fun _ h9 => h9) rfl (by decide +kernel) rfl rfl dX12_ahead_53 (fun S_509 e_509 H locs hP hS => ?_)
    have I_509 := dg_I.uFi (lo := 0) (hi := 3) I_507 e_509 sM_0 (by decide +kernel) (show 0 ≤ ((0 : Int32)).toInt ∧ ((0 : Int32)).toInt ≤ 3 from (by decide +kernel))
    have M_509 := dg_sm.uF M_507 e_509 sM_0 (by decide)
    refine lv_aload_n hx hb dX12_ahead_56 rfl (lv_at hl 1 rfl) ?_
    refine lv_iconst (v := (-1)) hx hb dX12_ahead_57 (by decide +kernel) ?_
    have hz_510 : (-1 : Int32).toInt = (-1) := by decide +kernel
    refine dg_put (ci := 12) (v := .int (-1)) (ty := tyX12 12) (C := RX12) (T := TX12) (N := 77) hx hb hts (fun w h => bw_mem (wU_X12 w h)) tyX12 tyX12_ok nmX12 hown K hP hS hA1 sM_0 rfl 12 (by decide) (hts _ (bw_mem wB_293)) (fun _ h9 => h9) rfl (by decide +kernel) rfl rfl dX12_ahead_58 (fun S_511 e_511 H locs hP hS => ?_)
    have I_511 := dg_I.uFi (lo := (-2147483648)) (hi := 2147483647) I_509 e_511 sM_0 (by decide +kernel) (show (-2147483648) ≤ ((-1 : Int32)).toInt ∧ ((-1 : Int32)).toInt ≤ 2147483647 from (by decide +kernel))
    have M_511 := dg_sm.uF M_509 e_511 sM_0 (by decide)
    refine lv_iload_n hx hb dX12_ahead_61 rfl (lv_at hl 0 rfl) ?_
    refine lv_aload_n hx hb dX12_ahead_62 rfl (lv_at hl 1 rfl) ?_
    refine dg_get (C := RX12) (T := TX12) (N := 77) hx hb hts (fun w h => bw_mem (wU_X12 w h)) hown K hP sM_0 rfl 2 (by decide) (hts _ (bw_mem wB_289)) (fun _ h9 => h9) (v := .int sl) (((dg_uF_ne e_511 (fun z => absurd z.2 (by decide))).trans ((dg_uF_ne e_509 (fun z => absurd z.2 (by decide))).trans ((dg_uF_ne e_507 (fun z => absurd z.2 (by decide))).trans (dg_uF_ne e_506 (fun z => absurd z.2 (by decide)))))).trans f_sl) dX12_ahead_63 ?_
    refine lv_icmp_lt (tgt := 70) hx hb dX12_ahead_66 (by decide) (fun c_512 => ?_) (fun c_512 => ?_)
    · have jc_512 := dk_ltc (k := (sl).toInt) rfl c_512
      refine lv_aload_n hx hb dX12_ahead_70 rfl (lv_at hl 1 rfl) ?_
      refine dg_get (C := RX12) (T := TX12) (N := 77) hx hb hts (fun w h => bw_mem (wU_X12 w h)) hown K hP sM_0 rfl 0 (by decide) (hts _ (bw_mem wB_290)) (fun _ h9 => h9) (v := .ref (o + 1)) (show S_511.1 0 0 = .ref (o + 1) from dg_I.rel (d := 1) I_511 sM_0 (by decide +kernel)) dX12_ahead_71 ?_
      refine lv_iload_n hx hb dX12_ahead_74 rfl (lv_at hl 0 rfl) ?_
      have hin_513 : vp_in x_30 1800 := (dk_inv (by omega) (by omega))
      refine dg_iald hx hb K hP sM_1 hin_513 dX12_ahead_75 (fun x_514 ex_514 => ?_)
      have b_x_514 := dk_all_at (dg_I.row (lo := 0) (hi := 255) I_511 sM_1 (by decide +kernel)) hin_513 ex_514
      have kx_514 : tb (x_30 : Int32).toNatClampNeg = x_514 := by rw [ex_514, ((dg_uF_f e_511 1).trans ((dg_uF_f e_509 1).trans ((dg_uF_f e_507 1).trans (dg_uF_f e_506 1)))), htb]
      refine dg_calli hS hA1 hA (va_runS (As := [.int x_514]) (rest := []) F (c_m_isLetter l g D o S_511 x_514 I_511 H.size) (va_cwS 1 hts (bw_S wB_295 wB_296 wB_297 wB_294) rfl rfl rfl (by decide +kernel) ⟨Nat.le_of_ble_eq_true rfl, Nat.le_of_ble_eq_true rfl⟩) (dg_preS K ST hP hS hA1 hA) rfl rfl hl.1 rfl (lv_room (Nat.le_of_ble_eq_true rfl)) dX12_ahead_76 ⟨Nat.le_of_ble_eq_true rfl, Nat.le_of_ble_eq_true rfl⟩) (fun x_515 S_516 hw_516 H locs hP hS => ?_)
      rw [hw_516.1] at hP
      obtain ⟨hq_516, w_516_0, w_516_1, -⟩ := hw_516
      have w_516_0 : 0 ≤ (x_515).toInt ∧ (x_515).toInt ≤ 1 := w_516_0
      have w_516_1 : (x_515).toInt = 1 ↔ (97 ≤ (x_514).toInt ∧ (x_514).toInt ≤ 122) := w_516_1
      refine lv_istore_n (lv' := [(2, .int x_515), (1, .int x_30), (0, .ref (o + 0))]) hx hb dX12_ahead_79 rfl hl (by decide) rfl (fun ls hl => ?_)
      refine lv_aload_n hx hb dX12_ahead_80 rfl (lv_at hl 2 rfl) ?_
      refine dg_get (C := RX12) (T := TX12) (N := 77) hx hb hts (fun w h => bw_mem (wU_X12 w h)) hown K hP sM_0 rfl 0 (by decide) (hts _ (bw_mem wB_290)) (fun _ h9 => h9) (v := .ref (o + 1)) (show S_511.1 0 0 = .ref (o + 1) from dg_I.rel (d := 1) I_511 sM_0 (by decide +kernel)) dX12_ahead_81 ?_
      refine lv_iload_n hx hb dX12_ahead_84 rfl (lv_at hl 1 rfl) ?_
      have hin_517 : vp_in x_30 1800 := (dk_inv (by omega) (by omega))
      refine dg_iald hx hb K hP sM_1 hin_517 dX12_ahead_85 (fun y_518 ey_518 => ?_)
      obtain rfl : x_514 = y_518 := (ey_518.trans ex_514.symm).symm
      refine dg_calli hS hA1 hA (va_runS (As := [.int x_514]) (rest := []) F (c_m_isDigit l g D o S_511 x_514 I_511 H.size) (va_cwS 1 hts (bw_S wB_299 wB_300 wB_297 wB_298) rfl rfl rfl (by decide +kernel) ⟨Nat.le_of_ble_eq_true rfl, Nat.le_of_ble_eq_true rfl⟩) (dg_preS K ST hP hS hA1 hA) rfl rfl hl.1 rfl (lv_room (Nat.le_of_ble_eq_true rfl)) dX12_ahead_86 ⟨Nat.le_of_ble_eq_true rfl, Nat.le_of_ble_eq_true rfl⟩) (fun x_519 S_520 hw_520 H locs hP hS => ?_)
      rw [hw_520.1] at hP
      obtain ⟨hq_520, w_520_0, w_520_1, -⟩ := hw_520
      have w_520_0 : 0 ≤ (x_519).toInt ∧ (x_519).toInt ≤ 1 := w_520_0
      have w_520_1 : (x_519).toInt = 1 ↔ (48 ≤ (x_514).toInt ∧ (x_514).toInt ≤ 57) := w_520_1
      refine lv_istore_n (lv' := [(3, .int x_519), (2, .int x_515), (1, .int x_30), (0, .ref (o + 0))]) hx hb dX12_ahead_89 rfl hl (by decide) rfl (fun ls hl => ?_)
      refine lv_iload_n hx hb dX12_ahead_90 rfl (lv_at hl 1 rfl) ?_
      have J_976 : ∀ (x_559 : Int32), ((-1) ≤ (x_559).toInt ∧ (x_559).toInt ≤ 1599) → ∀ S_975 : dg_S, CM o S_975 → dg_sm shM [(0, 3), (0, 4), (0, 5), (0, 6), (0, 7), (0, 12)] [] S S_975 → S_975.1 0 4 = .int x_30 → S_975.1 0 5 = .int x_30 → S_975.1 0 3 = .int 0 → S_975.1 0 12 = .int x_559 → (m_hid (((x_559 : Int32)).toInt ≠ -1 ↔ ((((x_515 : Int32)).toInt = 1 ∨ ((x_519 : Int32)).toInt = 1) ∧ t_adj tb (x_30 : Int32).toNatClampNeg = true))) → ∀ (H : Heap) (locs : List Loc), va_P D vwCl (dg_w g shM o rfM S_975) H → va_S A s.heap H locs → ∀ ls : Array Slot, lv_has ls 6 [(3, .int x_519), (2, .int x_515), (1, .int x_30), (0, .ref (o + 0))] → W p l e ({ frames := 2, cells := 0, slots := 0, locals := 52 } : Room) s m args below meth c H locs 0 0 (MQ below (va_Qv (fun S' => CM o S' ∧ dg_sm shM [(0, 3), (0, 4), (0, 5), (0, 6), (0, 7), (0, 12)] [] S S' ∧ (∃ y9_3 y9_4 y9_5 : Int32, S'.1 0 3 = .int y9_3 ∧ S'.1 0 4 = .int y9_4 ∧ S'.1 0 5 = .int y9_5 ∧ ((se).toInt ≤ (y9_4).toInt ∧ (y9_4).toInt ≤ (y9_5).toInt ∧ (y9_5).toInt ≤ (sl).toInt ∧ ((y9_3).toInt ≠ 0 → (y9_4).toInt + 1 ≤ (y9_5).toInt))) ∧ (TNX tb tn se S') ∧ True) (dg_B g D shM o rfM) A) args s 0 0 A) (F0 m 135 ls []) := by
        intro x_559 b_x_559 S_975 I_975 M_975 ff_975_4_0 ff_975_5_0 ff_975_3_0 ff_975_12_0 srel_975_0 H locs hP hS ls hl
        have adj9 := srel_975_0
        refine lv_aload_n hx hb dX12_ahead_135 rfl (lv_at hl 3 rfl) ?_
        refine lv_iconst (v := 0) hx hb dX12_ahead_136 (by decide +kernel) ?_
        have hz_977 : (0 : Int32).toInt = 0 := by decide +kernel
        refine dg_put (ci := 12) (v := .int 0) (ty := tyX12 6) (C := RX12) (T := TX12) (N := 77) hx hb hts (fun w h => bw_mem (wU_X12 w h)) tyX12 tyX12_ok nmX12 hown K hP hS hA1 sM_0 rfl 6 (by decide) (hts _ (bw_mem wB_301)) (fun _ h9 => h9) rfl (by decide +kernel) rfl rfl dX12_ahead_137 (fun S_978 e_978 H locs hP hS => ?_)
        have I_978 := dg_I.uFi (lo := 0) (hi := 9999) I_975 e_978 sM_0 (by decide +kernel) (show 0 ≤ ((0 : Int32)).toInt ∧ ((0 : Int32)).toInt ≤ 9999 from (by decide +kernel))
        have M_978 := dg_sm.uF M_975 e_978 sM_0 (by decide)
        refine lv_aload_n hx hb dX12_ahead_140 rfl (lv_at hl 3 rfl) ?_
        refine lv_lconst (v := 0) hx hb dX12_ahead_141 (by decide +kernel) ?_
        refine dg_put (ci := 12) (v := .long 0) (ty := tyX12 7) (C := RX12) (T := TX12) (N := 77) hx hb hts (fun w h => bw_mem (wU_X12 w h)) tyX12 tyX12_ok nmX12 hown K hP hS hA1 sM_0 rfl 7 (by decide) (hts _ (bw_mem wB_302)) (fun _ h9 => h9) rfl (by decide +kernel) rfl rfl dX12_ahead_142 (fun S_979 e_979 H locs hP hS => ?_)
        have I_979 := dg_I.uFl I_978 e_979 sM_0 (by decide +kernel)
        have M_979 := dg_sm.uF M_978 e_979 sM_0 (by decide)
        refine lv_aload_n hx hb dX12_ahead_145 rfl (lv_at hl 3 rfl) ?_
        refine lv_iconst (v := 3) hx hb dX12_ahead_146 (by decide +kernel) ?_
        have hz_980 : (3 : Int32).toInt = 3 := by decide +kernel
        refine dg_put (ci := 12) (v := .int 3) (ty := tyX12 3) (C := RX12) (T := TX12) (N := 77) hx hb hts (fun w h => bw_mem (wU_X12 w h)) tyX12 tyX12_ok nmX12 hown K hP hS hA1 sM_0 rfl 3 (by decide) (hts _ (bw_mem wB_292)) (fun _ h9 => h9) rfl (by decide +kernel) rfl rfl dX12_ahead_147 (fun S_981 e_981 H locs hP hS => ?_)
        have I_981 := dg_I.uFi (lo := 0) (hi := 3) I_979 e_981 sM_0 (by decide +kernel) (show 0 ≤ ((3 : Int32)).toInt ∧ ((3 : Int32)).toInt ≤ 3 from (by decide +kernel))
        have M_981 := dg_sm.uF M_979 e_981 sM_0 (by decide)
        refine lv_aload_n hx hb dX12_ahead_150 rfl (lv_at hl 3 rfl) ?_
        refine lv_iload_n hx hb dX12_ahead_151 rfl (lv_at hl 2 rfl) ?_
        refine lv_iconst (v := 1) hx hb dX12_ahead_152 (by decide +kernel) ?_
        refine lv_iadd hx hb dX12_ahead_153 ?_
        refine lv_topi (fun x_982 ex_982 => ?_)
        have jx_982 : (x_982).toInt = (x_30).toInt + 1 := by rw [ex_982]; exact dk_addT rfl (by decide +kernel) (by omega) (by omega)
        refine dg_put (ci := 12) (v := .int x_982) (ty := tyX12 5) (C := RX12) (T := TX12) (N := 77) hx hb hts (fun w h => bw_mem (wU_X12 w h)) tyX12 tyX12_ok nmX12 hown K hP hS hA1 sM_0 rfl 5 (by decide) (hts _ (bw_mem wB_288)) (fun _ h9 => h9) rfl (by decide +kernel) rfl rfl dX12_ahead_154 (fun S_983 e_983 H locs hP hS => ?_)
        have I_983 := dg_I.uFi (lo := 0) (hi := 1600) I_981 e_983 sM_0 (by decide +kernel) (show 0 ≤ (x_982).toInt ∧ (x_982).toInt ≤ 1600 from (by omega))
        have M_983 := dg_sm.uF M_981 e_983 sM_0 (by decide)
        refine lv_iload_n hx hb dX12_ahead_157 rfl (lv_at hl 1 rfl) ?_
        refine lv_if_ne (tgt := 176) hx hb dX12_ahead_158 (by decide) (fun c_984 => ?_) (fun c_984 => ?_)
        · have jc_984 := dk_neqc (k := 0) (by decide +kernel) c_984
          refine lv_aload_n hx hb dX12_ahead_176 rfl (lv_at hl 3 rfl) ?_
          refine lv_iload_n hx hb dX12_ahead_177 rfl (lv_at hl 1 rfl) ?_
          refine lv_if_eq (tgt := 185) hx hb dX12_ahead_178 (by decide) (fun c => absurd c (fun z => absurd (dk_eqc (k := 0) (by decide +kernel) z) (by omega))) (fun _ => ?_)
          refine lv_iconst (v := 1) hx hb dX12_ahead_181 (by decide +kernel) ?_
          refine lv_goto (tgt := 186) hx hb dX12_ahead_182 (by decide) ?_
          have hz_985 : (1 : Int32).toInt = 1 := by decide +kernel
          refine dg_put (ci := 12) (v := .int 1) (ty := tyX12 3) (C := RX12) (T := TX12) (N := 77) hx hb hts (fun w h => bw_mem (wU_X12 w h)) tyX12 tyX12_ok nmX12 hown K hP hS hA1 sM_0 rfl 3 (by decide) (hts _ (bw_mem wB_292)) (fun _ h9 => h9) rfl (by decide +kernel) rfl rfl dX12_ahead_186 (fun S_986 e_986 H locs hP hS => ?_)
          have I_986 := dg_I.uFi (lo := 0) (hi := 3) I_983 e_986 sM_0 (by decide +kernel) (show 0 ≤ ((1 : Int32)).toInt ∧ ((1 : Int32)).toInt ≤ 3 from (by decide +kernel))
          have M_986 := dg_sm.uF M_983 e_986 sM_0 (by decide)
          refine lv_iload_n hx hb dX12_ahead_189 rfl (lv_at hl 1 rfl) ?_
          refine lv_if_eq (tgt := 198) hx hb dX12_ahead_190 (by decide) (fun c => absurd c (fun z => absurd (dk_eqc (k := 0) (by decide +kernel) z) (by omega))) (fun _ => ?_)
          refine lv_bipush (v := 6) hx hb dX12_ahead_193 (by decide +kernel) ?_
          refine lv_goto (tgt := 199) hx hb dX12_ahead_195 (by decide) ?_
          refine lv_istore (lv' := [(4, .int 6), (3, .int x_519), (2, .int x_515), (1, .int x_30), (0, .ref (o + 0))]) hx hb dX12_ahead_199 hl (by decide) rfl (fun ls hl => ?_)
          refine lv_iconst (v := 0) hx hb dX12_ahead_201 (by decide +kernel) ?_
          refine lv_istore (lv' := [(5, .int 0), (4, .int 6), (3, .int x_519), (2, .int x_515), (1, .int x_30), (0, .ref (o + 0))]) hx hb dX12_ahead_202 hl (by decide) rfl (fun ls hl => ?_)
          have L_1165 : ∀ (n : Nat) (x_1160 : Int32) (x_1161 : Int32) (x_1162 : Int32) (x_1163 : Int32), (0 ≤ (x_1160).toInt ∧ (x_1160).toInt ≤ 1600) → (0 ≤ (x_1161).toInt ∧ (x_1161).toInt ≤ 1600) → ((-1) ≤ (x_1162).toInt ∧ (x_1162).toInt ≤ 1599) → (0 ≤ (x_1163).toInt ∧ (x_1163).toInt ≤ 9999) → ((x_1161).toInt ≤ (sl).toInt ∧ (x_1160).toInt ≤ (x_1161).toInt ∧ ((x_1160).toInt = 0 → (x_1161).toInt = (x_30).toInt) ∧ (1 ≤ (x_1160).toInt → (x_30).toInt + 1 ≤ (x_1161).toInt)) → ((x_1161).toInt = (x_30).toInt + (x_1160).toInt) → ((1601 - (x_1160).toInt).toNat < n) → ∀ S_1164 : dg_S, CM o S_1164 → dg_sm shM [(0, 3), (0, 4), (0, 5), (0, 6), (0, 7), (0, 12)] [] S S_1164 → S_1164.1 0 4 = .int x_30 → S_1164.1 0 12 = .int x_1162 → S_1164.1 0 5 = .int x_982 → S_1164.1 0 3 = .int 1 → S_1164.1 0 6 = .int x_1163 → (((x_1160).toInt = 0 → (x_1163).toInt = 0) ∧ ((x_1160).toInt = 1 → (x_1163).toInt ≤ 9) ∧ ((x_1160).toInt = 2 → (x_1163).toInt ≤ 99) ∧ ((x_1160).toInt = 3 → (x_1163).toInt ≤ 999)) → (m_hid ((x_515 : Int32).toInt = 1 → ∀ j9 : Nat, (x_30 : Int32).toNatClampNeg ≤ j9 → j9 < (x_1161 : Int32).toNatClampNeg → t_l (tb j9) = true)) → (m_hid ((x_519 : Int32).toInt = 1 → ∀ j9 : Nat, (x_30 : Int32).toNatClampNeg ≤ j9 → j9 < (x_1161 : Int32).toNatClampNeg → t_d (tb j9) = true)) → (∃ w9 : Int64, S_1164.1 0 7 = .long w9 ∧ m_hid ((x_515 : Int32).toInt = 1 → w9.toInt = m_pk tb (x_30 : Int32).toNatClampNeg (min 6 (x_1160 : Int32).toNatClampNeg))) → (m_hid ((x_519 : Int32).toInt = 1 → (x_1163).toInt = t_num tb (x_30 : Int32).toNatClampNeg (min 4 (x_1160 : Int32).toNatClampNeg))) → (m_hid (((x_1162 : Int32)).toInt ≠ -1 ↔ (t_adj tb (x_30 : Int32).toNatClampNeg = true ∨ (6 : Int32).toInt < (x_1160).toInt))) → ∀ (H : Heap) (locs : List Loc), va_P D vwCl (dg_w g shM o rfM S_1164) H → va_S A s.heap H locs → ∀ ls : Array Slot, lv_has ls 6 [(5, .int x_1160), (4, .int 6), (3, .int x_519), (2, .int x_515), (1, .int x_1161), (0, .ref (o + 0))] → W p l e ({ frames := 2, cells := 0, slots := 0, locals := 52 } : Room) s m args below meth c H locs 0 0 (MQ below (va_Qv (fun S' => CM o S' ∧ dg_sm shM [(0, 3), (0, 4), (0, 5), (0, 6), (0, 7), (0, 12)] [] S S' ∧ (∃ y9_3 y9_4 y9_5 : Int32, S'.1 0 3 = .int y9_3 ∧ S'.1 0 4 = .int y9_4 ∧ S'.1 0 5 = .int y9_5 ∧ ((se).toInt ≤ (y9_4).toInt ∧ (y9_4).toInt ≤ (y9_5).toInt ∧ (y9_5).toInt ≤ (sl).toInt ∧ ((y9_3).toInt ≠ 0 → (y9_4).toInt + 1 ≤ (y9_5).toInt))) ∧ (TNX tb tn se S') ∧ True) (dg_B g D shM o rfM) A) args s 0 0 A) (F0 m 204 ls []) := by
            intro n
            induction n with
            | zero =>
              intro x_1160 x_1161 x_1162 x_1163 b_x_1160 b_x_1161 b_x_1162 b_x_1163 rel_0 rel_1 hmu S_1164 I_1164 M_1164 ff_1164_4_0 ff_1164_12_0 ff_1164_5_0 ff_1164_3_0 ff_1164_6_0 srel_1164_0 srel_1164_1 srel_1164_2 srel_1164_3 srel_1164_4 srel_1164_5 H locs hP hS ls hl
              omega
            | succ n ih =>
              intro x_1160 x_1161 x_1162 x_1163 b_x_1160 b_x_1161 b_x_1162 b_x_1163 rel_0 rel_1 hmu S_1164 I_1164 M_1164 ff_1164_4_0 ff_1164_12_0 ff_1164_5_0 ff_1164_3_0 ff_1164_6_0 srel_1164_0 srel_1164_1 srel_1164_2 srel_1164_3 srel_1164_4 srel_1164_5 H locs hP hS ls hl
              refine lv_iload_n hx hb dX12_ahead_204 rfl (lv_at hl 4 rfl) ?_
              refine lv_aload_n hx hb dX12_ahead_205 rfl (lv_at hl 5 rfl) ?_
              refine dg_get (C := RX12) (T := TX12) (N := 77) hx hb hts (fun w h => bw_mem (wU_X12 w h)) hown K hP sM_0 rfl 2 (by decide) (hts _ (bw_mem wB_289)) (fun _ h9 => h9) (v := .int sl) ((M_1164.1 0 2 _ sM_0 (by decide)).trans f_sl) dX12_ahead_206 ?_
              refine lv_icmp_ge (tgt := 334) hx hb dX12_ahead_209 (by decide) (fun c_1166 => ?_) (fun c_1166 => ?_)
              · have jc_1166 := dk_gec (k := (sl).toInt) rfl c_1166
                refine lv_aload_n hx hb dX12_ahead_334 rfl (lv_at hl 5 rfl) ?_
                refine lv_iload_n hx hb dX12_ahead_335 rfl (lv_at hl 4 rfl) ?_
                refine dg_put (ci := 12) (v := .int x_1161) (ty := tyX12 5) (C := RX12) (T := TX12) (N := 77) hx hb hts (fun w h => bw_mem (wU_X12 w h)) tyX12 tyX12_ok nmX12 hown K hP hS hA1 sM_0 rfl 5 (by decide) (hts _ (bw_mem wB_288)) (fun _ h9 => h9) rfl (by decide +kernel) rfl rfl dX12_ahead_336 (fun S_1167 e_1167 H locs hP hS => ?_)
                have I_1167 := dg_I.uFi (lo := 0) (hi := 1600) I_1164 e_1167 sM_0 (by decide +kernel) (show 0 ≤ (x_1161).toInt ∧ (x_1161).toInt ≤ 1600 from (by omega))
                have M_1167 := dg_sm.uF M_1164 e_1167 sM_0 (by decide)
                have hz_1168 : (1 : Int32).toInt = 1 := by decide +kernel
                obtain ⟨x_1169, f_x_1169⟩ := dg_I.long (i := 0) (k := 7) I_1167 sM_0 (by decide +kernel)
                have hz_1170 : (1 : Int32).toInt = 1 := by decide +kernel
                have hz_1171 : (6 : Int32).toInt = 6 := by decide +kernel
                refine W.widen (k := 0) (n := 0) (Nat.le_of_ble_eq_true rfl) (Nat.le_of_ble_eq_true rfl) ?_
                exact dg_vret hx hb hr hlocks hP hS ⟨I_1167, M_1167, ⟨1, x_30, x_1161, ((dg_uF_ne e_1167 (fun z => absurd z.2 (by decide))).trans ff_1164_3_0), ((dg_uF_ne e_1167 (fun z => absurd z.2 (by decide))).trans ff_1164_4_0), (dg_uF_at e_1167), (by omega)⟩, (by obtain ⟨w9, f9, h9⟩ := srel_1164_3; exact TNX.wrd (m := x_1160) (mo := 6) hn16 hs9 (by omega) ((dg_uF_ne e_1167 (fun z => absurd z.2 (by decide))).trans ff_1164_3_0) ((dg_uF_ne e_1167 (fun z => absurd z.2 (by decide))).trans ff_1164_4_0) (dg_uF_at e_1167) ((dg_uF_ne e_1167 (fun z => absurd z.2 (by decide))).trans ff_1164_6_0) ((dg_uF_ne e_1167 (fun z => absurd z.2 (by decide))).trans f9) ((dg_uF_ne e_1167 (fun z => absurd z.2 (by decide))).trans ff_1164_12_0) (by omega) (by omega) (by have h8 := dk_clN x_1161; omega) (by omega) (by omega) (srel_1164_1.out (by omega)) (t_wd_ge (by have h8 := dk_clN x_1161; omega)) srel_1164_5.out (by omega) (h9.out (by omega))), trivial⟩ dX12_ahead_339
              · have jc_1166 := dk_ngec (k := (sl).toInt) rfl c_1166
                refine lv_iload_n hx hb dX12_ahead_212 rfl (lv_at hl 3 rfl) ?_
                refine lv_if_eq (tgt := 231) hx hb dX12_ahead_213 (by decide) (fun c => absurd c (fun z => absurd (dk_eqc (k := 0) (by decide +kernel) z) (by omega))) (fun _ => ?_)
                refine lv_aload_n hx hb dX12_ahead_216 rfl (lv_at hl 5 rfl) ?_
                refine dg_get (C := RX12) (T := TX12) (N := 77) hx hb hts (fun w h => bw_mem (wU_X12 w h)) hown K hP sM_0 rfl 0 (by decide) (hts _ (bw_mem wB_290)) (fun _ h9 => h9) (v := .ref (o + 1)) (show S_1164.1 0 0 = .ref (o + 1) from dg_I.rel (d := 1) I_1164 sM_0 (by decide +kernel)) dX12_ahead_217 ?_
                refine lv_iload_n hx hb dX12_ahead_220 rfl (lv_at hl 4 rfl) ?_
                have hin_1172 : vp_in x_1161 1800 := (dk_inv (by omega) (by omega))
                refine dg_iald hx hb K hP sM_1 hin_1172 dX12_ahead_221 (fun x_1173 ex_1173 => ?_)
                have b_x_1173 := dk_all_at (dg_I.row (lo := 0) (hi := 255) I_1164 sM_1 (by decide +kernel)) hin_1172 ex_1173
                have kx_1173 : tb (x_1161 : Int32).toNatClampNeg = x_1173 := by rw [ex_1173, (M_1164.2 1 _ sM_1 (by decide)).1, htb]
                refine dg_calli hS hA1 hA (va_runS (As := [.int x_1173]) (rest := []) F (c_m_isLetter l g D o S_1164 x_1173 I_1164 H.size) (va_cwS 1 hts (bw_S wB_295 wB_296 wB_297 wB_294) rfl rfl rfl (by decide +kernel) ⟨Nat.le_of_ble_eq_true rfl, Nat.le_of_ble_eq_true rfl⟩) (dg_preS K ST hP hS hA1 hA) rfl rfl hl.1 rfl (lv_room (Nat.le_of_ble_eq_true rfl)) dX12_ahead_222 ⟨Nat.le_of_ble_eq_true rfl, Nat.le_of_ble_eq_true rfl⟩) (fun x_1174 S_1175 hw_1175 H locs hP hS => ?_)
                rw [hw_1175.1] at hP
                obtain ⟨hq_1175, w_1175_0, w_1175_1, -⟩ := hw_1175
                have w_1175_0 : 0 ≤ (x_1174).toInt ∧ (x_1174).toInt ≤ 1 := w_1175_0
                have w_1175_1 : (x_1174).toInt = 1 ↔ (97 ≤ (x_1173).toInt ∧ (x_1173).toInt ≤ 122) := w_1175_1
                refine lv_if_eq (tgt := 334) hx hb dX12_ahead_225 (by decide) (fun c_1176 => ?_) (fun c_1176 => ?_)
                · have jc_1176 := dk_eqc (k := 0) (by decide +kernel) c_1176
                  refine lv_aload_n hx hb dX12_ahead_334 rfl (lv_at hl 5 rfl) ?_
                  refine lv_iload_n hx hb dX12_ahead_335 rfl (lv_at hl 4 rfl) ?_
                  refine dg_put (ci := 12) (v := .int x_1161) (ty := tyX12 5) (C := RX12) (T := TX12) (N := 77) hx hb hts (fun w h => bw_mem (wU_X12 w h)) tyX12 tyX12_ok nmX12 hown K hP hS hA1 sM_0 rfl 5 (by decide) (hts _ (bw_mem wB_288)) (fun _ h9 => h9) rfl (by decide +kernel) rfl rfl dX12_ahead_336 (fun S_1177 e_1177 H locs hP hS => ?_)
                  have I_1177 := dg_I.uFi (lo := 0) (hi := 1600) I_1164 e_1177 sM_0 (by decide +kernel) (show 0 ≤ (x_1161).toInt ∧ (x_1161).toInt ≤ 1600 from (by omega))
                  have M_1177 := dg_sm.uF M_1164 e_1177 sM_0 (by decide)
                  have hz_1178 : (1 : Int32).toInt = 1 := by decide +kernel
                  obtain ⟨x_1179, f_x_1179⟩ := dg_I.long (i := 0) (k := 7) I_1177 sM_0 (by decide +kernel)
                  have hz_1180 : (1 : Int32).toInt = 1 := by decide +kernel
                  have hz_1181 : (6 : Int32).toInt = 6 := by decide +kernel
                  refine W.widen (k := 0) (n := 0) (Nat.le_of_ble_eq_true rfl) (Nat.le_of_ble_eq_true rfl) ?_
                  exact dg_vret hx hb hr hlocks hP hS ⟨I_1177, M_1177, ⟨1, x_30, x_1161, ((dg_uF_ne e_1177 (fun z => absurd z.2 (by decide))).trans ff_1164_3_0), ((dg_uF_ne e_1177 (fun z => absurd z.2 (by decide))).trans ff_1164_4_0), (dg_uF_at e_1177), (by omega)⟩, (by obtain ⟨w9, f9, h9⟩ := srel_1164_3; exact TNX.wrd (m := x_1160) (mo := 6) hn16 hs9 (by omega) ((dg_uF_ne e_1177 (fun z => absurd z.2 (by decide))).trans ff_1164_3_0) ((dg_uF_ne e_1177 (fun z => absurd z.2 (by decide))).trans ff_1164_4_0) (dg_uF_at e_1177) ((dg_uF_ne e_1177 (fun z => absurd z.2 (by decide))).trans ff_1164_6_0) ((dg_uF_ne e_1177 (fun z => absurd z.2 (by decide))).trans f9) ((dg_uF_ne e_1177 (fun z => absurd z.2 (by decide))).trans ff_1164_12_0) (by omega) (by omega) (by have h8 := dk_clN x_1161; omega) (by omega) (by omega) (srel_1164_1.out (by omega)) (t_wd_no (by rw [kx_1173]; exact t_l_f (by omega))) srel_1164_5.out (by omega) (h9.out (by omega))), trivial⟩ dX12_ahead_339
                · have jc_1176 := dk_neqc (k := 0) (by decide +kernel) c_1176
                  refine lv_goto (tgt := 243) hx hb dX12_ahead_228 (by decide) ?_
                  refine lv_iload hx hb dX12_ahead_243 (lv_at hl 0 rfl) ?_
                  refine lv_iload hx hb dX12_ahead_245 (lv_at hl 1 rfl) ?_
                  refine lv_icmp_ne (tgt := 263) hx hb dX12_ahead_247 (by decide) (fun c_1182 => ?_) (fun c_1182 => ?_)
                  · have jc_1182 := dk_neqc (k := 6) (by decide +kernel) c_1182
                    refine lv_iload hx hb dX12_ahead_263 (lv_at hl 0 rfl) ?_
                    refine lv_iload hx hb dX12_ahead_265 (lv_at hl 1 rfl) ?_
                    refine lv_icmp_ge (tgt := 293) hx hb dX12_ahead_267 (by decide) (fun c_1183 => ?_) (fun c_1183 => ?_)
                    · have jc_1183 := dk_gec (k := 6) (by decide +kernel) c_1183
                      refine lv_iload hx hb dX12_ahead_293 (lv_at hl 0 rfl) ?_
                      refine lv_iload hx hb dX12_ahead_295 (lv_at hl 1 rfl) ?_
                      refine lv_icmp_ge (tgt := 325) hx hb dX12_ahead_297 (by decide) (fun _ => ?_) (fun c => absurd (dk_gep (k := 6) (by decide +kernel) (by omega)) c)
                      obtain ⟨x_1184, ex_1184⟩ : ∃ z, z = x_1160 + 1 := ⟨_, rfl⟩
                      have jx_1184 : (x_1184).toInt = (x_1160).toInt + 1 := by rw [ex_1184]; exact dk_addT rfl (by decide +kernel) (by omega) (by omega)
                      refine lv_iinc (v := x_1184) (lv' := [(5, .int x_1184), (4, .int 6), (3, .int x_519), (2, .int x_515), (1, .int x_1161), (0, .ref (o + 0))]) hx hb dX12_ahead_325 hl (k := 0) rfl (by rw [ex_1184]; rfl) (by decide) rfl (fun ls hl => ?_)
                      obtain ⟨x_1185, ex_1185⟩ : ∃ z, z = x_1161 + 1 := ⟨_, rfl⟩
                      have jx_1185 : (x_1185).toInt = (x_1161).toInt + 1 := by rw [ex_1185]; exact dk_addT rfl (by decide +kernel) (by omega) (by omega)
                      refine lv_iinc (v := x_1185) (lv' := [(1, .int x_1185), (5, .int x_1184), (4, .int 6), (3, .int x_519), (2, .int x_515), (0, .ref (o + 0))]) hx hb dX12_ahead_328 hl (k := 4) rfl (by rw [ex_1185]; rfl) (by decide) rfl (fun ls hl => ?_)
                      refine lv_goto (tgt := 204) hx hb dX12_ahead_331 (by decide) ?_
                      have hz_1186 : (6 : Int32).toInt = 6 := by decide +kernel
                      have hz_1187 : (6 : Int32).toInt = 6 := by decide +kernel
                      have hz_1188 : (6 : Int32).toInt = 6 := by decide +kernel
                      have hz_1189 : (6 : Int32).toInt = 6 := by decide +kernel
                      have hz_1190 : (6 : Int32).toInt = 6 := by decide +kernel
                      have hz_1191 : (6 : Int32).toInt = 6 := by decide +kernel
                      exact ih x_1184 x_1185 x_1162 x_1163 (by omega) (by omega) (by omega) (by omega) (by omega) (by omega) (by omega) S_1164 I_1164 M_1164 ff_1164_4_0 ff_1164_12_0 ff_1164_5_0 ff_1164_3_0 ff_1164_6_0 (by omega) (m_hid.mk fun h9 => tl_step (srel_1164_1.out h9) (by rw [kx_1173]; exact t_l_iff.mpr (by omega)) (by omega) (by omega)) (m_hid.mk fun h9 => tl_step (srel_1164_2.out h9) (by rw [kx_1173]; exact t_d_iff.mpr (by omega)) (by omega) (by omega)) (by obtain ⟨w9, f9, h9⟩ := srel_1164_3; exact ⟨w9, f9, m_hid.mk fun q9 => by first | exact m_pk_st (h9.out q9) (by omega) (by omega) | (exfalso; omega)⟩) (m_hid.mk fun q9 => by first | exact m_nu_st (srel_1164_4.out q9) (by omega) (by omega) | exact m_nu_up (srel_1164_4.out q9) kx_1173 (by omega) (by omega) (by omega) (by omega) | (exfalso; omega)) (m_hid.mk (by first | exact t_lx2 (by omega) (by omega) | exact t_lx1 srel_1164_5.out (by omega))) _ _ hP hS _ (lv_sub hl [1, 2, 3, 4, 0, 5] rfl)
                    · have jc_1183 := dk_ngec (k := 6) (by decide +kernel) c_1183
                      refine lv_iload_n hx hb dX12_ahead_270 rfl (lv_at hl 3 rfl) ?_
                      refine lv_if_eq (tgt := 293) hx hb dX12_ahead_271 (by decide) (fun c => absurd c (fun z => absurd (dk_eqc (k := 0) (by decide +kernel) z) (by omega))) (fun _ => ?_)
                      refine lv_aload_n hx hb dX12_ahead_274 rfl (lv_at hl 5 rfl) ?_
                      refine lv_aload_n hx hb dX12_ahead_275 rfl (lv_at hl 5 rfl) ?_
                      obtain ⟨x_1192, f_x_1192⟩ := dg_I.long (i := 0) (k := 7) I_1164 sM_0 (by decide +kernel)
                      refine dg_get (C := RX12) (T := TX12) (N := 77) hx hb hts (fun w h => bw_mem (wU_X12 w h)) hown K hP sM_0 rfl 7 (by decide) (hts _ (bw_mem wB_302)) (fun _ h9 => h9) (v := .long x_1192) f_x_1192 dX12_ahead_276 ?_
                      refine lv_bipush (v := 8) hx hb dX12_ahead_279 (by decide +kernel) ?_
                      refine lv_lshl hx hb dX12_ahead_281 rfl ?_
                      refine lv_topl (fun x_1193 ex_1193 => ?_)
                      refine lv_aload_n hx hb dX12_ahead_282 rfl (lv_at hl 5 rfl) ?_
                      refine dg_get (C := RX12) (T := TX12) (N := 77) hx hb hts (fun w h => bw_mem (wU_X12 w h)) hown K hP sM_0 rfl 0 (by decide) (hts _ (bw_mem wB_290)) (fun _ h9 => h9) (v := .ref (o + 1)) (show S_1164.1 0 0 = .ref (o + 1) from dg_I.rel (d := 1) I_1164 sM_0 (by decide +kernel)) dX12_ahead_283 ?_
                      refine lv_iload_n hx hb dX12_ahead_286 rfl (lv_at hl 4 rfl) ?_
                      have hin_1194 : vp_in x_1161 1800 := (dk_inv (by omega) (by omega))
                      refine dg_iald hx hb K hP sM_1 hin_1194 dX12_ahead_287 (fun y_1195 ey_1195 => ?_)
                      obtain rfl : x_1173 = y_1195 := (ey_1195.trans ex_1173.symm).symm
                      obtain ⟨x_1196, ex_1196⟩ : ∃ z, (x_1173 : Int32).toInt64 = z := ⟨_, rfl⟩
                      refine lv_i2l (v := x_1196) hx hb dX12_ahead_288 ex_1196 ?_
                      refine lv_lor hx hb dX12_ahead_289 ?_
                      refine lv_topl (fun x_1197 ex_1197 => ?_)
                      refine dg_put (ci := 12) (v := .long x_1197) (ty := tyX12 7) (C := RX12) (T := TX12) (N := 77) hx hb hts (fun w h => bw_mem (wU_X12 w h)) tyX12 tyX12_ok nmX12 hown K hP hS hA1 sM_0 rfl 7 (by decide) (hts _ (bw_mem wB_302)) (fun _ h9 => h9) rfl (by decide +kernel) rfl rfl dX12_ahead_290 (fun S_1198 e_1198 H locs hP hS => ?_)
                      have I_1198 := dg_I.uFl I_1164 e_1198 sM_0 (by decide +kernel)
                      have M_1198 := dg_sm.uF M_1164 e_1198 sM_0 (by decide)
                      refine lv_iload hx hb dX12_ahead_293 (lv_at hl 0 rfl) ?_
                      refine lv_iload hx hb dX12_ahead_295 (lv_at hl 1 rfl) ?_
                      refine lv_icmp_ge (tgt := 325) hx hb dX12_ahead_297 (by decide) (fun c => absurd c (fun z => absurd (dk_gec (k := 6) (by decide +kernel) z) (by omega))) (fun _ => ?_)
                      refine lv_iload_n hx hb dX12_ahead_300 rfl (lv_at hl 2 rfl) ?_
                      refine lv_if_eq (tgt := 325) hx hb dX12_ahead_301 (by decide) (fun c_1199 => ?_) (fun c_1199 => ?_)
                      · have jc_1199 := dk_eqc (k := 0) (by decide +kernel) c_1199
                        obtain ⟨x_1200, ex_1200⟩ : ∃ z, z = x_1160 + 1 := ⟨_, rfl⟩
                        have jx_1200 : (x_1200).toInt = (x_1160).toInt + 1 := by rw [ex_1200]; exact dk_addT rfl (by decide +kernel) (by omega) (by omega)
                        refine lv_iinc (v := x_1200) (lv' := [(5, .int x_1200), (4, .int 6), (3, .int x_519), (2, .int x_515), (1, .int x_1161), (0, .ref (o + 0))]) hx hb dX12_ahead_325 hl (k := 0) rfl (by rw [ex_1200]; rfl) (by decide) rfl (fun ls hl => ?_)
                        obtain ⟨x_1201, ex_1201⟩ : ∃ z, z = x_1161 + 1 := ⟨_, rfl⟩
                        have jx_1201 : (x_1201).toInt = (x_1161).toInt + 1 := by rw [ex_1201]; exact dk_addT rfl (by decide +kernel) (by omega) (by omega)
                        refine lv_iinc (v := x_1201) (lv' := [(1, .int x_1201), (5, .int x_1200), (4, .int 6), (3, .int x_519), (2, .int x_515), (0, .ref (o + 0))]) hx hb dX12_ahead_328 hl (k := 4) rfl (by rw [ex_1201]; rfl) (by decide) rfl (fun ls hl => ?_)
                        refine lv_goto (tgt := 204) hx hb dX12_ahead_331 (by decide) ?_
                        have hz_1202 : (6 : Int32).toInt = 6 := by decide +kernel
                        have hz_1203 : (6 : Int32).toInt = 6 := by decide +kernel
                        have hz_1204 : (6 : Int32).toInt = 6 := by decide +kernel
                        have hz_1205 : (6 : Int32).toInt = 6 := by decide +kernel
                        have hz_1206 : (6 : Int32).toInt = 6 := by decide +kernel
                        have hz_1207 : (6 : Int32).toInt = 6 := by decide +kernel
                        exact ih x_1200 x_1201 x_1162 x_1163 (by omega) (by omega) (by omega) (by omega) (by omega) (by omega) (by omega) S_1198 I_1198 M_1198 ((dg_uF_ne e_1198 (fun z => absurd z.2 (by decide))).trans ff_1164_4_0) ((dg_uF_ne e_1198 (fun z => absurd z.2 (by decide))).trans ff_1164_12_0) ((dg_uF_ne e_1198 (fun z => absurd z.2 (by decide))).trans ff_1164_5_0) ((dg_uF_ne e_1198 (fun z => absurd z.2 (by decide))).trans ff_1164_3_0) ((dg_uF_ne e_1198 (fun z => absurd z.2 (by decide))).trans ff_1164_6_0) (by omega) (m_hid.mk fun h9 => tl_step (srel_1164_1.out h9) (by rw [kx_1173]; exact t_l_iff.mpr (by omega)) (by omega) (by omega)) (m_hid.mk fun h9 => tl_step (srel_1164_2.out h9) (by rw [kx_1173]; exact t_d_iff.mpr (by omega)) (by omega) (by omega)) (by obtain ⟨w9, f9, h9⟩ := srel_1164_3; have hw9 : x_1192 = w9 := by have q9 := (f_x_1192).symm.trans f9; cases q9; rfl; exact ⟨x_1197, (dg_uF_at e_1198), m_hid.mk fun q9 => m_pk_up (by rw [hw9]; exact h9.out q9) (srel_1164_1.out q9) kx_1173 (by omega) (by omega) (by omega) ex_1193 ex_1196 ex_1197 (by omega)⟩) (m_hid.mk fun q9 => by first | exact m_nu_st (srel_1164_4.out q9) (by omega) (by omega) | exact m_nu_up (srel_1164_4.out q9) kx_1173 (by omega) (by omega) (by omega) (by omega) | (exfalso; omega)) (m_hid.mk (by first | exact t_lx2 (by omega) (by omega) | exact t_lx1 srel_1164_5.out (by omega))) _ _ hP hS _ (lv_sub hl [1, 2, 3, 4, 0, 5] rfl)
                      · have jc_1199 := dk_neqc (k := 0) (by decide +kernel) c_1199
                        refine lv_aload_n hx hb dX12_ahead_304 rfl (lv_at hl 5 rfl) ?_
                        refine lv_bipush (v := 10) hx hb dX12_ahead_305 (by decide +kernel) ?_
                        refine lv_aload_n hx hb dX12_ahead_307 rfl (lv_at hl 5 rfl) ?_
                        refine dg_get (C := RX12) (T := TX12) (N := 77) hx hb hts (fun w h => bw_mem (wU_X12 w h)) hown K hP sM_0 rfl 6 (by decide) (hts _ (bw_mem wB_301)) (fun _ h9 => h9) (v := .int x_1163) ((dg_uF_ne e_1198 (fun z => absurd z.2 (by decide))).trans ff_1164_6_0) dX12_ahead_308 ?_
                        refine lv_imul hx hb dX12_ahead_311 ?_
                        refine lv_topi (fun x_1208 ex_1208 => ?_)
                        have jx_1208 : (x_1208).toInt = 10 * (x_1163).toInt := by rw [ex_1208]; exact dk_mulT (by decide +kernel) rfl (by omega) (by omega)
                        refine lv_aload_n hx hb dX12_ahead_312 rfl (lv_at hl 5 rfl) ?_
                        refine dg_get (C := RX12) (T := TX12) (N := 77) hx hb hts (fun w h => bw_mem (wU_X12 w h)) hown K hP sM_0 rfl 0 (by decide) (hts _ (bw_mem wB_290)) (fun _ h9 => h9) (v := .ref (o + 1)) (show S_1198.1 0 0 = .ref (o + 1) from dg_I.rel (d := 1) I_1198 sM_0 (by decide +kernel)) dX12_ahead_313 ?_
                        refine lv_iload_n hx hb dX12_ahead_316 rfl (lv_at hl 4 rfl) ?_
                        have hin_1209 : vp_in x_1161 1800 := (dk_inv (by omega) (by omega))
                        refine dg_iald hx hb K hP sM_1 hin_1209 dX12_ahead_317 (fun y_1210 ey_1210 => ?_)
                        obtain rfl : x_1173 = y_1210 := ((ey_1210.trans (congrFun (dg_uF_f e_1198 1) _)).trans ex_1173.symm).symm
                        refine lv_iadd hx hb dX12_ahead_318 ?_
                        refine lv_topi (fun x_1211 ex_1211 => ?_)
                        have jx_1211 : (x_1211).toInt = (x_1208).toInt + (x_1173).toInt := by rw [ex_1211]; exact dk_addT rfl rfl (by omega) (by omega)
                        refine lv_bipush (v := 48) hx hb dX12_ahead_319 (by decide +kernel) ?_
                        refine lv_isub hx hb dX12_ahead_321 ?_
                        refine lv_topi (fun x_1212 ex_1212 => ?_)
                        have jx_1212 : (x_1212).toInt = (x_1211).toInt - 48 := by rw [ex_1212]; exact dk_subT rfl (by decide +kernel) (by omega) (by omega)
                        refine dg_put (ci := 12) (v := .int x_1212) (ty := tyX12 6) (C := RX12) (T := TX12) (N := 77) hx hb hts (fun w h => bw_mem (wU_X12 w h)) tyX12 tyX12_ok nmX12 hown K hP hS hA1 sM_0 rfl 6 (by decide) (hts _ (bw_mem wB_301)) (fun _ h9 => h9) rfl (by decide +kernel) rfl rfl dX12_ahead_322 (fun S_1213 e_1213 H locs hP hS => ?_)
                        have I_1213 := dg_I.uFi (lo := 0) (hi := 9999) I_1198 e_1213 sM_0 (by decide +kernel) (show 0 ≤ (x_1212).toInt ∧ (x_1212).toInt ≤ 9999 from (by omega))
                        have M_1213 := dg_sm.uF M_1198 e_1213 sM_0 (by decide)
                        obtain ⟨x_1214, ex_1214⟩ : ∃ z, z = x_1160 + 1 := ⟨_, rfl⟩
                        have jx_1214 : (x_1214).toInt = (x_1160).toInt + 1 := by rw [ex_1214]; exact dk_addT rfl (by decide +kernel) (by omega) (by omega)
                        refine lv_iinc (v := x_1214) (lv' := [(5, .int x_1214), (4, .int 6), (3, .int x_519), (2, .int x_515), (1, .int x_1161), (0, .ref (o + 0))]) hx hb dX12_ahead_325 hl (k := 0) rfl (by rw [ex_1214]; rfl) (by decide) rfl (fun ls hl => ?_)
                        obtain ⟨x_1215, ex_1215⟩ : ∃ z, z = x_1161 + 1 := ⟨_, rfl⟩
                        have jx_1215 : (x_1215).toInt = (x_1161).toInt + 1 := by rw [ex_1215]; exact dk_addT rfl (by decide +kernel) (by omega) (by omega)
                        refine lv_iinc (v := x_1215) (lv' := [(1, .int x_1215), (5, .int x_1214), (4, .int 6), (3, .int x_519), (2, .int x_515), (0, .ref (o + 0))]) hx hb dX12_ahead_328 hl (k := 4) rfl (by rw [ex_1215]; rfl) (by decide) rfl (fun ls hl => ?_)
                        refine lv_goto (tgt := 204) hx hb dX12_ahead_331 (by decide) ?_
                        have hz_1216 : (6 : Int32).toInt = 6 := by decide +kernel
                        have hz_1217 : (6 : Int32).toInt = 6 := by decide +kernel
                        have hz_1218 : (6 : Int32).toInt = 6 := by decide +kernel
                        have hz_1219 : (6 : Int32).toInt = 6 := by decide +kernel
                        have hz_1220 : (6 : Int32).toInt = 6 := by decide +kernel
                        have hz_1221 : (6 : Int32).toInt = 6 := by decide +kernel
                        exact ih x_1214 x_1215 x_1162 x_1212 (by omega) (by omega) (by omega) (by omega) (by omega) (by omega) (by omega) S_1213 I_1213 M_1213 (((dg_uF_ne e_1213 (fun z => absurd z.2 (by decide))).trans (dg_uF_ne e_1198 (fun z => absurd z.2 (by decide)))).trans ff_1164_4_0) (((dg_uF_ne e_1213 (fun z => absurd z.2 (by decide))).trans (dg_uF_ne e_1198 (fun z => absurd z.2 (by decide)))).trans ff_1164_12_0) (((dg_uF_ne e_1213 (fun z => absurd z.2 (by decide))).trans (dg_uF_ne e_1198 (fun z => absurd z.2 (by decide)))).trans ff_1164_5_0) (((dg_uF_ne e_1213 (fun z => absurd z.2 (by decide))).trans (dg_uF_ne e_1198 (fun z => absurd z.2 (by decide)))).trans ff_1164_3_0) (dg_uF_at e_1213) (by omega) (m_hid.mk fun h9 => tl_step (srel_1164_1.out h9) (by rw [kx_1173]; exact t_l_iff.mpr (by omega)) (by omega) (by omega)) (m_hid.mk fun h9 => tl_step (srel_1164_2.out h9) (by rw [kx_1173]; exact t_d_iff.mpr (by omega)) (by omega) (by omega)) (by obtain ⟨w9, f9, h9⟩ := srel_1164_3; have hw9 : x_1192 = w9 := by have q9 := (f_x_1192).symm.trans f9; cases q9; rfl; exact ⟨x_1197, ((dg_uF_ne e_1213 (fun z => absurd z.2 (by decide))).trans (dg_uF_at e_1198)), m_hid.mk fun q9 => m_pk_up (by rw [hw9]; exact h9.out q9) (srel_1164_1.out q9) kx_1173 (by omega) (by omega) (by omega) ex_1193 ex_1196 ex_1197 (by omega)⟩) (m_hid.mk fun q9 => by first | exact m_nu_st (srel_1164_4.out q9) (by omega) (by omega) | exact m_nu_up (srel_1164_4.out q9) kx_1173 (by omega) (by omega) (by omega) (by omega) | (exfalso; omega)) (m_hid.mk (by first | exact t_lx2 (by omega) (by omega) | exact t_lx1 srel_1164_5.out (by omega))) _ _ hP hS _ (lv_sub hl [1, 2, 3, 4, 0, 5] rfl)
                  · have jc_1182 := dk_eqc (k := 6) (by decide +kernel) c_1182
                    refine lv_aload_n hx hb dX12_ahead_250 rfl (lv_at hl 5 rfl) ?_
                    refine dg_get (C := RX12) (T := TX12) (N := 77) hx hb hts (fun w h => bw_mem (wU_X12 w h)) hown K hP sM_0 rfl 12 (by decide) (hts _ (bw_mem wB_293)) (fun _ h9 => h9) (v := .int x_1162) ff_1164_12_0 dX12_ahead_251 ?_
                    refine lv_iconst (v := (-1)) hx hb dX12_ahead_254 (by decide +kernel) ?_
                    refine lv_icmp_ne (tgt := 263) hx hb dX12_ahead_255 (by decide) (fun c_1222 => ?_) (fun c_1222 => ?_)
                    · have jc_1222 := dk_neqc (k := (-1)) (by decide +kernel) c_1222
                      refine lv_iload hx hb dX12_ahead_263 (lv_at hl 0 rfl) ?_
                      refine lv_iload hx hb dX12_ahead_265 (lv_at hl 1 rfl) ?_
                      refine lv_icmp_ge (tgt := 293) hx hb dX12_ahead_267 (by decide) (fun _ => ?_) (fun c => absurd (dk_gep (k := 6) (by decide +kernel) (by omega)) c)
                      refine lv_iload hx hb dX12_ahead_293 (lv_at hl 0 rfl) ?_
                      refine lv_iload hx hb dX12_ahead_295 (lv_at hl 1 rfl) ?_
                      refine lv_icmp_ge (tgt := 325) hx hb dX12_ahead_297 (by decide) (fun _ => ?_) (fun c => absurd (dk_gep (k := 6) (by decide +kernel) (by omega)) c)
                      obtain ⟨x_1223, ex_1223⟩ : ∃ z, z = x_1160 + 1 := ⟨_, rfl⟩
                      have jx_1223 : (x_1223).toInt = (x_1160).toInt + 1 := by rw [ex_1223]; exact dk_addT rfl (by decide +kernel) (by omega) (by omega)
                      refine lv_iinc (v := x_1223) (lv' := [(5, .int x_1223), (4, .int 6), (3, .int x_519), (2, .int x_515), (1, .int x_1161), (0, .ref (o + 0))]) hx hb dX12_ahead_325 hl (k := 0) rfl (by rw [ex_1223]; rfl) (by decide) rfl (fun ls hl => ?_)
                      obtain ⟨x_1224, ex_1224⟩ : ∃ z, z = x_1161 + 1 := ⟨_, rfl⟩
                      have jx_1224 : (x_1224).toInt = (x_1161).toInt + 1 := by rw [ex_1224]; exact dk_addT rfl (by decide +kernel) (by omega) (by omega)
                      refine lv_iinc (v := x_1224) (lv' := [(1, .int x_1224), (5, .int x_1223), (4, .int 6), (3, .int x_519), (2, .int x_515), (0, .ref (o + 0))]) hx hb dX12_ahead_328 hl (k := 4) rfl (by rw [ex_1224]; rfl) (by decide) rfl (fun ls hl => ?_)
                      refine lv_goto (tgt := 204) hx hb dX12_ahead_331 (by decide) ?_
                      have hz_1225 : (6 : Int32).toInt = 6 := by decide +kernel
                      have hz_1226 : (6 : Int32).toInt = 6 := by decide +kernel
                      have hz_1227 : (6 : Int32).toInt = 6 := by decide +kernel
                      have hz_1228 : (6 : Int32).toInt = 6 := by decide +kernel
                      have hz_1229 : (6 : Int32).toInt = 6 := by decide +kernel
                      have hz_1230 : (6 : Int32).toInt = 6 := by decide +kernel
                      exact ih x_1223 x_1224 x_1162 x_1163 (by omega) (by omega) (by omega) (by omega) (by omega) (by omega) (by omega) S_1164 I_1164 M_1164 ff_1164_4_0 ff_1164_12_0 ff_1164_5_0 ff_1164_3_0 ff_1164_6_0 (by omega) (m_hid.mk fun h9 => tl_step (srel_1164_1.out h9) (by rw [kx_1173]; exact t_l_iff.mpr (by omega)) (by omega) (by omega)) (m_hid.mk fun h9 => tl_step (srel_1164_2.out h9) (by rw [kx_1173]; exact t_d_iff.mpr (by omega)) (by omega) (by omega)) (by obtain ⟨w9, f9, h9⟩ := srel_1164_3; exact ⟨w9, f9, m_hid.mk fun q9 => by first | exact m_pk_st (h9.out q9) (by omega) (by omega) | (exfalso; omega)⟩) (m_hid.mk fun q9 => by first | exact m_nu_st (srel_1164_4.out q9) (by omega) (by omega) | exact m_nu_up (srel_1164_4.out q9) kx_1173 (by omega) (by omega) (by omega) (by omega) | (exfalso; omega)) (m_hid.mk (by first | exact t_lx2 (by omega) (by omega) | exact t_lx1 srel_1164_5.out (by omega))) _ _ hP hS _ (lv_sub hl [1, 2, 3, 4, 0, 5] rfl)
                    · have jc_1222 := dk_eqc (k := (-1)) (by decide +kernel) c_1222
                      refine lv_aload_n hx hb dX12_ahead_258 rfl (lv_at hl 5 rfl) ?_
                      refine lv_iload_n hx hb dX12_ahead_259 rfl (lv_at hl 4 rfl) ?_
                      refine dg_put (ci := 12) (v := .int x_1161) (ty := tyX12 12) (C := RX12) (T := TX12) (N := 77) hx hb hts (fun w h => bw_mem (wU_X12 w h)) tyX12 tyX12_ok nmX12 hown K hP hS hA1 sM_0 rfl 12 (by decide) (hts _ (bw_mem wB_293)) (fun _ h9 => h9) rfl (by decide +kernel) rfl rfl dX12_ahead_260 (fun S_1231 e_1231 H locs hP hS => ?_)
                      have I_1231 := dg_I.uFi (lo := (-2147483648)) (hi := 2147483647) I_1164 e_1231 sM_0 (by decide +kernel) (show (-2147483648) ≤ (x_1161).toInt ∧ (x_1161).toInt ≤ 2147483647 from (dk_full _))
                      have M_1231 := dg_sm.uF M_1164 e_1231 sM_0 (by decide)
                      refine lv_iload hx hb dX12_ahead_263 (lv_at hl 0 rfl) ?_
                      refine lv_iload hx hb dX12_ahead_265 (lv_at hl 1 rfl) ?_
                      refine lv_icmp_ge (tgt := 293) hx hb dX12_ahead_267 (by decide) (fun _ => ?_) (fun c => absurd (dk_gep (k := 6) (by decide +kernel) (by omega)) c)
                      refine lv_iload hx hb dX12_ahead_293 (lv_at hl 0 rfl) ?_
                      refine lv_iload hx hb dX12_ahead_295 (lv_at hl 1 rfl) ?_
                      refine lv_icmp_ge (tgt := 325) hx hb dX12_ahead_297 (by decide) (fun _ => ?_) (fun c => absurd (dk_gep (k := 6) (by decide +kernel) (by omega)) c)
                      obtain ⟨x_1232, ex_1232⟩ : ∃ z, z = x_1160 + 1 := ⟨_, rfl⟩
                      have jx_1232 : (x_1232).toInt = (x_1160).toInt + 1 := by rw [ex_1232]; exact dk_addT rfl (by decide +kernel) (by omega) (by omega)
                      refine lv_iinc (v := x_1232) (lv' := [(5, .int x_1232), (4, .int 6), (3, .int x_519), (2, .int x_515), (1, .int x_1161), (0, .ref (o + 0))]) hx hb dX12_ahead_325 hl (k := 0) rfl (by rw [ex_1232]; rfl) (by decide) rfl (fun ls hl => ?_)
                      obtain ⟨x_1233, ex_1233⟩ : ∃ z, z = x_1161 + 1 := ⟨_, rfl⟩
                      have jx_1233 : (x_1233).toInt = (x_1161).toInt + 1 := by rw [ex_1233]; exact dk_addT rfl (by decide +kernel) (by omega) (by omega)
                      refine lv_iinc (v := x_1233) (lv' := [(1, .int x_1233), (5, .int x_1232), (4, .int 6), (3, .int x_519), (2, .int x_515), (0, .ref (o + 0))]) hx hb dX12_ahead_328 hl (k := 4) rfl (by rw [ex_1233]; rfl) (by decide) rfl (fun ls hl => ?_)
                      refine lv_goto (tgt := 204) hx hb dX12_ahead_331 (by decide) ?_
                      have hz_1234 : (6 : Int32).toInt = 6 := by decide +kernel
                      have hz_1235 : (6 : Int32).toInt = 6 := by decide +kernel
                      have hz_1236 : (6 : Int32).toInt = 6 := by decide +kernel
                      have hz_1237 : (6 : Int32).toInt = 6 := by decide +kernel
                      have hz_1238 : (6 : Int32).toInt = 6 := by decide +kernel
                      have hz_1239 : (6 : Int32).toInt = 6 := by decide +kernel
                      exact ih x_1232 x_1233 x_1161 x_1163 (by omega) (by omega) (by omega) (by omega) (by omega) (by omega) (by omega) S_1231 I_1231 M_1231 ((dg_uF_ne e_1231 (fun z => absurd z.2 (by decide))).trans ff_1164_4_0) (dg_uF_at e_1231) ((dg_uF_ne e_1231 (fun z => absurd z.2 (by decide))).trans ff_1164_5_0) ((dg_uF_ne e_1231 (fun z => absurd z.2 (by decide))).trans ff_1164_3_0) ((dg_uF_ne e_1231 (fun z => absurd z.2 (by decide))).trans ff_1164_6_0) (by omega) (m_hid.mk fun h9 => tl_step (srel_1164_1.out h9) (by rw [kx_1173]; exact t_l_iff.mpr (by omega)) (by omega) (by omega)) (m_hid.mk fun h9 => tl_step (srel_1164_2.out h9) (by rw [kx_1173]; exact t_d_iff.mpr (by omega)) (by omega) (by omega)) (by obtain ⟨w9, f9, h9⟩ := srel_1164_3; exact ⟨w9, (dg_uF_ne e_1231 (fun z => absurd z.2 (by decide))).trans f9, m_hid.mk fun q9 => by first | exact m_pk_st (h9.out q9) (by omega) (by omega) | (exfalso; omega)⟩) (m_hid.mk fun q9 => by first | exact m_nu_st (srel_1164_4.out q9) (by omega) (by omega) | exact m_nu_up (srel_1164_4.out q9) kx_1173 (by omega) (by omega) (by omega) (by omega) | (exfalso; omega)) (m_hid.mk (by first | exact t_lx2 (by omega) (by omega) | exact t_lx1 srel_1164_5.out (by omega))) _ _ hP hS _ (lv_sub hl [1, 2, 3, 4, 0, 5] rfl)
          have hz_1240 : (0 : Int32).toInt = 0 := by decide +kernel
          have hz_1241 : (0 : Int32).toInt = 0 := by decide +kernel
          have hz_1242 : (0 : Int32).toInt = 0 := by decide +kernel
          have hz_1243 : (0 : Int32).toInt = 0 := by decide +kernel
          have hz_1244 : (0 : Int32).toInt = 0 := by decide +kernel
          have hz_1245 : (0 : Int32).toInt = 0 := by decide +kernel
          have hz_1246 : (0 : Int32).toInt = 0 := by decide +kernel
          have hz_1247 : (0 : Int32).toInt = 0 := by decide +kernel
          have hz_1248 : (0 : Int32).toInt = 0 := by decide +kernel
          have hz_1249 : (6 : Int32).toInt = 6 := by decide +kernel
          have hz_1250 : (0 : Int32).toInt = 0 := by decide +kernel
          have hz_1251 : (0 : Int32).toInt = 0 := by decide +kernel
          have hz_1252 : (6 : Int32).toInt = 6 := by decide +kernel
          have hz_1253 : (0 : Int32).toInt = 0 := by decide +kernel
          have hz_1254 : (0 : Int32).toInt = 0 := by decide +kernel
          have hz_1255 : (6 : Int32).toInt = 6 := by decide +kernel
          have hz_1256 : (0 : Int32).toInt = 0 := by decide +kernel
          have hz_1257 : (0 : Int32).toInt = 0 := by decide +kernel
          have hz_1258 : (6 : Int32).toInt = 6 := by decide +kernel
          have hz_1259 : (0 : Int32).toInt = 0 := by decide +kernel
          have hz_1260 : (0 : Int32).toInt = 0 := by decide +kernel
          have hz_1261 : (6 : Int32).toInt = 6 := by decide +kernel
          have hz_1262 : (0 : Int32).toInt = 0 := by decide +kernel
          have hz_1263 : (0 : Int32).toInt = 0 := by decide +kernel
          have hz_1264 : (6 : Int32).toInt = 6 := by decide +kernel
          have hz_1265 : (0 : Int32).toInt = 0 := by decide +kernel
          exact L_1165 ((1601 - ((0 : Int32)).toInt).toNat + 1) 0 x_30 x_559 0 (by decide +kernel) (by omega) (by omega) (by decide +kernel) (by omega) (by omega) (by omega) S_986 I_986 M_986 (((dg_uF_ne e_986 (fun z => absurd z.2 (by decide))).trans ((dg_uF_ne e_983 (fun z => absurd z.2 (by decide))).trans ((dg_uF_ne e_981 (fun z => absurd z.2 (by decide))).trans ((dg_uF_ne e_979 (fun z => absurd z.2 (by decide))).trans (dg_uF_ne e_978 (fun z => absurd z.2 (by decide))))))).trans ff_975_4_0) (((dg_uF_ne e_986 (fun z => absurd z.2 (by decide))).trans ((dg_uF_ne e_983 (fun z => absurd z.2 (by decide))).trans ((dg_uF_ne e_981 (fun z => absurd z.2 (by decide))).trans ((dg_uF_ne e_979 (fun z => absurd z.2 (by decide))).trans (dg_uF_ne e_978 (fun z => absurd z.2 (by decide))))))).trans ff_975_12_0) ((dg_uF_ne e_986 (fun z => absurd z.2 (by decide))).trans (dg_uF_at e_983)) (dg_uF_at e_986) (((dg_uF_ne e_986 (fun z => absurd z.2 (by decide))).trans ((dg_uF_ne e_983 (fun z => absurd z.2 (by decide))).trans ((dg_uF_ne e_981 (fun z => absurd z.2 (by decide))).trans (dg_uF_ne e_979 (fun z => absurd z.2 (by decide)))))).trans (dg_uF_at e_978)) (by omega) (m_hid.mk fun _ => tl_zero) (m_hid.mk fun _ => tl_zero) ⟨0, (((dg_uF_ne e_986 (fun z => absurd z.2 (by decide))).trans ((dg_uF_ne e_983 (fun z => absurd z.2 (by decide))).trans (dg_uF_ne e_981 (fun z => absurd z.2 (by decide))))).trans (dg_uF_at e_979)), m_hid.mk fun _ => m_pk_z (by omega) (by decide +kernel)⟩ (m_hid.mk fun _ => m_nu_z (by omega) (by omega)) (m_hid.mk <| t_lx0 adj9.out (by omega) (by omega)) _ _ hP hS _ (lv_sub hl [0, 1, 2, 3, 4, 5] rfl)
        · have jc_984 := dk_eqc (k := 0) (by decide +kernel) c_984
          refine lv_iload_n hx hb dX12_ahead_161 rfl (lv_at hl 0 rfl) ?_
          refine lv_if_ne (tgt := 176) hx hb dX12_ahead_162 (by decide) (fun c_1266 => ?_) (fun c_1266 => ?_)
          · have jc_1266 := dk_neqc (k := 0) (by decide +kernel) c_1266
            refine lv_aload_n hx hb dX12_ahead_176 rfl (lv_at hl 3 rfl) ?_
            refine lv_iload_n hx hb dX12_ahead_177 rfl (lv_at hl 1 rfl) ?_
            refine lv_if_eq (tgt := 185) hx hb dX12_ahead_178 (by decide) (fun _ => ?_) (fun c => absurd (dk_eqp (k := 0) (by decide +kernel) (by omega)) c)
            refine lv_iconst (v := 2) hx hb dX12_ahead_185 (by decide +kernel) ?_
            have hz_1267 : (2 : Int32).toInt = 2 := by decide +kernel
            refine dg_put (ci := 12) (v := .int 2) (ty := tyX12 3) (C := RX12) (T := TX12) (N := 77) hx hb hts (fun w h => bw_mem (wU_X12 w h)) tyX12 tyX12_ok nmX12 hown K hP hS hA1 sM_0 rfl 3 (by decide) (hts _ (bw_mem wB_292)) (fun _ h9 => h9) rfl (by decide +kernel) rfl rfl dX12_ahead_186 (fun S_1268 e_1268 H locs hP hS => ?_)
            have I_1268 := dg_I.uFi (lo := 0) (hi := 3) I_983 e_1268 sM_0 (by decide +kernel) (show 0 ≤ ((2 : Int32)).toInt ∧ ((2 : Int32)).toInt ≤ 3 from (by decide +kernel))
            have M_1268 := dg_sm.uF M_983 e_1268 sM_0 (by decide)
            refine lv_iload_n hx hb dX12_ahead_189 rfl (lv_at hl 1 rfl) ?_
            refine lv_if_eq (tgt := 198) hx hb dX12_ahead_190 (by decide) (fun _ => ?_) (fun c => absurd (dk_eqp (k := 0) (by decide +kernel) (by omega)) c)
            refine lv_iconst (v := 4) hx hb dX12_ahead_198 (by decide +kernel) ?_
            refine lv_istore (lv' := [(4, .int 4), (3, .int x_519), (2, .int x_515), (1, .int x_30), (0, .ref (o + 0))]) hx hb dX12_ahead_199 hl (by decide) rfl (fun ls hl => ?_)
            refine lv_iconst (v := 0) hx hb dX12_ahead_201 (by decide +kernel) ?_
            refine lv_istore (lv' := [(5, .int 0), (4, .int 4), (3, .int x_519), (2, .int x_515), (1, .int x_30), (0, .ref (o + 0))]) hx hb dX12_ahead_202 hl (by decide) rfl (fun ls hl => ?_)
            have L_1409 : ∀ (n : Nat) (x_1404 : Int32) (x_1405 : Int32) (x_1406 : Int32) (x_1407 : Int32), (0 ≤ (x_1404).toInt ∧ (x_1404).toInt ≤ 1600) → (0 ≤ (x_1405).toInt ∧ (x_1405).toInt ≤ 1600) → ((-1) ≤ (x_1406).toInt ∧ (x_1406).toInt ≤ 1599) → (0 ≤ (x_1407).toInt ∧ (x_1407).toInt ≤ 9999) → ((x_1405).toInt ≤ (sl).toInt ∧ (x_1404).toInt ≤ (x_1405).toInt ∧ ((x_1404).toInt = 0 → (x_1405).toInt = (x_30).toInt) ∧ (1 ≤ (x_1404).toInt → (x_30).toInt + 1 ≤ (x_1405).toInt)) → ((x_1405).toInt = (x_30).toInt + (x_1404).toInt) → ((1601 - (x_1404).toInt).toNat < n) → ∀ S_1408 : dg_S, CM o S_1408 → dg_sm shM [(0, 3), (0, 4), (0, 5), (0, 6), (0, 7), (0, 12)] [] S S_1408 → S_1408.1 0 4 = .int x_30 → S_1408.1 0 12 = .int x_1406 → S_1408.1 0 5 = .int x_982 → S_1408.1 0 3 = .int 2 → S_1408.1 0 6 = .int x_1407 → (((x_1404).toInt = 0 → (x_1407).toInt = 0) ∧ ((x_1404).toInt = 1 → (x_1407).toInt ≤ 9) ∧ ((x_1404).toInt = 2 → (x_1407).toInt ≤ 99) ∧ ((x_1404).toInt = 3 → (x_1407).toInt ≤ 999)) → (m_hid ((x_515 : Int32).toInt = 1 → ∀ j9 : Nat, (x_30 : Int32).toNatClampNeg ≤ j9 → j9 < (x_1405 : Int32).toNatClampNeg → t_l (tb j9) = true)) → (m_hid ((x_519 : Int32).toInt = 1 → ∀ j9 : Nat, (x_30 : Int32).toNatClampNeg ≤ j9 → j9 < (x_1405 : Int32).toNatClampNeg → t_d (tb j9) = true)) → (∃ w9 : Int64, S_1408.1 0 7 = .long w9 ∧ m_hid ((x_515 : Int32).toInt = 1 → w9.toInt = m_pk tb (x_30 : Int32).toNatClampNeg (min 6 (x_1404 : Int32).toNatClampNeg))) → (m_hid ((x_519 : Int32).toInt = 1 → (x_1407).toInt = t_num tb (x_30 : Int32).toNatClampNeg (min 4 (x_1404 : Int32).toNatClampNeg))) → (m_hid (((x_1406 : Int32)).toInt ≠ -1 ↔ (t_adj tb (x_30 : Int32).toNatClampNeg = true ∨ (4 : Int32).toInt < (x_1404).toInt))) → ∀ (H : Heap) (locs : List Loc), va_P D vwCl (dg_w g shM o rfM S_1408) H → va_S A s.heap H locs → ∀ ls : Array Slot, lv_has ls 6 [(5, .int x_1404), (4, .int 4), (3, .int x_519), (2, .int x_515), (1, .int x_1405), (0, .ref (o + 0))] → W p l e ({ frames := 2, cells := 0, slots := 0, locals := 52 } : Room) s m args below meth c H locs 0 0 (MQ below (va_Qv (fun S' => CM o S' ∧ dg_sm shM [(0, 3), (0, 4), (0, 5), (0, 6), (0, 7), (0, 12)] [] S S' ∧ (∃ y9_3 y9_4 y9_5 : Int32, S'.1 0 3 = .int y9_3 ∧ S'.1 0 4 = .int y9_4 ∧ S'.1 0 5 = .int y9_5 ∧ ((se).toInt ≤ (y9_4).toInt ∧ (y9_4).toInt ≤ (y9_5).toInt ∧ (y9_5).toInt ≤ (sl).toInt ∧ ((y9_3).toInt ≠ 0 → (y9_4).toInt + 1 ≤ (y9_5).toInt))) ∧ (TNX tb tn se S') ∧ True) (dg_B g D shM o rfM) A) args s 0 0 A) (F0 m 204 ls []) := by
              intro n
              induction n with
              | zero =>
                intro x_1404 x_1405 x_1406 x_1407 b_x_1404 b_x_1405 b_x_1406 b_x_1407 rel_0 rel_1 hmu S_1408 I_1408 M_1408 ff_1408_4_0 ff_1408_12_0 ff_1408_5_0 ff_1408_3_0 ff_1408_6_0 srel_1408_0 srel_1408_1 srel_1408_2 srel_1408_3 srel_1408_4 srel_1408_5 H locs hP hS ls hl
                omega
              | succ n ih =>
                intro x_1404 x_1405 x_1406 x_1407 b_x_1404 b_x_1405 b_x_1406 b_x_1407 rel_0 rel_1 hmu S_1408 I_1408 M_1408 ff_1408_4_0 ff_1408_12_0 ff_1408_5_0 ff_1408_3_0 ff_1408_6_0 srel_1408_0 srel_1408_1 srel_1408_2 srel_1408_3 srel_1408_4 srel_1408_5 H locs hP hS ls hl
                refine lv_iload_n hx hb dX12_ahead_204 rfl (lv_at hl 4 rfl) ?_
                refine lv_aload_n hx hb dX12_ahead_205 rfl (lv_at hl 5 rfl) ?_
                refine dg_get (C := RX12) (T := TX12) (N := 77) hx hb hts (fun w h => bw_mem (wU_X12 w h)) hown K hP sM_0 rfl 2 (by decide) (hts _ (bw_mem wB_289)) (fun _ h9 => h9) (v := .int sl) ((M_1408.1 0 2 _ sM_0 (by decide)).trans f_sl) dX12_ahead_206 ?_
                refine lv_icmp_ge (tgt := 334) hx hb dX12_ahead_209 (by decide) (fun c_1410 => ?_) (fun c_1410 => ?_)
                · have jc_1410 := dk_gec (k := (sl).toInt) rfl c_1410
                  refine lv_aload_n hx hb dX12_ahead_334 rfl (lv_at hl 5 rfl) ?_
                  refine lv_iload_n hx hb dX12_ahead_335 rfl (lv_at hl 4 rfl) ?_
                  refine dg_put (ci := 12) (v := .int x_1405) (ty := tyX12 5) (C := RX12) (T := TX12) (N := 77) hx hb hts (fun w h => bw_mem (wU_X12 w h)) tyX12 tyX12_ok nmX12 hown K hP hS hA1 sM_0 rfl 5 (by decide) (hts _ (bw_mem wB_288)) (fun _ h9 => h9) rfl (by decide +kernel) rfl rfl dX12_ahead_336 (fun S_1411 e_1411 H locs hP hS => ?_)
                  have I_1411 := dg_I.uFi (lo := 0) (hi := 1600) I_1408 e_1411 sM_0 (by decide +kernel) (show 0 ≤ (x_1405).toInt ∧ (x_1405).toInt ≤ 1600 from (by omega))
                  have M_1411 := dg_sm.uF M_1408 e_1411 sM_0 (by decide)
                  have hz_1412 : (2 : Int32).toInt = 2 := by decide +kernel
                  obtain ⟨x_1413, f_x_1413⟩ := dg_I.long (i := 0) (k := 7) I_1411 sM_0 (by decide +kernel)
                  have hz_1414 : (2 : Int32).toInt = 2 := by decide +kernel
                  have hz_1415 : (4 : Int32).toInt = 4 := by decide +kernel
                  refine W.widen (k := 0) (n := 0) (Nat.le_of_ble_eq_true rfl) (Nat.le_of_ble_eq_true rfl) ?_
                  exact dg_vret hx hb hr hlocks hP hS ⟨I_1411, M_1411, ⟨2, x_30, x_1405, ((dg_uF_ne e_1411 (fun z => absurd z.2 (by decide))).trans ff_1408_3_0), ((dg_uF_ne e_1411 (fun z => absurd z.2 (by decide))).trans ff_1408_4_0), (dg_uF_at e_1411), (by omega)⟩, (TNX.num (m := x_1404) (mo := 4) hn16 hs9 (by omega) ((dg_uF_ne e_1411 (fun z => absurd z.2 (by decide))).trans ff_1408_3_0) ((dg_uF_ne e_1411 (fun z => absurd z.2 (by decide))).trans ff_1408_4_0) (dg_uF_at e_1411) ((dg_uF_ne e_1411 (fun z => absurd z.2 (by decide))).trans ff_1408_6_0) f_x_1413 ((dg_uF_ne e_1411 (fun z => absurd z.2 (by decide))).trans ff_1408_12_0) (by omega) (by omega) (by have h8 := dk_clN x_1405; omega) (by omega) (by omega) (srel_1408_2.out (by omega)) (t_nm_ge (by have h8 := dk_clN x_1405; omega)) srel_1408_5.out (by omega) (srel_1408_4.out (by omega))), trivial⟩ dX12_ahead_339
                · have jc_1410 := dk_ngec (k := (sl).toInt) rfl c_1410
                  refine lv_iload_n hx hb dX12_ahead_212 rfl (lv_at hl 3 rfl) ?_
                  refine lv_if_eq (tgt := 231) hx hb dX12_ahead_213 (by decide) (fun _ => ?_) (fun c => absurd (dk_eqp (k := 0) (by decide +kernel) (by omega)) c)
                  refine lv_aload_n hx hb dX12_ahead_231 rfl (lv_at hl 5 rfl) ?_
                  refine dg_get (C := RX12) (T := TX12) (N := 77) hx hb hts (fun w h => bw_mem (wU_X12 w h)) hown K hP sM_0 rfl 0 (by decide) (hts _ (bw_mem wB_290)) (fun _ h9 => h9) (v := .ref (o + 1)) (show S_1408.1 0 0 = .ref (o + 1) from dg_I.rel (d := 1) I_1408 sM_0 (by decide +kernel)) dX12_ahead_232 ?_
                  refine lv_iload_n hx hb dX12_ahead_235 rfl (lv_at hl 4 rfl) ?_
                  have hin_1416 : vp_in x_1405 1800 := (dk_inv (by omega) (by omega))
                  refine dg_iald hx hb K hP sM_1 hin_1416 dX12_ahead_236 (fun x_1417 ex_1417 => ?_)
                  have b_x_1417 := dk_all_at (dg_I.row (lo := 0) (hi := 255) I_1408 sM_1 (by decide +kernel)) hin_1416 ex_1417
                  have kx_1417 : tb (x_1405 : Int32).toNatClampNeg = x_1417 := by rw [ex_1417, (M_1408.2 1 _ sM_1 (by decide)).1, htb]
                  refine dg_calli hS hA1 hA (va_runS (As := [.int x_1417]) (rest := []) F (c_m_isDigit l g D o S_1408 x_1417 I_1408 H.size) (va_cwS 1 hts (bw_S wB_299 wB_300 wB_297 wB_298) rfl rfl rfl (by decide +kernel) ⟨Nat.le_of_ble_eq_true rfl, Nat.le_of_ble_eq_true rfl⟩) (dg_preS K ST hP hS hA1 hA) rfl rfl hl.1 rfl (lv_room (Nat.le_of_ble_eq_true rfl)) dX12_ahead_237 ⟨Nat.le_of_ble_eq_true rfl, Nat.le_of_ble_eq_true rfl⟩) (fun x_1418 S_1419 hw_1419 H locs hP hS => ?_)
                  rw [hw_1419.1] at hP
                  obtain ⟨hq_1419, w_1419_0, w_1419_1, -⟩ := hw_1419
                  have w_1419_0 : 0 ≤ (x_1418).toInt ∧ (x_1418).toInt ≤ 1 := w_1419_0
                  have w_1419_1 : (x_1418).toInt = 1 ↔ (48 ≤ (x_1417).toInt ∧ (x_1417).toInt ≤ 57) := w_1419_1
                  refine lv_if_eq (tgt := 334) hx hb dX12_ahead_240 (by decide) (fun c_1420 => ?_) (fun c_1420 => ?_)
                  · have jc_1420 := dk_eqc (k := 0) (by decide +kernel) c_1420
                    refine lv_aload_n hx hb dX12_ahead_334 rfl (lv_at hl 5 rfl) ?_
                    refine lv_iload_n hx hb dX12_ahead_335 rfl (lv_at hl 4 rfl) ?_
                    refine dg_put (ci := 12) (v := .int x_1405) (ty := tyX12 5) (C := RX12) (T := TX12) (N := 77) hx hb hts (fun w h => bw_mem (wU_X12 w h)) tyX12 tyX12_ok nmX12 hown K hP hS hA1 sM_0 rfl 5 (by decide) (hts _ (bw_mem wB_288)) (fun _ h9 => h9) rfl (by decide +kernel) rfl rfl dX12_ahead_336 (fun S_1421 e_1421 H locs hP hS => ?_)
                    have I_1421 := dg_I.uFi (lo := 0) (hi := 1600) I_1408 e_1421 sM_0 (by decide +kernel) (show 0 ≤ (x_1405).toInt ∧ (x_1405).toInt ≤ 1600 from (by omega))
                    have M_1421 := dg_sm.uF M_1408 e_1421 sM_0 (by decide)
                    have hz_1422 : (2 : Int32).toInt = 2 := by decide +kernel
                    obtain ⟨x_1423, f_x_1423⟩ := dg_I.long (i := 0) (k := 7) I_1421 sM_0 (by decide +kernel)
                    have hz_1424 : (2 : Int32).toInt = 2 := by decide +kernel
                    have hz_1425 : (4 : Int32).toInt = 4 := by decide +kernel
                    refine W.widen (k := 0) (n := 0) (Nat.le_of_ble_eq_true rfl) (Nat.le_of_ble_eq_true rfl) ?_
                    exact dg_vret hx hb hr hlocks hP hS ⟨I_1421, M_1421, ⟨2, x_30, x_1405, ((dg_uF_ne e_1421 (fun z => absurd z.2 (by decide))).trans ff_1408_3_0), ((dg_uF_ne e_1421 (fun z => absurd z.2 (by decide))).trans ff_1408_4_0), (dg_uF_at e_1421), (by omega)⟩, (TNX.num (m := x_1404) (mo := 4) hn16 hs9 (by omega) ((dg_uF_ne e_1421 (fun z => absurd z.2 (by decide))).trans ff_1408_3_0) ((dg_uF_ne e_1421 (fun z => absurd z.2 (by decide))).trans ff_1408_4_0) (dg_uF_at e_1421) ((dg_uF_ne e_1421 (fun z => absurd z.2 (by decide))).trans ff_1408_6_0) f_x_1423 ((dg_uF_ne e_1421 (fun z => absurd z.2 (by decide))).trans ff_1408_12_0) (by omega) (by omega) (by have h8 := dk_clN x_1405; omega) (by omega) (by omega) (srel_1408_2.out (by omega)) (t_nm_no (by rw [kx_1417]; exact t_d_f (by omega))) srel_1408_5.out (by omega) (srel_1408_4.out (by omega))), trivial⟩ dX12_ahead_339
                  · have jc_1420 := dk_neqc (k := 0) (by decide +kernel) c_1420
                    refine lv_iload hx hb dX12_ahead_243 (lv_at hl 0 rfl) ?_
                    refine lv_iload hx hb dX12_ahead_245 (lv_at hl 1 rfl) ?_
                    refine lv_icmp_ne (tgt := 263) hx hb dX12_ahead_247 (by decide) (fun c_1426 => ?_) (fun c_1426 => ?_)
                    · have jc_1426 := dk_neqc (k := 4) (by decide +kernel) c_1426
                      refine lv_iload hx hb dX12_ahead_263 (lv_at hl 0 rfl) ?_
                      refine lv_iload hx hb dX12_ahead_265 (lv_at hl 1 rfl) ?_
                      refine lv_icmp_ge (tgt := 293) hx hb dX12_ahead_267 (by decide) (fun c_1427 => ?_) (fun c_1427 => ?_)
                      · have jc_1427 := dk_gec (k := 4) (by decide +kernel) c_1427
                        refine lv_iload hx hb dX12_ahead_293 (lv_at hl 0 rfl) ?_
                        refine lv_iload hx hb dX12_ahead_295 (lv_at hl 1 rfl) ?_
                        refine lv_icmp_ge (tgt := 325) hx hb dX12_ahead_297 (by decide) (fun _ => ?_) (fun c => absurd (dk_gep (k := 4) (by decide +kernel) (by omega)) c)
                        obtain ⟨x_1428, ex_1428⟩ : ∃ z, z = x_1404 + 1 := ⟨_, rfl⟩
                        have jx_1428 : (x_1428).toInt = (x_1404).toInt + 1 := by rw [ex_1428]; exact dk_addT rfl (by decide +kernel) (by omega) (by omega)
                        refine lv_iinc (v := x_1428) (lv' := [(5, .int x_1428), (4, .int 4), (3, .int x_519), (2, .int x_515), (1, .int x_1405), (0, .ref (o + 0))]) hx hb dX12_ahead_325 hl (k := 0) rfl (by rw [ex_1428]; rfl) (by decide) rfl (fun ls hl => ?_)
                        obtain ⟨x_1429, ex_1429⟩ : ∃ z, z = x_1405 + 1 := ⟨_, rfl⟩
                        have jx_1429 : (x_1429).toInt = (x_1405).toInt + 1 := by rw [ex_1429]; exact dk_addT rfl (by decide +kernel) (by omega) (by omega)
                        refine lv_iinc (v := x_1429) (lv' := [(1, .int x_1429), (5, .int x_1428), (4, .int 4), (3, .int x_519), (2, .int x_515), (0, .ref (o + 0))]) hx hb dX12_ahead_328 hl (k := 4) rfl (by rw [ex_1429]; rfl) (by decide) rfl (fun ls hl => ?_)
                        refine lv_goto (tgt := 204) hx hb dX12_ahead_331 (by decide) ?_
                        have hz_1430 : (4 : Int32).toInt = 4 := by decide +kernel
                        have hz_1431 : (4 : Int32).toInt = 4 := by decide +kernel
                        have hz_1432 : (4 : Int32).toInt = 4 := by decide +kernel
                        have hz_1433 : (4 : Int32).toInt = 4 := by decide +kernel
                        have hz_1434 : (4 : Int32).toInt = 4 := by decide +kernel
                        have hz_1435 : (4 : Int32).toInt = 4 := by decide +kernel
                        exact ih x_1428 x_1429 x_1406 x_1407 (by omega) (by omega) (by omega) (by omega) (by omega) (by omega) (by omega) S_1408 I_1408 M_1408 ff_1408_4_0 ff_1408_12_0 ff_1408_5_0 ff_1408_3_0 ff_1408_6_0 (by omega) (m_hid.mk fun h9 => tl_step (srel_1408_1.out h9) (by rw [kx_1417]; exact t_l_iff.mpr (by omega)) (by omega) (by omega)) (m_hid.mk fun h9 => tl_step (srel_1408_2.out h9) (by rw [kx_1417]; exact t_d_iff.mpr (by omega)) (by omega) (by omega)) (by obtain ⟨w9, f9, h9⟩ := srel_1408_3; exact ⟨w9, f9, m_hid.mk fun q9 => by first | exact m_pk_st (h9.out q9) (by omega) (by omega) | (exfalso; omega)⟩) (m_hid.mk fun q9 => by first | exact m_nu_st (srel_1408_4.out q9) (by omega) (by omega) | exact m_nu_up (srel_1408_4.out q9) kx_1417 (by omega) (by omega) (by omega) (by omega) | (exfalso; omega)) (m_hid.mk (by first | exact t_lx2 (by omega) (by omega) | exact t_lx1 srel_1408_5.out (by omega))) _ _ hP hS _ (lv_sub hl [1, 2, 3, 4, 0, 5] rfl)
                      · have jc_1427 := dk_ngec (k := 4) (by decide +kernel) c_1427
                        refine lv_iload_n hx hb dX12_ahead_270 rfl (lv_at hl 3 rfl) ?_
                        refine lv_if_eq (tgt := 293) hx hb dX12_ahead_271 (by decide) (fun _ => ?_) (fun c => absurd (dk_eqp (k := 0) (by decide +kernel) (by omega)) c)
                        refine lv_iload hx hb dX12_ahead_293 (lv_at hl 0 rfl) ?_
                        refine lv_iload hx hb dX12_ahead_295 (lv_at hl 1 rfl) ?_
                        refine lv_icmp_ge (tgt := 325) hx hb dX12_ahead_297 (by decide) (fun c => absurd c (fun z => absurd (dk_gec (k := 4) (by decide +kernel) z) (by omega))) (fun _ => ?_)
                        refine lv_iload_n hx hb dX12_ahead_300 rfl (lv_at hl 2 rfl) ?_
                        refine lv_if_eq (tgt := 325) hx hb dX12_ahead_301 (by decide) (fun c => absurd c (fun z => absurd (dk_eqc (k := 0) (by decide +kernel) z) (by omega))) (fun _ => ?_)
                        refine lv_aload_n hx hb dX12_ahead_304 rfl (lv_at hl 5 rfl) ?_
                        refine lv_bipush (v := 10) hx hb dX12_ahead_305 (by decide +kernel) ?_
                        refine lv_aload_n hx hb dX12_ahead_307 rfl (lv_at hl 5 rfl) ?_
                        refine dg_get (C := RX12) (T := TX12) (N := 77) hx hb hts (fun w h => bw_mem (wU_X12 w h)) hown K hP sM_0 rfl 6 (by decide) (hts _ (bw_mem wB_301)) (fun _ h9 => h9) (v := .int x_1407) ff_1408_6_0 dX12_ahead_308 ?_
                        refine lv_imul hx hb dX12_ahead_311 ?_
                        refine lv_topi (fun x_1436 ex_1436 => ?_)
                        have jx_1436 : (x_1436).toInt = 10 * (x_1407).toInt := by rw [ex_1436]; exact dk_mulT (by decide +kernel) rfl (by omega) (by omega)
                        refine lv_aload_n hx hb dX12_ahead_312 rfl (lv_at hl 5 rfl) ?_
                        refine dg_get (C := RX12) (T := TX12) (N := 77) hx hb hts (fun w h => bw_mem (wU_X12 w h)) hown K hP sM_0 rfl 0 (by decide) (hts _ (bw_mem wB_290)) (fun _ h9 => h9) (v := .ref (o + 1)) (show S_1408.1 0 0 = .ref (o + 1) from dg_I.rel (d := 1) I_1408 sM_0 (by decide +kernel)) dX12_ahead_313 ?_
                        refine lv_iload_n hx hb dX12_ahead_316 rfl (lv_at hl 4 rfl) ?_
                        have hin_1437 : vp_in x_1405 1800 := (dk_inv (by omega) (by omega))
                        refine dg_iald hx hb K hP sM_1 hin_1437 dX12_ahead_317 (fun y_1438 ey_1438 => ?_)
                        obtain rfl : x_1417 = y_1438 := (ey_1438.trans ex_1417.symm).symm
                        refine lv_iadd hx hb dX12_ahead_318 ?_
                        refine lv_topi (fun x_1439 ex_1439 => ?_)
                        have jx_1439 : (x_1439).toInt = (x_1436).toInt + (x_1417).toInt := by rw [ex_1439]; exact dk_addT rfl rfl (by omega) (by omega)
                        refine lv_bipush (v := 48) hx hb dX12_ahead_319 (by decide +kernel) ?_
                        refine lv_isub hx hb dX12_ahead_321 ?_
                        refine lv_topi (fun x_1440 ex_1440 => ?_)
                        have jx_1440 : (x_1440).toInt = (x_1439).toInt - 48 := by rw [ex_1440]; exact dk_subT rfl (by decide +kernel) (by omega) (by omega)
                        refine dg_put (ci := 12) (v := .int x_1440) (ty := tyX12 6) (C := RX12) (T := TX12) (N := 77) hx hb hts (fun w h => bw_mem (wU_X12 w h)) tyX12 tyX12_ok nmX12 hown K hP hS hA1 sM_0 rfl 6 (by decide) (hts _ (bw_mem wB_301)) (fun _ h9 => h9) rfl (by decide +kernel) rfl rfl dX12_ahead_322 (fun S_1441 e_1441 H locs hP hS => ?_)
                        have I_1441 := dg_I.uFi (lo := 0) (hi := 9999) I_1408 e_1441 sM_0 (by decide +kernel) (show 0 ≤ (x_1440).toInt ∧ (x_1440).toInt ≤ 9999 from (by omega))
                        have M_1441 := dg_sm.uF M_1408 e_1441 sM_0 (by decide)
                        obtain ⟨x_1442, ex_1442⟩ : ∃ z, z = x_1404 + 1 := ⟨_, rfl⟩
                        have jx_1442 : (x_1442).toInt = (x_1404).toInt + 1 := by rw [ex_1442]; exact dk_addT rfl (by decide +kernel) (by omega) (by omega)
                        refine lv_iinc (v := x_1442) (lv' := [(5, .int x_1442), (4, .int 4), (3, .int x_519), (2, .int x_515), (1, .int x_1405), (0, .ref (o + 0))]) hx hb dX12_ahead_325 hl (k := 0) rfl (by rw [ex_1442]; rfl) (by decide) rfl (fun ls hl => ?_)
                        obtain ⟨x_1443, ex_1443⟩ : ∃ z, z = x_1405 + 1 := ⟨_, rfl⟩
                        have jx_1443 : (x_1443).toInt = (x_1405).toInt + 1 := by rw [ex_1443]; exact dk_addT rfl (by decide +kernel) (by omega) (by omega)
                        refine lv_iinc (v := x_1443) (lv' := [(1, .int x_1443), (5, .int x_1442), (4, .int 4), (3, .int x_519), (2, .int x_515), (0, .ref (o + 0))]) hx hb dX12_ahead_328 hl (k := 4) rfl (by rw [ex_1443]; rfl) (by decide) rfl (fun ls hl => ?_)
                        refine lv_goto (tgt := 204) hx hb dX12_ahead_331 (by decide) ?_
                        have hz_1444 : (4 : Int32).toInt = 4 := by decide +kernel
                        have hz_1445 : (4 : Int32).toInt = 4 := by decide +kernel
                        have hz_1446 : (4 : Int32).toInt = 4 := by decide +kernel
                        have hz_1447 : (4 : Int32).toInt = 4 := by decide +kernel
                        have hz_1448 : (4 : Int32).toInt = 4 := by decide +kernel
                        have hz_1449 : (4 : Int32).toInt = 4 := by decide +kernel
                        exact ih x_1442 x_1443 x_1406 x_1440 (by omega) (by omega) (by omega) (by omega) (by omega) (by omega) (by omega) S_1441 I_1441 M_1441 ((dg_uF_ne e_1441 (fun z => absurd z.2 (by decide))).trans ff_1408_4_0) ((dg_uF_ne e_1441 (fun z => absurd z.2 (by decide))).trans ff_1408_12_0) ((dg_uF_ne e_1441 (fun z => absurd z.2 (by decide))).trans ff_1408_5_0) ((dg_uF_ne e_1441 (fun z => absurd z.2 (by decide))).trans ff_1408_3_0) (dg_uF_at e_1441) (by omega) (m_hid.mk fun h9 => tl_step (srel_1408_1.out h9) (by rw [kx_1417]; exact t_l_iff.mpr (by omega)) (by omega) (by omega)) (m_hid.mk fun h9 => tl_step (srel_1408_2.out h9) (by rw [kx_1417]; exact t_d_iff.mpr (by omega)) (by omega) (by omega)) (by obtain ⟨w9, f9, h9⟩ := srel_1408_3; exact ⟨w9, (dg_uF_ne e_1441 (fun z => absurd z.2 (by decide))).trans f9, m_hid.mk fun q9 => by first | exact m_pk_st (h9.out q9) (by omega) (by omega) | (exfalso; omega)⟩) (m_hid.mk fun q9 => by first | exact m_nu_st (srel_1408_4.out q9) (by omega) (by omega) | exact m_nu_up (srel_1408_4.out q9) kx_1417 (by omega) (by omega) (by omega) (by omega) | (exfalso; omega)) (m_hid.mk (by first | exact t_lx2 (by omega) (by omega) | exact t_lx1 srel_1408_5.out (by omega))) _ _ hP hS _ (lv_sub hl [1, 2, 3, 4, 0, 5] rfl)
                    · have jc_1426 := dk_eqc (k := 4) (by decide +kernel) c_1426
                      refine lv_aload_n hx hb dX12_ahead_250 rfl (lv_at hl 5 rfl) ?_
                      refine dg_get (C := RX12) (T := TX12) (N := 77) hx hb hts (fun w h => bw_mem (wU_X12 w h)) hown K hP sM_0 rfl 12 (by decide) (hts _ (bw_mem wB_293)) (fun _ h9 => h9) (v := .int x_1406) ff_1408_12_0 dX12_ahead_251 ?_
                      refine lv_iconst (v := (-1)) hx hb dX12_ahead_254 (by decide +kernel) ?_
                      refine lv_icmp_ne (tgt := 263) hx hb dX12_ahead_255 (by decide) (fun c_1450 => ?_) (fun c_1450 => ?_)
                      · have jc_1450 := dk_neqc (k := (-1)) (by decide +kernel) c_1450
                        refine lv_iload hx hb dX12_ahead_263 (lv_at hl 0 rfl) ?_
                        refine lv_iload hx hb dX12_ahead_265 (lv_at hl 1 rfl) ?_
                        refine lv_icmp_ge (tgt := 293) hx hb dX12_ahead_267 (by decide) (fun _ => ?_) (fun c => absurd (dk_gep (k := 4) (by decide +kernel) (by omega)) c)
                        refine lv_iload hx hb dX12_ahead_293 (lv_at hl 0 rfl) ?_
                        refine lv_iload hx hb dX12_ahead_295 (lv_at hl 1 rfl) ?_
                        refine lv_icmp_ge (tgt := 325) hx hb dX12_ahead_297 (by decide) (fun _ => ?_) (fun c => absurd (dk_gep (k := 4) (by decide +kernel) (by omega)) c)
                        obtain ⟨x_1451, ex_1451⟩ : ∃ z, z = x_1404 + 1 := ⟨_, rfl⟩
                        have jx_1451 : (x_1451).toInt = (x_1404).toInt + 1 := by rw [ex_1451]; exact dk_addT rfl (by decide +kernel) (by omega) (by omega)
                        refine lv_iinc (v := x_1451) (lv' := [(5, .int x_1451), (4, .int 4), (3, .int x_519), (2, .int x_515), (1, .int x_1405), (0, .ref (o + 0))]) hx hb dX12_ahead_325 hl (k := 0) rfl (by rw [ex_1451]; rfl) (by decide) rfl (fun ls hl => ?_)
                        obtain ⟨x_1452, ex_1452⟩ : ∃ z, z = x_1405 + 1 := ⟨_, rfl⟩
                        have jx_1452 : (x_1452).toInt = (x_1405).toInt + 1 := by rw [ex_1452]; exact dk_addT rfl (by decide +kernel) (by omega) (by omega)
                        refine lv_iinc (v := x_1452) (lv' := [(1, .int x_1452), (5, .int x_1451), (4, .int 4), (3, .int x_519), (2, .int x_515), (0, .ref (o + 0))]) hx hb dX12_ahead_328 hl (k := 4) rfl (by rw [ex_1452]; rfl) (by decide) rfl (fun ls hl => ?_)
                        refine lv_goto (tgt := 204) hx hb dX12_ahead_331 (by decide) ?_
                        have hz_1453 : (4 : Int32).toInt = 4 := by decide +kernel
                        have hz_1454 : (4 : Int32).toInt = 4 := by decide +kernel
                        have hz_1455 : (4 : Int32).toInt = 4 := by decide +kernel
                        have hz_1456 : (4 : Int32).toInt = 4 := by decide +kernel
                        have hz_1457 : (4 : Int32).toInt = 4 := by decide +kernel
                        have hz_1458 : (4 : Int32).toInt = 4 := by decide +kernel
                        exact ih x_1451 x_1452 x_1406 x_1407 (by omega) (by omega) (by omega) (by omega) (by omega) (by omega) (by omega) S_1408 I_1408 M_1408 ff_1408_4_0 ff_1408_12_0 ff_1408_5_0 ff_1408_3_0 ff_1408_6_0 (by omega) (m_hid.mk fun h9 => tl_step (srel_1408_1.out h9) (by rw [kx_1417]; exact t_l_iff.mpr (by omega)) (by omega) (by omega)) (m_hid.mk fun h9 => tl_step (srel_1408_2.out h9) (by rw [kx_1417]; exact t_d_iff.mpr (by omega)) (by omega) (by omega)) (by obtain ⟨w9, f9, h9⟩ := srel_1408_3; exact ⟨w9, f9, m_hid.mk fun q9 => by first | exact m_pk_st (h9.out q9) (by omega) (by omega) | (exfalso; omega)⟩) (m_hid.mk fun q9 => by first | exact m_nu_st (srel_1408_4.out q9) (by omega) (by omega) | exact m_nu_up (srel_1408_4.out q9) kx_1417 (by omega) (by omega) (by omega) (by omega) | (exfalso; omega)) (m_hid.mk (by first | exact t_lx2 (by omega) (by omega) | exact t_lx1 srel_1408_5.out (by omega))) _ _ hP hS _ (lv_sub hl [1, 2, 3, 4, 0, 5] rfl)
                      · have jc_1450 := dk_eqc (k := (-1)) (by decide +kernel) c_1450
                        refine lv_aload_n hx hb dX12_ahead_258 rfl (lv_at hl 5 rfl) ?_
                        refine lv_iload_n hx hb dX12_ahead_259 rfl (lv_at hl 4 rfl) ?_
                        refine dg_put (ci := 12) (v := .int x_1405) (ty := tyX12 12) (C := RX12) (T := TX12) (N := 77) hx hb hts (fun w h => bw_mem (wU_X12 w h)) tyX12 tyX12_ok nmX12 hown K hP hS hA1 sM_0 rfl 12 (by decide) (hts _ (bw_mem wB_293)) (fun _ h9 => h9) rfl (by decide +kernel) rfl rfl dX12_ahead_260 (fun S_1459 e_1459 H locs hP hS => ?_)
                        have I_1459 := dg_I.uFi (lo := (-2147483648)) (hi := 2147483647) I_1408 e_1459 sM_0 (by decide +kernel) (show (-2147483648) ≤ (x_1405).toInt ∧ (x_1405).toInt ≤ 2147483647 from (dk_full _))
                        have M_1459 := dg_sm.uF M_1408 e_1459 sM_0 (by decide)
                        refine lv_iload hx hb dX12_ahead_263 (lv_at hl 0 rfl) ?_
                        refine lv_iload hx hb dX12_ahead_265 (lv_at hl 1 rfl) ?_
                        refine lv_icmp_ge (tgt := 293) hx hb dX12_ahead_267 (by decide) (fun _ => ?_) (fun c => absurd (dk_gep (k := 4) (by decide +kernel) (by omega)) c)
                        refine lv_iload hx hb dX12_ahead_293 (lv_at hl 0 rfl) ?_
                        refine lv_iload hx hb dX12_ahead_295 (lv_at hl 1 rfl) ?_
                        refine lv_icmp_ge (tgt := 325) hx hb dX12_ahead_297 (by decide) (fun _ => ?_) (fun c => absurd (dk_gep (k := 4) (by decide +kernel) (by omega)) c)
                        obtain ⟨x_1460, ex_1460⟩ : ∃ z, z = x_1404 + 1 := ⟨_, rfl⟩
                        have jx_1460 : (x_1460).toInt = (x_1404).toInt + 1 := by rw [ex_1460]; exact dk_addT rfl (by decide +kernel) (by omega) (by omega)
                        refine lv_iinc (v := x_1460) (lv' := [(5, .int x_1460), (4, .int 4), (3, .int x_519), (2, .int x_515), (1, .int x_1405), (0, .ref (o + 0))]) hx hb dX12_ahead_325 hl (k := 0) rfl (by rw [ex_1460]; rfl) (by decide) rfl (fun ls hl => ?_)
                        obtain ⟨x_1461, ex_1461⟩ : ∃ z, z = x_1405 + 1 := ⟨_, rfl⟩
                        have jx_1461 : (x_1461).toInt = (x_1405).toInt + 1 := by rw [ex_1461]; exact dk_addT rfl (by decide +kernel) (by omega) (by omega)
                        refine lv_iinc (v := x_1461) (lv' := [(1, .int x_1461), (5, .int x_1460), (4, .int 4), (3, .int x_519), (2, .int x_515), (0, .ref (o + 0))]) hx hb dX12_ahead_328 hl (k := 4) rfl (by rw [ex_1461]; rfl) (by decide) rfl (fun ls hl => ?_)
                        refine lv_goto (tgt := 204) hx hb dX12_ahead_331 (by decide) ?_
                        have hz_1462 : (4 : Int32).toInt = 4 := by decide +kernel
                        have hz_1463 : (4 : Int32).toInt = 4 := by decide +kernel
                        have hz_1464 : (4 : Int32).toInt = 4 := by decide +kernel
                        have hz_1465 : (4 : Int32).toInt = 4 := by decide +kernel
                        have hz_1466 : (4 : Int32).toInt = 4 := by decide +kernel
                        have hz_1467 : (4 : Int32).toInt = 4 := by decide +kernel
                        exact ih x_1460 x_1461 x_1405 x_1407 (by omega) (by omega) (by omega) (by omega) (by omega) (by omega) (by omega) S_1459 I_1459 M_1459 ((dg_uF_ne e_1459 (fun z => absurd z.2 (by decide))).trans ff_1408_4_0) (dg_uF_at e_1459) ((dg_uF_ne e_1459 (fun z => absurd z.2 (by decide))).trans ff_1408_5_0) ((dg_uF_ne e_1459 (fun z => absurd z.2 (by decide))).trans ff_1408_3_0) ((dg_uF_ne e_1459 (fun z => absurd z.2 (by decide))).trans ff_1408_6_0) (by omega) (m_hid.mk fun h9 => tl_step (srel_1408_1.out h9) (by rw [kx_1417]; exact t_l_iff.mpr (by omega)) (by omega) (by omega)) (m_hid.mk fun h9 => tl_step (srel_1408_2.out h9) (by rw [kx_1417]; exact t_d_iff.mpr (by omega)) (by omega) (by omega)) (by obtain ⟨w9, f9, h9⟩ := srel_1408_3; exact ⟨w9, (dg_uF_ne e_1459 (fun z => absurd z.2 (by decide))).trans f9, m_hid.mk fun q9 => by first | exact m_pk_st (h9.out q9) (by omega) (by omega) | (exfalso; omega)⟩) (m_hid.mk fun q9 => by first | exact m_nu_st (srel_1408_4.out q9) (by omega) (by omega) | exact m_nu_up (srel_1408_4.out q9) kx_1417 (by omega) (by omega) (by omega) (by omega) | (exfalso; omega)) (m_hid.mk (by first | exact t_lx2 (by omega) (by omega) | exact t_lx1 srel_1408_5.out (by omega))) _ _ hP hS _ (lv_sub hl [1, 2, 3, 4, 0, 5] rfl)
            have hz_1468 : (0 : Int32).toInt = 0 := by decide +kernel
            have hz_1469 : (0 : Int32).toInt = 0 := by decide +kernel
            have hz_1470 : (0 : Int32).toInt = 0 := by decide +kernel
            have hz_1471 : (0 : Int32).toInt = 0 := by decide +kernel
            have hz_1472 : (0 : Int32).toInt = 0 := by decide +kernel
            have hz_1473 : (0 : Int32).toInt = 0 := by decide +kernel
            have hz_1474 : (0 : Int32).toInt = 0 := by decide +kernel
            have hz_1475 : (0 : Int32).toInt = 0 := by decide +kernel
            have hz_1476 : (0 : Int32).toInt = 0 := by decide +kernel
            have hz_1477 : (4 : Int32).toInt = 4 := by decide +kernel
            have hz_1478 : (0 : Int32).toInt = 0 := by decide +kernel
            have hz_1479 : (0 : Int32).toInt = 0 := by decide +kernel
            have hz_1480 : (4 : Int32).toInt = 4 := by decide +kernel
            have hz_1481 : (0 : Int32).toInt = 0 := by decide +kernel
            have hz_1482 : (0 : Int32).toInt = 0 := by decide +kernel
            have hz_1483 : (4 : Int32).toInt = 4 := by decide +kernel
            have hz_1484 : (0 : Int32).toInt = 0 := by decide +kernel
            have hz_1485 : (0 : Int32).toInt = 0 := by decide +kernel
            have hz_1486 : (4 : Int32).toInt = 4 := by decide +kernel
            have hz_1487 : (0 : Int32).toInt = 0 := by decide +kernel
            have hz_1488 : (0 : Int32).toInt = 0 := by decide +kernel
            have hz_1489 : (4 : Int32).toInt = 4 := by decide +kernel
            have hz_1490 : (0 : Int32).toInt = 0 := by decide +kernel
            have hz_1491 : (0 : Int32).toInt = 0 := by decide +kernel
            have hz_1492 : (4 : Int32).toInt = 4 := by decide +kernel
            have hz_1493 : (0 : Int32).toInt = 0 := by decide +kernel
            exact L_1409 ((1601 - ((0 : Int32)).toInt).toNat + 1) 0 x_30 x_559 0 (by decide +kernel) (by omega) (by omega) (by decide +kernel) (by omega) (by omega) (by omega) S_1268 I_1268 M_1268 (((dg_uF_ne e_1268 (fun z => absurd z.2 (by decide))).trans ((dg_uF_ne e_983 (fun z => absurd z.2 (by decide))).trans ((dg_uF_ne e_981 (fun z => absurd z.2 (by decide))).trans ((dg_uF_ne e_979 (fun z => absurd z.2 (by decide))).trans (dg_uF_ne e_978 (fun z => absurd z.2 (by decide))))))).trans ff_975_4_0) (((dg_uF_ne e_1268 (fun z => absurd z.2 (by decide))).trans ((dg_uF_ne e_983 (fun z => absurd z.2 (by decide))).trans ((dg_uF_ne e_981 (fun z => absurd z.2 (by decide))).trans ((dg_uF_ne e_979 (fun z => absurd z.2 (by decide))).trans (dg_uF_ne e_978 (fun z => absurd z.2 (by decide))))))).trans ff_975_12_0) ((dg_uF_ne e_1268 (fun z => absurd z.2 (by decide))).trans (dg_uF_at e_983)) (dg_uF_at e_1268) (((dg_uF_ne e_1268 (fun z => absurd z.2 (by decide))).trans ((dg_uF_ne e_983 (fun z => absurd z.2 (by decide))).trans ((dg_uF_ne e_981 (fun z => absurd z.2 (by decide))).trans (dg_uF_ne e_979 (fun z => absurd z.2 (by decide)))))).trans (dg_uF_at e_978)) (by omega) (m_hid.mk fun _ => tl_zero) (m_hid.mk fun _ => tl_zero) ⟨0, (((dg_uF_ne e_1268 (fun z => absurd z.2 (by decide))).trans ((dg_uF_ne e_983 (fun z => absurd z.2 (by decide))).trans (dg_uF_ne e_981 (fun z => absurd z.2 (by decide))))).trans (dg_uF_at e_979)), m_hid.mk fun _ => m_pk_z (by omega) (by decide +kernel)⟩ (m_hid.mk fun _ => m_nu_z (by omega) (by omega)) (m_hid.mk <| t_lx0 adj9.out (by omega) (by omega)) _ _ hP hS _ (lv_sub hl [0, 1, 2, 3, 4, 5] rfl)
          · have jc_1266 := dk_eqc (k := 0) (by decide +kernel) c_1266
            refine lv_aload_n hx hb dX12_ahead_165 rfl (lv_at hl 3 rfl) ?_
            refine lv_aload_n hx hb dX12_ahead_166 rfl (lv_at hl 3 rfl) ?_
            refine dg_get (C := RX12) (T := TX12) (N := 77) hx hb hts (fun w h => bw_mem (wU_X12 w h)) hown K hP sM_0 rfl 0 (by decide) (hts _ (bw_mem wB_290)) (fun _ h9 => h9) (v := .ref (o + 1)) (show S_983.1 0 0 = .ref (o + 1) from dg_I.rel (d := 1) I_983 sM_0 (by decide +kernel)) dX12_ahead_167 ?_
            refine lv_iload_n hx hb dX12_ahead_170 rfl (lv_at hl 2 rfl) ?_
            have hin_1494 : vp_in x_30 1800 := (dk_inv (by omega) (by omega))
            refine dg_iald hx hb K hP sM_1 hin_1494 dX12_ahead_171 (fun x_1495 ex_1495 => ?_)
            have b_x_1495 := dk_all_at (dg_I.row (lo := 0) (hi := 255) I_983 sM_1 (by decide +kernel)) hin_1494 ex_1495
            have kx_1495 : tb (x_30 : Int32).toNatClampNeg = x_1495 := by rw [ex_1495, ((dg_uF_f e_983 1).trans ((dg_uF_f e_981 1).trans ((dg_uF_f e_979 1).trans ((dg_uF_f e_978 1).trans (M_975.2 1 _ sM_1 (by decide)).1)))), htb]
            refine dg_put (ci := 12) (v := .int x_1495) (ty := tyX12 6) (C := RX12) (T := TX12) (N := 77) hx hb hts (fun w h => bw_mem (wU_X12 w h)) tyX12 tyX12_ok nmX12 hown K hP hS hA1 sM_0 rfl 6 (by decide) (hts _ (bw_mem wB_301)) (fun _ h9 => h9) rfl (by decide +kernel) rfl rfl dX12_ahead_172 (fun S_1496 e_1496 H locs hP hS => ?_)
            have I_1496 := dg_I.uFi (lo := 0) (hi := 9999) I_983 e_1496 sM_0 (by decide +kernel) (show 0 ≤ (x_1495).toInt ∧ (x_1495).toInt ≤ 9999 from (by omega))
            have M_1496 := dg_sm.uF M_983 e_1496 sM_0 (by decide)
            have hz_1497 : (3 : Int32).toInt = 3 := by decide +kernel
            have hz_1498 : (3 : Int32).toInt = 3 := by decide +kernel
            refine W.widen (k := 0) (n := 0) (Nat.le_of_ble_eq_true rfl) (Nat.le_of_ble_eq_true rfl) ?_
            exact dg_vret hx hb hr hlocks hP hS ⟨I_1496, M_1496, ⟨3, x_30, x_982, (((dg_uF_ne e_1496 (fun z => absurd z.2 (by decide))).trans (dg_uF_ne e_983 (fun z => absurd z.2 (by decide)))).trans (dg_uF_at e_981)), (((dg_uF_ne e_1496 (fun z => absurd z.2 (by decide))).trans ((dg_uF_ne e_983 (fun z => absurd z.2 (by decide))).trans ((dg_uF_ne e_981 (fun z => absurd z.2 (by decide))).trans ((dg_uF_ne e_979 (fun z => absurd z.2 (by decide))).trans (dg_uF_ne e_978 (fun z => absurd z.2 (by decide))))))).trans ff_975_4_0), ((dg_uF_ne e_1496 (fun z => absurd z.2 (by decide))).trans (dg_uF_at e_983)), (by omega)⟩, (TNX.sgn hs9 (by omega) (((dg_uF_ne e_1496 (fun z => absurd z.2 (by decide))).trans (dg_uF_ne e_983 (fun z => absurd z.2 (by decide)))).trans (dg_uF_at e_981)) (((dg_uF_ne e_1496 (fun z => absurd z.2 (by decide))).trans ((dg_uF_ne e_983 (fun z => absurd z.2 (by decide))).trans ((dg_uF_ne e_981 (fun z => absurd z.2 (by decide))).trans ((dg_uF_ne e_979 (fun z => absurd z.2 (by decide))).trans (dg_uF_ne e_978 (fun z => absurd z.2 (by decide))))))).trans ff_975_4_0) ((dg_uF_ne e_1496 (fun z => absurd z.2 (by decide))).trans (dg_uF_at e_983)) (dg_uF_at e_1496) (((dg_uF_ne e_1496 (fun z => absurd z.2 (by decide))).trans ((dg_uF_ne e_983 (fun z => absurd z.2 (by decide))).trans (dg_uF_ne e_981 (fun z => absurd z.2 (by decide))))).trans (dg_uF_at e_979)) (((dg_uF_ne e_1496 (fun z => absurd z.2 (by decide))).trans ((dg_uF_ne e_983 (fun z => absurd z.2 (by decide))).trans ((dg_uF_ne e_981 (fun z => absurd z.2 (by decide))).trans ((dg_uF_ne e_979 (fun z => absurd z.2 (by decide))).trans (dg_uF_ne e_978 (fun z => absurd z.2 (by decide))))))).trans ff_975_12_0) (by omega) (by omega) (by omega) (by omega) kx_1495 (by omega) (by omega)), trivial⟩ dX12_ahead_175
      refine lv_if_ne (tgt := 98) hx hb dX12_ahead_91 (by decide) (fun c_1499 => ?_) (fun c_1499 => ?_)
      · have jc_1499 := dk_neqc (k := 0) (by decide +kernel) c_1499
        refine lv_iload_n hx hb dX12_ahead_98 rfl (lv_at hl 2 rfl) ?_
        refine lv_if_le (tgt := 135) hx hb dX12_ahead_99 (by decide) (fun c_1500 => ?_) (fun c_1500 => ?_)
        · have jc_1500 := dk_lec (k := 0) (by decide +kernel) c_1500
          have hz_1501 : (-1 : Int32).toInt = (-1) := by decide +kernel
          have hz_1502 : (-1 : Int32).toInt = (-1) := by decide +kernel
          exact J_976 (-1) (by decide +kernel) S_511 I_511 M_511 (((dg_uF_ne e_511 (fun z => absurd z.2 (by decide))).trans ((dg_uF_ne e_509 (fun z => absurd z.2 (by decide))).trans (dg_uF_ne e_507 (fun z => absurd z.2 (by decide))))).trans (dg_uF_at e_506)) (((dg_uF_ne e_511 (fun z => absurd z.2 (by decide))).trans (dg_uF_ne e_509 (fun z => absurd z.2 (by decide)))).trans (dg_uF_at e_507)) ((dg_uF_ne e_511 (fun z => absurd z.2 (by decide))).trans (dg_uF_at e_509)) (dg_uF_at e_511) (m_hid.mk <| t_lx_z (by omega) (by omega)) _ _ hP hS _ (lv_sub hl [0, 1, 2, 3] rfl)
        · have jc_1500 := dk_nlec (k := 0) (by decide +kernel) c_1500
          refine lv_aload_n hx hb dX12_ahead_102 rfl (lv_at hl 3 rfl) ?_
          refine dg_get (C := RX12) (T := TX12) (N := 77) hx hb hts (fun w h => bw_mem (wU_X12 w h)) hown K hP sM_0 rfl 0 (by decide) (hts _ (bw_mem wB_290)) (fun _ h9 => h9) (v := .ref (o + 1)) (show S_511.1 0 0 = .ref (o + 1) from dg_I.rel (d := 1) I_511 sM_0 (by decide +kernel)) dX12_ahead_103 ?_
          refine lv_iload_n hx hb dX12_ahead_106 rfl (lv_at hl 2 rfl) ?_
          refine lv_iconst (v := 1) hx hb dX12_ahead_107 (by decide +kernel) ?_
          refine lv_isub hx hb dX12_ahead_108 ?_
          refine lv_topi (fun x_1503 ex_1503 => ?_)
          have jx_1503 : (x_1503).toInt = (x_30).toInt - 1 := by rw [ex_1503]; exact dk_subT rfl (by decide +kernel) (by omega) (by omega)
          have hin_1504 : vp_in x_1503 1800 := (dk_inv (by omega) (by omega))
          refine dg_iald hx hb K hP sM_1 hin_1504 dX12_ahead_109 (fun x_1505 ex_1505 => ?_)
          have b_x_1505 := dk_all_at (dg_I.row (lo := 0) (hi := 255) I_511 sM_1 (by decide +kernel)) hin_1504 ex_1505
          have htw_1505 : (x_1503 : Int32).toInt = (x_30 : Int32).toInt → (x_1505).toInt = (x_514 : Int32).toInt := fun h => by have h9 := Int32.toInt_inj.mp h; rw [ex_1505, h9]; exact congrArg Int32.toInt ex_514.symm
          have kx_1505 : tb (x_1503 : Int32).toNatClampNeg = x_1505 := by rw [ex_1505, ((dg_uF_f e_511 1).trans ((dg_uF_f e_509 1).trans ((dg_uF_f e_507 1).trans (dg_uF_f e_506 1)))), htb]
          refine dg_calli hS hA1 hA (va_runS (As := [.int x_1505]) (rest := []) F (c_m_isLetter l g D o S_511 x_1505 I_511 H.size) (va_cwS 1 hts (bw_S wB_295 wB_296 wB_297 wB_294) rfl rfl rfl (by decide +kernel) ⟨Nat.le_of_ble_eq_true rfl, Nat.le_of_ble_eq_true rfl⟩) (dg_preS K ST hP hS hA1 hA) rfl rfl hl.1 rfl (lv_room (Nat.le_of_ble_eq_true rfl)) dX12_ahead_110 ⟨Nat.le_of_ble_eq_true rfl, Nat.le_of_ble_eq_true rfl⟩) (fun x_1507 S_1508 hw_1508 H locs hP hS => ?_)
          rw [hw_1508.1] at hP
          obtain ⟨hq_1508, w_1508_0, w_1508_1, -⟩ := hw_1508
          have w_1508_0 : 0 ≤ (x_1507).toInt ∧ (x_1507).toInt ≤ 1 := w_1508_0
          have w_1508_1 : (x_1507).toInt = 1 ↔ (97 ≤ (x_1505).toInt ∧ (x_1505).toInt ≤ 122) := w_1508_1
          refine lv_if_ne (tgt := 130) hx hb dX12_ahead_113 (by decide) (fun c_1509 => ?_) (fun c_1509 => ?_)
          · have jc_1509 := dk_neqc (k := 0) (by decide +kernel) c_1509
            refine lv_aload_n hx hb dX12_ahead_130 rfl (lv_at hl 3 rfl) ?_
            refine lv_iload_n hx hb dX12_ahead_131 rfl (lv_at hl 2 rfl) ?_
            refine dg_put (ci := 12) (v := .int x_30) (ty := tyX12 12) (C := RX12) (T := TX12) (N := 77) hx hb hts (fun w h => bw_mem (wU_X12 w h)) tyX12 tyX12_ok nmX12 hown K hP hS hA1 sM_0 rfl 12 (by decide) (hts _ (bw_mem wB_293)) (fun _ h9 => h9) rfl (by decide +kernel) rfl rfl dX12_ahead_132 (fun S_1510 e_1510 H locs hP hS => ?_)
            have I_1510 := dg_I.uFi (lo := (-2147483648)) (hi := 2147483647) I_511 e_1510 sM_0 (by decide +kernel) (show (-2147483648) ≤ (x_30).toInt ∧ (x_30).toInt ≤ 2147483647 from (dk_full _))
            have M_1510 := dg_sm.uF M_511 e_1510 sM_0 (by decide)
            exact J_976 x_30 (by omega) S_1510 I_1510 M_1510 (((dg_uF_ne e_1510 (fun z => absurd z.2 (by decide))).trans ((dg_uF_ne e_511 (fun z => absurd z.2 (by decide))).trans ((dg_uF_ne e_509 (fun z => absurd z.2 (by decide))).trans (dg_uF_ne e_507 (fun z => absurd z.2 (by decide)))))).trans (dg_uF_at e_506)) (((dg_uF_ne e_1510 (fun z => absurd z.2 (by decide))).trans ((dg_uF_ne e_511 (fun z => absurd z.2 (by decide))).trans (dg_uF_ne e_509 (fun z => absurd z.2 (by decide))))).trans (dg_uF_at e_507)) (((dg_uF_ne e_1510 (fun z => absurd z.2 (by decide))).trans (dg_uF_ne e_511 (fun z => absurd z.2 (by decide)))).trans (dg_uF_at e_509)) (dg_uF_at e_1510) (m_hid.mk <| t_lx_y (by omega) (by omega) (a1 := x_1503) (by omega) kx_1505 (by omega) (by omega)) _ _ hP hS _ (lv_sub hl [0, 1, 2, 3] rfl)
          · have jc_1509 := dk_eqc (k := 0) (by decide +kernel) c_1509
            refine lv_aload_n hx hb dX12_ahead_116 rfl (lv_at hl 3 rfl) ?_
            refine dg_get (C := RX12) (T := TX12) (N := 77) hx hb hts (fun w h => bw_mem (wU_X12 w h)) hown K hP sM_0 rfl 0 (by decide) (hts _ (bw_mem wB_290)) (fun _ h9 => h9) (v := .ref (o + 1)) (show S_511.1 0 0 = .ref (o + 1) from dg_I.rel (d := 1) I_511 sM_0 (by decide +kernel)) dX12_ahead_117 ?_
            refine lv_iload_n hx hb dX12_ahead_120 rfl (lv_at hl 2 rfl) ?_
            refine lv_iconst (v := 1) hx hb dX12_ahead_121 (by decide +kernel) ?_
            refine lv_isub hx hb dX12_ahead_122 ?_
            refine lv_topi (fun x_1511 ex_1511 => ?_)
            have jx_1511 : (x_1511).toInt = (x_30).toInt - 1 := by rw [ex_1511]; exact dk_subT rfl (by decide +kernel) (by omega) (by omega)
            have hin_1512 : vp_in x_1511 1800 := (dk_inv (by omega) (by omega))
            refine dg_iald hx hb K hP sM_1 hin_1512 dX12_ahead_123 (fun x_1513 ex_1513 => ?_)
            have b_x_1513 := dk_all_at (dg_I.row (lo := 0) (hi := 255) I_511 sM_1 (by decide +kernel)) hin_1512 ex_1513
            have htw_1513 : (x_1511 : Int32).toInt = (x_30 : Int32).toInt → (x_1513).toInt = (x_514 : Int32).toInt := fun h => by have h9 := Int32.toInt_inj.mp h; rw [ex_1513, h9]; exact congrArg Int32.toInt ex_514.symm
            have htw_1514 : (x_1511 : Int32).toInt = (x_1503 : Int32).toInt → (x_1513).toInt = (x_1505 : Int32).toInt := fun h => by have h9 := Int32.toInt_inj.mp h; rw [ex_1513, h9]; exact congrArg Int32.toInt ex_1505.symm
            have kx_1513 : tb (x_1511 : Int32).toNatClampNeg = x_1513 := by rw [ex_1513, ((dg_uF_f e_511 1).trans ((dg_uF_f e_509 1).trans ((dg_uF_f e_507 1).trans (dg_uF_f e_506 1)))), htb]
            refine dg_calli hS hA1 hA (va_runS (As := [.int x_1513]) (rest := []) F (c_m_isDigit l g D o S_511 x_1513 I_511 H.size) (va_cwS 1 hts (bw_S wB_299 wB_300 wB_297 wB_298) rfl rfl rfl (by decide +kernel) ⟨Nat.le_of_ble_eq_true rfl, Nat.le_of_ble_eq_true rfl⟩) (dg_preS K ST hP hS hA1 hA) rfl rfl hl.1 rfl (lv_room (Nat.le_of_ble_eq_true rfl)) dX12_ahead_124 ⟨Nat.le_of_ble_eq_true rfl, Nat.le_of_ble_eq_true rfl⟩) (fun x_1516 S_1517 hw_1517 H locs hP hS => ?_)
            rw [hw_1517.1] at hP
            obtain ⟨hq_1517, w_1517_0, w_1517_1, -⟩ := hw_1517
            have w_1517_0 : 0 ≤ (x_1516).toInt ∧ (x_1516).toInt ≤ 1 := w_1517_0
            have w_1517_1 : (x_1516).toInt = 1 ↔ (48 ≤ (x_1513).toInt ∧ (x_1513).toInt ≤ 57) := w_1517_1
            refine lv_if_eq (tgt := 135) hx hb dX12_ahead_127 (by decide) (fun c_1518 => ?_) (fun c_1518 => ?_)
            · have jc_1518 := dk_eqc (k := 0) (by decide +kernel) c_1518
              have hz_1519 : (-1 : Int32).toInt = (-1) := by decide +kernel
              have hz_1520 : (-1 : Int32).toInt = (-1) := by decide +kernel
              exact J_976 (-1) (by decide +kernel) S_511 I_511 M_511 (((dg_uF_ne e_511 (fun z => absurd z.2 (by decide))).trans ((dg_uF_ne e_509 (fun z => absurd z.2 (by decide))).trans (dg_uF_ne e_507 (fun z => absurd z.2 (by decide))))).trans (dg_uF_at e_506)) (((dg_uF_ne e_511 (fun z => absurd z.2 (by decide))).trans (dg_uF_ne e_509 (fun z => absurd z.2 (by decide)))).trans (dg_uF_at e_507)) ((dg_uF_ne e_511 (fun z => absurd z.2 (by decide))).trans (dg_uF_at e_509)) (dg_uF_at e_511) (m_hid.mk <| t_lx_n (by omega) (a1 := x_1511) (by omega) kx_1513 (by omega) (by omega) (by omega)) _ _ hP hS _ (lv_sub hl [0, 1, 2, 3] rfl)
            · have jc_1518 := dk_neqc (k := 0) (by decide +kernel) c_1518
              refine lv_aload_n hx hb dX12_ahead_130 rfl (lv_at hl 3 rfl) ?_
              refine lv_iload_n hx hb dX12_ahead_131 rfl (lv_at hl 2 rfl) ?_
              refine dg_put (ci := 12) (v := .int x_30) (ty := tyX12 12) (C := RX12) (T := TX12) (N := 77) hx hb hts (fun w h => bw_mem (wU_X12 w h)) tyX12 tyX12_ok nmX12 hown K hP hS hA1 sM_0 rfl 12 (by decide) (hts _ (bw_mem wB_293)) (fun _ h9 => h9) rfl (by decide +kernel) rfl rfl dX12_ahead_132 (fun S_1521 e_1521 H locs hP hS => ?_)
              have I_1521 := dg_I.uFi (lo := (-2147483648)) (hi := 2147483647) I_511 e_1521 sM_0 (by decide +kernel) (show (-2147483648) ≤ (x_30).toInt ∧ (x_30).toInt ≤ 2147483647 from (dk_full _))
              have M_1521 := dg_sm.uF M_511 e_1521 sM_0 (by decide)
              exact J_976 x_30 (by omega) S_1521 I_1521 M_1521 (((dg_uF_ne e_1521 (fun z => absurd z.2 (by decide))).trans ((dg_uF_ne e_511 (fun z => absurd z.2 (by decide))).trans ((dg_uF_ne e_509 (fun z => absurd z.2 (by decide))).trans (dg_uF_ne e_507 (fun z => absurd z.2 (by decide)))))).trans (dg_uF_at e_506)) (((dg_uF_ne e_1521 (fun z => absurd z.2 (by decide))).trans ((dg_uF_ne e_511 (fun z => absurd z.2 (by decide))).trans (dg_uF_ne e_509 (fun z => absurd z.2 (by decide))))).trans (dg_uF_at e_507)) (((dg_uF_ne e_1521 (fun z => absurd z.2 (by decide))).trans (dg_uF_ne e_511 (fun z => absurd z.2 (by decide)))).trans (dg_uF_at e_509)) (dg_uF_at e_1521) (m_hid.mk <| t_lx_y (by omega) (by omega) (a1 := x_1511) (by omega) kx_1513 (by omega) (by omega)) _ _ hP hS _ (lv_sub hl [0, 1, 2, 3] rfl)
      · have jc_1499 := dk_eqc (k := 0) (by decide +kernel) c_1499
        refine lv_iload_n hx hb dX12_ahead_94 rfl (lv_at hl 0 rfl) ?_
        refine lv_if_eq (tgt := 135) hx hb dX12_ahead_95 (by decide) (fun c_1522 => ?_) (fun c_1522 => ?_)
        · have jc_1522 := dk_eqc (k := 0) (by decide +kernel) c_1522
          have hz_1523 : (-1 : Int32).toInt = (-1) := by decide +kernel
          have hz_1524 : (-1 : Int32).toInt = (-1) := by decide +kernel
          exact J_976 (-1) (by decide +kernel) S_511 I_511 M_511 (((dg_uF_ne e_511 (fun z => absurd z.2 (by decide))).trans ((dg_uF_ne e_509 (fun z => absurd z.2 (by decide))).trans (dg_uF_ne e_507 (fun z => absurd z.2 (by decide))))).trans (dg_uF_at e_506)) (((dg_uF_ne e_511 (fun z => absurd z.2 (by decide))).trans (dg_uF_ne e_509 (fun z => absurd z.2 (by decide)))).trans (dg_uF_at e_507)) ((dg_uF_ne e_511 (fun z => absurd z.2 (by decide))).trans (dg_uF_at e_509)) (dg_uF_at e_511) (m_hid.mk <| t_lx_z (by omega) (by omega)) _ _ hP hS _ (lv_sub hl [0, 1, 2, 3] rfl)
        · have jc_1522 := dk_neqc (k := 0) (by decide +kernel) c_1522
          refine lv_iload_n hx hb dX12_ahead_98 rfl (lv_at hl 2 rfl) ?_
          refine lv_if_le (tgt := 135) hx hb dX12_ahead_99 (by decide) (fun c_1525 => ?_) (fun c_1525 => ?_)
          · have jc_1525 := dk_lec (k := 0) (by decide +kernel) c_1525
            have hz_1526 : (-1 : Int32).toInt = (-1) := by decide +kernel
            have hz_1527 : (-1 : Int32).toInt = (-1) := by decide +kernel
            exact J_976 (-1) (by decide +kernel) S_511 I_511 M_511 (((dg_uF_ne e_511 (fun z => absurd z.2 (by decide))).trans ((dg_uF_ne e_509 (fun z => absurd z.2 (by decide))).trans (dg_uF_ne e_507 (fun z => absurd z.2 (by decide))))).trans (dg_uF_at e_506)) (((dg_uF_ne e_511 (fun z => absurd z.2 (by decide))).trans (dg_uF_ne e_509 (fun z => absurd z.2 (by decide)))).trans (dg_uF_at e_507)) ((dg_uF_ne e_511 (fun z => absurd z.2 (by decide))).trans (dg_uF_at e_509)) (dg_uF_at e_511) (m_hid.mk <| t_lx_z (by omega) (by omega)) _ _ hP hS _ (lv_sub hl [0, 1, 2, 3] rfl)
          · have jc_1525 := dk_nlec (k := 0) (by decide +kernel) c_1525
            refine lv_aload_n hx hb dX12_ahead_102 rfl (lv_at hl 3 rfl) ?_
            refine dg_get (C := RX12) (T := TX12) (N := 77) hx hb hts (fun w h => bw_mem (wU_X12 w h)) hown K hP sM_0 rfl 0 (by decide) (hts _ (bw_mem wB_290)) (fun _ h9 => h9) (v := .ref (o + 1)) (show S_511.1 0 0 = .ref (o + 1) from dg_I.rel (d := 1) I_511 sM_0 (by decide +kernel)) dX12_ahead_103 ?_
            refine lv_iload_n hx hb dX12_ahead_106 rfl (lv_at hl 2 rfl) ?_
            refine lv_iconst (v := 1) hx hb dX12_ahead_107 (by decide +kernel) ?_
            refine lv_isub hx hb dX12_ahead_108 ?_
            refine lv_topi (fun x_1528 ex_1528 => ?_)
            have jx_1528 : (x_1528).toInt = (x_30).toInt - 1 := by rw [ex_1528]; exact dk_subT rfl (by decide +kernel) (by omega) (by omega)
            have hin_1529 : vp_in x_1528 1800 := (dk_inv (by omega) (by omega))
            refine dg_iald hx hb K hP sM_1 hin_1529 dX12_ahead_109 (fun x_1530 ex_1530 => ?_)
            have b_x_1530 := dk_all_at (dg_I.row (lo := 0) (hi := 255) I_511 sM_1 (by decide +kernel)) hin_1529 ex_1530
            have htw_1530 : (x_1528 : Int32).toInt = (x_30 : Int32).toInt → (x_1530).toInt = (x_514 : Int32).toInt := fun h => by have h9 := Int32.toInt_inj.mp h; rw [ex_1530, h9]; exact congrArg Int32.toInt ex_514.symm
            have kx_1530 : tb (x_1528 : Int32).toNatClampNeg = x_1530 := by rw [ex_1530, ((dg_uF_f e_511 1).trans ((dg_uF_f e_509 1).trans ((dg_uF_f e_507 1).trans (dg_uF_f e_506 1)))), htb]
            refine dg_calli hS hA1 hA (va_runS (As := [.int x_1530]) (rest := []) F (c_m_isLetter l g D o S_511 x_1530 I_511 H.size) (va_cwS 1 hts (bw_S wB_295 wB_296 wB_297 wB_294) rfl rfl rfl (by decide +kernel) ⟨Nat.le_of_ble_eq_true rfl, Nat.le_of_ble_eq_true rfl⟩) (dg_preS K ST hP hS hA1 hA) rfl rfl hl.1 rfl (lv_room (Nat.le_of_ble_eq_true rfl)) dX12_ahead_110 ⟨Nat.le_of_ble_eq_true rfl, Nat.le_of_ble_eq_true rfl⟩) (fun x_1532 S_1533 hw_1533 H locs hP hS => ?_)
            rw [hw_1533.1] at hP
            obtain ⟨hq_1533, w_1533_0, w_1533_1, -⟩ := hw_1533
            have w_1533_0 : 0 ≤ (x_1532).toInt ∧ (x_1532).toInt ≤ 1 := w_1533_0
            have w_1533_1 : (x_1532).toInt = 1 ↔ (97 ≤ (x_1530).toInt ∧ (x_1530).toInt ≤ 122) := w_1533_1
            refine lv_if_ne (tgt := 130) hx hb dX12_ahead_113 (by decide) (fun c_1534 => ?_) (fun c_1534 => ?_)
            · have jc_1534 := dk_neqc (k := 0) (by decide +kernel) c_1534
              refine lv_aload_n hx hb dX12_ahead_130 rfl (lv_at hl 3 rfl) ?_
              refine lv_iload_n hx hb dX12_ahead_131 rfl (lv_at hl 2 rfl) ?_
              refine dg_put (ci := 12) (v := .int x_30) (ty := tyX12 12) (C := RX12) (T := TX12) (N := 77) hx hb hts (fun w h => bw_mem (wU_X12 w h)) tyX12 tyX12_ok nmX12 hown K hP hS hA1 sM_0 rfl 12 (by decide) (hts _ (bw_mem wB_293)) (fun _ h9 => h9) rfl (by decide +kernel) rfl rfl dX12_ahead_132 (fun S_1535 e_1535 H locs hP hS => ?_)
              have I_1535 := dg_I.uFi (lo := (-2147483648)) (hi := 2147483647) I_511 e_1535 sM_0 (by decide +kernel) (show (-2147483648) ≤ (x_30).toInt ∧ (x_30).toInt ≤ 2147483647 from (dk_full _))
              have M_1535 := dg_sm.uF M_511 e_1535 sM_0 (by decide)
              exact J_976 x_30 (by omega) S_1535 I_1535 M_1535 (((dg_uF_ne e_1535 (fun z => absurd z.2 (by decide))).trans ((dg_uF_ne e_511 (fun z => absurd z.2 (by decide))).trans ((dg_uF_ne e_509 (fun z => absurd z.2 (by decide))).trans (dg_uF_ne e_507 (fun z => absurd z.2 (by decide)))))).trans (dg_uF_at e_506)) (((dg_uF_ne e_1535 (fun z => absurd z.2 (by decide))).trans ((dg_uF_ne e_511 (fun z => absurd z.2 (by decide))).trans (dg_uF_ne e_509 (fun z => absurd z.2 (by decide))))).trans (dg_uF_at e_507)) (((dg_uF_ne e_1535 (fun z => absurd z.2 (by decide))).trans (dg_uF_ne e_511 (fun z => absurd z.2 (by decide)))).trans (dg_uF_at e_509)) (dg_uF_at e_1535) (m_hid.mk <| t_lx_y (by omega) (by omega) (a1 := x_1528) (by omega) kx_1530 (by omega) (by omega)) _ _ hP hS _ (lv_sub hl [0, 1, 2, 3] rfl)
            · have jc_1534 := dk_eqc (k := 0) (by decide +kernel) c_1534
              refine lv_aload_n hx hb dX12_ahead_116 rfl (lv_at hl 3 rfl) ?_
              refine dg_get (C := RX12) (T := TX12) (N := 77) hx hb hts (fun w h => bw_mem (wU_X12 w h)) hown K hP sM_0 rfl 0 (by decide) (hts _ (bw_mem wB_290)) (fun _ h9 => h9) (v := .ref (o + 1)) (show S_511.1 0 0 = .ref (o + 1) from dg_I.rel (d := 1) I_511 sM_0 (by decide +kernel)) dX12_ahead_117 ?_
              refine lv_iload_n hx hb dX12_ahead_120 rfl (lv_at hl 2 rfl) ?_
              refine lv_iconst (v := 1) hx hb dX12_ahead_121 (by decide +kernel) ?_
              refine lv_isub hx hb dX12_ahead_122 ?_
              refine lv_topi (fun x_1536 ex_1536 => ?_)
              have jx_1536 : (x_1536).toInt = (x_30).toInt - 1 := by rw [ex_1536]; exact dk_subT rfl (by decide +kernel) (by omega) (by omega)
              have hin_1537 : vp_in x_1536 1800 := (dk_inv (by omega) (by omega))
              refine dg_iald hx hb K hP sM_1 hin_1537 dX12_ahead_123 (fun x_1538 ex_1538 => ?_)
              have b_x_1538 := dk_all_at (dg_I.row (lo := 0) (hi := 255) I_511 sM_1 (by decide +kernel)) hin_1537 ex_1538
              have htw_1538 : (x_1536 : Int32).toInt = (x_30 : Int32).toInt → (x_1538).toInt = (x_514 : Int32).toInt := fun h => by have h9 := Int32.toInt_inj.mp h; rw [ex_1538, h9]; exact congrArg Int32.toInt ex_514.symm
              have htw_1539 : (x_1536 : Int32).toInt = (x_1528 : Int32).toInt → (x_1538).toInt = (x_1530 : Int32).toInt := fun h => by have h9 := Int32.toInt_inj.mp h; rw [ex_1538, h9]; exact congrArg Int32.toInt ex_1530.symm
              have kx_1538 : tb (x_1536 : Int32).toNatClampNeg = x_1538 := by rw [ex_1538, ((dg_uF_f e_511 1).trans ((dg_uF_f e_509 1).trans ((dg_uF_f e_507 1).trans (dg_uF_f e_506 1)))), htb]
              refine dg_calli hS hA1 hA (va_runS (As := [.int x_1538]) (rest := []) F (c_m_isDigit l g D o S_511 x_1538 I_511 H.size) (va_cwS 1 hts (bw_S wB_299 wB_300 wB_297 wB_298) rfl rfl rfl (by decide +kernel) ⟨Nat.le_of_ble_eq_true rfl, Nat.le_of_ble_eq_true rfl⟩) (dg_preS K ST hP hS hA1 hA) rfl rfl hl.1 rfl (lv_room (Nat.le_of_ble_eq_true rfl)) dX12_ahead_124 ⟨Nat.le_of_ble_eq_true rfl, Nat.le_of_ble_eq_true rfl⟩) (fun x_1541 S_1542 hw_1542 H locs hP hS => ?_)
              rw [hw_1542.1] at hP
              obtain ⟨hq_1542, w_1542_0, w_1542_1, -⟩ := hw_1542
              have w_1542_0 : 0 ≤ (x_1541).toInt ∧ (x_1541).toInt ≤ 1 := w_1542_0
              have w_1542_1 : (x_1541).toInt = 1 ↔ (48 ≤ (x_1538).toInt ∧ (x_1538).toInt ≤ 57) := w_1542_1
              refine lv_if_eq (tgt := 135) hx hb dX12_ahead_127 (by decide) (fun c_1543 => ?_) (fun c_1543 => ?_)
              · have jc_1543 := dk_eqc (k := 0) (by decide +kernel) c_1543
                have hz_1544 : (-1 : Int32).toInt = (-1) := by decide +kernel
                have hz_1545 : (-1 : Int32).toInt = (-1) := by decide +kernel
                exact J_976 (-1) (by decide +kernel) S_511 I_511 M_511 (((dg_uF_ne e_511 (fun z => absurd z.2 (by decide))).trans ((dg_uF_ne e_509 (fun z => absurd z.2 (by decide))).trans (dg_uF_ne e_507 (fun z => absurd z.2 (by decide))))).trans (dg_uF_at e_506)) (((dg_uF_ne e_511 (fun z => absurd z.2 (by decide))).trans (dg_uF_ne e_509 (fun z => absurd z.2 (by decide)))).trans (dg_uF_at e_507)) ((dg_uF_ne e_511 (fun z => absurd z.2 (by decide))).trans (dg_uF_at e_509)) (dg_uF_at e_511) (m_hid.mk <| t_lx_n (by omega) (a1 := x_1536) (by omega) kx_1538 (by omega) (by omega) (by omega)) _ _ hP hS _ (lv_sub hl [0, 1, 2, 3] rfl)
              · have jc_1543 := dk_neqc (k := 0) (by decide +kernel) c_1543
                refine lv_aload_n hx hb dX12_ahead_130 rfl (lv_at hl 3 rfl) ?_
                refine lv_iload_n hx hb dX12_ahead_131 rfl (lv_at hl 2 rfl) ?_
                refine dg_put (ci := 12) (v := .int x_30) (ty := tyX12 12) (C := RX12) (T := TX12) (N := 77) hx hb hts (fun w h => bw_mem (wU_X12 w h)) tyX12 tyX12_ok nmX12 hown K hP hS hA1 sM_0 rfl 12 (by decide) (hts _ (bw_mem wB_293)) (fun _ h9 => h9) rfl (by decide +kernel) rfl rfl dX12_ahead_132 (fun S_1546 e_1546 H locs hP hS => ?_)
                have I_1546 := dg_I.uFi (lo := (-2147483648)) (hi := 2147483647) I_511 e_1546 sM_0 (by decide +kernel) (show (-2147483648) ≤ (x_30).toInt ∧ (x_30).toInt ≤ 2147483647 from (dk_full _))
                have M_1546 := dg_sm.uF M_511 e_1546 sM_0 (by decide)
                exact J_976 x_30 (by omega) S_1546 I_1546 M_1546 (((dg_uF_ne e_1546 (fun z => absurd z.2 (by decide))).trans ((dg_uF_ne e_511 (fun z => absurd z.2 (by decide))).trans ((dg_uF_ne e_509 (fun z => absurd z.2 (by decide))).trans (dg_uF_ne e_507 (fun z => absurd z.2 (by decide)))))).trans (dg_uF_at e_506)) (((dg_uF_ne e_1546 (fun z => absurd z.2 (by decide))).trans ((dg_uF_ne e_511 (fun z => absurd z.2 (by decide))).trans (dg_uF_ne e_509 (fun z => absurd z.2 (by decide))))).trans (dg_uF_at e_507)) (((dg_uF_ne e_1546 (fun z => absurd z.2 (by decide))).trans (dg_uF_ne e_511 (fun z => absurd z.2 (by decide)))).trans (dg_uF_at e_509)) (dg_uF_at e_1546) (m_hid.mk <| t_lx_y (by omega) (by omega) (a1 := x_1536) (by omega) kx_1538 (by omega) (by omega)) _ _ hP hS _ (lv_sub hl [0, 1, 2, 3] rfl)
    · have jc_512 := dk_nltc (k := (sl).toInt) rfl c_512
      have hz_1547 : (0 : Int32).toInt = 0 := by decide +kernel
      obtain ⟨x_1548, f_x_1548, b_x_1548⟩ := dg_I.int (i := 0) (k := 6) (lo := 0) (hi := 9999) I_511 sM_0 (by decide +kernel)
      obtain ⟨x_1549, f_x_1549⟩ := dg_I.long (i := 0) (k := 7) I_511 sM_0 (by decide +kernel)
      have hz_1550 : (0 : Int32).toInt = 0 := by decide +kernel
      have hz_1551 : (-1 : Int32).toInt = (-1) := by decide +kernel
      refine W.widen (k := 0) (n := 0) (Nat.le_of_ble_eq_true rfl) (Nat.le_of_ble_eq_true rfl) ?_
      exact dg_vret hx hb hr hlocks hP hS ⟨I_511, M_511, ⟨0, x_30, x_30, ((dg_uF_ne e_511 (fun z => absurd z.2 (by decide))).trans (dg_uF_at e_509)), (((dg_uF_ne e_511 (fun z => absurd z.2 (by decide))).trans ((dg_uF_ne e_509 (fun z => absurd z.2 (by decide))).trans (dg_uF_ne e_507 (fun z => absurd z.2 (by decide))))).trans (dg_uF_at e_506)), (((dg_uF_ne e_511 (fun z => absurd z.2 (by decide))).trans (dg_uF_ne e_509 (fun z => absurd z.2 (by decide)))).trans (dg_uF_at e_507)), (by omega)⟩, (TNX.eod hs9 (by omega) ((dg_uF_ne e_511 (fun z => absurd z.2 (by decide))).trans (dg_uF_at e_509)) (((dg_uF_ne e_511 (fun z => absurd z.2 (by decide))).trans ((dg_uF_ne e_509 (fun z => absurd z.2 (by decide))).trans (dg_uF_ne e_507 (fun z => absurd z.2 (by decide))))).trans (dg_uF_at e_506)) (((dg_uF_ne e_511 (fun z => absurd z.2 (by decide))).trans (dg_uF_ne e_509 (fun z => absurd z.2 (by decide)))).trans (dg_uF_at e_507)) f_x_1548 f_x_1549 (dg_uF_at e_511) (by omega) (by omega)), trivial⟩ dX12_ahead_69
  have L_1572 : ∀ (n : Nat) (x_1571 : Int32), (0 ≤ (x_1571).toInt ∧ (x_1571).toInt ≤ 1600) → ((se).toInt ≤ (x_1571).toInt ∧ (x_1571).toInt ≤ (sl).toInt) → (t_sk tb tn (se : Int32).toNatClampNeg = t_sk tb tn (x_1571 : Int32).toNatClampNeg) → ((1601 - (x_1571).toInt).toNat < n) → ∀ (H : Heap) (locs : List Loc), va_P D vwCl (dg_w g shM o rfM S) H → va_S A s.heap H locs → ∀ ls : Array Slot, lv_has ls 6 [(1, .int x_1571), (0, .ref (o + 0))] → W p l e ({ frames := 2, cells := 0, slots := 0, locals := 52 } : Room) s m args below meth c H locs 0 0 (MQ below (va_Qv (fun S' => CM o S' ∧ dg_sm shM [(0, 3), (0, 4), (0, 5), (0, 6), (0, 7), (0, 12)] [] S S' ∧ (∃ y9_3 y9_4 y9_5 : Int32, S'.1 0 3 = .int y9_3 ∧ S'.1 0 4 = .int y9_4 ∧ S'.1 0 5 = .int y9_5 ∧ ((se).toInt ≤ (y9_4).toInt ∧ (y9_4).toInt ≤ (y9_5).toInt ∧ (y9_5).toInt ≤ (sl).toInt ∧ ((y9_3).toInt ≠ 0 → (y9_4).toInt + 1 ≤ (y9_5).toInt))) ∧ (TNX tb tn se S') ∧ True) (dg_B g D shM o rfM) A) args s 0 0 A) (F0 m 5 ls []) := by
    intro n
    induction n with
    | zero =>
      intro x_1571 b_x_1571 rel_0 rel_1 hmu H locs hP hS ls hl
      omega
    | succ n ih =>
      intro x_1571 b_x_1571 rel_0 rel_1 hmu H locs hP hS ls hl
      refine lv_iload_n hx hb dX12_ahead_5 rfl (lv_at hl 0 rfl) ?_
      refine lv_aload_n hx hb dX12_ahead_6 rfl (lv_at hl 1 rfl) ?_
      refine dg_get (C := RX12) (T := TX12) (N := 77) hx hb hts (fun w h => bw_mem (wU_X12 w h)) hown K hP sM_0 rfl 2 (by decide) (hts _ (bw_mem wB_289)) (fun _ h9 => h9) (v := .int sl) f_sl dX12_ahead_7 ?_
      refine lv_icmp_ge (tgt := 41) hx hb dX12_ahead_10 (by decide) (fun c_1573 => ?_) (fun c_1573 => ?_)
      · have jc_1573 := dk_gec (k := (sl).toInt) rfl c_1573
        exact J_505 x_1571 (by omega) (by omega) (rel_1.trans (t_sk_over (by have h8 := dk_clN x_1571; omega))) _ _ hP hS _ (lv_sub hl [0, 1] rfl)
      · have jc_1573 := dk_ngec (k := (sl).toInt) rfl c_1573
        refine lv_aload_n hx hb dX12_ahead_13 rfl (lv_at hl 1 rfl) ?_
        refine dg_get (C := RX12) (T := TX12) (N := 77) hx hb hts (fun w h => bw_mem (wU_X12 w h)) hown K hP sM_0 rfl 0 (by decide) (hts _ (bw_mem wB_290)) (fun _ h9 => h9) (v := .ref (o + 1)) (show S.1 0 0 = .ref (o + 1) from dg_I.rel (d := 1) I sM_0 (by decide +kernel)) dX12_ahead_14 ?_
        refine lv_iload_n hx hb dX12_ahead_17 rfl (lv_at hl 0 rfl) ?_
        have hin_1574 : vp_in x_1571 1800 := (dk_inv (by omega) (by omega))
        refine dg_iald hx hb K hP sM_1 hin_1574 dX12_ahead_18 (fun x_1575 ex_1575 => ?_)
        have b_x_1575 := dk_all_at (dg_I.row (lo := 0) (hi := 255) I sM_1 (by decide +kernel)) hin_1574 ex_1575
        have kx_1575 : tb (x_1571 : Int32).toNatClampNeg = x_1575 := by rw [ex_1575, htb]
        refine lv_bipush (v := 32) hx hb dX12_ahead_19 (by decide +kernel) ?_
        refine lv_icmp_eq (tgt := 35) hx hb dX12_ahead_21 (by decide) (fun c_1576 => ?_) (fun c_1576 => ?_)
        · have jc_1576 := dk_eqc (k := 32) (by decide +kernel) c_1576
          obtain ⟨x_1577, ex_1577⟩ : ∃ z, z = x_1571 + 1 := ⟨_, rfl⟩
          have jx_1577 : (x_1577).toInt = (x_1571).toInt + 1 := by rw [ex_1577]; exact dk_addT rfl (by decide +kernel) (by omega) (by omega)
          refine lv_iinc (v := x_1577) (lv' := [(1, .int x_1577), (0, .ref (o + 0))]) hx hb dX12_ahead_35 hl (k := 0) rfl (by rw [ex_1577]; rfl) (by decide) rfl (fun ls hl => ?_)
          refine lv_goto (tgt := 5) hx hb dX12_ahead_38 (by decide) ?_
          exact ih x_1577 (by omega) (by omega) (rel_1.trans (t_sk_nx hn16 (by have h8 := dk_clN x_1571; omega) (by rw [kx_1575]; exact t_b_t (by omega)) (by omega) (by omega))) (by omega) _ _ hP hS _ (lv_sub hl [0, 1] rfl)
        · have jc_1576 := dk_neqc (k := 32) (by decide +kernel) c_1576
          refine lv_aload_n hx hb dX12_ahead_24 rfl (lv_at hl 1 rfl) ?_
          refine dg_get (C := RX12) (T := TX12) (N := 77) hx hb hts (fun w h => bw_mem (wU_X12 w h)) hown K hP sM_0 rfl 0 (by decide) (hts _ (bw_mem wB_290)) (fun _ h9 => h9) (v := .ref (o + 1)) (show S.1 0 0 = .ref (o + 1) from dg_I.rel (d := 1) I sM_0 (by decide +kernel)) dX12_ahead_25 ?_
          refine lv_iload_n hx hb dX12_ahead_28 rfl (lv_at hl 0 rfl) ?_
          have hin_1578 : vp_in x_1571 1800 := (dk_inv (by omega) (by omega))
          refine dg_iald hx hb K hP sM_1 hin_1578 dX12_ahead_29 (fun y_1579 ey_1579 => ?_)
          obtain rfl : x_1575 = y_1579 := (ey_1579.trans ex_1575.symm).symm
          refine lv_bipush (v := 10) hx hb dX12_ahead_30 (by decide +kernel) ?_
          refine lv_icmp_ne (tgt := 41) hx hb dX12_ahead_32 (by decide) (fun c_1580 => ?_) (fun c_1580 => ?_)
          · have jc_1580 := dk_neqc (k := 10) (by decide +kernel) c_1580
            exact J_505 x_1571 (by omega) (by omega) (rel_1.trans (t_sk_stay (by rw [kx_1575]; exact t_b_f (by omega) (by omega)))) _ _ hP hS _ (lv_sub hl [0, 1] rfl)
          · have jc_1580 := dk_eqc (k := 10) (by decide +kernel) c_1580
            obtain ⟨x_1581, ex_1581⟩ : ∃ z, z = x_1571 + 1 := ⟨_, rfl⟩
            have jx_1581 : (x_1581).toInt = (x_1571).toInt + 1 := by rw [ex_1581]; exact dk_addT rfl (by decide +kernel) (by omega) (by omega)
            refine lv_iinc (v := x_1581) (lv' := [(1, .int x_1581), (0, .ref (o + 0))]) hx hb dX12_ahead_35 hl (k := 0) rfl (by rw [ex_1581]; rfl) (by decide) rfl (fun ls hl => ?_)
            refine lv_goto (tgt := 5) hx hb dX12_ahead_38 (by decide) ?_
            exact ih x_1581 (by omega) (by omega) (rel_1.trans (t_sk_nx hn16 (by have h8 := dk_clN x_1571; omega) (by rw [kx_1575]; exact t_b_t (by omega)) (by omega) (by omega))) (by omega) _ _ hP hS _ (lv_sub hl [0, 1] rfl)
  exact L_1572 ((1601 - ((se : Int32)).toInt).toNat + 1) se (by omega) (by omega) rfl (by omega) _ _ hP hS _ (lv_sub hl [0, 1] rfl)
