/-! 43.m11.lean.txt -/
theorem dX12_blame_0 : decode cX12_blame 0 = .ok (.aload_n 0, 1) := by decide +kernel
theorem dX12_blame_1 : decode cX12_blame 1 = .ok (.getfield 36, 3) := by decide +kernel
theorem dX12_blame_4 : decode cX12_blame 4 = .ok (.ifCond .le 4, 3) := by decide +kernel
theorem dX12_blame_7 : decode cX12_blame 7 = .ok (.return_, 1) := by decide +kernel
theorem dX12_blame_8 : decode cX12_blame 8 = .ok (.aload_n 0, 1) := by decide +kernel
theorem dX12_blame_9 : decode cX12_blame 9 = .ok (.iload_n 1, 1) := by decide +kernel
theorem dX12_blame_10 : decode cX12_blame 10 = .ok (.putfield 36, 3) := by decide +kernel
theorem dX12_blame_13 : decode cX12_blame 13 = .ok (.aload_n 0, 1) := by decide +kernel
theorem dX12_blame_14 : decode cX12_blame 14 = .ok (.iload_n 2, 1) := by decide +kernel
theorem dX12_blame_15 : decode cX12_blame 15 = .ok (.putfield 39, 3) := by decide +kernel
theorem dX12_blame_18 : decode cX12_blame 18 = .ok (.return_, 1) := by decide +kernel
theorem dX12_isLetter_0 : decode cX12_isLetter 0 = .ok (.iload_n 0, 1) := by decide +kernel
theorem dX12_isLetter_1 : decode cX12_isLetter 1 = .ok (.bipush 97, 2) := by decide +kernel
theorem dX12_isLetter_3 : decode cX12_isLetter 3 = .ok (.if_icmp .lt 13, 3) := by decide +kernel
theorem dX12_isLetter_6 : decode cX12_isLetter 6 = .ok (.iload_n 0, 1) := by decide +kernel
theorem dX12_isLetter_7 : decode cX12_isLetter 7 = .ok (.bipush 122, 2) := by decide +kernel
theorem dX12_isLetter_9 : decode cX12_isLetter 9 = .ok (.if_icmp .gt 7, 3) := by decide +kernel
theorem dX12_isLetter_12 : decode cX12_isLetter 12 = .ok (.iconst 1, 1) := by decide +kernel
theorem dX12_isLetter_13 : decode cX12_isLetter 13 = .ok (.goto 4, 3) := by decide +kernel
theorem dX12_isLetter_16 : decode cX12_isLetter 16 = .ok (.iconst 0, 1) := by decide +kernel
theorem dX12_isLetter_17 : decode cX12_isLetter 17 = .ok (.ireturn, 1) := by decide +kernel
theorem dX12_isDigit_0 : decode cX12_isDigit 0 = .ok (.iload_n 0, 1) := by decide +kernel
theorem dX12_isDigit_1 : decode cX12_isDigit 1 = .ok (.bipush 48, 2) := by decide +kernel
theorem dX12_isDigit_3 : decode cX12_isDigit 3 = .ok (.if_icmp .lt 13, 3) := by decide +kernel
theorem dX12_isDigit_6 : decode cX12_isDigit 6 = .ok (.iload_n 0, 1) := by decide +kernel
theorem dX12_isDigit_7 : decode cX12_isDigit 7 = .ok (.bipush 57, 2) := by decide +kernel
theorem dX12_isDigit_9 : decode cX12_isDigit 9 = .ok (.if_icmp .gt 7, 3) := by decide +kernel
theorem dX12_isDigit_12 : decode cX12_isDigit 12 = .ok (.iconst 1, 1) := by decide +kernel
theorem dX12_isDigit_13 : decode cX12_isDigit 13 = .ok (.goto 4, 3) := by decide +kernel
theorem dX12_isDigit_16 : decode cX12_isDigit 16 = .ok (.iconst 0, 1) := by decide +kernel
theorem dX12_isDigit_17 : decode cX12_isDigit 17 = .ok (.ireturn, 1) := by decide +kernel
theorem dX12_lex_0 : decode cX12_lex 0 = .ok (.aload_n 0, 1) := by decide +kernel
theorem dX12_lex_1 : decode cX12_lex 1 = .ok (.getfield 48, 3) := by decide +kernel
theorem dX12_lex_4 : decode cX12_lex 4 = .ok (.iconst (-1), 1) := by decide +kernel
theorem dX12_lex_5 : decode cX12_lex 5 = .ok (.if_icmp .eq 12, 3) := by decide +kernel
theorem dX12_lex_8 : decode cX12_lex 8 = .ok (.aload_n 0, 1) := by decide +kernel
theorem dX12_lex_9 : decode cX12_lex 9 = .ok (.iconst 1, 1) := by decide +kernel
theorem dX12_lex_10 : decode cX12_lex 10 = .ok (.aload_n 0, 1) := by decide +kernel
theorem dX12_lex_11 : decode cX12_lex 11 = .ok (.getfield 48, 3) := by decide +kernel
theorem dX12_lex_14 : decode cX12_lex 14 = .ok (.invokevirtual 255, 3) := by decide +kernel
theorem dX12_lex_17 : decode cX12_lex 17 = .ok (.return_, 1) := by decide +kernel
theorem dX12_ahead_0 : decode cX12_ahead 0 = .ok (.aload_n 0, 1) := by decide +kernel
theorem dX12_ahead_1 : decode cX12_ahead 1 = .ok (.getfield 26, 3) := by decide +kernel
theorem dX12_ahead_4 : decode cX12_ahead 4 = .ok (.istore_n 1, 1) := by decide +kernel
theorem dX12_ahead_5 : decode cX12_ahead 5 = .ok (.iload_n 1, 1) := by decide +kernel
theorem dX12_ahead_6 : decode cX12_ahead 6 = .ok (.aload_n 0, 1) := by decide +kernel
theorem dX12_ahead_7 : decode cX12_ahead 7 = .ok (.getfield 17, 3) := by decide +kernel
theorem dX12_ahead_10 : decode cX12_ahead 10 = .ok (.if_icmp .ge 31, 3) := by decide +kernel
theorem dX12_ahead_13 : decode cX12_ahead 13 = .ok (.aload_n 0, 1) := by decide +kernel
theorem dX12_ahead_14 : decode cX12_ahead 14 = .ok (.getfield 7, 3) := by decide +kernel
theorem dX12_ahead_17 : decode cX12_ahead 17 = .ok (.iload_n 1, 1) := by decide +kernel
theorem dX12_ahead_18 : decode cX12_ahead 18 = .ok (.iaload, 1) := by decide +kernel
theorem dX12_ahead_19 : decode cX12_ahead 19 = .ok (.bipush 32, 2) := by decide +kernel
theorem dX12_ahead_21 : decode cX12_ahead 21 = .ok (.if_icmp .eq 14, 3) := by decide +kernel
theorem dX12_ahead_24 : decode cX12_ahead 24 = .ok (.aload_n 0, 1) := by decide +kernel
theorem dX12_ahead_25 : decode cX12_ahead 25 = .ok (.getfield 7, 3) := by decide +kernel
theorem dX12_ahead_28 : decode cX12_ahead 28 = .ok (.iload_n 1, 1) := by decide +kernel
theorem dX12_ahead_29 : decode cX12_ahead 29 = .ok (.iaload, 1) := by decide +kernel
theorem dX12_ahead_30 : decode cX12_ahead 30 = .ok (.bipush 10, 2) := by decide +kernel
theorem dX12_ahead_32 : decode cX12_ahead 32 = .ok (.if_icmp .ne 9, 3) := by decide +kernel
theorem dX12_ahead_35 : decode cX12_ahead 35 = .ok (.iinc 1 1, 3) := by decide +kernel
theorem dX12_ahead_38 : decode cX12_ahead 38 = .ok (.goto (-33), 3) := by decide +kernel
theorem dX12_ahead_41 : decode cX12_ahead 41 = .ok (.aload_n 0, 1) := by decide +kernel
theorem dX12_ahead_42 : decode cX12_ahead 42 = .ok (.iload_n 1, 1) := by decide +kernel
theorem dX12_ahead_43 : decode cX12_ahead 43 = .ok (.putfield 23, 3) := by decide +kernel
theorem dX12_ahead_46 : decode cX12_ahead 46 = .ok (.aload_n 0, 1) := by decide +kernel
theorem dX12_ahead_47 : decode cX12_ahead 47 = .ok (.iload_n 1, 1) := by decide +kernel
theorem dX12_ahead_48 : decode cX12_ahead 48 = .ok (.putfield 26, 3) := by decide +kernel
theorem dX12_ahead_51 : decode cX12_ahead 51 = .ok (.aload_n 0, 1) := by decide +kernel
theorem dX12_ahead_52 : decode cX12_ahead 52 = .ok (.iconst 0, 1) := by decide +kernel
theorem dX12_ahead_53 : decode cX12_ahead 53 = .ok (.putfield 20, 3) := by decide +kernel
theorem dX12_ahead_56 : decode cX12_ahead 56 = .ok (.aload_n 0, 1) := by decide +kernel
theorem dX12_ahead_57 : decode cX12_ahead 57 = .ok (.iconst (-1), 1) := by decide +kernel
theorem dX12_ahead_58 : decode cX12_ahead 58 = .ok (.putfield 48, 3) := by decide +kernel
theorem dX12_ahead_61 : decode cX12_ahead 61 = .ok (.iload_n 1, 1) := by decide +kernel
theorem dX12_ahead_62 : decode cX12_ahead 62 = .ok (.aload_n 0, 1) := by decide +kernel
theorem dX12_ahead_63 : decode cX12_ahead 63 = .ok (.getfield 17, 3) := by decide +kernel
theorem dX12_ahead_66 : decode cX12_ahead 66 = .ok (.if_icmp .lt 4, 3) := by decide +kernel
theorem dX12_ahead_69 : decode cX12_ahead 69 = .ok (.return_, 1) := by decide +kernel
theorem dX12_ahead_70 : decode cX12_ahead 70 = .ok (.aload_n 0, 1) := by decide +kernel
theorem dX12_ahead_71 : decode cX12_ahead 71 = .ok (.getfield 7, 3) := by decide +kernel
theorem dX12_ahead_74 : decode cX12_ahead 74 = .ok (.iload_n 1, 1) := by decide +kernel
theorem dX12_ahead_75 : decode cX12_ahead 75 = .ok (.iaload, 1) := by decide +kernel
theorem dX12_ahead_76 : decode cX12_ahead 76 = .ok (.invokestatic 259, 3) := by decide +kernel
theorem dX12_ahead_79 : decode cX12_ahead 79 = .ok (.istore_n 2, 1) := by decide +kernel
theorem dX12_ahead_80 : decode cX12_ahead 80 = .ok (.aload_n 0, 1) := by decide +kernel
theorem dX12_ahead_81 : decode cX12_ahead 81 = .ok (.getfield 7, 3) := by decide +kernel
theorem dX12_ahead_84 : decode cX12_ahead 84 = .ok (.iload_n 1, 1) := by decide +kernel
theorem dX12_ahead_85 : decode cX12_ahead 85 = .ok (.iaload, 1) := by decide +kernel
theorem dX12_ahead_86 : decode cX12_ahead 86 = .ok (.invokestatic 263, 3) := by decide +kernel
theorem dX12_ahead_89 : decode cX12_ahead 89 = .ok (.istore_n 3, 1) := by decide +kernel
theorem dX12_ahead_90 : decode cX12_ahead 90 = .ok (.iload_n 2, 1) := by decide +kernel
theorem dX12_ahead_91 : decode cX12_ahead 91 = .ok (.ifCond .ne 7, 3) := by decide +kernel
theorem dX12_ahead_94 : decode cX12_ahead 94 = .ok (.iload_n 3, 1) := by decide +kernel
theorem dX12_ahead_95 : decode cX12_ahead 95 = .ok (.ifCond .eq 40, 3) := by decide +kernel
theorem dX12_ahead_98 : decode cX12_ahead 98 = .ok (.iload_n 1, 1) := by decide +kernel
theorem dX12_ahead_99 : decode cX12_ahead 99 = .ok (.ifCond .le 36, 3) := by decide +kernel
theorem dX12_ahead_102 : decode cX12_ahead 102 = .ok (.aload_n 0, 1) := by decide +kernel
theorem dX12_ahead_103 : decode cX12_ahead 103 = .ok (.getfield 7, 3) := by decide +kernel
theorem dX12_ahead_106 : decode cX12_ahead 106 = .ok (.iload_n 1, 1) := by decide +kernel
theorem dX12_ahead_107 : decode cX12_ahead 107 = .ok (.iconst 1, 1) := by decide +kernel
theorem dX12_ahead_108 : decode cX12_ahead 108 = .ok (.isub, 1) := by decide +kernel
theorem dX12_ahead_109 : decode cX12_ahead 109 = .ok (.iaload, 1) := by decide +kernel
theorem dX12_ahead_110 : decode cX12_ahead 110 = .ok (.invokestatic 259, 3) := by decide +kernel
theorem dX12_ahead_113 : decode cX12_ahead 113 = .ok (.ifCond .ne 17, 3) := by decide +kernel
theorem dX12_ahead_116 : decode cX12_ahead 116 = .ok (.aload_n 0, 1) := by decide +kernel
theorem dX12_ahead_117 : decode cX12_ahead 117 = .ok (.getfield 7, 3) := by decide +kernel
theorem dX12_ahead_120 : decode cX12_ahead 120 = .ok (.iload_n 1, 1) := by decide +kernel
theorem dX12_ahead_121 : decode cX12_ahead 121 = .ok (.iconst 1, 1) := by decide +kernel
theorem dX12_ahead_122 : decode cX12_ahead 122 = .ok (.isub, 1) := by decide +kernel
theorem dX12_ahead_123 : decode cX12_ahead 123 = .ok (.iaload, 1) := by decide +kernel
theorem dX12_ahead_124 : decode cX12_ahead 124 = .ok (.invokestatic 263, 3) := by decide +kernel
theorem dX12_ahead_127 : decode cX12_ahead 127 = .ok (.ifCond .eq 8, 3) := by decide +kernel
theorem dX12_ahead_130 : decode cX12_ahead 130 = .ok (.aload_n 0, 1) := by decide +kernel
theorem dX12_ahead_131 : decode cX12_ahead 131 = .ok (.iload_n 1, 1) := by decide +kernel
theorem dX12_ahead_132 : decode cX12_ahead 132 = .ok (.putfield 48, 3) := by decide +kernel
theorem dX12_ahead_135 : decode cX12_ahead 135 = .ok (.aload_n 0, 1) := by decide +kernel
theorem dX12_ahead_136 : decode cX12_ahead 136 = .ok (.iconst 0, 1) := by decide +kernel
theorem dX12_ahead_137 : decode cX12_ahead 137 = .ok (.putfield 29, 3) := by decide +kernel
theorem dX12_ahead_140 : decode cX12_ahead 140 = .ok (.aload_n 0, 1) := by decide +kernel
theorem dX12_ahead_141 : decode cX12_ahead 141 = .ok (.lconst 0, 1) := by decide +kernel
theorem dX12_ahead_142 : decode cX12_ahead 142 = .ok (.putfield 32, 3) := by decide +kernel
theorem dX12_ahead_145 : decode cX12_ahead 145 = .ok (.aload_n 0, 1) := by decide +kernel
theorem dX12_ahead_146 : decode cX12_ahead 146 = .ok (.iconst 3, 1) := by decide +kernel
theorem dX12_ahead_147 : decode cX12_ahead 147 = .ok (.putfield 20, 3) := by decide +kernel
theorem dX12_ahead_150 : decode cX12_ahead 150 = .ok (.aload_n 0, 1) := by decide +kernel
theorem dX12_ahead_151 : decode cX12_ahead 151 = .ok (.iload_n 1, 1) := by decide +kernel
theorem dX12_ahead_152 : decode cX12_ahead 152 = .ok (.iconst 1, 1) := by decide +kernel
theorem dX12_ahead_153 : decode cX12_ahead 153 = .ok (.iadd, 1) := by decide +kernel
theorem dX12_ahead_154 : decode cX12_ahead 154 = .ok (.putfield 26, 3) := by decide +kernel
theorem dX12_ahead_157 : decode cX12_ahead 157 = .ok (.iload_n 2, 1) := by decide +kernel
theorem dX12_ahead_158 : decode cX12_ahead 158 = .ok (.ifCond .ne 18, 3) := by decide +kernel
theorem dX12_ahead_161 : decode cX12_ahead 161 = .ok (.iload_n 3, 1) := by decide +kernel
theorem dX12_ahead_162 : decode cX12_ahead 162 = .ok (.ifCond .ne 14, 3) := by decide +kernel
theorem dX12_ahead_165 : decode cX12_ahead 165 = .ok (.aload_n 0, 1) := by decide +kernel
theorem dX12_ahead_166 : decode cX12_ahead 166 = .ok (.aload_n 0, 1) := by decide +kernel
theorem dX12_ahead_167 : decode cX12_ahead 167 = .ok (.getfield 7, 3) := by decide +kernel
theorem dX12_ahead_170 : decode cX12_ahead 170 = .ok (.iload_n 1, 1) := by decide +kernel
theorem dX12_ahead_171 : decode cX12_ahead 171 = .ok (.iaload, 1) := by decide +kernel
theorem dX12_ahead_172 : decode cX12_ahead 172 = .ok (.putfield 29, 3) := by decide +kernel
theorem dX12_ahead_175 : decode cX12_ahead 175 = .ok (.return_, 1) := by decide +kernel
theorem dX12_ahead_176 : decode cX12_ahead 176 = .ok (.aload_n 0, 1) := by decide +kernel
theorem dX12_ahead_177 : decode cX12_ahead 177 = .ok (.iload_n 2, 1) := by decide +kernel
theorem dX12_ahead_178 : decode cX12_ahead 178 = .ok (.ifCond .eq 7, 3) := by decide +kernel
theorem dX12_ahead_181 : decode cX12_ahead 181 = .ok (.iconst 1, 1) := by decide +kernel
theorem dX12_ahead_182 : decode cX12_ahead 182 = .ok (.goto 4, 3) := by decide +kernel
theorem dX12_ahead_185 : decode cX12_ahead 185 = .ok (.iconst 2, 1) := by decide +kernel
theorem dX12_ahead_186 : decode cX12_ahead 186 = .ok (.putfield 20, 3) := by decide +kernel
theorem dX12_ahead_189 : decode cX12_ahead 189 = .ok (.iload_n 2, 1) := by decide +kernel
theorem dX12_ahead_190 : decode cX12_ahead 190 = .ok (.ifCond .eq 8, 3) := by decide +kernel
theorem dX12_ahead_193 : decode cX12_ahead 193 = .ok (.bipush 6, 2) := by decide +kernel
theorem dX12_ahead_195 : decode cX12_ahead 195 = .ok (.goto 4, 3) := by decide +kernel
theorem dX12_ahead_198 : decode cX12_ahead 198 = .ok (.iconst 4, 1) := by decide +kernel
theorem dX12_ahead_199 : decode cX12_ahead 199 = .ok (.istore 4, 2) := by decide +kernel
theorem dX12_ahead_201 : decode cX12_ahead 201 = .ok (.iconst 0, 1) := by decide +kernel
theorem dX12_ahead_202 : decode cX12_ahead 202 = .ok (.istore 5, 2) := by decide +kernel
theorem dX12_ahead_204 : decode cX12_ahead 204 = .ok (.iload_n 1, 1) := by decide +kernel
theorem dX12_ahead_205 : decode cX12_ahead 205 = .ok (.aload_n 0, 1) := by decide +kernel
theorem dX12_ahead_206 : decode cX12_ahead 206 = .ok (.getfield 17, 3) := by decide +kernel
theorem dX12_ahead_209 : decode cX12_ahead 209 = .ok (.if_icmp .ge 125, 3) := by decide +kernel
theorem dX12_ahead_212 : decode cX12_ahead 212 = .ok (.iload_n 2, 1) := by decide +kernel
theorem dX12_ahead_213 : decode cX12_ahead 213 = .ok (.ifCond .eq 18, 3) := by decide +kernel
theorem dX12_ahead_216 : decode cX12_ahead 216 = .ok (.aload_n 0, 1) := by decide +kernel
theorem dX12_ahead_217 : decode cX12_ahead 217 = .ok (.getfield 7, 3) := by decide +kernel
theorem dX12_ahead_220 : decode cX12_ahead 220 = .ok (.iload_n 1, 1) := by decide +kernel
theorem dX12_ahead_221 : decode cX12_ahead 221 = .ok (.iaload, 1) := by decide +kernel
theorem dX12_ahead_222 : decode cX12_ahead 222 = .ok (.invokestatic 259, 3) := by decide +kernel
theorem dX12_ahead_225 : decode cX12_ahead 225 = .ok (.ifCond .eq 109, 3) := by decide +kernel
theorem dX12_ahead_228 : decode cX12_ahead 228 = .ok (.goto 15, 3) := by decide +kernel
theorem dX12_ahead_231 : decode cX12_ahead 231 = .ok (.aload_n 0, 1) := by decide +kernel
theorem dX12_ahead_232 : decode cX12_ahead 232 = .ok (.getfield 7, 3) := by decide +kernel
theorem dX12_ahead_235 : decode cX12_ahead 235 = .ok (.iload_n 1, 1) := by decide +kernel
theorem dX12_ahead_236 : decode cX12_ahead 236 = .ok (.iaload, 1) := by decide +kernel
theorem dX12_ahead_237 : decode cX12_ahead 237 = .ok (.invokestatic 263, 3) := by decide +kernel
theorem dX12_ahead_240 : decode cX12_ahead 240 = .ok (.ifCond .eq 94, 3) := by decide +kernel
theorem dX12_ahead_243 : decode cX12_ahead 243 = .ok (.iload 5, 2) := by decide +kernel
theorem dX12_ahead_245 : decode cX12_ahead 245 = .ok (.iload 4, 2) := by decide +kernel
theorem dX12_ahead_247 : decode cX12_ahead 247 = .ok (.if_icmp .ne 16, 3) := by decide +kernel
theorem dX12_ahead_250 : decode cX12_ahead 250 = .ok (.aload_n 0, 1) := by decide +kernel
theorem dX12_ahead_251 : decode cX12_ahead 251 = .ok (.getfield 48, 3) := by decide +kernel
theorem dX12_ahead_254 : decode cX12_ahead 254 = .ok (.iconst (-1), 1) := by decide +kernel
theorem dX12_ahead_255 : decode cX12_ahead 255 = .ok (.if_icmp .ne 8, 3) := by decide +kernel
theorem dX12_ahead_258 : decode cX12_ahead 258 = .ok (.aload_n 0, 1) := by decide +kernel
theorem dX12_ahead_259 : decode cX12_ahead 259 = .ok (.iload_n 1, 1) := by decide +kernel
theorem dX12_ahead_260 : decode cX12_ahead 260 = .ok (.putfield 48, 3) := by decide +kernel
theorem dX12_ahead_263 : decode cX12_ahead 263 = .ok (.iload 5, 2) := by decide +kernel
theorem dX12_ahead_265 : decode cX12_ahead 265 = .ok (.iload 4, 2) := by decide +kernel
theorem dX12_ahead_267 : decode cX12_ahead 267 = .ok (.if_icmp .ge 26, 3) := by decide +kernel
theorem dX12_ahead_270 : decode cX12_ahead 270 = .ok (.iload_n 2, 1) := by decide +kernel
theorem dX12_ahead_271 : decode cX12_ahead 271 = .ok (.ifCond .eq 22, 3) := by decide +kernel
theorem dX12_ahead_274 : decode cX12_ahead 274 = .ok (.aload_n 0, 1) := by decide +kernel
theorem dX12_ahead_275 : decode cX12_ahead 275 = .ok (.aload_n 0, 1) := by decide +kernel
theorem dX12_ahead_276 : decode cX12_ahead 276 = .ok (.getfield 32, 3) := by decide +kernel
theorem dX12_ahead_279 : decode cX12_ahead 279 = .ok (.bipush 8, 2) := by decide +kernel
theorem dX12_ahead_281 : decode cX12_ahead 281 = .ok (.lshl, 1) := by decide +kernel
theorem dX12_ahead_282 : decode cX12_ahead 282 = .ok (.aload_n 0, 1) := by decide +kernel
theorem dX12_ahead_283 : decode cX12_ahead 283 = .ok (.getfield 7, 3) := by decide +kernel
theorem dX12_ahead_286 : decode cX12_ahead 286 = .ok (.iload_n 1, 1) := by decide +kernel
theorem dX12_ahead_287 : decode cX12_ahead 287 = .ok (.iaload, 1) := by decide +kernel
theorem dX12_ahead_288 : decode cX12_ahead 288 = .ok (.i2l, 1) := by decide +kernel
theorem dX12_ahead_289 : decode cX12_ahead 289 = .ok (.lor, 1) := by decide +kernel
theorem dX12_ahead_290 : decode cX12_ahead 290 = .ok (.putfield 32, 3) := by decide +kernel
theorem dX12_ahead_293 : decode cX12_ahead 293 = .ok (.iload 5, 2) := by decide +kernel
theorem dX12_ahead_295 : decode cX12_ahead 295 = .ok (.iload 4, 2) := by decide +kernel
theorem dX12_ahead_297 : decode cX12_ahead 297 = .ok (.if_icmp .ge 28, 3) := by decide +kernel
theorem dX12_ahead_300 : decode cX12_ahead 300 = .ok (.iload_n 3, 1) := by decide +kernel
theorem dX12_ahead_301 : decode cX12_ahead 301 = .ok (.ifCond .eq 24, 3) := by decide +kernel
theorem dX12_ahead_304 : decode cX12_ahead 304 = .ok (.aload_n 0, 1) := by decide +kernel
theorem dX12_ahead_305 : decode cX12_ahead 305 = .ok (.bipush 10, 2) := by decide +kernel
theorem dX12_ahead_307 : decode cX12_ahead 307 = .ok (.aload_n 0, 1) := by decide +kernel
theorem dX12_ahead_308 : decode cX12_ahead 308 = .ok (.getfield 29, 3) := by decide +kernel
theorem dX12_ahead_311 : decode cX12_ahead 311 = .ok (.imul, 1) := by decide +kernel
theorem dX12_ahead_312 : decode cX12_ahead 312 = .ok (.aload_n 0, 1) := by decide +kernel
theorem dX12_ahead_313 : decode cX12_ahead 313 = .ok (.getfield 7, 3) := by decide +kernel
theorem dX12_ahead_316 : decode cX12_ahead 316 = .ok (.iload_n 1, 1) := by decide +kernel
theorem dX12_ahead_317 : decode cX12_ahead 317 = .ok (.iaload, 1) := by decide +kernel
theorem dX12_ahead_318 : decode cX12_ahead 318 = .ok (.iadd, 1) := by decide +kernel
theorem dX12_ahead_319 : decode cX12_ahead 319 = .ok (.bipush 48, 2) := by decide +kernel
theorem dX12_ahead_321 : decode cX12_ahead 321 = .ok (.isub, 1) := by decide +kernel
theorem dX12_ahead_322 : decode cX12_ahead 322 = .ok (.putfield 29, 3) := by decide +kernel
theorem dX12_ahead_325 : decode cX12_ahead 325 = .ok (.iinc 5 1, 3) := by decide +kernel
theorem dX12_ahead_328 : decode cX12_ahead 328 = .ok (.iinc 1 1, 3) := by decide +kernel
theorem dX12_ahead_331 : decode cX12_ahead 331 = .ok (.goto (-127), 3) := by decide +kernel
theorem dX12_ahead_334 : decode cX12_ahead 334 = .ok (.aload_n 0, 1) := by decide +kernel
theorem dX12_ahead_335 : decode cX12_ahead 335 = .ok (.iload_n 1, 1) := by decide +kernel
theorem dX12_ahead_336 : decode cX12_ahead 336 = .ok (.putfield 26, 3) := by decide +kernel
theorem dX12_ahead_339 : decode cX12_ahead 339 = .ok (.return_, 1) := by decide +kernel
theorem dX12_isSign_0 : decode cX12_isSign 0 = .ok (.aload_n 0, 1) := by decide +kernel
theorem dX12_isSign_1 : decode cX12_isSign 1 = .ok (.getfield 20, 3) := by decide +kernel
theorem dX12_isSign_4 : decode cX12_isSign 4 = .ok (.iconst 3, 1) := by decide +kernel
theorem dX12_isSign_5 : decode cX12_isSign 5 = .ok (.if_icmp .ne 15, 3) := by decide +kernel
theorem dX12_isSign_8 : decode cX12_isSign 8 = .ok (.aload_n 0, 1) := by decide +kernel
theorem dX12_isSign_9 : decode cX12_isSign 9 = .ok (.getfield 29, 3) := by decide +kernel
theorem dX12_isSign_12 : decode cX12_isSign 12 = .ok (.iload_n 1, 1) := by decide +kernel
theorem dX12_isSign_13 : decode cX12_isSign 13 = .ok (.if_icmp .ne 7, 3) := by decide +kernel
theorem dX12_isSign_16 : decode cX12_isSign 16 = .ok (.iconst 1, 1) := by decide +kernel
theorem dX12_isSign_17 : decode cX12_isSign 17 = .ok (.goto 4, 3) := by decide +kernel
theorem dX12_isSign_20 : decode cX12_isSign 20 = .ok (.iconst 0, 1) := by decide +kernel
theorem dX12_isSign_21 : decode cX12_isSign 21 = .ok (.ireturn, 1) := by decide +kernel
theorem dX12_isWord_0 : decode cX12_isWord 0 = .ok (.aload_n 0, 1) := by decide +kernel
theorem dX12_isWord_1 : decode cX12_isWord 1 = .ok (.getfield 20, 3) := by decide +kernel
theorem dX12_isWord_4 : decode cX12_isWord 4 = .ok (.iconst 1, 1) := by decide +kernel
theorem dX12_isWord_5 : decode cX12_isWord 5 = .ok (.if_icmp .ne 16, 3) := by decide +kernel
theorem dX12_isWord_8 : decode cX12_isWord 8 = .ok (.aload_n 0, 1) := by decide +kernel
theorem dX12_isWord_9 : decode cX12_isWord 9 = .ok (.getfield 32, 3) := by decide +kernel
theorem dX12_isWord_12 : decode cX12_isWord 12 = .ok (.lload_n 1, 1) := by decide +kernel
theorem dX12_isWord_13 : decode cX12_isWord 13 = .ok (.lcmp, 1) := by decide +kernel
theorem dX12_isWord_14 : decode cX12_isWord 14 = .ok (.ifCond .ne 7, 3) := by decide +kernel
theorem dX12_isWord_17 : decode cX12_isWord 17 = .ok (.iconst 1, 1) := by decide +kernel
theorem dX12_isWord_18 : decode cX12_isWord 18 = .ok (.goto 4, 3) := by decide +kernel
theorem dX12_isWord_21 : decode cX12_isWord 21 = .ok (.iconst 0, 1) := by decide +kernel
theorem dX12_isWord_22 : decode cX12_isWord 22 = .ok (.ireturn, 1) := by decide +kernel
theorem dX12_must_0 : decode cX12_must 0 = .ok (.aload_n 0, 1) := by decide +kernel
theorem dX12_must_1 : decode cX12_must 1 = .ok (.invokevirtual 266, 3) := by decide +kernel
theorem dX12_must_4 : decode cX12_must 4 = .ok (.aload_n 0, 1) := by decide +kernel
theorem dX12_must_5 : decode cX12_must 5 = .ok (.iload_n 1, 1) := by decide +kernel
theorem dX12_must_6 : decode cX12_must 6 = .ok (.invokevirtual 269, 3) := by decide +kernel
theorem dX12_must_9 : decode cX12_must 9 = .ok (.ifCond .ne 12, 3) := by decide +kernel
theorem dX12_must_12 : decode cX12_must 12 = .ok (.aload_n 0, 1) := by decide +kernel
theorem dX12_must_13 : decode cX12_must 13 = .ok (.iconst 1, 1) := by decide +kernel
theorem dX12_must_14 : decode cX12_must 14 = .ok (.aload_n 0, 1) := by decide +kernel
theorem dX12_must_15 : decode cX12_must 15 = .ok (.getfield 23, 3) := by decide +kernel
theorem dX12_must_18 : decode cX12_must 18 = .ok (.invokevirtual 255, 3) := by decide +kernel
theorem dX12_must_21 : decode cX12_must 21 = .ok (.aload_n 0, 1) := by decide +kernel
theorem dX12_must_22 : decode cX12_must 22 = .ok (.getfield 36, 3) := by decide +kernel
theorem dX12_must_25 : decode cX12_must 25 = .ok (.ifCond .ne 7, 3) := by decide +kernel
theorem dX12_must_28 : decode cX12_must 28 = .ok (.aload_n 0, 1) := by decide +kernel
theorem dX12_must_29 : decode cX12_must 29 = .ok (.invokevirtual 272, 3) := by decide +kernel
theorem dX12_must_32 : decode cX12_must 32 = .ok (.return_, 1) := by decide +kernel
theorem dX12_isOwn_0 : decode cX12_isOwn 0 = .ok (.lload_n 1, 1) := by decide +kernel
theorem dX12_isOwn_1 : decode cX12_isOwn 1 = .ok (.ldc2_w 275, 3) := by decide +kernel
theorem dX12_isOwn_4 : decode cX12_isOwn 4 = .ok (.lcmp, 1) := by decide +kernel
theorem dX12_isOwn_5 : decode cX12_isOwn 5 = .ok (.ifCond .eq 35, 3) := by decide +kernel
theorem dX12_isOwn_8 : decode cX12_isOwn 8 = .ok (.lload_n 1, 1) := by decide +kernel
theorem dX12_isOwn_9 : decode cX12_isOwn 9 = .ok (.ldc2_w 277, 3) := by decide +kernel
theorem dX12_isOwn_12 : decode cX12_isOwn 12 = .ok (.lcmp, 1) := by decide +kernel
theorem dX12_isOwn_13 : decode cX12_isOwn 13 = .ok (.ifCond .eq 27, 3) := by decide +kernel
theorem dX12_isOwn_16 : decode cX12_isOwn 16 = .ok (.lload_n 1, 1) := by decide +kernel
theorem dX12_isOwn_17 : decode cX12_isOwn 17 = .ok (.ldc2_w 279, 3) := by decide +kernel
theorem dX12_isOwn_20 : decode cX12_isOwn 20 = .ok (.lcmp, 1) := by decide +kernel
theorem dX12_isOwn_21 : decode cX12_isOwn 21 = .ok (.ifCond .eq 19, 3) := by decide +kernel
theorem dX12_isOwn_24 : decode cX12_isOwn 24 = .ok (.lload_n 1, 1) := by decide +kernel
theorem dX12_isOwn_25 : decode cX12_isOwn 25 = .ok (.ldc2_w 281, 3) := by decide +kernel
theorem dX12_isOwn_28 : decode cX12_isOwn 28 = .ok (.lcmp, 1) := by decide +kernel
theorem dX12_isOwn_29 : decode cX12_isOwn 29 = .ok (.ifCond .eq 11, 3) := by decide +kernel
theorem dX12_isOwn_32 : decode cX12_isOwn 32 = .ok (.lload_n 1, 1) := by decide +kernel
theorem dX12_isOwn_33 : decode cX12_isOwn 33 = .ok (.ldc2_w 283, 3) := by decide +kernel
theorem dX12_isOwn_36 : decode cX12_isOwn 36 = .ok (.lcmp, 1) := by decide +kernel
theorem dX12_isOwn_37 : decode cX12_isOwn 37 = .ok (.ifCond .ne 5, 3) := by decide +kernel
theorem dX12_isOwn_40 : decode cX12_isOwn 40 = .ok (.iconst 1, 1) := by decide +kernel
theorem dX12_isOwn_41 : decode cX12_isOwn 41 = .ok (.ireturn, 1) := by decide +kernel
theorem dX12_isOwn_42 : decode cX12_isOwn 42 = .ok (.lload_n 1, 1) := by decide +kernel
theorem dX12_isOwn_43 : decode cX12_isOwn 43 = .ok (.ldc2_w 285, 3) := by decide +kernel
theorem dX12_isOwn_46 : decode cX12_isOwn 46 = .ok (.lcmp, 1) := by decide +kernel
theorem dX12_isOwn_47 : decode cX12_isOwn 47 = .ok (.ifCond .eq 35, 3) := by decide +kernel
theorem dX12_isOwn_50 : decode cX12_isOwn 50 = .ok (.lload_n 1, 1) := by decide +kernel
theorem dX12_isOwn_51 : decode cX12_isOwn 51 = .ok (.ldc2_w 287, 3) := by decide +kernel
theorem dX12_isOwn_54 : decode cX12_isOwn 54 = .ok (.lcmp, 1) := by decide +kernel
theorem dX12_isOwn_55 : decode cX12_isOwn 55 = .ok (.ifCond .eq 27, 3) := by decide +kernel
theorem dX12_isOwn_58 : decode cX12_isOwn 58 = .ok (.lload_n 1, 1) := by decide +kernel
theorem dX12_isOwn_59 : decode cX12_isOwn 59 = .ok (.ldc2_w 289, 3) := by decide +kernel
theorem dX12_isOwn_62 : decode cX12_isOwn 62 = .ok (.lcmp, 1) := by decide +kernel
theorem dX12_isOwn_63 : decode cX12_isOwn 63 = .ok (.ifCond .eq 19, 3) := by decide +kernel
theorem dX12_isOwn_66 : decode cX12_isOwn 66 = .ok (.lload_n 1, 1) := by decide +kernel
theorem dX12_isOwn_67 : decode cX12_isOwn 67 = .ok (.ldc2_w 291, 3) := by decide +kernel
theorem dX12_isOwn_70 : decode cX12_isOwn 70 = .ok (.lcmp, 1) := by decide +kernel
theorem dX12_isOwn_71 : decode cX12_isOwn 71 = .ok (.ifCond .eq 11, 3) := by decide +kernel
theorem dX12_isOwn_74 : decode cX12_isOwn 74 = .ok (.lload_n 1, 1) := by decide +kernel
theorem dX12_isOwn_75 : decode cX12_isOwn 75 = .ok (.ldc2_w 293, 3) := by decide +kernel
theorem dX12_isOwn_78 : decode cX12_isOwn 78 = .ok (.lcmp, 1) := by decide +kernel
theorem dX12_isOwn_79 : decode cX12_isOwn 79 = .ok (.ifCond .ne 5, 3) := by decide +kernel
theorem dX12_isOwn_82 : decode cX12_isOwn 82 = .ok (.iconst 1, 1) := by decide +kernel
theorem dX12_isOwn_83 : decode cX12_isOwn 83 = .ok (.ireturn, 1) := by decide +kernel
theorem dX12_isOwn_84 : decode cX12_isOwn 84 = .ok (.lload_n 1, 1) := by decide +kernel
theorem dX12_isOwn_85 : decode cX12_isOwn 85 = .ok (.ldc2_w 295, 3) := by decide +kernel
theorem dX12_isOwn_88 : decode cX12_isOwn 88 = .ok (.lcmp, 1) := by decide +kernel
theorem dX12_isOwn_89 : decode cX12_isOwn 89 = .ok (.ifCond .eq 35, 3) := by decide +kernel
theorem dX12_isOwn_92 : decode cX12_isOwn 92 = .ok (.lload_n 1, 1) := by decide +kernel
theorem dX12_isOwn_93 : decode cX12_isOwn 93 = .ok (.ldc2_w 297, 3) := by decide +kernel
theorem dX12_isOwn_96 : decode cX12_isOwn 96 = .ok (.lcmp, 1) := by decide +kernel
theorem dX12_isOwn_97 : decode cX12_isOwn 97 = .ok (.ifCond .eq 27, 3) := by decide +kernel
theorem dX12_isOwn_100 : decode cX12_isOwn 100 = .ok (.lload_n 1, 1) := by decide +kernel
theorem dX12_isOwn_101 : decode cX12_isOwn 101 = .ok (.ldc2_w 299, 3) := by decide +kernel
theorem dX12_isOwn_104 : decode cX12_isOwn 104 = .ok (.lcmp, 1) := by decide +kernel
theorem dX12_isOwn_105 : decode cX12_isOwn 105 = .ok (.ifCond .eq 19, 3) := by decide +kernel
theorem dX12_isOwn_108 : decode cX12_isOwn 108 = .ok (.lload_n 1, 1) := by decide +kernel
theorem dX12_isOwn_109 : decode cX12_isOwn 109 = .ok (.ldc2_w 301, 3) := by decide +kernel
theorem dX12_isOwn_112 : decode cX12_isOwn 112 = .ok (.lcmp, 1) := by decide +kernel
theorem dX12_isOwn_113 : decode cX12_isOwn 113 = .ok (.ifCond .eq 11, 3) := by decide +kernel
theorem dX12_isOwn_116 : decode cX12_isOwn 116 = .ok (.lload_n 1, 1) := by decide +kernel
theorem dX12_isOwn_117 : decode cX12_isOwn 117 = .ok (.ldc2_w 303, 3) := by decide +kernel
theorem dX12_isOwn_120 : decode cX12_isOwn 120 = .ok (.lcmp, 1) := by decide +kernel
theorem dX12_isOwn_121 : decode cX12_isOwn 121 = .ok (.ifCond .ne 5, 3) := by decide +kernel
theorem dX12_isOwn_124 : decode cX12_isOwn 124 = .ok (.iconst 1, 1) := by decide +kernel
theorem dX12_isOwn_125 : decode cX12_isOwn 125 = .ok (.ireturn, 1) := by decide +kernel
theorem dX12_isOwn_126 : decode cX12_isOwn 126 = .ok (.lload_n 1, 1) := by decide +kernel
theorem dX12_isOwn_127 : decode cX12_isOwn 127 = .ok (.ldc2_w 305, 3) := by decide +kernel
theorem dX12_isOwn_130 : decode cX12_isOwn 130 = .ok (.lcmp, 1) := by decide +kernel
theorem dX12_isOwn_131 : decode cX12_isOwn 131 = .ok (.ifCond .eq 35, 3) := by decide +kernel
theorem dX12_isOwn_134 : decode cX12_isOwn 134 = .ok (.lload_n 1, 1) := by decide +kernel
theorem dX12_isOwn_135 : decode cX12_isOwn 135 = .ok (.ldc2_w 307, 3) := by decide +kernel
theorem dX12_isOwn_138 : decode cX12_isOwn 138 = .ok (.lcmp, 1) := by decide +kernel
theorem dX12_isOwn_139 : decode cX12_isOwn 139 = .ok (.ifCond .eq 27, 3) := by decide +kernel
theorem dX12_isOwn_142 : decode cX12_isOwn 142 = .ok (.lload_n 1, 1) := by decide +kernel
theorem dX12_isOwn_143 : decode cX12_isOwn 143 = .ok (.ldc2_w 309, 3) := by decide +kernel
theorem dX12_isOwn_146 : decode cX12_isOwn 146 = .ok (.lcmp, 1) := by decide +kernel
theorem dX12_isOwn_147 : decode cX12_isOwn 147 = .ok (.ifCond .eq 19, 3) := by decide +kernel
theorem dX12_isOwn_150 : decode cX12_isOwn 150 = .ok (.lload_n 1, 1) := by decide +kernel
theorem dX12_isOwn_151 : decode cX12_isOwn 151 = .ok (.ldc2_w 311, 3) := by decide +kernel
theorem dX12_isOwn_154 : decode cX12_isOwn 154 = .ok (.lcmp, 1) := by decide +kernel
theorem dX12_isOwn_155 : decode cX12_isOwn 155 = .ok (.ifCond .eq 11, 3) := by decide +kernel
theorem dX12_isOwn_158 : decode cX12_isOwn 158 = .ok (.lload_n 1, 1) := by decide +kernel
theorem dX12_isOwn_159 : decode cX12_isOwn 159 = .ok (.ldc2_w 313, 3) := by decide +kernel
theorem dX12_isOwn_162 : decode cX12_isOwn 162 = .ok (.lcmp, 1) := by decide +kernel
theorem dX12_isOwn_163 : decode cX12_isOwn 163 = .ok (.ifCond .ne 5, 3) := by decide +kernel
theorem dX12_isOwn_166 : decode cX12_isOwn 166 = .ok (.iconst 1, 1) := by decide +kernel
theorem dX12_isOwn_167 : decode cX12_isOwn 167 = .ok (.ireturn, 1) := by decide +kernel
theorem dX12_isOwn_168 : decode cX12_isOwn 168 = .ok (.lload_n 1, 1) := by decide +kernel
theorem dX12_isOwn_169 : decode cX12_isOwn 169 = .ok (.ldc2_w 315, 3) := by decide +kernel
theorem dX12_isOwn_172 : decode cX12_isOwn 172 = .ok (.lcmp, 1) := by decide +kernel
theorem dX12_isOwn_173 : decode cX12_isOwn 173 = .ok (.ifCond .eq 35, 3) := by decide +kernel
theorem dX12_isOwn_176 : decode cX12_isOwn 176 = .ok (.lload_n 1, 1) := by decide +kernel
theorem dX12_isOwn_177 : decode cX12_isOwn 177 = .ok (.ldc2_w 317, 3) := by decide +kernel
theorem dX12_isOwn_180 : decode cX12_isOwn 180 = .ok (.lcmp, 1) := by decide +kernel
theorem dX12_isOwn_181 : decode cX12_isOwn 181 = .ok (.ifCond .eq 27, 3) := by decide +kernel
theorem dX12_isOwn_184 : decode cX12_isOwn 184 = .ok (.lload_n 1, 1) := by decide +kernel
theorem dX12_isOwn_185 : decode cX12_isOwn 185 = .ok (.ldc2_w 319, 3) := by decide +kernel
theorem dX12_isOwn_188 : decode cX12_isOwn 188 = .ok (.lcmp, 1) := by decide +kernel
theorem dX12_isOwn_189 : decode cX12_isOwn 189 = .ok (.ifCond .eq 19, 3) := by decide +kernel
theorem dX12_isOwn_192 : decode cX12_isOwn 192 = .ok (.lload_n 1, 1) := by decide +kernel
theorem dX12_isOwn_193 : decode cX12_isOwn 193 = .ok (.ldc2_w 321, 3) := by decide +kernel
theorem dX12_isOwn_196 : decode cX12_isOwn 196 = .ok (.lcmp, 1) := by decide +kernel
theorem dX12_isOwn_197 : decode cX12_isOwn 197 = .ok (.ifCond .eq 11, 3) := by decide +kernel
theorem dX12_isOwn_200 : decode cX12_isOwn 200 = .ok (.lload_n 1, 1) := by decide +kernel
theorem dX12_isOwn_201 : decode cX12_isOwn 201 = .ok (.ldc2_w 323, 3) := by decide +kernel
theorem dX12_isOwn_204 : decode cX12_isOwn 204 = .ok (.lcmp, 1) := by decide +kernel
theorem dX12_isOwn_205 : decode cX12_isOwn 205 = .ok (.ifCond .ne 5, 3) := by decide +kernel
theorem dX12_isOwn_208 : decode cX12_isOwn 208 = .ok (.iconst 1, 1) := by decide +kernel
theorem dX12_isOwn_209 : decode cX12_isOwn 209 = .ok (.ireturn, 1) := by decide +kernel
theorem dX12_isOwn_210 : decode cX12_isOwn 210 = .ok (.lload_n 1, 1) := by decide +kernel
theorem dX12_isOwn_211 : decode cX12_isOwn 211 = .ok (.ldc2_w 325, 3) := by decide +kernel
theorem dX12_isOwn_214 : decode cX12_isOwn 214 = .ok (.lcmp, 1) := by decide +kernel
theorem dX12_isOwn_215 : decode cX12_isOwn 215 = .ok (.ifCond .eq 11, 3) := by decide +kernel
theorem dX12_isOwn_218 : decode cX12_isOwn 218 = .ok (.lload_n 1, 1) := by decide +kernel
theorem dX12_isOwn_219 : decode cX12_isOwn 219 = .ok (.ldc2_w 327, 3) := by decide +kernel
theorem dX12_isOwn_222 : decode cX12_isOwn 222 = .ok (.lcmp, 1) := by decide +kernel
theorem dX12_isOwn_223 : decode cX12_isOwn 223 = .ok (.ifCond .ne 5, 3) := by decide +kernel
theorem dX12_isOwn_226 : decode cX12_isOwn 226 = .ok (.iconst 1, 1) := by decide +kernel
theorem dX12_isOwn_227 : decode cX12_isOwn 227 = .ok (.ireturn, 1) := by decide +kernel
theorem dX12_isOwn_228 : decode cX12_isOwn 228 = .ok (.iconst 0, 1) := by decide +kernel
theorem dX12_isOwn_229 : decode cX12_isOwn 229 = .ok (.ireturn, 1) := by decide +kernel
theorem dX12_minerNamed_0 : decode cX12_minerNamed 0 = .ok (.iconst 0, 1) := by decide +kernel
theorem dX12_minerNamed_1 : decode cX12_minerNamed 1 = .ok (.istore_n 3, 1) := by decide +kernel
theorem dX12_minerNamed_2 : decode cX12_minerNamed 2 = .ok (.iload_n 3, 1) := by decide +kernel
theorem dX12_minerNamed_3 : decode cX12_minerNamed 3 = .ok (.aload_n 0, 1) := by decide +kernel
theorem dX12_minerNamed_4 : decode cX12_minerNamed 4 = .ok (.getfield 72, 3) := by decide +kernel
theorem dX12_minerNamed_7 : decode cX12_minerNamed 7 = .ok (.aload_n 0, 1) := by decide +kernel
theorem dX12_minerNamed_8 : decode cX12_minerNamed 8 = .ok (.getfield 118, 3) := by decide +kernel
theorem dX12_minerNamed_11 : decode cX12_minerNamed 11 = .ok (.iaload, 1) := by decide +kernel
theorem dX12_minerNamed_12 : decode cX12_minerNamed 12 = .ok (.if_icmp .ge 30, 3) := by decide +kernel
theorem dX12_minerNamed_15 : decode cX12_minerNamed 15 = .ok (.aload_n 0, 1) := by decide +kernel
theorem dX12_minerNamed_16 : decode cX12_minerNamed 16 = .ok (.getfield 108, 3) := by decide +kernel
theorem dX12_minerNamed_19 : decode cX12_minerNamed 19 = .ok (.bipush 6, 2) := by decide +kernel
theorem dX12_minerNamed_21 : decode cX12_minerNamed 21 = .ok (.aload_n 0, 1) := by decide +kernel
theorem dX12_minerNamed_22 : decode cX12_minerNamed 22 = .ok (.getfield 118, 3) := by decide +kernel
theorem dX12_minerNamed_25 : decode cX12_minerNamed 25 = .ok (.imul, 1) := by decide +kernel
theorem dX12_minerNamed_26 : decode cX12_minerNamed 26 = .ok (.iload_n 3, 1) := by decide +kernel
theorem dX12_minerNamed_27 : decode cX12_minerNamed 27 = .ok (.iadd, 1) := by decide +kernel
theorem dX12_minerNamed_28 : decode cX12_minerNamed 28 = .ok (.laload, 1) := by decide +kernel
theorem dX12_minerNamed_29 : decode cX12_minerNamed 29 = .ok (.lload_n 1, 1) := by decide +kernel
theorem dX12_minerNamed_30 : decode cX12_minerNamed 30 = .ok (.lcmp, 1) := by decide +kernel
theorem dX12_minerNamed_31 : decode cX12_minerNamed 31 = .ok (.ifCond .ne 5, 3) := by decide +kernel
theorem dX12_minerNamed_34 : decode cX12_minerNamed 34 = .ok (.iload_n 3, 1) := by decide +kernel
theorem dX12_minerNamed_35 : decode cX12_minerNamed 35 = .ok (.ireturn, 1) := by decide +kernel
theorem dX12_minerNamed_36 : decode cX12_minerNamed 36 = .ok (.iinc 3 1, 3) := by decide +kernel
theorem dX12_minerNamed_39 : decode cX12_minerNamed 39 = .ok (.goto (-37), 3) := by decide +kernel
theorem dX12_minerNamed_42 : decode cX12_minerNamed 42 = .ok (.iconst (-1), 1) := by decide +kernel
theorem dX12_minerNamed_43 : decode cX12_minerNamed 43 = .ok (.ireturn, 1) := by decide +kernel
theorem dX12_isNamed_0 : decode cX12_isNamed 0 = .ok (.iconst 0, 1) := by decide +kernel
theorem dX12_isNamed_1 : decode cX12_isNamed 1 = .ok (.istore_n 3, 1) := by decide +kernel
theorem dX12_isNamed_2 : decode cX12_isNamed 2 = .ok (.iload_n 3, 1) := by decide +kernel
theorem dX12_isNamed_3 : decode cX12_isNamed 3 = .ok (.aload_n 0, 1) := by decide +kernel
theorem dX12_isNamed_4 : decode cX12_isNamed 4 = .ok (.getfield 84, 3) := by decide +kernel
theorem dX12_isNamed_7 : decode cX12_isNamed 7 = .ok (.aload_n 0, 1) := by decide +kernel
theorem dX12_isNamed_8 : decode cX12_isNamed 8 = .ok (.getfield 118, 3) := by decide +kernel
theorem dX12_isNamed_11 : decode cX12_isNamed 11 = .ok (.iaload, 1) := by decide +kernel
theorem dX12_isNamed_12 : decode cX12_isNamed 12 = .ok (.if_icmp .ge 29, 3) := by decide +kernel
theorem dX12_isNamed_15 : decode cX12_isNamed 15 = .ok (.aload_n 0, 1) := by decide +kernel
theorem dX12_isNamed_16 : decode cX12_isNamed 16 = .ok (.getfield 112, 3) := by decide +kernel
theorem dX12_isNamed_19 : decode cX12_isNamed 19 = .ok (.iconst 5, 1) := by decide +kernel
theorem dX12_isNamed_20 : decode cX12_isNamed 20 = .ok (.aload_n 0, 1) := by decide +kernel
theorem dX12_isNamed_21 : decode cX12_isNamed 21 = .ok (.getfield 118, 3) := by decide +kernel
theorem dX12_isNamed_24 : decode cX12_isNamed 24 = .ok (.imul, 1) := by decide +kernel
theorem dX12_isNamed_25 : decode cX12_isNamed 25 = .ok (.iload_n 3, 1) := by decide +kernel
theorem dX12_isNamed_26 : decode cX12_isNamed 26 = .ok (.iadd, 1) := by decide +kernel
theorem dX12_isNamed_27 : decode cX12_isNamed 27 = .ok (.laload, 1) := by decide +kernel
theorem dX12_isNamed_28 : decode cX12_isNamed 28 = .ok (.lload_n 1, 1) := by decide +kernel
theorem dX12_isNamed_29 : decode cX12_isNamed 29 = .ok (.lcmp, 1) := by decide +kernel
theorem dX12_isNamed_30 : decode cX12_isNamed 30 = .ok (.ifCond .ne 5, 3) := by decide +kernel
theorem dX12_isNamed_33 : decode cX12_isNamed 33 = .ok (.iconst 1, 1) := by decide +kernel
theorem dX12_isNamed_34 : decode cX12_isNamed 34 = .ok (.ireturn, 1) := by decide +kernel
theorem dX12_isNamed_35 : decode cX12_isNamed 35 = .ok (.iinc 3 1, 3) := by decide +kernel
theorem dX12_isNamed_38 : decode cX12_isNamed 38 = .ok (.goto (-36), 3) := by decide +kernel
theorem dX12_isNamed_41 : decode cX12_isNamed 41 = .ok (.aload_n 0, 1) := by decide +kernel
theorem dX12_isNamed_42 : decode cX12_isNamed 42 = .ok (.lload_n 1, 1) := by decide +kernel
theorem dX12_isNamed_43 : decode cX12_isNamed 43 = .ok (.invokevirtual 329, 3) := by decide +kernel
theorem dX12_isNamed_46 : decode cX12_isNamed 46 = .ok (.iconst (-1), 1) := by decide +kernel
theorem dX12_isNamed_47 : decode cX12_isNamed 47 = .ok (.if_icmp .eq 7, 3) := by decide +kernel
theorem dX12_isNamed_50 : decode cX12_isNamed 50 = .ok (.iconst 1, 1) := by decide +kernel
theorem dX12_isNamed_51 : decode cX12_isNamed 51 = .ok (.goto 4, 3) := by decide +kernel
theorem dX12_isNamed_54 : decode cX12_isNamed 54 = .ok (.iconst 0, 1) := by decide +kernel
theorem dX12_isNamed_55 : decode cX12_isNamed 55 = .ok (.ireturn, 1) := by decide +kernel
theorem dX12_number_0 : decode cX12_number 0 = .ok (.aload_n 0, 1) := by decide +kernel
theorem dX12_number_1 : decode cX12_number 1 = .ok (.invokevirtual 266, 3) := by decide +kernel
theorem dX12_number_4 : decode cX12_number 4 = .ok (.aload_n 0, 1) := by decide +kernel
theorem dX12_number_5 : decode cX12_number 5 = .ok (.getfield 36, 3) := by decide +kernel
theorem dX12_number_8 : decode cX12_number 8 = .ok (.ifCond .le 5, 3) := by decide +kernel
theorem dX12_number_11 : decode cX12_number 11 = .ok (.iconst 0, 1) := by decide +kernel
theorem dX12_number_12 : decode cX12_number 12 = .ok (.ireturn, 1) := by decide +kernel
theorem dX12_number_13 : decode cX12_number 13 = .ok (.aload_n 0, 1) := by decide +kernel
theorem dX12_number_14 : decode cX12_number 14 = .ok (.getfield 20, 3) := by decide +kernel
theorem dX12_number_17 : decode cX12_number 17 = .ok (.iconst 2, 1) := by decide +kernel
theorem dX12_number_18 : decode cX12_number 18 = .ok (.if_icmp .eq 12, 3) := by decide +kernel
theorem dX12_number_21 : decode cX12_number 21 = .ok (.aload_n 0, 1) := by decide +kernel
theorem dX12_number_22 : decode cX12_number 22 = .ok (.iconst 1, 1) := by decide +kernel
theorem dX12_number_23 : decode cX12_number 23 = .ok (.aload_n 0, 1) := by decide +kernel
theorem dX12_number_24 : decode cX12_number 24 = .ok (.getfield 23, 3) := by decide +kernel
theorem dX12_number_27 : decode cX12_number 27 = .ok (.invokevirtual 255, 3) := by decide +kernel
theorem dX12_number_30 : decode cX12_number 30 = .ok (.aload_n 0, 1) := by decide +kernel
theorem dX12_number_31 : decode cX12_number 31 = .ok (.getfield 36, 3) := by decide +kernel
theorem dX12_number_34 : decode cX12_number 34 = .ok (.ifCond .ne 24, 3) := by decide +kernel
theorem dX12_number_37 : decode cX12_number 37 = .ok (.aload_n 0, 1) := by decide +kernel
theorem dX12_number_38 : decode cX12_number 38 = .ok (.getfield 29, 3) := by decide +kernel
theorem dX12_number_41 : decode cX12_number 41 = .ok (.iload_n 1, 1) := by decide +kernel
theorem dX12_number_42 : decode cX12_number 42 = .ok (.iload_n 2, 1) := by decide +kernel
theorem dX12_number_43 : decode cX12_number 43 = .ok (.invokestatic 333, 3) := by decide +kernel
theorem dX12_number_46 : decode cX12_number 46 = .ok (.ifCond .ne 12, 3) := by decide +kernel
theorem dX12_number_49 : decode cX12_number 49 = .ok (.aload_n 0, 1) := by decide +kernel
theorem dX12_number_50 : decode cX12_number 50 = .ok (.iconst 4, 1) := by decide +kernel
theorem dX12_number_51 : decode cX12_number 51 = .ok (.aload_n 0, 1) := by decide +kernel
theorem dX12_number_52 : decode cX12_number 52 = .ok (.getfield 23, 3) := by decide +kernel
theorem dX12_number_55 : decode cX12_number 55 = .ok (.invokevirtual 255, 3) := by decide +kernel
theorem dX12_number_58 : decode cX12_number 58 = .ok (.aload_n 0, 1) := by decide +kernel
theorem dX12_number_59 : decode cX12_number 59 = .ok (.getfield 29, 3) := by decide +kernel
theorem dX12_number_62 : decode cX12_number 62 = .ok (.istore_n 3, 1) := by decide +kernel
theorem dX12_number_63 : decode cX12_number 63 = .ok (.aload_n 0, 1) := by decide +kernel
theorem dX12_number_64 : decode cX12_number 64 = .ok (.getfield 36, 3) := by decide +kernel
theorem dX12_number_67 : decode cX12_number 67 = .ok (.ifCond .ne 7, 3) := by decide +kernel
theorem dX12_number_70 : decode cX12_number 70 = .ok (.aload_n 0, 1) := by decide +kernel
theorem dX12_number_71 : decode cX12_number 71 = .ok (.invokevirtual 272, 3) := by decide +kernel
theorem dX12_number_74 : decode cX12_number 74 = .ok (.iload_n 3, 1) := by decide +kernel
theorem dX12_number_75 : decode cX12_number 75 = .ok (.ireturn, 1) := by decide +kernel
theorem dX12_must__0 : decode cX12_must_ 0 = .ok (.aload_n 0, 1) := by decide +kernel
theorem dX12_must__1 : decode cX12_must_ 1 = .ok (.invokevirtual 266, 3) := by decide +kernel
theorem dX12_must__4 : decode cX12_must_ 4 = .ok (.aload_n 0, 1) := by decide +kernel
theorem dX12_must__5 : decode cX12_must_ 5 = .ok (.getfield 36, 3) := by decide +kernel
theorem dX12_must__8 : decode cX12_must_ 8 = .ok (.ifCond .le 4, 3) := by decide +kernel
theorem dX12_must__11 : decode cX12_must_ 11 = .ok (.return_, 1) := by decide +kernel
theorem dX12_must__12 : decode cX12_must_ 12 = .ok (.aload_n 0, 1) := by decide +kernel
theorem dX12_must__13 : decode cX12_must_ 13 = .ok (.lload_n 1, 1) := by decide +kernel
theorem dX12_must__14 : decode cX12_must_ 14 = .ok (.invokevirtual 349, 3) := by decide +kernel
theorem dX12_must__17 : decode cX12_must_ 17 = .ok (.ifCond .ne 12, 3) := by decide +kernel
theorem dX12_must__20 : decode cX12_must_ 20 = .ok (.aload_n 0, 1) := by decide +kernel
theorem dX12_must__21 : decode cX12_must_ 21 = .ok (.iconst 1, 1) := by decide +kernel
theorem dX12_must__22 : decode cX12_must_ 22 = .ok (.aload_n 0, 1) := by decide +kernel
theorem dX12_must__23 : decode cX12_must_ 23 = .ok (.getfield 23, 3) := by decide +kernel
theorem dX12_must__26 : decode cX12_must_ 26 = .ok (.invokevirtual 255, 3) := by decide +kernel
theorem dX12_must__29 : decode cX12_must_ 29 = .ok (.aload_n 0, 1) := by decide +kernel
theorem dX12_must__30 : decode cX12_must_ 30 = .ok (.getfield 36, 3) := by decide +kernel
theorem dX12_must__33 : decode cX12_must_ 33 = .ok (.ifCond .ne 7, 3) := by decide +kernel
theorem dX12_must__36 : decode cX12_must_ 36 = .ok (.aload_n 0, 1) := by decide +kernel
theorem dX12_must__37 : decode cX12_must_ 37 = .ok (.invokevirtual 272, 3) := by decide +kernel
theorem dX12_must__40 : decode cX12_must_ 40 = .ok (.return_, 1) := by decide +kernel
theorem wB_1133 : Cond.fieldLink RX12 36 "DarkMineModel" "faultKind" "I" ∈ dgB := List.mem_filter.mpr ⟨tbl_6 _ (List.mem_of_getElem? (i := 171) (by decide +kernel)), by decide +kernel⟩
theorem wB_1134 : Cond.fieldLink RX12 39 "DarkMineModel" "faultPlace" "I" ∈ dgB := List.mem_filter.mpr ⟨tbl_6 _ (List.mem_of_getElem? (i := 172) (by decide +kernel)), by decide +kernel⟩
theorem wB_1135 : Cond.fieldLink RX12 48 "DarkMineModel" "lexAt" "I" ∈ dgB := List.mem_filter.mpr ⟨tbl_6 _ (List.mem_of_getElem? (i := 175) (by decide +kernel)), by decide +kernel⟩
theorem wB_1136 : Cond.code yX12_blame cX12_blame 3 none ∈ dgB := List.mem_filter.mpr ⟨tbl_7 _ (List.mem_of_getElem? (i := 203) rfl), rfl⟩
theorem wB_1137 : Cond.methodLink RX12 255 yX12_blame ∈ dgB := List.mem_filter.mpr ⟨tbl_7 _ (List.mem_of_getElem? (i := 200) (by decide +kernel)), by decide +kernel⟩
theorem wB_1138 : Cond.instanceMethod yX12_blame ∈ dgB := List.mem_filter.mpr ⟨tbl_7 _ (List.mem_of_getElem? (i := 202) (by decide +kernel)), by decide +kernel⟩
theorem wB_1139 : Cond.selects RX12 yX12_blame yX12_blame ∈ dgB := List.mem_filter.mpr ⟨List.mem_of_getElem? (i := 87) (by decide +kernel), by decide +kernel⟩
theorem wB_1140 : Cond.fieldLink RX12 20 "DarkMineModel" "sign" "I" ∈ dgB := List.mem_filter.mpr ⟨tbl_6 _ (List.mem_of_getElem? (i := 166) (by decide +kernel)), by decide +kernel⟩
theorem wB_1141 : Cond.fieldLink RX12 29 "DarkMineModel" "value" "I" ∈ dgB := List.mem_filter.mpr ⟨tbl_6 _ (List.mem_of_getElem? (i := 169) (by decide +kernel)), by decide +kernel⟩
theorem wB_1142 : Cond.fieldLink RX12 32 "DarkMineModel" "word" "J" ∈ dgB := List.mem_filter.mpr ⟨tbl_6 _ (List.mem_of_getElem? (i := 170) (by decide +kernel)), by decide +kernel⟩
theorem wB_1143 : Cond.fieldLink RX12 26 "DarkMineModel" "signEnd" "I" ∈ dgB := List.mem_filter.mpr ⟨tbl_6 _ (List.mem_of_getElem? (i := 168) (by decide +kernel)), by decide +kernel⟩
theorem wB_1144 : Cond.fieldLink RX12 17 "DarkMineModel" "size" "I" ∈ dgB := List.mem_filter.mpr ⟨tbl_6 _ (List.mem_of_getElem? (i := 165) (by decide +kernel)), by decide +kernel⟩
theorem wB_1145 : Cond.fieldLink RX12 23 "DarkMineModel" "signAt" "I" ∈ dgB := List.mem_filter.mpr ⟨tbl_6 _ (List.mem_of_getElem? (i := 167) (by decide +kernel)), by decide +kernel⟩
theorem wB_1146 : Cond.code yX12_isLetter cX12_isLetter 1 (some .boolean) ∈ dgB := List.mem_filter.mpr ⟨tbl_7 _ (List.mem_of_getElem? (i := 183) rfl), rfl⟩
theorem wB_1147 : Cond.methodLink RX12 259 yX12_isLetter ∈ dgB := List.mem_filter.mpr ⟨tbl_7 _ (List.mem_of_getElem? (i := 181) (by decide +kernel)), by decide +kernel⟩
theorem wB_1148 : Cond.static yX12_isLetter ∈ dgB := List.mem_filter.mpr ⟨tbl_7 _ (List.mem_of_getElem? (i := 182) (by decide +kernel)), by decide +kernel⟩
theorem wB_1149 : Cond.code yX12_isDigit cX12_isDigit 1 (some .boolean) ∈ dgB := List.mem_filter.mpr ⟨tbl_7 _ (List.mem_of_getElem? (i := 186) rfl), rfl⟩
theorem wB_1150 : Cond.methodLink RX12 263 yX12_isDigit ∈ dgB := List.mem_filter.mpr ⟨tbl_7 _ (List.mem_of_getElem? (i := 184) (by decide +kernel)), by decide +kernel⟩
theorem wB_1151 : Cond.static yX12_isDigit ∈ dgB := List.mem_filter.mpr ⟨tbl_7 _ (List.mem_of_getElem? (i := 185) (by decide +kernel)), by decide +kernel⟩
theorem wB_1152 : Cond.code yX12_lex cX12_lex 1 none ∈ dgB := List.mem_filter.mpr ⟨tbl_7 _ (List.mem_of_getElem? (i := 199) rfl), rfl⟩
theorem wB_1153 : Cond.methodLink RX12 266 yX12_lex ∈ dgB := List.mem_filter.mpr ⟨tbl_7 _ (List.mem_of_getElem? (i := 196) (by decide +kernel)), by decide +kernel⟩
theorem wB_1154 : Cond.instanceMethod yX12_lex ∈ dgB := List.mem_filter.mpr ⟨tbl_7 _ (List.mem_of_getElem? (i := 198) (by decide +kernel)), by decide +kernel⟩
theorem wB_1155 : Cond.selects RX12 yX12_lex yX12_lex ∈ dgB := List.mem_filter.mpr ⟨List.mem_of_getElem? (i := 86) (by decide +kernel), by decide +kernel⟩
theorem wB_1156 : Cond.code yX12_isSign cX12_isSign 2 (some .boolean) ∈ dgB := List.mem_filter.mpr ⟨tbl_7 _ (List.mem_of_getElem? (i := 223) rfl), rfl⟩
theorem wB_1157 : Cond.methodLink RX12 269 yX12_isSign ∈ dgB := List.mem_filter.mpr ⟨tbl_7 _ (List.mem_of_getElem? (i := 220) (by decide +kernel)), by decide +kernel⟩
theorem wB_1158 : Cond.instanceMethod yX12_isSign ∈ dgB := List.mem_filter.mpr ⟨tbl_7 _ (List.mem_of_getElem? (i := 222) (by decide +kernel)), by decide +kernel⟩
theorem wB_1159 : Cond.selects RX12 yX12_isSign yX12_isSign ∈ dgB := List.mem_filter.mpr ⟨List.mem_of_getElem? (i := 91) (by decide +kernel), by decide +kernel⟩
theorem wB_1160 : Cond.code yX12_ahead cX12_ahead 6 none ∈ dgB := List.mem_filter.mpr ⟨tbl_7 _ (List.mem_of_getElem? (i := 180) rfl), rfl⟩
theorem wB_1161 : Cond.methodLink RX12 272 yX12_ahead ∈ dgB := List.mem_filter.mpr ⟨tbl_7 _ (List.mem_of_getElem? (i := 177) (by decide +kernel)), by decide +kernel⟩
theorem wB_1162 : Cond.instanceMethod yX12_ahead ∈ dgB := List.mem_filter.mpr ⟨tbl_7 _ (List.mem_of_getElem? (i := 179) (by decide +kernel)), by decide +kernel⟩
theorem wB_1163 : Cond.selects RX12 yX12_ahead yX12_ahead ∈ dgB := List.mem_filter.mpr ⟨List.mem_of_getElem? (i := 83) (by decide +kernel), by decide +kernel⟩
theorem wB_1164 : Cond.code yX12_isWord cX12_isWord 3 (some .boolean) ∈ dgB := List.mem_filter.mpr ⟨tbl_7 _ (List.mem_of_getElem? (i := 207) rfl), rfl⟩
theorem wB_1165 : Cond.methodLink RX12 349 yX12_isWord ∈ dgB := List.mem_filter.mpr ⟨tbl_7 _ (List.mem_of_getElem? (i := 204) (by decide +kernel)), by decide +kernel⟩
theorem wB_1166 : Cond.instanceMethod yX12_isWord ∈ dgB := List.mem_filter.mpr ⟨tbl_7 _ (List.mem_of_getElem? (i := 206) (by decide +kernel)), by decide +kernel⟩
theorem wB_1167 : Cond.selects RX12 yX12_isWord yX12_isWord ∈ dgB := List.mem_filter.mpr ⟨List.mem_of_getElem? (i := 88) (by decide +kernel), by decide +kernel⟩
theorem wB_1168 : Cond.constantLong RX12 275 (1936023917) ∈ dgB := List.mem_filter.mpr ⟨tbl_7 _ (List.mem_of_getElem? (i := 191) (by decide +kernel)), by decide +kernel⟩
theorem wB_1169 : Cond.constantLong RX12 277 (25209) ∈ dgB := List.mem_filter.mpr ⟨tbl_7 _ (List.mem_of_getElem? (i := 215) (by decide +kernel)), by decide +kernel⟩
theorem wB_1170 : Cond.constantLong RX12 279 (495672452724) ∈ dgB := List.mem_filter.mpr ⟨tbl_7 _ (List.mem_of_getElem? (i := 232) (by decide +kernel)), by decide +kernel⟩
theorem wB_1171 : Cond.constantLong RX12 281 (491327153000) ∈ dgB := List.mem_filter.mpr ⟨tbl_8 _ (List.mem_of_getElem? (i := 1) (by decide +kernel)), by decide +kernel⟩
theorem wB_1172 : Cond.constantLong RX12 283 (487300623205) ∈ dgB := List.mem_filter.mpr ⟨tbl_8 _ (List.mem_of_getElem? (i := 2) (by decide +kernel)), by decide +kernel⟩
theorem wB_1173 : Cond.constantLong RX12 285 (444300616805) ∈ dgB := List.mem_filter.mpr ⟨tbl_8 _ (List.mem_of_getElem? (i := 3) (by decide +kernel)), by decide +kernel⟩
theorem wB_1174 : Cond.constantLong RX12 287 (469920277874) ∈ dgB := List.mem_filter.mpr ⟨tbl_8 _ (List.mem_of_getElem? (i := 12) (by decide +kernel)), by decide +kernel⟩
theorem wB_1175 : Cond.constantLong RX12 289 (6580583) ∈ dgB := List.mem_filter.mpr ⟨tbl_8 _ (List.mem_of_getElem? (i := 25) (by decide +kernel)), by decide +kernel⟩
theorem wB_1176 : Cond.constantLong RX12 291 (24948) ∈ dgB := List.mem_filter.mpr ⟨tbl_8 _ (List.mem_of_getElem? (i := 26) (by decide +kernel)), by decide +kernel⟩
theorem wB_1177 : Cond.constantLong RX12 293 (478660552050) ∈ dgB := List.mem_filter.mpr ⟨tbl_8 _ (List.mem_of_getElem? (i := 27) (by decide +kernel)), by decide +kernel⟩
theorem wB_1178 : Cond.constantLong RX12 295 (1953849971) ∈ dgB := List.mem_filter.mpr ⟨tbl_8 _ (List.mem_of_getElem? (i := 28) (by decide +kernel)), by decide +kernel⟩
theorem wB_1179 : Cond.constantLong RX12 297 (1885436275) ∈ dgB := List.mem_filter.mpr ⟨tbl_8 _ (List.mem_of_getElem? (i := 29) (by decide +kernel)), by decide +kernel⟩
theorem wB_1180 : Cond.constantLong RX12 299 (126926742711411) ∈ dgB := List.mem_filter.mpr ⟨tbl_8 _ (List.mem_of_getElem? (i := 30) (by decide +kernel)), by decide +kernel⟩
theorem wB_1181 : Cond.constantLong RX12 301 (439721159795) ∈ dgB := List.mem_filter.mpr ⟨tbl_8 _ (List.mem_of_getElem? (i := 31) (by decide +kernel)), by decide +kernel⟩
theorem wB_1182 : Cond.constantLong RX12 303 (1734702195) ∈ dgB := List.mem_filter.mpr ⟨tbl_8 _ (List.mem_of_getElem? (i := 32) (by decide +kernel)), by decide +kernel⟩
theorem wB_1183 : Cond.constantLong RX12 305 (431198598248) ∈ dgB := List.mem_filter.mpr ⟨tbl_8 _ (List.mem_of_getElem? (i := 33) (by decide +kernel)), by decide +kernel⟩
theorem wB_1184 : Cond.constantLong RX12 307 (495672977012) ∈ dgB := List.mem_filter.mpr ⟨tbl_8 _ (List.mem_of_getElem? (i := 34) (by decide +kernel)), by decide +kernel⟩
theorem wB_1185 : Cond.constantLong RX12 309 (6709618) ∈ dgB := List.mem_filter.mpr ⟨tbl_8 _ (List.mem_of_getElem? (i := 35) (by decide +kernel)), by decide +kernel⟩
theorem wB_1186 : Cond.constantLong RX12 311 (1869636974) ∈ dgB := List.mem_filter.mpr ⟨tbl_8 _ (List.mem_of_getElem? (i := 36) (by decide +kernel)), by decide +kernel⟩
theorem wB_1187 : Cond.constantLong RX12 313 (7104884) ∈ dgB := List.mem_filter.mpr ⟨tbl_8 _ (List.mem_of_getElem? (i := 37) (by decide +kernel)), by decide +kernel⟩
theorem wB_1188 : Cond.constantLong RX12 315 (26982) ∈ dgB := List.mem_filter.mpr ⟨tbl_8 _ (List.mem_of_getElem? (i := 38) (by decide +kernel)), by decide +kernel⟩
theorem wB_1189 : Cond.constantLong RX12 317 (28530) ∈ dgB := List.mem_filter.mpr ⟨tbl_8 _ (List.mem_of_getElem? (i := 39) (by decide +kernel)), by decide +kernel⟩
theorem wB_1190 : Cond.constantLong RX12 319 (6385252) ∈ dgB := List.mem_filter.mpr ⟨tbl_8 _ (List.mem_of_getElem? (i := 40) (by decide +kernel)), by decide +kernel⟩
theorem wB_1191 : Cond.constantLong RX12 321 (7237492) ∈ dgB := List.mem_filter.mpr ⟨tbl_8 _ (List.mem_of_getElem? (i := 41) (by decide +kernel)), by decide +kernel⟩
theorem wB_1192 : Cond.constantLong RX12 323 (6384748) ∈ dgB := List.mem_filter.mpr ⟨tbl_8 _ (List.mem_of_getElem? (i := 42) (by decide +kernel)), by decide +kernel⟩
theorem wB_1193 : Cond.constantLong RX12 325 (7170414) ∈ dgB := List.mem_filter.mpr ⟨tbl_8 _ (List.mem_of_getElem? (i := 43) (by decide +kernel)), by decide +kernel⟩
theorem wB_1194 : Cond.constantLong RX12 327 (7168376) ∈ dgB := List.mem_filter.mpr ⟨tbl_8 _ (List.mem_of_getElem? (i := 44) (by decide +kernel)), by decide +kernel⟩
theorem wB_1195 : Cond.fieldLink RX12 118 "DarkMineModel" "in" "I" ∈ dgB := List.mem_filter.mpr ⟨tbl_6 _ (List.mem_of_getElem? (i := 198) (by decide +kernel)), by decide +kernel⟩
theorem wB_1196 : Cond.code yX12_minerNamed cX12_minerNamed 4 (some .int) ∈ dgB := List.mem_filter.mpr ⟨tbl_8 _ (List.mem_of_getElem? (i := 52) rfl), rfl⟩
theorem wB_1197 : Cond.methodLink RX12 329 yX12_minerNamed ∈ dgB := List.mem_filter.mpr ⟨tbl_8 _ (List.mem_of_getElem? (i := 49) (by decide +kernel)), by decide +kernel⟩
theorem wB_1198 : Cond.instanceMethod yX12_minerNamed ∈ dgB := List.mem_filter.mpr ⟨tbl_8 _ (List.mem_of_getElem? (i := 51) (by decide +kernel)), by decide +kernel⟩
theorem wB_1199 : Cond.selects RX12 yX12_minerNamed yX12_minerNamed ∈ dgB := List.mem_filter.mpr ⟨List.mem_of_getElem? (i := 102) (by decide +kernel), by decide +kernel⟩
set_option maxHeartbeats 8000000 in
set_option maxRecDepth 100000 in
theorem c_m_blame (l : Launch) (g : Nat → ClassId) (D : va_G) (o : Nat) (S : dg_S) (a1 : Int32) (b_a1 : 1 ≤ (a1).toInt ∧ (a1).toInt ≤ 6) (a2 : Int32) (fk : Int32) (f_fk : S.1 0 8 = .int fk) (b_fk : 0 ≤ (fk).toInt ∧ (fk).toInt ≤ 6) (I : CM o S) (sz : Nat) : Met l yX12_blame (bw yX12_blame cX12_blame 3 none) ({ frames := 1, cells := 0, slots := 0, locals := 32 } : Room) (dk_Pc g D (dg_w g shM o rfM S) sz [.ref (o + 0), .int a1, .int a2]) (va_Qv (fun S' => CM o S' ∧ dg_sm shM [(0, 8), (0, 9)] [] S S' ∧ (∃ y9_8 : Int32, S'.1 0 8 = .int y9_8 ∧ (((fk).toInt ≠ 0 → (y9_8).toInt = (fk).toInt) ∧ ((fk).toInt = 0 → (y9_8).toInt = (a1).toInt))) ∧ True) (dg_B g D shM o rfM) (dg_A o shM.length sz)) 0 0 (dg_A o shM.length sz) := by
  refine dg_met (cc := cX12_blame) (maxL := 3) (ret := none) (by decide) rfl (Nat.le_of_ble_eq_true rfl) ?_
  intro p e s m args below meth c A hAe harg hx hb hr hml hts hown hlocks hin hP K hS hA1 hA ST hsz ls hl
  rw [← hAe]
  have F : CallFix p m c cX12_blame 3 s args (bw yX12_blame cX12_blame 3 none) RX12 := ⟨hx, hb, hml, hown, hts⟩
  have hl : lv_has ls 3 [(0, .ref (o + 0)), (1, .int a1), (2, .int a2)] := hl
  have M_0 : dg_sm shM [(0, 8), (0, 9)] [] S S := dg_sm.rf
  refine lv_aload_n hx hb dX12_blame_0 rfl (lv_at hl 0 rfl) ?_
  refine dg_get (C := RX12) (T := TX12) (N := 77) hx hb hts (fun w h => bw_mem (wU_X12 w h)) hown K hP sM_0 rfl 8 (by decide) (hts _ (bw_mem wB_1133)) (fun _ h9 => h9) (v := .int fk) f_fk dX12_blame_1 ?_
  refine lv_if_le (tgt := 8) hx hb dX12_blame_4 (by decide) (fun c_1 => ?_) (fun c_1 => ?_)
  · have jc_1 := dk_lec (k := 0) (by decide +kernel) c_1
    refine lv_aload_n hx hb dX12_blame_8 rfl (lv_at hl 0 rfl) ?_
    refine lv_iload_n hx hb dX12_blame_9 rfl (lv_at hl 1 rfl) ?_
    refine dg_put (ci := 12) (v := .int a1) (ty := tyX12 8) (C := RX12) (T := TX12) (N := 77) hx hb hts (fun w h => bw_mem (wU_X12 w h)) tyX12 tyX12_ok nmX12 hown K hP hS hA1 sM_0 rfl 8 (by decide) (hts _ (bw_mem wB_1133)) (fun _ h9 => h9) rfl (by decide +kernel) rfl rfl dX12_blame_10 (fun S_2 e_2 H locs hP hS => ?_)
    have I_2 := dg_I.uFi (lo := 0) (hi := 6) I e_2 sM_0 (by decide +kernel) (show 0 ≤ (a1).toInt ∧ (a1).toInt ≤ 6 from (by omega))
    have M_2 := dg_sm.uF M_0 e_2 sM_0 (by decide)
    refine lv_aload_n hx hb dX12_blame_13 rfl (lv_at hl 0 rfl) ?_
    refine lv_iload_n hx hb dX12_blame_14 rfl (lv_at hl 2 rfl) ?_
    refine dg_put (ci := 12) (v := .int a2) (ty := tyX12 9) (C := RX12) (T := TX12) (N := 77) hx hb hts (fun w h => bw_mem (wU_X12 w h)) tyX12 tyX12_ok nmX12 hown K hP hS hA1 sM_0 rfl 9 (by decide) (hts _ (bw_mem wB_1134)) (fun _ h9 => h9) rfl (by decide +kernel) rfl rfl dX12_blame_15 (fun S_3 e_3 H locs hP hS => ?_)
    have I_3 := dg_I.uFi (lo := (-2147483648)) (hi := 2147483647) I_2 e_3 sM_0 (by decide +kernel) (show (-2147483648) ≤ (a2).toInt ∧ (a2).toInt ≤ 2147483647 from (dk_full _))
    have M_3 := dg_sm.uF M_2 e_3 sM_0 (by decide)
    refine W.widen (k := 0) (n := 0) (Nat.le_of_ble_eq_true rfl) (Nat.le_of_ble_eq_true rfl) ?_
    exact dg_vret hx hb hr hlocks hP hS ⟨I_3, M_3, ⟨a1, ((dg_uF_ne e_3 (fun z => absurd z.2 (by decide))).trans (dg_uF_at e_2)), (by omega)⟩, trivial⟩ dX12_blame_18
  · have jc_1 := dk_nlec (k := 0) (by decide +kernel) c_1
    refine W.widen (k := 0) (n := 0) (Nat.le_of_ble_eq_true rfl) (Nat.le_of_ble_eq_true rfl) ?_
    exact dg_vret hx hb hr hlocks hP hS ⟨I, M_0, ⟨fk, f_fk, (by omega)⟩, trivial⟩ dX12_blame_7
set_option maxHeartbeats 8000000 in
set_option maxRecDepth 100000 in
theorem c_m_lex (l : Launch) (g : Nat → ClassId) (D : va_G) (o : Nat) (S : dg_S) (fk : Int32) (f_fk : S.1 0 8 = .int fk) (b_fk : 0 ≤ (fk).toInt ∧ (fk).toInt ≤ 6) (I : CM o S) (sz : Nat) : Met l yX12_lex (bw yX12_lex cX12_lex 1 none) ({ frames := 2, cells := 0, slots := 0, locals := 54 } : Room) (dk_Pc g D (dg_w g shM o rfM S) sz [.ref (o + 0)]) (va_Qv (fun S' => CM o S' ∧ dg_sm shM [(0, 8), (0, 9)] [] S S' ∧ (∃ y9_8 : Int32, S'.1 0 8 = .int y9_8 ∧ ((fk).toInt ≠ 0 → (y9_8).toInt = (fk).toInt)) ∧ True) (dg_B g D shM o rfM) (dg_A o shM.length sz)) 0 0 (dg_A o shM.length sz) := by
  refine dg_met (cc := cX12_lex) (maxL := 1) (ret := none) (by decide) rfl (Nat.le_of_ble_eq_true rfl) ?_
  intro p e s m args below meth c A hAe harg hx hb hr hml hts hown hlocks hin hP K hS hA1 hA ST hsz ls hl
  rw [← hAe]
  have F : CallFix p m c cX12_lex 1 s args (bw yX12_lex cX12_lex 1 none) RX12 := ⟨hx, hb, hml, hown, hts⟩
  have hl : lv_has ls 1 [(0, .ref (o + 0))] := hl
  have M_0 : dg_sm shM [(0, 8), (0, 9)] [] S S := dg_sm.rf
  refine lv_aload_n hx hb dX12_lex_0 rfl (lv_at hl 0 rfl) ?_
  obtain ⟨x_1, f_x_1, b_x_1⟩ := dg_I.int (i := 0) (k := 12) (lo := (-2147483648)) (hi := 2147483647) I sM_0 (by decide +kernel)
  refine dg_get (C := RX12) (T := TX12) (N := 77) hx hb hts (fun w h => bw_mem (wU_X12 w h)) hown K hP sM_0 rfl 12 (by decide) (hts _ (bw_mem wB_1135)) (fun _ h9 => h9) (v := .int x_1) f_x_1 dX12_lex_1 ?_
  refine lv_iconst (v := (-1)) hx hb dX12_lex_4 (by decide +kernel) ?_
  refine lv_icmp_eq (tgt := 17) hx hb dX12_lex_5 (by decide) (fun c_2 => ?_) (fun c_2 => ?_)
  · have jc_2 := dk_eqc (k := (-1)) (by decide +kernel) c_2
    refine W.widen (k := 0) (n := 0) (Nat.le_of_ble_eq_true rfl) (Nat.le_of_ble_eq_true rfl) ?_
    exact dg_vret hx hb hr hlocks hP hS ⟨I, M_0, ⟨fk, f_fk, (by omega)⟩, trivial⟩ dX12_lex_17
  · have jc_2 := dk_neqc (k := (-1)) (by decide +kernel) c_2
    refine lv_aload_n hx hb dX12_lex_8 rfl (lv_at hl 0 rfl) ?_
    refine lv_iconst (v := 1) hx hb dX12_lex_9 (by decide +kernel) ?_
    refine lv_aload_n hx hb dX12_lex_10 rfl (lv_at hl 0 rfl) ?_
    refine dg_get (C := RX12) (T := TX12) (N := 77) hx hb hts (fun w h => bw_mem (wU_X12 w h)) hown K hP sM_0 rfl 12 (by decide) (hts _ (bw_mem wB_1135)) (fun _ h9 => h9) (v := .int x_1) f_x_1 dX12_lex_11 ?_
    have hz_3 : (1 : Int32).toInt = 1 := by decide +kernel
    refine dg_callv hS hA1 hA (va_runV (As := [.int 1, .int x_1]) (rest := []) F (c_m_blame l g D o S 1 (by decide +kernel) x_1 fk f_fk (by omega) I s.heap.size) (cwV 2 hts (bw_V wB_1137 wB_1138 wB_1139 wB_881 wB_1136) rfl rfl rfl (by decide +kernel) ⟨Nat.le_of_ble_eq_true rfl, Nat.le_of_ble_eq_true rfl⟩) (dg_preV sM_0 rfl K ST hP hS hA1 hA) rfl rfl hl.1 rfl (lv_room (Nat.le_of_ble_eq_true rfl)) dX12_lex_14 ⟨Nat.le_of_ble_eq_true rfl, Nat.le_of_ble_eq_true rfl⟩) (fun S_4 hw_4 H locs hP hS => ?_)
    obtain ⟨I_4, m_4, w_4_0, -⟩ := hw_4
    have M_4 := dg_sm.tr M_0 m_4 (by decide) (by decide)
    have hz_5 : (1 : Int32).toInt = 1 := by decide +kernel
    obtain ⟨y_6, f_y_6, w_4_0⟩ := w_4_0
    have w_4_0 : ((fk).toInt ≠ 0 → (y_6).toInt = (fk).toInt) ∧ ((fk).toInt = 0 → (y_6).toInt = ((1 : Int32)).toInt) := w_4_0
    have b_y_6 : 0 ≤ (y_6).toInt ∧ (y_6).toInt ≤ 6 := dg_I.intb (lo := 0) (hi := 6) I_4 sM_0 (by decide +kernel) f_y_6
    have hbl_y_6 : 1 ≤ (y_6).toInt := by omega
    refine W.widen (k := 0) (n := 0) (Nat.le_of_ble_eq_true rfl) (Nat.le_of_ble_eq_true rfl) ?_
    exact dg_vret hx hb hr hlocks hP hS ⟨I_4, M_4, ⟨y_6, f_y_6, (by omega)⟩, trivial⟩ dX12_lex_17
set_option maxHeartbeats 8000000 in
set_option maxRecDepth 100000 in
theorem c_m_isLetter (l : Launch) (g : Nat → ClassId) (D : va_G) (o : Nat) (S : dg_S) (a1 : Int32) (I : CM o S) (sz : Nat) : Met l yX12_isLetter (bw yX12_isLetter cX12_isLetter 1 (some .boolean)) ({ frames := 1, cells := 0, slots := 0, locals := 32 } : Room) (dk_Pc g D (dg_w g shM o rfM S) sz [.int a1]) (va_Qi (fun (r : Int32) S' => S' = S ∧ (0 ≤ (r).toInt ∧ (r).toInt ≤ 1) ∧ ((r).toInt = 1 ↔ (97 ≤ (a1).toInt ∧ (a1).toInt ≤ 122)) ∧ True) (dg_B g D shM o rfM) (dg_A o shM.length sz)) 0 0 (dg_A o shM.length sz) := by
  refine dg_met (cc := cX12_isLetter) (maxL := 1) (ret := (some .boolean)) (by decide) rfl (Nat.le_of_ble_eq_true rfl) ?_
  intro p e s m args below meth c A hAe harg hx hb hr hml hts hown hlocks hin hP K hS hA1 hA ST hsz ls hl
  rw [← hAe]
  have F : CallFix p m c cX12_isLetter 1 s args (bw yX12_isLetter cX12_isLetter 1 (some .boolean)) RX12 := ⟨hx, hb, hml, hown, hts⟩
  have hl : lv_has ls 1 [(0, .int a1)] := hl
  have M_0 : dg_sm shM [] [] S S := dg_sm.rf
  refine lv_iload_n hx hb dX12_isLetter_0 rfl (lv_at hl 0 rfl) ?_
  refine lv_bipush (v := 97) hx hb dX12_isLetter_1 (by decide +kernel) ?_
  refine lv_icmp_lt (tgt := 16) hx hb dX12_isLetter_3 (by decide) (fun c_1 => ?_) (fun c_1 => ?_)
  · have jc_1 := dk_ltc (k := 97) (by decide +kernel) c_1
    refine lv_iconst (v := 0) hx hb dX12_isLetter_16 (by decide +kernel) ?_
    have hz_2 : (0 : Int32).toInt = 0 := by decide +kernel
    have hz_3 : (0 : Int32).toInt = 0 := by decide +kernel
    refine W.widen (k := 0) (n := 0) (Nat.le_of_ble_eq_true rfl) (Nat.le_of_ble_eq_true rfl) ?_
    exact dg_iret hx hb hr hlocks (by decide +kernel) hP hS ⟨rfl, (by decide +kernel), (by omega), trivial⟩ dX12_isLetter_17
  · have jc_1 := dk_nltc (k := 97) (by decide +kernel) c_1
    refine lv_iload_n hx hb dX12_isLetter_6 rfl (lv_at hl 0 rfl) ?_
    refine lv_bipush (v := 122) hx hb dX12_isLetter_7 (by decide +kernel) ?_
    refine lv_icmp_gt (tgt := 16) hx hb dX12_isLetter_9 (by decide) (fun c_4 => ?_) (fun c_4 => ?_)
    · have jc_4 := dk_gtc (k := 122) (by decide +kernel) c_4
      refine lv_iconst (v := 0) hx hb dX12_isLetter_16 (by decide +kernel) ?_
      have hz_5 : (0 : Int32).toInt = 0 := by decide +kernel
      have hz_6 : (0 : Int32).toInt = 0 := by decide +kernel
      refine W.widen (k := 0) (n := 0) (Nat.le_of_ble_eq_true rfl) (Nat.le_of_ble_eq_true rfl) ?_
      exact dg_iret hx hb hr hlocks (by decide +kernel) hP hS ⟨rfl, (by decide +kernel), (by omega), trivial⟩ dX12_isLetter_17
    · have jc_4 := dk_ngtc (k := 122) (by decide +kernel) c_4
      refine lv_iconst (v := 1) hx hb dX12_isLetter_12 (by decide +kernel) ?_
      refine lv_goto (tgt := 17) hx hb dX12_isLetter_13 (by decide) ?_
      have hz_7 : (1 : Int32).toInt = 1 := by decide +kernel
      have hz_8 : (1 : Int32).toInt = 1 := by decide +kernel
      refine W.widen (k := 0) (n := 0) (Nat.le_of_ble_eq_true rfl) (Nat.le_of_ble_eq_true rfl) ?_
      exact dg_iret hx hb hr hlocks (by decide +kernel) hP hS ⟨rfl, (by decide +kernel), (by omega), trivial⟩ dX12_isLetter_17
set_option maxHeartbeats 8000000 in
set_option maxRecDepth 100000 in
theorem c_m_isDigit (l : Launch) (g : Nat → ClassId) (D : va_G) (o : Nat) (S : dg_S) (a1 : Int32) (I : CM o S) (sz : Nat) : Met l yX12_isDigit (bw yX12_isDigit cX12_isDigit 1 (some .boolean)) ({ frames := 1, cells := 0, slots := 0, locals := 32 } : Room) (dk_Pc g D (dg_w g shM o rfM S) sz [.int a1]) (va_Qi (fun (r : Int32) S' => S' = S ∧ (0 ≤ (r).toInt ∧ (r).toInt ≤ 1) ∧ ((r).toInt = 1 ↔ (48 ≤ (a1).toInt ∧ (a1).toInt ≤ 57)) ∧ True) (dg_B g D shM o rfM) (dg_A o shM.length sz)) 0 0 (dg_A o shM.length sz) := by
  refine dg_met (cc := cX12_isDigit) (maxL := 1) (ret := (some .boolean)) (by decide) rfl (Nat.le_of_ble_eq_true rfl) ?_
  intro p e s m args below meth c A hAe harg hx hb hr hml hts hown hlocks hin hP K hS hA1 hA ST hsz ls hl
  rw [← hAe]
  have F : CallFix p m c cX12_isDigit 1 s args (bw yX12_isDigit cX12_isDigit 1 (some .boolean)) RX12 := ⟨hx, hb, hml, hown, hts⟩
  have hl : lv_has ls 1 [(0, .int a1)] := hl
  have M_0 : dg_sm shM [] [] S S := dg_sm.rf
  refine lv_iload_n hx hb dX12_isDigit_0 rfl (lv_at hl 0 rfl) ?_
  refine lv_bipush (v := 48) hx hb dX12_isDigit_1 (by decide +kernel) ?_
  refine lv_icmp_lt (tgt := 16) hx hb dX12_isDigit_3 (by decide) (fun c_1 => ?_) (fun c_1 => ?_)
  · have jc_1 := dk_ltc (k := 48) (by decide +kernel) c_1
    refine lv_iconst (v := 0) hx hb dX12_isDigit_16 (by decide +kernel) ?_
    have hz_2 : (0 : Int32).toInt = 0 := by decide +kernel
    have hz_3 : (0 : Int32).toInt = 0 := by decide +kernel
    refine W.widen (k := 0) (n := 0) (Nat.le_of_ble_eq_true rfl) (Nat.le_of_ble_eq_true rfl) ?_
    exact dg_iret hx hb hr hlocks (by decide +kernel) hP hS ⟨rfl, (by decide +kernel), (by omega), trivial⟩ dX12_isDigit_17
  · have jc_1 := dk_nltc (k := 48) (by decide +kernel) c_1
    refine lv_iload_n hx hb dX12_isDigit_6 rfl (lv_at hl 0 rfl) ?_
    refine lv_bipush (v := 57) hx hb dX12_isDigit_7 (by decide +kernel) ?_
    refine lv_icmp_gt (tgt := 16) hx hb dX12_isDigit_9 (by decide) (fun c_4 => ?_) (fun c_4 => ?_)
    · have jc_4 := dk_gtc (k := 57) (by decide +kernel) c_4
      refine lv_iconst (v := 0) hx hb dX12_isDigit_16 (by decide +kernel) ?_
      have hz_5 : (0 : Int32).toInt = 0 := by decide +kernel
      have hz_6 : (0 : Int32).toInt = 0 := by decide +kernel
      refine W.widen (k := 0) (n := 0) (Nat.le_of_ble_eq_true rfl) (Nat.le_of_ble_eq_true rfl) ?_
      exact dg_iret hx hb hr hlocks (by decide +kernel) hP hS ⟨rfl, (by decide +kernel), (by omega), trivial⟩ dX12_isDigit_17
    · have jc_4 := dk_ngtc (k := 57) (by decide +kernel) c_4
      refine lv_iconst (v := 1) hx hb dX12_isDigit_12 (by decide +kernel) ?_
      refine lv_goto (tgt := 17) hx hb dX12_isDigit_13 (by decide) ?_
      have hz_7 : (1 : Int32).toInt = 1 := by decide +kernel
      have hz_8 : (1 : Int32).toInt = 1 := by decide +kernel
      refine W.widen (k := 0) (n := 0) (Nat.le_of_ble_eq_true rfl) (Nat.le_of_ble_eq_true rfl) ?_
      exact dg_iret hx hb hr hlocks (by decide +kernel) hP hS ⟨rfl, (by decide +kernel), (by omega), trivial⟩ dX12_isDigit_17
set_option maxHeartbeats 8000000 in
set_option maxRecDepth 100000 in
theorem c_m_isSign (l : Launch) (g : Nat → ClassId) (D : va_G) (o : Nat) (S : dg_S) (a1 : Int32) (sg : Int32) (f_sg : S.1 0 3 = .int sg) (b_sg : 0 ≤ (sg).toInt ∧ (sg).toInt ≤ 3) (va : Int32) (f_va : S.1 0 6 = .int va) (b_va : 0 ≤ (va).toInt ∧ (va).toInt ≤ 9999) (I : CM o S) (sz : Nat) : Met l yX12_isSign (bw yX12_isSign cX12_isSign 2 (some .boolean)) ({ frames := 1, cells := 0, slots := 0, locals := 32 } : Room) (dk_Pc g D (dg_w g shM o rfM S) sz [.ref (o + 0), .int a1]) (va_Qi (fun (r : Int32) S' => S' = S ∧ (0 ≤ (r).toInt ∧ (r).toInt ≤ 1) ∧ ((r).toInt = 1 ↔ ((sg).toInt = 3 ∧ (va).toInt = (a1).toInt)) ∧ True) (dg_B g D shM o rfM) (dg_A o shM.length sz)) 0 0 (dg_A o shM.length sz) := by
  refine dg_met (cc := cX12_isSign) (maxL := 2) (ret := (some .boolean)) (by decide) rfl (Nat.le_of_ble_eq_true rfl) ?_
  intro p e s m args below meth c A hAe harg hx hb hr hml hts hown hlocks hin hP K hS hA1 hA ST hsz ls hl
  rw [← hAe]
  have F : CallFix p m c cX12_isSign 2 s args (bw yX12_isSign cX12_isSign 2 (some .boolean)) RX12 := ⟨hx, hb, hml, hown, hts⟩
  have hl : lv_has ls 2 [(0, .ref (o + 0)), (1, .int a1)] := hl
  have M_0 : dg_sm shM [] [] S S := dg_sm.rf
  refine lv_aload_n hx hb dX12_isSign_0 rfl (lv_at hl 0 rfl) ?_
  refine dg_get (C := RX12) (T := TX12) (N := 77) hx hb hts (fun w h => bw_mem (wU_X12 w h)) hown K hP sM_0 rfl 3 (by decide) (hts _ (bw_mem wB_1140)) (fun _ h9 => h9) (v := .int sg) f_sg dX12_isSign_1 ?_
  refine lv_iconst (v := 3) hx hb dX12_isSign_4 (by decide +kernel) ?_
  refine lv_icmp_ne (tgt := 20) hx hb dX12_isSign_5 (by decide) (fun c_1 => ?_) (fun c_1 => ?_)
  · have jc_1 := dk_neqc (k := 3) (by decide +kernel) c_1
    refine lv_iconst (v := 0) hx hb dX12_isSign_20 (by decide +kernel) ?_
    have hz_2 : (0 : Int32).toInt = 0 := by decide +kernel
    have hz_3 : (0 : Int32).toInt = 0 := by decide +kernel
    refine W.widen (k := 0) (n := 0) (Nat.le_of_ble_eq_true rfl) (Nat.le_of_ble_eq_true rfl) ?_
    exact dg_iret hx hb hr hlocks (by decide +kernel) hP hS ⟨rfl, (by decide +kernel), (by omega), trivial⟩ dX12_isSign_21
  · have jc_1 := dk_eqc (k := 3) (by decide +kernel) c_1
    refine lv_aload_n hx hb dX12_isSign_8 rfl (lv_at hl 0 rfl) ?_
    refine dg_get (C := RX12) (T := TX12) (N := 77) hx hb hts (fun w h => bw_mem (wU_X12 w h)) hown K hP sM_0 rfl 6 (by decide) (hts _ (bw_mem wB_1141)) (fun _ h9 => h9) (v := .int va) f_va dX12_isSign_9 ?_
    refine lv_iload_n hx hb dX12_isSign_12 rfl (lv_at hl 1 rfl) ?_
    refine lv_icmp_ne (tgt := 20) hx hb dX12_isSign_13 (by decide) (fun c_4 => ?_) (fun c_4 => ?_)
    · have hf_4 := dk_full a1
      have jc_4 := dk_neqc (k := (a1).toInt) rfl c_4
      refine lv_iconst (v := 0) hx hb dX12_isSign_20 (by decide +kernel) ?_
      have hz_6 : (0 : Int32).toInt = 0 := by decide +kernel
      have hz_7 : (0 : Int32).toInt = 0 := by decide +kernel
      refine W.widen (k := 0) (n := 0) (Nat.le_of_ble_eq_true rfl) (Nat.le_of_ble_eq_true rfl) ?_
      exact dg_iret hx hb hr hlocks (by decide +kernel) hP hS ⟨rfl, (by decide +kernel), (by omega), trivial⟩ dX12_isSign_21
    · have hf_7 := dk_full a1
      have jc_4 := dk_eqc (k := (a1).toInt) rfl c_4
      refine lv_iconst (v := 1) hx hb dX12_isSign_16 (by decide +kernel) ?_
      refine lv_goto (tgt := 21) hx hb dX12_isSign_17 (by decide) ?_
      have hz_9 : (1 : Int32).toInt = 1 := by decide +kernel
      have hz_10 : (1 : Int32).toInt = 1 := by decide +kernel
      refine W.widen (k := 0) (n := 0) (Nat.le_of_ble_eq_true rfl) (Nat.le_of_ble_eq_true rfl) ?_
      exact dg_iret hx hb hr hlocks (by decide +kernel) hP hS ⟨rfl, (by decide +kernel), (by omega), trivial⟩ dX12_isSign_21
set_option maxHeartbeats 8000000 in
set_option maxRecDepth 100000 in
theorem c_m_isWord (l : Launch) (g : Nat → ClassId) (D : va_G) (o : Nat) (S : dg_S) (b1 : Int64) (sg : Int32) (f_sg : S.1 0 3 = .int sg) (b_sg : 0 ≤ (sg).toInt ∧ (sg).toInt ≤ 3) (I : CM o S) (sz : Nat) : Met l yX12_isWord (bw yX12_isWord cX12_isWord 3 (some .boolean)) ({ frames := 1, cells := 0, slots := 0, locals := 32 } : Room) (dk_Pc g D (dg_w g shM o rfM S) sz [.ref (o + 0), .long b1]) (va_Qi (fun (r : Int32) S' => S' = S ∧ (0 ≤ (r).toInt ∧ (r).toInt ≤ 1) ∧ ((r).toInt = 1 → (sg).toInt = 1) ∧ True) (dg_B g D shM o rfM) (dg_A o shM.length sz)) 0 0 (dg_A o shM.length sz) := by
  refine dg_met (cc := cX12_isWord) (maxL := 3) (ret := (some .boolean)) (by decide) rfl (Nat.le_of_ble_eq_true rfl) ?_
  intro p e s m args below meth c A hAe harg hx hb hr hml hts hown hlocks hin hP K hS hA1 hA ST hsz ls hl
  rw [← hAe]
  have F : CallFix p m c cX12_isWord 3 s args (bw yX12_isWord cX12_isWord 3 (some .boolean)) RX12 := ⟨hx, hb, hml, hown, hts⟩
  have hl : lv_has ls 3 [(0, .ref (o + 0)), (1, .long b1)] := hl
  have M_0 : dg_sm shM [] [] S S := dg_sm.rf
  refine lv_aload_n hx hb dX12_isWord_0 rfl (lv_at hl 0 rfl) ?_
  refine dg_get (C := RX12) (T := TX12) (N := 77) hx hb hts (fun w h => bw_mem (wU_X12 w h)) hown K hP sM_0 rfl 3 (by decide) (hts _ (bw_mem wB_1140)) (fun _ h9 => h9) (v := .int sg) f_sg dX12_isWord_1 ?_
  refine lv_iconst (v := 1) hx hb dX12_isWord_4 (by decide +kernel) ?_
  refine lv_icmp_ne (tgt := 21) hx hb dX12_isWord_5 (by decide) (fun c_1 => ?_) (fun c_1 => ?_)
  · have jc_1 := dk_neqc (k := 1) (by decide +kernel) c_1
    refine lv_iconst (v := 0) hx hb dX12_isWord_21 (by decide +kernel) ?_
    have hz_2 : (0 : Int32).toInt = 0 := by decide +kernel
    have hz_3 : (0 : Int32).toInt = 0 := by decide +kernel
    refine W.widen (k := 0) (n := 0) (Nat.le_of_ble_eq_true rfl) (Nat.le_of_ble_eq_true rfl) ?_
    exact dg_iret hx hb hr hlocks (by decide +kernel) hP hS ⟨rfl, (by decide +kernel), (by omega), trivial⟩ dX12_isWord_22
  · have jc_1 := dk_eqc (k := 1) (by decide +kernel) c_1
    refine lv_aload_n hx hb dX12_isWord_8 rfl (lv_at hl 0 rfl) ?_
    obtain ⟨x_4, f_x_4⟩ := dg_I.long (i := 0) (k := 7) I sM_0 (by decide +kernel)
    refine dg_get (C := RX12) (T := TX12) (N := 77) hx hb hts (fun w h => bw_mem (wU_X12 w h)) hown K hP sM_0 rfl 7 (by decide) (hts _ (bw_mem wB_1142)) (fun _ h9 => h9) (v := .long x_4) f_x_4 dX12_isWord_9 ?_
    refine lv_lload_n hx hb dX12_isWord_12 rfl (lv_at hl 1 rfl) ?_
    refine W.lcmp hx hb dX12_isWord_13 ?_
    refine lv_topi (fun x_5 ex_5 => ?_)
    have hlc_x_5 := dk_lcmp ex_5
    refine lv_if_ne (tgt := 21) hx hb dX12_isWord_14 (by decide) (fun c_6 => ?_) (fun c_6 => ?_)
    · have jc_6 := dk_neqc (k := 0) (by decide +kernel) c_6
      refine lv_iconst (v := 0) hx hb dX12_isWord_21 (by decide +kernel) ?_
      have hz_7 : (0 : Int32).toInt = 0 := by decide +kernel
      have hz_8 : (0 : Int32).toInt = 0 := by decide +kernel
      refine W.widen (k := 0) (n := 0) (Nat.le_of_ble_eq_true rfl) (Nat.le_of_ble_eq_true rfl) ?_
      exact dg_iret hx hb hr hlocks (by decide +kernel) hP hS ⟨rfl, (by decide +kernel), (by omega), trivial⟩ dX12_isWord_22
    · have jc_6 := dk_eqc (k := 0) (by decide +kernel) c_6
      refine lv_iconst (v := 1) hx hb dX12_isWord_17 (by decide +kernel) ?_
      refine lv_goto (tgt := 22) hx hb dX12_isWord_18 (by decide) ?_
      have hz_9 : (1 : Int32).toInt = 1 := by decide +kernel
      have hz_10 : (1 : Int32).toInt = 1 := by decide +kernel
      refine W.widen (k := 0) (n := 0) (Nat.le_of_ble_eq_true rfl) (Nat.le_of_ble_eq_true rfl) ?_
      exact dg_iret hx hb hr hlocks (by decide +kernel) hP hS ⟨rfl, (by decide +kernel), (by omega), trivial⟩ dX12_isWord_22
set_option maxHeartbeats 8000000 in
set_option maxRecDepth 100000 in
theorem c_m_ahead (l : Launch) (g : Nat → ClassId) (D : va_G) (o : Nat) (S : dg_S) (se : Int32) (f_se : S.1 0 5 = .int se) (b_se : 0 ≤ (se).toInt ∧ (se).toInt ≤ 1600) (sl : Int32) (f_sl : S.1 0 2 = .int sl) (b_sl : 0 ≤ (sl).toInt ∧ (sl).toInt ≤ 1600) (hse : (se).toInt ≤ (sl).toInt) (I : CM o S) (sz : Nat) : Met l yX12_ahead (bw yX12_ahead cX12_ahead 6 none) ({ frames := 2, cells := 0, slots := 0, locals := 52 } : Room) (dk_Pc g D (dg_w g shM o rfM S) sz [.ref (o + 0)]) (va_Qv (fun S' => CM o S' ∧ dg_sm shM [(0, 3), (0, 4), (0, 5), (0, 6), (0, 7), (0, 12)] [] S S' ∧ (∃ y9_3 y9_4 y9_5 : Int32, S'.1 0 3 = .int y9_3 ∧ S'.1 0 4 = .int y9_4 ∧ S'.1 0 5 = .int y9_5 ∧ ((se).toInt ≤ (y9_4).toInt ∧ (y9_4).toInt ≤ (y9_5).toInt ∧ (y9_5).toInt ≤ (sl).toInt ∧ ((y9_3).toInt ≠ 0 → (y9_4).toInt + 1 ≤ (y9_5).toInt))) ∧ True) (dg_B g D shM o rfM) (dg_A o shM.length sz)) 0 0 (dg_A o shM.length sz) := by
  refine dg_met (cc := cX12_ahead) (maxL := 6) (ret := none) (by decide) rfl (Nat.le_of_ble_eq_true rfl) ?_
  intro p e s m args below meth c A hAe harg hx hb hr hml hts hown hlocks hin hP K hS hA1 hA ST hsz ls hl
  rw [← hAe]
  have F : CallFix p m c cX12_ahead 6 s args (bw yX12_ahead cX12_ahead 6 none) RX12 := ⟨hx, hb, hml, hown, hts⟩
  have hl : lv_has ls 6 [(0, .ref (o + 0))] := hl
  have M_0 : dg_sm shM [(0, 3), (0, 4), (0, 5), (0, 6), (0, 7), (0, 12)] [] S S := dg_sm.rf
  refine lv_aload_n hx hb dX12_ahead_0 rfl (lv_at hl 0 rfl) ?_
  refine dg_get (C := RX12) (T := TX12) (N := 77) hx hb hts (fun w h => bw_mem (wU_X12 w h)) hown K hP sM_0 rfl 5 (by decide) (hts _ (bw_mem wB_1143)) (fun _ h9 => h9) (v := .int se) f_se dX12_ahead_1 ?_
  refine lv_istore_n (lv' := [(1, .int se), (0, .ref (o + 0))]) hx hb dX12_ahead_4 rfl hl (by decide) rfl (fun ls hl => ?_)
  have J_452 : ∀ (x_30 : Int32), (0 ≤ (x_30).toInt ∧ (x_30).toInt ≤ 1600) → ((se).toInt ≤ (x_30).toInt ∧ (x_30).toInt ≤ (sl).toInt) → ∀ (H : Heap) (locs : List Loc), va_P D vwCl (dg_w g shM o rfM S) H → va_S A s.heap H locs → ∀ ls : Array Slot, lv_has ls 6 [(1, .int x_30), (0, .ref (o + 0))] → W p l e ({ frames := 2, cells := 0, slots := 0, locals := 52 } : Room) s m args below meth c H locs 0 0 (MQ below (va_Qv (fun S' => CM o S' ∧ dg_sm shM [(0, 3), (0, 4), (0, 5), (0, 6), (0, 7), (0, 12)] [] S S' ∧ (∃ y9_3 y9_4 y9_5 : Int32, S'.1 0 3 = .int y9_3 ∧ S'.1 0 4 = .int y9_4 ∧ S'.1 0 5 = .int y9_5 ∧ ((se).toInt ≤ (y9_4).toInt ∧ (y9_4).toInt ≤ (y9_5).toInt ∧ (y9_5).toInt ≤ (sl).toInt ∧ ((y9_3).toInt ≠ 0 → (y9_4).toInt + 1 ≤ (y9_5).toInt))) ∧ True) (dg_B g D shM o rfM) A) args s 0 0 A) (F0 m 41 ls []) := by
    intro x_30 b_x_30 rel_0 H locs hP hS ls hl
    refine lv_aload_n hx hb dX12_ahead_41 rfl (lv_at hl 1 rfl) ?_
    refine lv_iload_n hx hb dX12_ahead_42 rfl (lv_at hl 0 rfl) ?_
    refine dg_put (ci := 12) (v := .int x_30) (ty := tyX12 4) (C := RX12) (T := TX12) (N := 77) hx hb hts (fun w h => bw_mem (wU_X12 w h)) tyX12 tyX12_ok nmX12 hown K hP hS hA1 sM_0 rfl 4 (by decide) (hts _ (bw_mem wB_1145)) (fun _ h9 => h9) rfl (by decide +kernel) rfl rfl dX12_ahead_43 (fun S_453 e_453 H locs hP hS => ?_)
    have I_453 := dg_I.uFi (lo := 0) (hi := 1600) I e_453 sM_0 (by decide +kernel) (show 0 ≤ (x_30).toInt ∧ (x_30).toInt ≤ 1600 from (by omega))
    have M_453 := dg_sm.uF M_0 e_453 sM_0 (by decide)
    refine lv_aload_n hx hb dX12_ahead_46 rfl (lv_at hl 1 rfl) ?_
    refine lv_iload_n hx hb dX12_ahead_47 rfl (lv_at hl 0 rfl) ?_
    refine dg_put (ci := 12) (v := .int x_30) (ty := tyX12 5) (C := RX12) (T := TX12) (N := 77) hx hb hts (fun w h => bw_mem (wU_X12 w h)) tyX12 tyX12_ok nmX12 hown K hP hS hA1 sM_0 rfl 5 (by decide) (hts _ (bw_mem wB_1143)) (fun _ h9 => h9) rfl (by decide +kernel) rfl rfl dX12_ahead_48 (fun S_454 e_454 H locs hP hS => ?_)
    have I_454 := dg_I.uFi (lo := 0) (hi := 1600) I_453 e_454 sM_0 (by decide +kernel) (show 0 ≤ (x_30).toInt ∧ (x_30).toInt ≤ 1600 from (by omega))
    have M_454 := dg_sm.uF M_453 e_454 sM_0 (by decide)
    refine lv_aload_n hx hb dX12_ahead_51 rfl (lv_at hl 1 rfl) ?_
    refine lv_iconst (v := 0) hx hb dX12_ahead_52 (by decide +kernel) ?_
    have hz_455 : (0 : Int32).toInt = 0 := by decide +kernel
    refine dg_put (ci := 12) (v := .int 0) (ty := tyX12 3) (C := RX12) (T := TX12) (N := 77) hx hb hts (fun w h => bw_mem (wU_X12 w h)) tyX12 tyX12_ok nmX12 hown K hP hS hA1 sM_0 rfl 3 (by decide) (hts _ (bw_mem wB_1140)) (fun _ h9 => h9) rfl (by decide +kernel) rfl rfl dX12_ahead_53 (fun S_456 e_456 H locs hP hS => ?_)
    have I_456 := dg_I.uFi (lo := 0) (hi := 3) I_454 e_456 sM_0 (by decide +kernel) (show 0 ≤ ((0 : Int32)).toInt ∧ ((0 : Int32)).toInt ≤ 3 from (by decide +kernel))
    have M_456 := dg_sm.uF M_454 e_456 sM_0 (by decide)
    refine lv_aload_n hx hb dX12_ahead_56 rfl (lv_at hl 1 rfl) ?_
    refine lv_iconst (v := (-1)) hx hb dX12_ahead_57 (by decide +kernel) ?_
    have hz_457 : (-1 : Int32).toInt = (-1) := by decide +kernel
    refine dg_put (ci := 12) (v := .int (-1)) (ty := tyX12 12) (C := RX12) (T := TX12) (N := 77) hx hb hts (fun w h => bw_mem (wU_X12 w h)) tyX12 tyX12_ok nmX12 hown K hP hS hA1 sM_0 rfl 12 (by decide) (hts _ (bw_mem wB_1135)) (fun _ h9 => h9) rfl (by decide +kernel) rfl rfl dX12_ahead_58 (fun S_458 e_458 H locs hP hS => ?_)
    have I_458 := dg_I.uFi (lo := (-2147483648)) (hi := 2147483647) I_456 e_458 sM_0 (by decide +kernel) (show (-2147483648) ≤ ((-1 : Int32)).toInt ∧ ((-1 : Int32)).toInt ≤ 2147483647 from (by decide +kernel))
    have M_458 := dg_sm.uF M_456 e_458 sM_0 (by decide)
    refine lv_iload_n hx hb dX12_ahead_61 rfl (lv_at hl 0 rfl) ?_
    refine lv_aload_n hx hb dX12_ahead_62 rfl (lv_at hl 1 rfl) ?_
    refine dg_get (C := RX12) (T := TX12) (N := 77) hx hb hts (fun w h => bw_mem (wU_X12 w h)) hown K hP sM_0 rfl 2 (by decide) (hts _ (bw_mem wB_1144)) (fun _ h9 => h9) (v := .int sl) (((dg_uF_ne e_458 (fun z => absurd z.2 (by decide))).trans ((dg_uF_ne e_456 (fun z => absurd z.2 (by decide))).trans ((dg_uF_ne e_454 (fun z => absurd z.2 (by decide))).trans (dg_uF_ne e_453 (fun z => absurd z.2 (by decide)))))).trans f_sl) dX12_ahead_63 ?_
    refine lv_icmp_lt (tgt := 70) hx hb dX12_ahead_66 (by decide) (fun c_459 => ?_) (fun c_459 => ?_)
    · have jc_459 := dk_ltc (k := (sl).toInt) rfl c_459
      refine lv_aload_n hx hb dX12_ahead_70 rfl (lv_at hl 1 rfl) ?_
      refine dg_get (C := RX12) (T := TX12) (N := 77) hx hb hts (fun w h => bw_mem (wU_X12 w h)) hown K hP sM_0 rfl 0 (by decide) (hts _ (bw_mem wB_874)) (fun _ h9 => h9) (v := .ref (o + 1)) (show S_458.1 0 0 = .ref (o + 1) from dg_I.rel (d := 1) I_458 sM_0 (by decide +kernel)) dX12_ahead_71 ?_
      refine lv_iload_n hx hb dX12_ahead_74 rfl (lv_at hl 0 rfl) ?_
      have hin_460 : vp_in x_30 1800 := (dk_inv (by omega) (by omega))
      refine dg_iald hx hb K hP sM_1 hin_460 dX12_ahead_75 (fun x_461 ex_461 => ?_)
      have b_x_461 := dk_all_at (dg_I.row (lo := 0) (hi := 255) I_458 sM_1 (by decide +kernel)) hin_460 ex_461
      refine dg_calli hS hA1 hA (va_runS (As := [.int x_461]) (rest := []) F (c_m_isLetter l g D o S_458 x_461 I_458 H.size) (va_cwS 1 hts (bw_S wB_1147 wB_1148 wB_881 wB_1146) rfl rfl rfl (by decide +kernel) ⟨Nat.le_of_ble_eq_true rfl, Nat.le_of_ble_eq_true rfl⟩) (dg_preS K ST hP hS hA1 hA) rfl rfl hl.1 rfl (lv_room (Nat.le_of_ble_eq_true rfl)) dX12_ahead_76 ⟨Nat.le_of_ble_eq_true rfl, Nat.le_of_ble_eq_true rfl⟩) (fun x_462 S_463 hw_463 H locs hP hS => ?_)
      rw [hw_463.1] at hP
      obtain ⟨hq_463, w_463_0, w_463_1, -⟩ := hw_463
      have w_463_0 : 0 ≤ (x_462).toInt ∧ (x_462).toInt ≤ 1 := w_463_0
      have w_463_1 : (x_462).toInt = 1 ↔ (97 ≤ (x_461).toInt ∧ (x_461).toInt ≤ 122) := w_463_1
      refine lv_istore_n (lv' := [(2, .int x_462), (1, .int x_30), (0, .ref (o + 0))]) hx hb dX12_ahead_79 rfl hl (by decide) rfl (fun ls hl => ?_)
      refine lv_aload_n hx hb dX12_ahead_80 rfl (lv_at hl 2 rfl) ?_
      refine dg_get (C := RX12) (T := TX12) (N := 77) hx hb hts (fun w h => bw_mem (wU_X12 w h)) hown K hP sM_0 rfl 0 (by decide) (hts _ (bw_mem wB_874)) (fun _ h9 => h9) (v := .ref (o + 1)) (show S_458.1 0 0 = .ref (o + 1) from dg_I.rel (d := 1) I_458 sM_0 (by decide +kernel)) dX12_ahead_81 ?_
      refine lv_iload_n hx hb dX12_ahead_84 rfl (lv_at hl 1 rfl) ?_
      have hin_464 : vp_in x_30 1800 := (dk_inv (by omega) (by omega))
      refine dg_iald hx hb K hP sM_1 hin_464 dX12_ahead_85 (fun y_465 ey_465 => ?_)
      obtain rfl : x_461 = y_465 := (ey_465.trans ex_461.symm).symm
      refine dg_calli hS hA1 hA (va_runS (As := [.int x_461]) (rest := []) F (c_m_isDigit l g D o S_458 x_461 I_458 H.size) (va_cwS 1 hts (bw_S wB_1150 wB_1151 wB_881 wB_1149) rfl rfl rfl (by decide +kernel) ⟨Nat.le_of_ble_eq_true rfl, Nat.le_of_ble_eq_true rfl⟩) (dg_preS K ST hP hS hA1 hA) rfl rfl hl.1 rfl (lv_room (Nat.le_of_ble_eq_true rfl)) dX12_ahead_86 ⟨Nat.le_of_ble_eq_true rfl, Nat.le_of_ble_eq_true rfl⟩) (fun x_466 S_467 hw_467 H locs hP hS => ?_)
      rw [hw_467.1] at hP
      obtain ⟨hq_467, w_467_0, w_467_1, -⟩ := hw_467
      have w_467_0 : 0 ≤ (x_466).toInt ∧ (x_466).toInt ≤ 1 := w_467_0
      have w_467_1 : (x_466).toInt = 1 ↔ (48 ≤ (x_461).toInt ∧ (x_461).toInt ≤ 57) := w_467_1
      refine lv_istore_n (lv' := [(3, .int x_466), (2, .int x_462), (1, .int x_30), (0, .ref (o + 0))]) hx hb dX12_ahead_89 rfl hl (by decide) rfl (fun ls hl => ?_)
      refine lv_iload_n hx hb dX12_ahead_90 rfl (lv_at hl 1 rfl) ?_
      have J_874 : ∀ (x_506 : Int32), ((-1) ≤ (x_506).toInt ∧ (x_506).toInt ≤ 1599) → ∀ S_873 : dg_S, CM o S_873 → dg_sm shM [(0, 3), (0, 4), (0, 5), (0, 6), (0, 7), (0, 12)] [] S S_873 → S_873.1 0 4 = .int x_30 → S_873.1 0 5 = .int x_30 → S_873.1 0 3 = .int 0 → S_873.1 0 12 = .int x_506 → S_873.2.1 1 (x_30 : Int32).toNatClampNeg = x_461 → ∀ (H : Heap) (locs : List Loc), va_P D vwCl (dg_w g shM o rfM S_873) H → va_S A s.heap H locs → ∀ ls : Array Slot, lv_has ls 6 [(3, .int x_466), (2, .int x_462), (1, .int x_30), (0, .ref (o + 0))] → W p l e ({ frames := 2, cells := 0, slots := 0, locals := 52 } : Room) s m args below meth c H locs 0 0 (MQ below (va_Qv (fun S' => CM o S' ∧ dg_sm shM [(0, 3), (0, 4), (0, 5), (0, 6), (0, 7), (0, 12)] [] S S' ∧ (∃ y9_3 y9_4 y9_5 : Int32, S'.1 0 3 = .int y9_3 ∧ S'.1 0 4 = .int y9_4 ∧ S'.1 0 5 = .int y9_5 ∧ ((se).toInt ≤ (y9_4).toInt ∧ (y9_4).toInt ≤ (y9_5).toInt ∧ (y9_5).toInt ≤ (sl).toInt ∧ ((y9_3).toInt ≠ 0 → (y9_4).toInt + 1 ≤ (y9_5).toInt))) ∧ True) (dg_B g D shM o rfM) A) args s 0 0 A) (F0 m 135 ls []) := by
        intro x_506 b_x_506 S_873 I_873 M_873 ff_873_4_0 ff_873_5_0 ff_873_3_0 ff_873_12_0 frw_873_0 H locs hP hS ls hl
        refine lv_aload_n hx hb dX12_ahead_135 rfl (lv_at hl 3 rfl) ?_
        refine lv_iconst (v := 0) hx hb dX12_ahead_136 (by decide +kernel) ?_
        have hz_875 : (0 : Int32).toInt = 0 := by decide +kernel
        refine dg_put (ci := 12) (v := .int 0) (ty := tyX12 6) (C := RX12) (T := TX12) (N := 77) hx hb hts (fun w h => bw_mem (wU_X12 w h)) tyX12 tyX12_ok nmX12 hown K hP hS hA1 sM_0 rfl 6 (by decide) (hts _ (bw_mem wB_1141)) (fun _ h9 => h9) rfl (by decide +kernel) rfl rfl dX12_ahead_137 (fun S_876 e_876 H locs hP hS => ?_)
        have I_876 := dg_I.uFi (lo := 0) (hi := 9999) I_873 e_876 sM_0 (by decide +kernel) (show 0 ≤ ((0 : Int32)).toInt ∧ ((0 : Int32)).toInt ≤ 9999 from (by decide +kernel))
        have M_876 := dg_sm.uF M_873 e_876 sM_0 (by decide)
        refine lv_aload_n hx hb dX12_ahead_140 rfl (lv_at hl 3 rfl) ?_
        refine lv_lconst (v := 0) hx hb dX12_ahead_141 (by decide +kernel) ?_
        refine dg_put (ci := 12) (v := .long 0) (ty := tyX12 7) (C := RX12) (T := TX12) (N := 77) hx hb hts (fun w h => bw_mem (wU_X12 w h)) tyX12 tyX12_ok nmX12 hown K hP hS hA1 sM_0 rfl 7 (by decide) (hts _ (bw_mem wB_1142)) (fun _ h9 => h9) rfl (by decide +kernel) rfl rfl dX12_ahead_142 (fun S_877 e_877 H locs hP hS => ?_)
        have I_877 := dg_I.uFl I_876 e_877 sM_0 (by decide +kernel)
        have M_877 := dg_sm.uF M_876 e_877 sM_0 (by decide)
        refine lv_aload_n hx hb dX12_ahead_145 rfl (lv_at hl 3 rfl) ?_
        refine lv_iconst (v := 3) hx hb dX12_ahead_146 (by decide +kernel) ?_
        have hz_878 : (3 : Int32).toInt = 3 := by decide +kernel
        refine dg_put (ci := 12) (v := .int 3) (ty := tyX12 3) (C := RX12) (T := TX12) (N := 77) hx hb hts (fun w h => bw_mem (wU_X12 w h)) tyX12 tyX12_ok nmX12 hown K hP hS hA1 sM_0 rfl 3 (by decide) (hts _ (bw_mem wB_1140)) (fun _ h9 => h9) rfl (by decide +kernel) rfl rfl dX12_ahead_147 (fun S_879 e_879 H locs hP hS => ?_)
        have I_879 := dg_I.uFi (lo := 0) (hi := 3) I_877 e_879 sM_0 (by decide +kernel) (show 0 ≤ ((3 : Int32)).toInt ∧ ((3 : Int32)).toInt ≤ 3 from (by decide +kernel))
        have M_879 := dg_sm.uF M_877 e_879 sM_0 (by decide)
        refine lv_aload_n hx hb dX12_ahead_150 rfl (lv_at hl 3 rfl) ?_
        refine lv_iload_n hx hb dX12_ahead_151 rfl (lv_at hl 2 rfl) ?_
        refine lv_iconst (v := 1) hx hb dX12_ahead_152 (by decide +kernel) ?_
        refine lv_iadd hx hb dX12_ahead_153 ?_
        refine lv_topi (fun x_880 ex_880 => ?_)
        have jx_880 : (x_880).toInt = (x_30).toInt + 1 := by rw [ex_880]; exact dk_addT rfl (by decide +kernel) (by omega) (by omega)
        refine dg_put (ci := 12) (v := .int x_880) (ty := tyX12 5) (C := RX12) (T := TX12) (N := 77) hx hb hts (fun w h => bw_mem (wU_X12 w h)) tyX12 tyX12_ok nmX12 hown K hP hS hA1 sM_0 rfl 5 (by decide) (hts _ (bw_mem wB_1143)) (fun _ h9 => h9) rfl (by decide +kernel) rfl rfl dX12_ahead_154 (fun S_881 e_881 H locs hP hS => ?_)
        have I_881 := dg_I.uFi (lo := 0) (hi := 1600) I_879 e_881 sM_0 (by decide +kernel) (show 0 ≤ (x_880).toInt ∧ (x_880).toInt ≤ 1600 from (by omega))
        have M_881 := dg_sm.uF M_879 e_881 sM_0 (by decide)
        refine lv_iload_n hx hb dX12_ahead_157 rfl (lv_at hl 1 rfl) ?_
        refine lv_if_ne (tgt := 176) hx hb dX12_ahead_158 (by decide) (fun c_882 => ?_) (fun c_882 => ?_)
        · have jc_882 := dk_neqc (k := 0) (by decide +kernel) c_882
          refine lv_aload_n hx hb dX12_ahead_176 rfl (lv_at hl 3 rfl) ?_
          refine lv_iload_n hx hb dX12_ahead_177 rfl (lv_at hl 1 rfl) ?_
          refine lv_if_eq (tgt := 185) hx hb dX12_ahead_178 (by decide) (fun c => absurd c (fun z => absurd (dk_eqc (k := 0) (by decide +kernel) z) (by omega))) (fun _ => ?_)
          refine lv_iconst (v := 1) hx hb dX12_ahead_181 (by decide +kernel) ?_
          refine lv_goto (tgt := 186) hx hb dX12_ahead_182 (by decide) ?_
          have hz_883 : (1 : Int32).toInt = 1 := by decide +kernel
          refine dg_put (ci := 12) (v := .int 1) (ty := tyX12 3) (C := RX12) (T := TX12) (N := 77) hx hb hts (fun w h => bw_mem (wU_X12 w h)) tyX12 tyX12_ok nmX12 hown K hP hS hA1 sM_0 rfl 3 (by decide) (hts _ (bw_mem wB_1140)) (fun _ h9 => h9) rfl (by decide +kernel) rfl rfl dX12_ahead_186 (fun S_884 e_884 H locs hP hS => ?_)
          have I_884 := dg_I.uFi (lo := 0) (hi := 3) I_881 e_884 sM_0 (by decide +kernel) (show 0 ≤ ((1 : Int32)).toInt ∧ ((1 : Int32)).toInt ≤ 3 from (by decide +kernel))
          have M_884 := dg_sm.uF M_881 e_884 sM_0 (by decide)
          refine lv_iload_n hx hb dX12_ahead_189 rfl (lv_at hl 1 rfl) ?_
          refine lv_if_eq (tgt := 198) hx hb dX12_ahead_190 (by decide) (fun c => absurd c (fun z => absurd (dk_eqc (k := 0) (by decide +kernel) z) (by omega))) (fun _ => ?_)
          refine lv_bipush (v := 6) hx hb dX12_ahead_193 (by decide +kernel) ?_
          refine lv_goto (tgt := 199) hx hb dX12_ahead_195 (by decide) ?_
          refine lv_istore (lv' := [(4, .int 6), (3, .int x_466), (2, .int x_462), (1, .int x_30), (0, .ref (o + 0))]) hx hb dX12_ahead_199 hl (by decide) rfl (fun ls hl => ?_)
          refine lv_iconst (v := 0) hx hb dX12_ahead_201 (by decide +kernel) ?_
          refine lv_istore (lv' := [(5, .int 0), (4, .int 6), (3, .int x_466), (2, .int x_462), (1, .int x_30), (0, .ref (o + 0))]) hx hb dX12_ahead_202 hl (by decide) rfl (fun ls hl => ?_)
          have L_1044 : ∀ (n : Nat) (x_1039 : Int32) (x_1040 : Int32) (x_1041 : Int32) (x_1042 : Int32), (0 ≤ (x_1039).toInt ∧ (x_1039).toInt ≤ 1600) → (0 ≤ (x_1040).toInt ∧ (x_1040).toInt ≤ 1600) → ((-1) ≤ (x_1041).toInt ∧ (x_1041).toInt ≤ 1599) → (0 ≤ (x_1042).toInt ∧ (x_1042).toInt ≤ 9999) → ((x_1040).toInt ≤ (sl).toInt ∧ (x_1039).toInt ≤ (x_1040).toInt ∧ ((x_1039).toInt = 0 → (x_1040).toInt = (x_30).toInt) ∧ (1 ≤ (x_1039).toInt → (x_30).toInt + 1 ≤ (x_1040).toInt)) → ((1601 - (x_1039).toInt).toNat < n) → ∀ S_1043 : dg_S, CM o S_1043 → dg_sm shM [(0, 3), (0, 4), (0, 5), (0, 6), (0, 7), (0, 12)] [] S S_1043 → S_1043.1 0 4 = .int x_30 → S_1043.1 0 12 = .int x_1041 → S_1043.1 0 5 = .int x_880 → S_1043.1 0 3 = .int 1 → S_1043.1 0 6 = .int x_1042 → S_1043.2.1 1 (x_30 : Int32).toNatClampNeg = x_461 → (((x_1039).toInt = 0 → (x_1042).toInt = 0) ∧ ((x_1039).toInt = 1 → (x_1042).toInt ≤ 9) ∧ ((x_1039).toInt = 2 → (x_1042).toInt ≤ 99) ∧ ((x_1039).toInt = 3 → (x_1042).toInt ≤ 999)) → ∀ (H : Heap) (locs : List Loc), va_P D vwCl (dg_w g shM o rfM S_1043) H → va_S A s.heap H locs → ∀ ls : Array Slot, lv_has ls 6 [(5, .int x_1039), (4, .int 6), (3, .int x_466), (2, .int x_462), (1, .int x_1040), (0, .ref (o + 0))] → W p l e ({ frames := 2, cells := 0, slots := 0, locals := 52 } : Room) s m args below meth c H locs 0 0 (MQ below (va_Qv (fun S' => CM o S' ∧ dg_sm shM [(0, 3), (0, 4), (0, 5), (0, 6), (0, 7), (0, 12)] [] S S' ∧ (∃ y9_3 y9_4 y9_5 : Int32, S'.1 0 3 = .int y9_3 ∧ S'.1 0 4 = .int y9_4 ∧ S'.1 0 5 = .int y9_5 ∧ ((se).toInt ≤ (y9_4).toInt ∧ (y9_4).toInt ≤ (y9_5).toInt ∧ (y9_5).toInt ≤ (sl).toInt ∧ ((y9_3).toInt ≠ 0 → (y9_4).toInt + 1 ≤ (y9_5).toInt))) ∧ True) (dg_B g D shM o rfM) A) args s 0 0 A) (F0 m 204 ls []) := by
            intro n
            induction n with
            | zero =>
              intro x_1039 x_1040 x_1041 x_1042 b_x_1039 b_x_1040 b_x_1041 b_x_1042 rel_0 hmu S_1043 I_1043 M_1043 ff_1043_4_0 ff_1043_12_0 ff_1043_5_0 ff_1043_3_0 ff_1043_6_0 frw_1043_0 srel_1043_0 H locs hP hS ls hl
              omega
            | succ n ih =>
              intro x_1039 x_1040 x_1041 x_1042 b_x_1039 b_x_1040 b_x_1041 b_x_1042 rel_0 hmu S_1043 I_1043 M_1043 ff_1043_4_0 ff_1043_12_0 ff_1043_5_0 ff_1043_3_0 ff_1043_6_0 frw_1043_0 srel_1043_0 H locs hP hS ls hl
              refine lv_iload_n hx hb dX12_ahead_204 rfl (lv_at hl 4 rfl) ?_
              refine lv_aload_n hx hb dX12_ahead_205 rfl (lv_at hl 5 rfl) ?_
              refine dg_get (C := RX12) (T := TX12) (N := 77) hx hb hts (fun w h => bw_mem (wU_X12 w h)) hown K hP sM_0 rfl 2 (by decide) (hts _ (bw_mem wB_1144)) (fun _ h9 => h9) (v := .int sl) ((M_1043.1 0 2 _ sM_0 (by decide)).trans f_sl) dX12_ahead_206 ?_
              refine lv_icmp_ge (tgt := 334) hx hb dX12_ahead_209 (by decide) (fun c_1045 => ?_) (fun c_1045 => ?_)
              · have jc_1045 := dk_gec (k := (sl).toInt) rfl c_1045
                refine lv_aload_n hx hb dX12_ahead_334 rfl (lv_at hl 5 rfl) ?_
                refine lv_iload_n hx hb dX12_ahead_335 rfl (lv_at hl 4 rfl) ?_
                refine dg_put (ci := 12) (v := .int x_1040) (ty := tyX12 5) (C := RX12) (T := TX12) (N := 77) hx hb hts (fun w h => bw_mem (wU_X12 w h)) tyX12 tyX12_ok nmX12 hown K hP hS hA1 sM_0 rfl 5 (by decide) (hts _ (bw_mem wB_1143)) (fun _ h9 => h9) rfl (by decide +kernel) rfl rfl dX12_ahead_336 (fun S_1046 e_1046 H locs hP hS => ?_)
                have I_1046 := dg_I.uFi (lo := 0) (hi := 1600) I_1043 e_1046 sM_0 (by decide +kernel) (show 0 ≤ (x_1040).toInt ∧ (x_1040).toInt ≤ 1600 from (by omega))
                have M_1046 := dg_sm.uF M_1043 e_1046 sM_0 (by decide)
                have hz_1047 : (1 : Int32).toInt = 1 := by decide +kernel
                refine W.widen (k := 0) (n := 0) (Nat.le_of_ble_eq_true rfl) (Nat.le_of_ble_eq_true rfl) ?_
                exact dg_vret hx hb hr hlocks hP hS ⟨I_1046, M_1046, ⟨1, x_30, x_1040, ((dg_uF_ne e_1046 (fun z => absurd z.2 (by decide))).trans ff_1043_3_0), ((dg_uF_ne e_1046 (fun z => absurd z.2 (by decide))).trans ff_1043_4_0), (dg_uF_at e_1046), (by omega)⟩, trivial⟩ dX12_ahead_339
              · have jc_1045 := dk_ngec (k := (sl).toInt) rfl c_1045
                refine lv_iload_n hx hb dX12_ahead_212 rfl (lv_at hl 3 rfl) ?_
                refine lv_if_eq (tgt := 231) hx hb dX12_ahead_213 (by decide) (fun c => absurd c (fun z => absurd (dk_eqc (k := 0) (by decide +kernel) z) (by omega))) (fun _ => ?_)
                refine lv_aload_n hx hb dX12_ahead_216 rfl (lv_at hl 5 rfl) ?_
                refine dg_get (C := RX12) (T := TX12) (N := 77) hx hb hts (fun w h => bw_mem (wU_X12 w h)) hown K hP sM_0 rfl 0 (by decide) (hts _ (bw_mem wB_874)) (fun _ h9 => h9) (v := .ref (o + 1)) (show S_1043.1 0 0 = .ref (o + 1) from dg_I.rel (d := 1) I_1043 sM_0 (by decide +kernel)) dX12_ahead_217 ?_
                refine lv_iload_n hx hb dX12_ahead_220 rfl (lv_at hl 4 rfl) ?_
                have hin_1048 : vp_in x_1040 1800 := (dk_inv (by omega) (by omega))
                refine dg_iald hx hb K hP sM_1 hin_1048 dX12_ahead_221 (fun x_1049 ex_1049 => ?_)
                have b_x_1049 := dk_all_at (dg_I.row (lo := 0) (hi := 255) I_1043 sM_1 (by decide +kernel)) hin_1048 ex_1049
                have htw_1049 : (x_1040 : Int32).toInt = (x_30 : Int32).toInt → (x_1049).toInt = (x_461 : Int32).toInt := fun h => by have h9 := Int32.toInt_inj.mp h; rw [ex_1049, h9]; exact congrArg Int32.toInt frw_1043_0
                refine dg_calli hS hA1 hA (va_runS (As := [.int x_1049]) (rest := []) F (c_m_isLetter l g D o S_1043 x_1049 I_1043 H.size) (va_cwS 1 hts (bw_S wB_1147 wB_1148 wB_881 wB_1146) rfl rfl rfl (by decide +kernel) ⟨Nat.le_of_ble_eq_true rfl, Nat.le_of_ble_eq_true rfl⟩) (dg_preS K ST hP hS hA1 hA) rfl rfl hl.1 rfl (lv_room (Nat.le_of_ble_eq_true rfl)) dX12_ahead_222 ⟨Nat.le_of_ble_eq_true rfl, Nat.le_of_ble_eq_true rfl⟩) (fun x_1051 S_1052 hw_1052 H locs hP hS => ?_)
                rw [hw_1052.1] at hP
                obtain ⟨hq_1052, w_1052_0, w_1052_1, -⟩ := hw_1052
                have w_1052_0 : 0 ≤ (x_1051).toInt ∧ (x_1051).toInt ≤ 1 := w_1052_0
                have w_1052_1 : (x_1051).toInt = 1 ↔ (97 ≤ (x_1049).toInt ∧ (x_1049).toInt ≤ 122) := w_1052_1
                refine lv_if_eq (tgt := 334) hx hb dX12_ahead_225 (by decide) (fun c_1053 => ?_) (fun c_1053 => ?_)
                · have jc_1053 := dk_eqc (k := 0) (by decide +kernel) c_1053
                  refine lv_aload_n hx hb dX12_ahead_334 rfl (lv_at hl 5 rfl) ?_
                  refine lv_iload_n hx hb dX12_ahead_335 rfl (lv_at hl 4 rfl) ?_
                  refine dg_put (ci := 12) (v := .int x_1040) (ty := tyX12 5) (C := RX12) (T := TX12) (N := 77) hx hb hts (fun w h => bw_mem (wU_X12 w h)) tyX12 tyX12_ok nmX12 hown K hP hS hA1 sM_0 rfl 5 (by decide) (hts _ (bw_mem wB_1143)) (fun _ h9 => h9) rfl (by decide +kernel) rfl rfl dX12_ahead_336 (fun S_1054 e_1054 H locs hP hS => ?_)
                  have I_1054 := dg_I.uFi (lo := 0) (hi := 1600) I_1043 e_1054 sM_0 (by decide +kernel) (show 0 ≤ (x_1040).toInt ∧ (x_1040).toInt ≤ 1600 from (by omega))
                  have M_1054 := dg_sm.uF M_1043 e_1054 sM_0 (by decide)
                  have hz_1055 : (1 : Int32).toInt = 1 := by decide +kernel
                  refine W.widen (k := 0) (n := 0) (Nat.le_of_ble_eq_true rfl) (Nat.le_of_ble_eq_true rfl) ?_
                  exact dg_vret hx hb hr hlocks hP hS ⟨I_1054, M_1054, ⟨1, x_30, x_1040, ((dg_uF_ne e_1054 (fun z => absurd z.2 (by decide))).trans ff_1043_3_0), ((dg_uF_ne e_1054 (fun z => absurd z.2 (by decide))).trans ff_1043_4_0), (dg_uF_at e_1054), (by omega)⟩, trivial⟩ dX12_ahead_339
                · have jc_1053 := dk_neqc (k := 0) (by decide +kernel) c_1053
                  refine lv_goto (tgt := 243) hx hb dX12_ahead_228 (by decide) ?_
                  refine lv_iload hx hb dX12_ahead_243 (lv_at hl 0 rfl) ?_
                  refine lv_iload hx hb dX12_ahead_245 (lv_at hl 1 rfl) ?_
                  refine lv_icmp_ne (tgt := 263) hx hb dX12_ahead_247 (by decide) (fun c_1056 => ?_) (fun c_1056 => ?_)
                  · have jc_1056 := dk_neqc (k := 6) (by decide +kernel) c_1056
                    refine lv_iload hx hb dX12_ahead_263 (lv_at hl 0 rfl) ?_
                    refine lv_iload hx hb dX12_ahead_265 (lv_at hl 1 rfl) ?_
                    refine lv_icmp_ge (tgt := 293) hx hb dX12_ahead_267 (by decide) (fun c_1057 => ?_) (fun c_1057 => ?_)
                    · have jc_1057 := dk_gec (k := 6) (by decide +kernel) c_1057
                      refine lv_iload hx hb dX12_ahead_293 (lv_at hl 0 rfl) ?_
                      refine lv_iload hx hb dX12_ahead_295 (lv_at hl 1 rfl) ?_
                      refine lv_icmp_ge (tgt := 325) hx hb dX12_ahead_297 (by decide) (fun _ => ?_) (fun c => absurd (dk_gep (k := 6) (by decide +kernel) (by omega)) c)
                      obtain ⟨x_1058, ex_1058⟩ : ∃ z, z = x_1039 + 1 := ⟨_, rfl⟩
                      have jx_1058 : (x_1058).toInt = (x_1039).toInt + 1 := by rw [ex_1058]; exact dk_addT rfl (by decide +kernel) (by omega) (by omega)
                      refine lv_iinc (v := x_1058) (lv' := [(5, .int x_1058), (4, .int 6), (3, .int x_466), (2, .int x_462), (1, .int x_1040), (0, .ref (o + 0))]) hx hb dX12_ahead_325 hl (k := 0) rfl (by rw [ex_1058]; rfl) (by decide) rfl (fun ls hl => ?_)
                      obtain ⟨x_1059, ex_1059⟩ : ∃ z, z = x_1040 + 1 := ⟨_, rfl⟩
                      have jx_1059 : (x_1059).toInt = (x_1040).toInt + 1 := by rw [ex_1059]; exact dk_addT rfl (by decide +kernel) (by omega) (by omega)
                      refine lv_iinc (v := x_1059) (lv' := [(1, .int x_1059), (5, .int x_1058), (4, .int 6), (3, .int x_466), (2, .int x_462), (0, .ref (o + 0))]) hx hb dX12_ahead_328 hl (k := 4) rfl (by rw [ex_1059]; rfl) (by decide) rfl (fun ls hl => ?_)
                      refine lv_goto (tgt := 204) hx hb dX12_ahead_331 (by decide) ?_
                      exact ih x_1058 x_1059 x_1041 x_1042 (by omega) (by omega) (by omega) (by omega) (by omega) (by omega) S_1043 I_1043 M_1043 ff_1043_4_0 ff_1043_12_0 ff_1043_5_0 ff_1043_3_0 ff_1043_6_0 frw_1043_0 (by omega) _ _ hP hS _ (lv_sub hl [1, 2, 3, 4, 0, 5] rfl)
                    · have jc_1057 := dk_ngec (k := 6) (by decide +kernel) c_1057
                      refine lv_iload_n hx hb dX12_ahead_270 rfl (lv_at hl 3 rfl) ?_
                      refine lv_if_eq (tgt := 293) hx hb dX12_ahead_271 (by decide) (fun c => absurd c (fun z => absurd (dk_eqc (k := 0) (by decide +kernel) z) (by omega))) (fun _ => ?_)
                      refine lv_aload_n hx hb dX12_ahead_274 rfl (lv_at hl 5 rfl) ?_
                      refine lv_aload_n hx hb dX12_ahead_275 rfl (lv_at hl 5 rfl) ?_
                      obtain ⟨x_1060, f_x_1060⟩ := dg_I.long (i := 0) (k := 7) I_1043 sM_0 (by decide +kernel)
                      refine dg_get (C := RX12) (T := TX12) (N := 77) hx hb hts (fun w h => bw_mem (wU_X12 w h)) hown K hP sM_0 rfl 7 (by decide) (hts _ (bw_mem wB_1142)) (fun _ h9 => h9) (v := .long x_1060) f_x_1060 dX12_ahead_276 ?_
                      refine lv_bipush (v := 8) hx hb dX12_ahead_279 (by decide +kernel) ?_
                      refine lv_lshl hx hb dX12_ahead_281 rfl ?_
                      refine lv_topl (fun x_1061 ex_1061 => ?_)
                      refine lv_aload_n hx hb dX12_ahead_282 rfl (lv_at hl 5 rfl) ?_
                      refine dg_get (C := RX12) (T := TX12) (N := 77) hx hb hts (fun w h => bw_mem (wU_X12 w h)) hown K hP sM_0 rfl 0 (by decide) (hts _ (bw_mem wB_874)) (fun _ h9 => h9) (v := .ref (o + 1)) (show S_1043.1 0 0 = .ref (o + 1) from dg_I.rel (d := 1) I_1043 sM_0 (by decide +kernel)) dX12_ahead_283 ?_
                      refine lv_iload_n hx hb dX12_ahead_286 rfl (lv_at hl 4 rfl) ?_
                      have hin_1062 : vp_in x_1040 1800 := (dk_inv (by omega) (by omega))
                      refine dg_iald hx hb K hP sM_1 hin_1062 dX12_ahead_287 (fun y_1063 ey_1063 => ?_)
                      obtain rfl : x_1049 = y_1063 := (ey_1063.trans ex_1049.symm).symm
                      obtain ⟨x_1064, ex_1064⟩ : ∃ z, (x_1049 : Int32).toInt64 = z := ⟨_, rfl⟩
                      refine lv_i2l (v := x_1064) hx hb dX12_ahead_288 ex_1064 ?_
                      refine lv_lor hx hb dX12_ahead_289 ?_
                      refine lv_topl (fun x_1065 ex_1065 => ?_)
                      refine dg_put (ci := 12) (v := .long x_1065) (ty := tyX12 7) (C := RX12) (T := TX12) (N := 77) hx hb hts (fun w h => bw_mem (wU_X12 w h)) tyX12 tyX12_ok nmX12 hown K hP hS hA1 sM_0 rfl 7 (by decide) (hts _ (bw_mem wB_1142)) (fun _ h9 => h9) rfl (by decide +kernel) rfl rfl dX12_ahead_290 (fun S_1066 e_1066 H locs hP hS => ?_)
                      have I_1066 := dg_I.uFl I_1043 e_1066 sM_0 (by decide +kernel)
                      have M_1066 := dg_sm.uF M_1043 e_1066 sM_0 (by decide)
                      refine lv_iload hx hb dX12_ahead_293 (lv_at hl 0 rfl) ?_
                      refine lv_iload hx hb dX12_ahead_295 (lv_at hl 1 rfl) ?_
                      refine lv_icmp_ge (tgt := 325) hx hb dX12_ahead_297 (by decide) (fun c => absurd c (fun z => absurd (dk_gec (k := 6) (by decide +kernel) z) (by omega))) (fun _ => ?_)
                      refine lv_iload_n hx hb dX12_ahead_300 rfl (lv_at hl 2 rfl) ?_
                      refine lv_if_eq (tgt := 325) hx hb dX12_ahead_301 (by decide) (fun c_1067 => ?_) (fun c_1067 => ?_)
                      · have jc_1067 := dk_eqc (k := 0) (by decide +kernel) c_1067
                        obtain ⟨x_1068, ex_1068⟩ : ∃ z, z = x_1039 + 1 := ⟨_, rfl⟩
                        have jx_1068 : (x_1068).toInt = (x_1039).toInt + 1 := by rw [ex_1068]; exact dk_addT rfl (by decide +kernel) (by omega) (by omega)
                        refine lv_iinc (v := x_1068) (lv' := [(5, .int x_1068), (4, .int 6), (3, .int x_466), (2, .int x_462), (1, .int x_1040), (0, .ref (o + 0))]) hx hb dX12_ahead_325 hl (k := 0) rfl (by rw [ex_1068]; rfl) (by decide) rfl (fun ls hl => ?_)
                        obtain ⟨x_1069, ex_1069⟩ : ∃ z, z = x_1040 + 1 := ⟨_, rfl⟩
                        have jx_1069 : (x_1069).toInt = (x_1040).toInt + 1 := by rw [ex_1069]; exact dk_addT rfl (by decide +kernel) (by omega) (by omega)
                        refine lv_iinc (v := x_1069) (lv' := [(1, .int x_1069), (5, .int x_1068), (4, .int 6), (3, .int x_466), (2, .int x_462), (0, .ref (o + 0))]) hx hb dX12_ahead_328 hl (k := 4) rfl (by rw [ex_1069]; rfl) (by decide) rfl (fun ls hl => ?_)
                        refine lv_goto (tgt := 204) hx hb dX12_ahead_331 (by decide) ?_
                        exact ih x_1068 x_1069 x_1041 x_1042 (by omega) (by omega) (by omega) (by omega) (by omega) (by omega) S_1066 I_1066 M_1066 ((dg_uF_ne e_1066 (fun z => absurd z.2 (by decide))).trans ff_1043_4_0) ((dg_uF_ne e_1066 (fun z => absurd z.2 (by decide))).trans ff_1043_12_0) ((dg_uF_ne e_1066 (fun z => absurd z.2 (by decide))).trans ff_1043_5_0) ((dg_uF_ne e_1066 (fun z => absurd z.2 (by decide))).trans ff_1043_3_0) ((dg_uF_ne e_1066 (fun z => absurd z.2 (by decide))).trans ff_1043_6_0) ((congrFun (dg_uF_f e_1066 1) _).trans frw_1043_0) (by omega) _ _ hP hS _ (lv_sub hl [1, 2, 3, 4, 0, 5] rfl)
                      · have jc_1067 := dk_neqc (k := 0) (by decide +kernel) c_1067
                        refine lv_aload_n hx hb dX12_ahead_304 rfl (lv_at hl 5 rfl) ?_
                        refine lv_bipush (v := 10) hx hb dX12_ahead_305 (by decide +kernel) ?_
                        refine lv_aload_n hx hb dX12_ahead_307 rfl (lv_at hl 5 rfl) ?_
                        refine dg_get (C := RX12) (T := TX12) (N := 77) hx hb hts (fun w h => bw_mem (wU_X12 w h)) hown K hP sM_0 rfl 6 (by decide) (hts _ (bw_mem wB_1141)) (fun _ h9 => h9) (v := .int x_1042) ((dg_uF_ne e_1066 (fun z => absurd z.2 (by decide))).trans ff_1043_6_0) dX12_ahead_308 ?_
                        refine lv_imul hx hb dX12_ahead_311 ?_
                        refine lv_topi (fun x_1070 ex_1070 => ?_)
                        have jx_1070 : (x_1070).toInt = 10 * (x_1042).toInt := by rw [ex_1070]; exact dk_mulT (by decide +kernel) rfl (by omega) (by omega)
                        refine lv_aload_n hx hb dX12_ahead_312 rfl (lv_at hl 5 rfl) ?_
                        refine dg_get (C := RX12) (T := TX12) (N := 77) hx hb hts (fun w h => bw_mem (wU_X12 w h)) hown K hP sM_0 rfl 0 (by decide) (hts _ (bw_mem wB_874)) (fun _ h9 => h9) (v := .ref (o + 1)) (show S_1066.1 0 0 = .ref (o + 1) from dg_I.rel (d := 1) I_1066 sM_0 (by decide +kernel)) dX12_ahead_313 ?_
                        refine lv_iload_n hx hb dX12_ahead_316 rfl (lv_at hl 4 rfl) ?_
                        have hin_1071 : vp_in x_1040 1800 := (dk_inv (by omega) (by omega))
                        refine dg_iald hx hb K hP sM_1 hin_1071 dX12_ahead_317 (fun y_1072 ey_1072 => ?_)
                        obtain rfl : x_1049 = y_1072 := ((ey_1072.trans (congrFun (dg_uF_f e_1066 1) _)).trans ex_1049.symm).symm
                        refine lv_iadd hx hb dX12_ahead_318 ?_
                        refine lv_topi (fun x_1073 ex_1073 => ?_)
                        have jx_1073 : (x_1073).toInt = (x_1070).toInt + (x_1049).toInt := by rw [ex_1073]; exact dk_addT rfl rfl (by omega) (by omega)
                        refine lv_bipush (v := 48) hx hb dX12_ahead_319 (by decide +kernel) ?_
                        refine lv_isub hx hb dX12_ahead_321 ?_
                        refine lv_topi (fun x_1074 ex_1074 => ?_)
                        have jx_1074 : (x_1074).toInt = (x_1073).toInt - 48 := by rw [ex_1074]; exact dk_subT rfl (by decide +kernel) (by omega) (by omega)
                        refine dg_put (ci := 12) (v := .int x_1074) (ty := tyX12 6) (C := RX12) (T := TX12) (N := 77) hx hb hts (fun w h => bw_mem (wU_X12 w h)) tyX12 tyX12_ok nmX12 hown K hP hS hA1 sM_0 rfl 6 (by decide) (hts _ (bw_mem wB_1141)) (fun _ h9 => h9) rfl (by decide +kernel) rfl rfl dX12_ahead_322 (fun S_1075 e_1075 H locs hP hS => ?_)
                        have I_1075 := dg_I.uFi (lo := 0) (hi := 9999) I_1066 e_1075 sM_0 (by decide +kernel) (show 0 ≤ (x_1074).toInt ∧ (x_1074).toInt ≤ 9999 from (by omega))
                        have M_1075 := dg_sm.uF M_1066 e_1075 sM_0 (by decide)
                        obtain ⟨x_1076, ex_1076⟩ : ∃ z, z = x_1039 + 1 := ⟨_, rfl⟩
                        have jx_1076 : (x_1076).toInt = (x_1039).toInt + 1 := by rw [ex_1076]; exact dk_addT rfl (by decide +kernel) (by omega) (by omega)
                        refine lv_iinc (v := x_1076) (lv' := [(5, .int x_1076), (4, .int 6), (3, .int x_466), (2, .int x_462), (1, .int x_1040), (0, .ref (o + 0))]) hx hb dX12_ahead_325 hl (k := 0) rfl (by rw [ex_1076]; rfl) (by decide) rfl (fun ls hl => ?_)
                        obtain ⟨x_1077, ex_1077⟩ : ∃ z, z = x_1040 + 1 := ⟨_, rfl⟩
                        have jx_1077 : (x_1077).toInt = (x_1040).toInt + 1 := by rw [ex_1077]; exact dk_addT rfl (by decide +kernel) (by omega) (by omega)
                        refine lv_iinc (v := x_1077) (lv' := [(1, .int x_1077), (5, .int x_1076), (4, .int 6), (3, .int x_466), (2, .int x_462), (0, .ref (o + 0))]) hx hb dX12_ahead_328 hl (k := 4) rfl (by rw [ex_1077]; rfl) (by decide) rfl (fun ls hl => ?_)
                        refine lv_goto (tgt := 204) hx hb dX12_ahead_331 (by decide) ?_
                        exact ih x_1076 x_1077 x_1041 x_1074 (by omega) (by omega) (by omega) (by omega) (by omega) (by omega) S_1075 I_1075 M_1075 (((dg_uF_ne e_1075 (fun z => absurd z.2 (by decide))).trans (dg_uF_ne e_1066 (fun z => absurd z.2 (by decide)))).trans ff_1043_4_0) (((dg_uF_ne e_1075 (fun z => absurd z.2 (by decide))).trans (dg_uF_ne e_1066 (fun z => absurd z.2 (by decide)))).trans ff_1043_12_0) (((dg_uF_ne e_1075 (fun z => absurd z.2 (by decide))).trans (dg_uF_ne e_1066 (fun z => absurd z.2 (by decide)))).trans ff_1043_5_0) (((dg_uF_ne e_1075 (fun z => absurd z.2 (by decide))).trans (dg_uF_ne e_1066 (fun z => absurd z.2 (by decide)))).trans ff_1043_3_0) (dg_uF_at e_1075) ((congrFun ((dg_uF_f e_1075 1).trans (dg_uF_f e_1066 1)) _).trans frw_1043_0) (by omega) _ _ hP hS _ (lv_sub hl [1, 2, 3, 4, 0, 5] rfl)
                  · have jc_1056 := dk_eqc (k := 6) (by decide +kernel) c_1056
                    refine lv_aload_n hx hb dX12_ahead_250 rfl (lv_at hl 5 rfl) ?_
                    refine dg_get (C := RX12) (T := TX12) (N := 77) hx hb hts (fun w h => bw_mem (wU_X12 w h)) hown K hP sM_0 rfl 12 (by decide) (hts _ (bw_mem wB_1135)) (fun _ h9 => h9) (v := .int x_1041) ff_1043_12_0 dX12_ahead_251 ?_
                    refine lv_iconst (v := (-1)) hx hb dX12_ahead_254 (by decide +kernel) ?_
                    refine lv_icmp_ne (tgt := 263) hx hb dX12_ahead_255 (by decide) (fun c_1078 => ?_) (fun c_1078 => ?_)
                    · have jc_1078 := dk_neqc (k := (-1)) (by decide +kernel) c_1078
                      refine lv_iload hx hb dX12_ahead_263 (lv_at hl 0 rfl) ?_
                      refine lv_iload hx hb dX12_ahead_265 (lv_at hl 1 rfl) ?_
                      refine lv_icmp_ge (tgt := 293) hx hb dX12_ahead_267 (by decide) (fun _ => ?_) (fun c => absurd (dk_gep (k := 6) (by decide +kernel) (by omega)) c)
                      refine lv_iload hx hb dX12_ahead_293 (lv_at hl 0 rfl) ?_
                      refine lv_iload hx hb dX12_ahead_295 (lv_at hl 1 rfl) ?_
                      refine lv_icmp_ge (tgt := 325) hx hb dX12_ahead_297 (by decide) (fun _ => ?_) (fun c => absurd (dk_gep (k := 6) (by decide +kernel) (by omega)) c)
                      obtain ⟨x_1079, ex_1079⟩ : ∃ z, z = x_1039 + 1 := ⟨_, rfl⟩
                      have jx_1079 : (x_1079).toInt = (x_1039).toInt + 1 := by rw [ex_1079]; exact dk_addT rfl (by decide +kernel) (by omega) (by omega)
                      refine lv_iinc (v := x_1079) (lv' := [(5, .int x_1079), (4, .int 6), (3, .int x_466), (2, .int x_462), (1, .int x_1040), (0, .ref (o + 0))]) hx hb dX12_ahead_325 hl (k := 0) rfl (by rw [ex_1079]; rfl) (by decide) rfl (fun ls hl => ?_)
                      obtain ⟨x_1080, ex_1080⟩ : ∃ z, z = x_1040 + 1 := ⟨_, rfl⟩
                      have jx_1080 : (x_1080).toInt = (x_1040).toInt + 1 := by rw [ex_1080]; exact dk_addT rfl (by decide +kernel) (by omega) (by omega)
                      refine lv_iinc (v := x_1080) (lv' := [(1, .int x_1080), (5, .int x_1079), (4, .int 6), (3, .int x_466), (2, .int x_462), (0, .ref (o + 0))]) hx hb dX12_ahead_328 hl (k := 4) rfl (by rw [ex_1080]; rfl) (by decide) rfl (fun ls hl => ?_)
                      refine lv_goto (tgt := 204) hx hb dX12_ahead_331 (by decide) ?_
                      exact ih x_1079 x_1080 x_1041 x_1042 (by omega) (by omega) (by omega) (by omega) (by omega) (by omega) S_1043 I_1043 M_1043 ff_1043_4_0 ff_1043_12_0 ff_1043_5_0 ff_1043_3_0 ff_1043_6_0 frw_1043_0 (by omega) _ _ hP hS _ (lv_sub hl [1, 2, 3, 4, 0, 5] rfl)
                    · have jc_1078 := dk_eqc (k := (-1)) (by decide +kernel) c_1078
                      refine lv_aload_n hx hb dX12_ahead_258 rfl (lv_at hl 5 rfl) ?_
                      refine lv_iload_n hx hb dX12_ahead_259 rfl (lv_at hl 4 rfl) ?_
                      refine dg_put (ci := 12) (v := .int x_1040) (ty := tyX12 12) (C := RX12) (T := TX12) (N := 77) hx hb hts (fun w h => bw_mem (wU_X12 w h)) tyX12 tyX12_ok nmX12 hown K hP hS hA1 sM_0 rfl 12 (by decide) (hts _ (bw_mem wB_1135)) (fun _ h9 => h9) rfl (by decide +kernel) rfl rfl dX12_ahead_260 (fun S_1081 e_1081 H locs hP hS => ?_)
                      have I_1081 := dg_I.uFi (lo := (-2147483648)) (hi := 2147483647) I_1043 e_1081 sM_0 (by decide +kernel) (show (-2147483648) ≤ (x_1040).toInt ∧ (x_1040).toInt ≤ 2147483647 from (dk_full _))
                      have M_1081 := dg_sm.uF M_1043 e_1081 sM_0 (by decide)
                      refine lv_iload hx hb dX12_ahead_263 (lv_at hl 0 rfl) ?_
                      refine lv_iload hx hb dX12_ahead_265 (lv_at hl 1 rfl) ?_
                      refine lv_icmp_ge (tgt := 293) hx hb dX12_ahead_267 (by decide) (fun _ => ?_) (fun c => absurd (dk_gep (k := 6) (by decide +kernel) (by omega)) c)
                      refine lv_iload hx hb dX12_ahead_293 (lv_at hl 0 rfl) ?_
                      refine lv_iload hx hb dX12_ahead_295 (lv_at hl 1 rfl) ?_
                      refine lv_icmp_ge (tgt := 325) hx hb dX12_ahead_297 (by decide) (fun _ => ?_) (fun c => absurd (dk_gep (k := 6) (by decide +kernel) (by omega)) c)
                      obtain ⟨x_1082, ex_1082⟩ : ∃ z, z = x_1039 + 1 := ⟨_, rfl⟩
                      have jx_1082 : (x_1082).toInt = (x_1039).toInt + 1 := by rw [ex_1082]; exact dk_addT rfl (by decide +kernel) (by omega) (by omega)
                      refine lv_iinc (v := x_1082) (lv' := [(5, .int x_1082), (4, .int 6), (3, .int x_466), (2, .int x_462), (1, .int x_1040), (0, .ref (o + 0))]) hx hb dX12_ahead_325 hl (k := 0) rfl (by rw [ex_1082]; rfl) (by decide) rfl (fun ls hl => ?_)
                      obtain ⟨x_1083, ex_1083⟩ : ∃ z, z = x_1040 + 1 := ⟨_, rfl⟩
                      have jx_1083 : (x_1083).toInt = (x_1040).toInt + 1 := by rw [ex_1083]; exact dk_addT rfl (by decide +kernel) (by omega) (by omega)
                      refine lv_iinc (v := x_1083) (lv' := [(1, .int x_1083), (5, .int x_1082), (4, .int 6), (3, .int x_466), (2, .int x_462), (0, .ref (o + 0))]) hx hb dX12_ahead_328 hl (k := 4) rfl (by rw [ex_1083]; rfl) (by decide) rfl (fun ls hl => ?_)
                      refine lv_goto (tgt := 204) hx hb dX12_ahead_331 (by decide) ?_
                      exact ih x_1082 x_1083 x_1040 x_1042 (by omega) (by omega) (by omega) (by omega) (by omega) (by omega) S_1081 I_1081 M_1081 ((dg_uF_ne e_1081 (fun z => absurd z.2 (by decide))).trans ff_1043_4_0) (dg_uF_at e_1081) ((dg_uF_ne e_1081 (fun z => absurd z.2 (by decide))).trans ff_1043_5_0) ((dg_uF_ne e_1081 (fun z => absurd z.2 (by decide))).trans ff_1043_3_0) ((dg_uF_ne e_1081 (fun z => absurd z.2 (by decide))).trans ff_1043_6_0) ((congrFun (dg_uF_f e_1081 1) _).trans frw_1043_0) (by omega) _ _ hP hS _ (lv_sub hl [1, 2, 3, 4, 0, 5] rfl)
          have hz_1084 : (0 : Int32).toInt = 0 := by decide +kernel
          have hz_1085 : (0 : Int32).toInt = 0 := by decide +kernel
          have hz_1086 : (0 : Int32).toInt = 0 := by decide +kernel
          have hz_1087 : (0 : Int32).toInt = 0 := by decide +kernel
          have hz_1088 : (0 : Int32).toInt = 0 := by decide +kernel
          have hz_1089 : (0 : Int32).toInt = 0 := by decide +kernel
          exact L_1044 ((1601 - ((0 : Int32)).toInt).toNat + 1) 0 x_30 x_506 0 (by decide +kernel) (by omega) (by omega) (by decide +kernel) (by omega) (by omega) S_884 I_884 M_884 (((dg_uF_ne e_884 (fun z => absurd z.2 (by decide))).trans ((dg_uF_ne e_881 (fun z => absurd z.2 (by decide))).trans ((dg_uF_ne e_879 (fun z => absurd z.2 (by decide))).trans ((dg_uF_ne e_877 (fun z => absurd z.2 (by decide))).trans (dg_uF_ne e_876 (fun z => absurd z.2 (by decide))))))).trans ff_873_4_0) (((dg_uF_ne e_884 (fun z => absurd z.2 (by decide))).trans ((dg_uF_ne e_881 (fun z => absurd z.2 (by decide))).trans ((dg_uF_ne e_879 (fun z => absurd z.2 (by decide))).trans ((dg_uF_ne e_877 (fun z => absurd z.2 (by decide))).trans (dg_uF_ne e_876 (fun z => absurd z.2 (by decide))))))).trans ff_873_12_0) ((dg_uF_ne e_884 (fun z => absurd z.2 (by decide))).trans (dg_uF_at e_881)) (dg_uF_at e_884) (((dg_uF_ne e_884 (fun z => absurd z.2 (by decide))).trans ((dg_uF_ne e_881 (fun z => absurd z.2 (by decide))).trans ((dg_uF_ne e_879 (fun z => absurd z.2 (by decide))).trans (dg_uF_ne e_877 (fun z => absurd z.2 (by decide)))))).trans (dg_uF_at e_876)) ((congrFun ((dg_uF_f e_884 1).trans ((dg_uF_f e_881 1).trans ((dg_uF_f e_879 1).trans ((dg_uF_f e_877 1).trans (dg_uF_f e_876 1))))) _).trans frw_873_0) (by omega) _ _ hP hS _ (lv_sub hl [0, 1, 2, 3, 4, 5] rfl)
        · have jc_882 := dk_eqc (k := 0) (by decide +kernel) c_882
          refine lv_iload_n hx hb dX12_ahead_161 rfl (lv_at hl 0 rfl) ?_
          refine lv_if_ne (tgt := 176) hx hb dX12_ahead_162 (by decide) (fun c_1090 => ?_) (fun c_1090 => ?_)
          · have jc_1090 := dk_neqc (k := 0) (by decide +kernel) c_1090
            refine lv_aload_n hx hb dX12_ahead_176 rfl (lv_at hl 3 rfl) ?_
            refine lv_iload_n hx hb dX12_ahead_177 rfl (lv_at hl 1 rfl) ?_
            refine lv_if_eq (tgt := 185) hx hb dX12_ahead_178 (by decide) (fun _ => ?_) (fun c => absurd (dk_eqp (k := 0) (by decide +kernel) (by omega)) c)
            refine lv_iconst (v := 2) hx hb dX12_ahead_185 (by decide +kernel) ?_
            have hz_1091 : (2 : Int32).toInt = 2 := by decide +kernel
            refine dg_put (ci := 12) (v := .int 2) (ty := tyX12 3) (C := RX12) (T := TX12) (N := 77) hx hb hts (fun w h => bw_mem (wU_X12 w h)) tyX12 tyX12_ok nmX12 hown K hP hS hA1 sM_0 rfl 3 (by decide) (hts _ (bw_mem wB_1140)) (fun _ h9 => h9) rfl (by decide +kernel) rfl rfl dX12_ahead_186 (fun S_1092 e_1092 H locs hP hS => ?_)
            have I_1092 := dg_I.uFi (lo := 0) (hi := 3) I_881 e_1092 sM_0 (by decide +kernel) (show 0 ≤ ((2 : Int32)).toInt ∧ ((2 : Int32)).toInt ≤ 3 from (by decide +kernel))
            have M_1092 := dg_sm.uF M_881 e_1092 sM_0 (by decide)
            refine lv_iload_n hx hb dX12_ahead_189 rfl (lv_at hl 1 rfl) ?_
            refine lv_if_eq (tgt := 198) hx hb dX12_ahead_190 (by decide) (fun _ => ?_) (fun c => absurd (dk_eqp (k := 0) (by decide +kernel) (by omega)) c)
            refine lv_iconst (v := 4) hx hb dX12_ahead_198 (by decide +kernel) ?_
            refine lv_istore (lv' := [(4, .int 4), (3, .int x_466), (2, .int x_462), (1, .int x_30), (0, .ref (o + 0))]) hx hb dX12_ahead_199 hl (by decide) rfl (fun ls hl => ?_)
            refine lv_iconst (v := 0) hx hb dX12_ahead_201 (by decide +kernel) ?_
            refine lv_istore (lv' := [(5, .int 0), (4, .int 4), (3, .int x_466), (2, .int x_462), (1, .int x_30), (0, .ref (o + 0))]) hx hb dX12_ahead_202 hl (by decide) rfl (fun ls hl => ?_)
            have L_1214 : ∀ (n : Nat) (x_1209 : Int32) (x_1210 : Int32) (x_1211 : Int32) (x_1212 : Int32), (0 ≤ (x_1209).toInt ∧ (x_1209).toInt ≤ 1600) → (0 ≤ (x_1210).toInt ∧ (x_1210).toInt ≤ 1600) → ((-1) ≤ (x_1211).toInt ∧ (x_1211).toInt ≤ 1599) → (0 ≤ (x_1212).toInt ∧ (x_1212).toInt ≤ 9999) → ((x_1210).toInt ≤ (sl).toInt ∧ (x_1209).toInt ≤ (x_1210).toInt ∧ ((x_1209).toInt = 0 → (x_1210).toInt = (x_30).toInt) ∧ (1 ≤ (x_1209).toInt → (x_30).toInt + 1 ≤ (x_1210).toInt)) → ((1601 - (x_1209).toInt).toNat < n) → ∀ S_1213 : dg_S, CM o S_1213 → dg_sm shM [(0, 3), (0, 4), (0, 5), (0, 6), (0, 7), (0, 12)] [] S S_1213 → S_1213.1 0 4 = .int x_30 → S_1213.1 0 12 = .int x_1211 → S_1213.1 0 5 = .int x_880 → S_1213.1 0 3 = .int 2 → S_1213.1 0 6 = .int x_1212 → S_1213.2.1 1 (x_30 : Int32).toNatClampNeg = x_461 → (((x_1209).toInt = 0 → (x_1212).toInt = 0) ∧ ((x_1209).toInt = 1 → (x_1212).toInt ≤ 9) ∧ ((x_1209).toInt = 2 → (x_1212).toInt ≤ 99) ∧ ((x_1209).toInt = 3 → (x_1212).toInt ≤ 999)) → ∀ (H : Heap) (locs : List Loc), va_P D vwCl (dg_w g shM o rfM S_1213) H → va_S A s.heap H locs → ∀ ls : Array Slot, lv_has ls 6 [(5, .int x_1209), (4, .int 4), (3, .int x_466), (2, .int x_462), (1, .int x_1210), (0, .ref (o + 0))] → W p l e ({ frames := 2, cells := 0, slots := 0, locals := 52 } : Room) s m args below meth c H locs 0 0 (MQ below (va_Qv (fun S' => CM o S' ∧ dg_sm shM [(0, 3), (0, 4), (0, 5), (0, 6), (0, 7), (0, 12)] [] S S' ∧ (∃ y9_3 y9_4 y9_5 : Int32, S'.1 0 3 = .int y9_3 ∧ S'.1 0 4 = .int y9_4 ∧ S'.1 0 5 = .int y9_5 ∧ ((se).toInt ≤ (y9_4).toInt ∧ (y9_4).toInt ≤ (y9_5).toInt ∧ (y9_5).toInt ≤ (sl).toInt ∧ ((y9_3).toInt ≠ 0 → (y9_4).toInt + 1 ≤ (y9_5).toInt))) ∧ True) (dg_B g D shM o rfM) A) args s 0 0 A) (F0 m 204 ls []) := by
              intro n
              induction n with
              | zero =>
                intro x_1209 x_1210 x_1211 x_1212 b_x_1209 b_x_1210 b_x_1211 b_x_1212 rel_0 hmu S_1213 I_1213 M_1213 ff_1213_4_0 ff_1213_12_0 ff_1213_5_0 ff_1213_3_0 ff_1213_6_0 frw_1213_0 srel_1213_0 H locs hP hS ls hl
                omega
              | succ n ih =>
                intro x_1209 x_1210 x_1211 x_1212 b_x_1209 b_x_1210 b_x_1211 b_x_1212 rel_0 hmu S_1213 I_1213 M_1213 ff_1213_4_0 ff_1213_12_0 ff_1213_5_0 ff_1213_3_0 ff_1213_6_0 frw_1213_0 srel_1213_0 H locs hP hS ls hl
                refine lv_iload_n hx hb dX12_ahead_204 rfl (lv_at hl 4 rfl) ?_
                refine lv_aload_n hx hb dX12_ahead_205 rfl (lv_at hl 5 rfl) ?_
                refine dg_get (C := RX12) (T := TX12) (N := 77) hx hb hts (fun w h => bw_mem (wU_X12 w h)) hown K hP sM_0 rfl 2 (by decide) (hts _ (bw_mem wB_1144)) (fun _ h9 => h9) (v := .int sl) ((M_1213.1 0 2 _ sM_0 (by decide)).trans f_sl) dX12_ahead_206 ?_
                refine lv_icmp_ge (tgt := 334) hx hb dX12_ahead_209 (by decide) (fun c_1215 => ?_) (fun c_1215 => ?_)
                · have jc_1215 := dk_gec (k := (sl).toInt) rfl c_1215
                  refine lv_aload_n hx hb dX12_ahead_334 rfl (lv_at hl 5 rfl) ?_
                  refine lv_iload_n hx hb dX12_ahead_335 rfl (lv_at hl 4 rfl) ?_
                  refine dg_put (ci := 12) (v := .int x_1210) (ty := tyX12 5) (C := RX12) (T := TX12) (N := 77) hx hb hts (fun w h => bw_mem (wU_X12 w h)) tyX12 tyX12_ok nmX12 hown K hP hS hA1 sM_0 rfl 5 (by decide) (hts _ (bw_mem wB_1143)) (fun _ h9 => h9) rfl (by decide +kernel) rfl rfl dX12_ahead_336 (fun S_1216 e_1216 H locs hP hS => ?_)
                  have I_1216 := dg_I.uFi (lo := 0) (hi := 1600) I_1213 e_1216 sM_0 (by decide +kernel) (show 0 ≤ (x_1210).toInt ∧ (x_1210).toInt ≤ 1600 from (by omega))
                  have M_1216 := dg_sm.uF M_1213 e_1216 sM_0 (by decide)
                  have hz_1217 : (2 : Int32).toInt = 2 := by decide +kernel
                  refine W.widen (k := 0) (n := 0) (Nat.le_of_ble_eq_true rfl) (Nat.le_of_ble_eq_true rfl) ?_
                  exact dg_vret hx hb hr hlocks hP hS ⟨I_1216, M_1216, ⟨2, x_30, x_1210, ((dg_uF_ne e_1216 (fun z => absurd z.2 (by decide))).trans ff_1213_3_0), ((dg_uF_ne e_1216 (fun z => absurd z.2 (by decide))).trans ff_1213_4_0), (dg_uF_at e_1216), (by omega)⟩, trivial⟩ dX12_ahead_339
                · have jc_1215 := dk_ngec (k := (sl).toInt) rfl c_1215
                  refine lv_iload_n hx hb dX12_ahead_212 rfl (lv_at hl 3 rfl) ?_
                  refine lv_if_eq (tgt := 231) hx hb dX12_ahead_213 (by decide) (fun _ => ?_) (fun c => absurd (dk_eqp (k := 0) (by decide +kernel) (by omega)) c)
                  refine lv_aload_n hx hb dX12_ahead_231 rfl (lv_at hl 5 rfl) ?_
                  refine dg_get (C := RX12) (T := TX12) (N := 77) hx hb hts (fun w h => bw_mem (wU_X12 w h)) hown K hP sM_0 rfl 0 (by decide) (hts _ (bw_mem wB_874)) (fun _ h9 => h9) (v := .ref (o + 1)) (show S_1213.1 0 0 = .ref (o + 1) from dg_I.rel (d := 1) I_1213 sM_0 (by decide +kernel)) dX12_ahead_232 ?_
                  refine lv_iload_n hx hb dX12_ahead_235 rfl (lv_at hl 4 rfl) ?_
                  have hin_1218 : vp_in x_1210 1800 := (dk_inv (by omega) (by omega))
                  refine dg_iald hx hb K hP sM_1 hin_1218 dX12_ahead_236 (fun x_1219 ex_1219 => ?_)
                  have b_x_1219 := dk_all_at (dg_I.row (lo := 0) (hi := 255) I_1213 sM_1 (by decide +kernel)) hin_1218 ex_1219
                  have htw_1219 : (x_1210 : Int32).toInt = (x_30 : Int32).toInt → (x_1219).toInt = (x_461 : Int32).toInt := fun h => by have h9 := Int32.toInt_inj.mp h; rw [ex_1219, h9]; exact congrArg Int32.toInt frw_1213_0
                  refine dg_calli hS hA1 hA (va_runS (As := [.int x_1219]) (rest := []) F (c_m_isDigit l g D o S_1213 x_1219 I_1213 H.size) (va_cwS 1 hts (bw_S wB_1150 wB_1151 wB_881 wB_1149) rfl rfl rfl (by decide +kernel) ⟨Nat.le_of_ble_eq_true rfl, Nat.le_of_ble_eq_true rfl⟩) (dg_preS K ST hP hS hA1 hA) rfl rfl hl.1 rfl (lv_room (Nat.le_of_ble_eq_true rfl)) dX12_ahead_237 ⟨Nat.le_of_ble_eq_true rfl, Nat.le_of_ble_eq_true rfl⟩) (fun x_1221 S_1222 hw_1222 H locs hP hS => ?_)
                  rw [hw_1222.1] at hP
                  obtain ⟨hq_1222, w_1222_0, w_1222_1, -⟩ := hw_1222
                  have w_1222_0 : 0 ≤ (x_1221).toInt ∧ (x_1221).toInt ≤ 1 := w_1222_0
                  have w_1222_1 : (x_1221).toInt = 1 ↔ (48 ≤ (x_1219).toInt ∧ (x_1219).toInt ≤ 57) := w_1222_1
                  refine lv_if_eq (tgt := 334) hx hb dX12_ahead_240 (by decide) (fun c_1223 => ?_) (fun c_1223 => ?_)
                  · have jc_1223 := dk_eqc (k := 0) (by decide +kernel) c_1223
                    refine lv_aload_n hx hb dX12_ahead_334 rfl (lv_at hl 5 rfl) ?_
                    refine lv_iload_n hx hb dX12_ahead_335 rfl (lv_at hl 4 rfl) ?_
                    refine dg_put (ci := 12) (v := .int x_1210) (ty := tyX12 5) (C := RX12) (T := TX12) (N := 77) hx hb hts (fun w h => bw_mem (wU_X12 w h)) tyX12 tyX12_ok nmX12 hown K hP hS hA1 sM_0 rfl 5 (by decide) (hts _ (bw_mem wB_1143)) (fun _ h9 => h9) rfl (by decide +kernel) rfl rfl dX12_ahead_336 (fun S_1224 e_1224 H locs hP hS => ?_)
                    have I_1224 := dg_I.uFi (lo := 0) (hi := 1600) I_1213 e_1224 sM_0 (by decide +kernel) (show 0 ≤ (x_1210).toInt ∧ (x_1210).toInt ≤ 1600 from (by omega))
                    have M_1224 := dg_sm.uF M_1213 e_1224 sM_0 (by decide)
                    have hz_1225 : (2 : Int32).toInt = 2 := by decide +kernel
                    refine W.widen (k := 0) (n := 0) (Nat.le_of_ble_eq_true rfl) (Nat.le_of_ble_eq_true rfl) ?_
                    exact dg_vret hx hb hr hlocks hP hS ⟨I_1224, M_1224, ⟨2, x_30, x_1210, ((dg_uF_ne e_1224 (fun z => absurd z.2 (by decide))).trans ff_1213_3_0), ((dg_uF_ne e_1224 (fun z => absurd z.2 (by decide))).trans ff_1213_4_0), (dg_uF_at e_1224), (by omega)⟩, trivial⟩ dX12_ahead_339
                  · have jc_1223 := dk_neqc (k := 0) (by decide +kernel) c_1223
                    refine lv_iload hx hb dX12_ahead_243 (lv_at hl 0 rfl) ?_
                    refine lv_iload hx hb dX12_ahead_245 (lv_at hl 1 rfl) ?_
                    refine lv_icmp_ne (tgt := 263) hx hb dX12_ahead_247 (by decide) (fun c_1226 => ?_) (fun c_1226 => ?_)
                    · have jc_1226 := dk_neqc (k := 4) (by decide +kernel) c_1226
                      refine lv_iload hx hb dX12_ahead_263 (lv_at hl 0 rfl) ?_
                      refine lv_iload hx hb dX12_ahead_265 (lv_at hl 1 rfl) ?_
                      refine lv_icmp_ge (tgt := 293) hx hb dX12_ahead_267 (by decide) (fun c_1227 => ?_) (fun c_1227 => ?_)
                      · have jc_1227 := dk_gec (k := 4) (by decide +kernel) c_1227
                        refine lv_iload hx hb dX12_ahead_293 (lv_at hl 0 rfl) ?_
                        refine lv_iload hx hb dX12_ahead_295 (lv_at hl 1 rfl) ?_
                        refine lv_icmp_ge (tgt := 325) hx hb dX12_ahead_297 (by decide) (fun _ => ?_) (fun c => absurd (dk_gep (k := 4) (by decide +kernel) (by omega)) c)
                        obtain ⟨x_1228, ex_1228⟩ : ∃ z, z = x_1209 + 1 := ⟨_, rfl⟩
                        have jx_1228 : (x_1228).toInt = (x_1209).toInt + 1 := by rw [ex_1228]; exact dk_addT rfl (by decide +kernel) (by omega) (by omega)
                        refine lv_iinc (v := x_1228) (lv' := [(5, .int x_1228), (4, .int 4), (3, .int x_466), (2, .int x_462), (1, .int x_1210), (0, .ref (o + 0))]) hx hb dX12_ahead_325 hl (k := 0) rfl (by rw [ex_1228]; rfl) (by decide) rfl (fun ls hl => ?_)
                        obtain ⟨x_1229, ex_1229⟩ : ∃ z, z = x_1210 + 1 := ⟨_, rfl⟩
                        have jx_1229 : (x_1229).toInt = (x_1210).toInt + 1 := by rw [ex_1229]; exact dk_addT rfl (by decide +kernel) (by omega) (by omega)
                        refine lv_iinc (v := x_1229) (lv' := [(1, .int x_1229), (5, .int x_1228), (4, .int 4), (3, .int x_466), (2, .int x_462), (0, .ref (o + 0))]) hx hb dX12_ahead_328 hl (k := 4) rfl (by rw [ex_1229]; rfl) (by decide) rfl (fun ls hl => ?_)
                        refine lv_goto (tgt := 204) hx hb dX12_ahead_331 (by decide) ?_
                        exact ih x_1228 x_1229 x_1211 x_1212 (by omega) (by omega) (by omega) (by omega) (by omega) (by omega) S_1213 I_1213 M_1213 ff_1213_4_0 ff_1213_12_0 ff_1213_5_0 ff_1213_3_0 ff_1213_6_0 frw_1213_0 (by omega) _ _ hP hS _ (lv_sub hl [1, 2, 3, 4, 0, 5] rfl)
                      · have jc_1227 := dk_ngec (k := 4) (by decide +kernel) c_1227
                        refine lv_iload_n hx hb dX12_ahead_270 rfl (lv_at hl 3 rfl) ?_
                        refine lv_if_eq (tgt := 293) hx hb dX12_ahead_271 (by decide) (fun _ => ?_) (fun c => absurd (dk_eqp (k := 0) (by decide +kernel) (by omega)) c)
                        refine lv_iload hx hb dX12_ahead_293 (lv_at hl 0 rfl) ?_
                        refine lv_iload hx hb dX12_ahead_295 (lv_at hl 1 rfl) ?_
                        refine lv_icmp_ge (tgt := 325) hx hb dX12_ahead_297 (by decide) (fun c => absurd c (fun z => absurd (dk_gec (k := 4) (by decide +kernel) z) (by omega))) (fun _ => ?_)
                        refine lv_iload_n hx hb dX12_ahead_300 rfl (lv_at hl 2 rfl) ?_
                        refine lv_if_eq (tgt := 325) hx hb dX12_ahead_301 (by decide) (fun c => absurd c (fun z => absurd (dk_eqc (k := 0) (by decide +kernel) z) (by omega))) (fun _ => ?_)
                        refine lv_aload_n hx hb dX12_ahead_304 rfl (lv_at hl 5 rfl) ?_
                        refine lv_bipush (v := 10) hx hb dX12_ahead_305 (by decide +kernel) ?_
                        refine lv_aload_n hx hb dX12_ahead_307 rfl (lv_at hl 5 rfl) ?_
                        refine dg_get (C := RX12) (T := TX12) (N := 77) hx hb hts (fun w h => bw_mem (wU_X12 w h)) hown K hP sM_0 rfl 6 (by decide) (hts _ (bw_mem wB_1141)) (fun _ h9 => h9) (v := .int x_1212) ff_1213_6_0 dX12_ahead_308 ?_
                        refine lv_imul hx hb dX12_ahead_311 ?_
                        refine lv_topi (fun x_1230 ex_1230 => ?_)
                        have jx_1230 : (x_1230).toInt = 10 * (x_1212).toInt := by rw [ex_1230]; exact dk_mulT (by decide +kernel) rfl (by omega) (by omega)
                        refine lv_aload_n hx hb dX12_ahead_312 rfl (lv_at hl 5 rfl) ?_
                        refine dg_get (C := RX12) (T := TX12) (N := 77) hx hb hts (fun w h => bw_mem (wU_X12 w h)) hown K hP sM_0 rfl 0 (by decide) (hts _ (bw_mem wB_874)) (fun _ h9 => h9) (v := .ref (o + 1)) (show S_1213.1 0 0 = .ref (o + 1) from dg_I.rel (d := 1) I_1213 sM_0 (by decide +kernel)) dX12_ahead_313 ?_
                        refine lv_iload_n hx hb dX12_ahead_316 rfl (lv_at hl 4 rfl) ?_
                        have hin_1231 : vp_in x_1210 1800 := (dk_inv (by omega) (by omega))
                        refine dg_iald hx hb K hP sM_1 hin_1231 dX12_ahead_317 (fun y_1232 ey_1232 => ?_)
                        obtain rfl : x_1219 = y_1232 := (ey_1232.trans ex_1219.symm).symm
                        refine lv_iadd hx hb dX12_ahead_318 ?_
                        refine lv_topi (fun x_1233 ex_1233 => ?_)
                        have jx_1233 : (x_1233).toInt = (x_1230).toInt + (x_1219).toInt := by rw [ex_1233]; exact dk_addT rfl rfl (by omega) (by omega)
                        refine lv_bipush (v := 48) hx hb dX12_ahead_319 (by decide +kernel) ?_
                        refine lv_isub hx hb dX12_ahead_321 ?_
                        refine lv_topi (fun x_1234 ex_1234 => ?_)
                        have jx_1234 : (x_1234).toInt = (x_1233).toInt - 48 := by rw [ex_1234]; exact dk_subT rfl (by decide +kernel) (by omega) (by omega)
                        refine dg_put (ci := 12) (v := .int x_1234) (ty := tyX12 6) (C := RX12) (T := TX12) (N := 77) hx hb hts (fun w h => bw_mem (wU_X12 w h)) tyX12 tyX12_ok nmX12 hown K hP hS hA1 sM_0 rfl 6 (by decide) (hts _ (bw_mem wB_1141)) (fun _ h9 => h9) rfl (by decide +kernel) rfl rfl dX12_ahead_322 (fun S_1235 e_1235 H locs hP hS => ?_)
                        have I_1235 := dg_I.uFi (lo := 0) (hi := 9999) I_1213 e_1235 sM_0 (by decide +kernel) (show 0 ≤ (x_1234).toInt ∧ (x_1234).toInt ≤ 9999 from (by omega))
                        have M_1235 := dg_sm.uF M_1213 e_1235 sM_0 (by decide)
                        obtain ⟨x_1236, ex_1236⟩ : ∃ z, z = x_1209 + 1 := ⟨_, rfl⟩
                        have jx_1236 : (x_1236).toInt = (x_1209).toInt + 1 := by rw [ex_1236]; exact dk_addT rfl (by decide +kernel) (by omega) (by omega)
                        refine lv_iinc (v := x_1236) (lv' := [(5, .int x_1236), (4, .int 4), (3, .int x_466), (2, .int x_462), (1, .int x_1210), (0, .ref (o + 0))]) hx hb dX12_ahead_325 hl (k := 0) rfl (by rw [ex_1236]; rfl) (by decide) rfl (fun ls hl => ?_)
                        obtain ⟨x_1237, ex_1237⟩ : ∃ z, z = x_1210 + 1 := ⟨_, rfl⟩
                        have jx_1237 : (x_1237).toInt = (x_1210).toInt + 1 := by rw [ex_1237]; exact dk_addT rfl (by decide +kernel) (by omega) (by omega)
                        refine lv_iinc (v := x_1237) (lv' := [(1, .int x_1237), (5, .int x_1236), (4, .int 4), (3, .int x_466), (2, .int x_462), (0, .ref (o + 0))]) hx hb dX12_ahead_328 hl (k := 4) rfl (by rw [ex_1237]; rfl) (by decide) rfl (fun ls hl => ?_)
                        refine lv_goto (tgt := 204) hx hb dX12_ahead_331 (by decide) ?_
                        exact ih x_1236 x_1237 x_1211 x_1234 (by omega) (by omega) (by omega) (by omega) (by omega) (by omega) S_1235 I_1235 M_1235 ((dg_uF_ne e_1235 (fun z => absurd z.2 (by decide))).trans ff_1213_4_0) ((dg_uF_ne e_1235 (fun z => absurd z.2 (by decide))).trans ff_1213_12_0) ((dg_uF_ne e_1235 (fun z => absurd z.2 (by decide))).trans ff_1213_5_0) ((dg_uF_ne e_1235 (fun z => absurd z.2 (by decide))).trans ff_1213_3_0) (dg_uF_at e_1235) ((congrFun (dg_uF_f e_1235 1) _).trans frw_1213_0) (by omega) _ _ hP hS _ (lv_sub hl [1, 2, 3, 4, 0, 5] rfl)
                    · have jc_1226 := dk_eqc (k := 4) (by decide +kernel) c_1226
                      refine lv_aload_n hx hb dX12_ahead_250 rfl (lv_at hl 5 rfl) ?_
                      refine dg_get (C := RX12) (T := TX12) (N := 77) hx hb hts (fun w h => bw_mem (wU_X12 w h)) hown K hP sM_0 rfl 12 (by decide) (hts _ (bw_mem wB_1135)) (fun _ h9 => h9) (v := .int x_1211) ff_1213_12_0 dX12_ahead_251 ?_
                      refine lv_iconst (v := (-1)) hx hb dX12_ahead_254 (by decide +kernel) ?_
                      refine lv_icmp_ne (tgt := 263) hx hb dX12_ahead_255 (by decide) (fun c_1238 => ?_) (fun c_1238 => ?_)
                      · have jc_1238 := dk_neqc (k := (-1)) (by decide +kernel) c_1238
                        refine lv_iload hx hb dX12_ahead_263 (lv_at hl 0 rfl) ?_
                        refine lv_iload hx hb dX12_ahead_265 (lv_at hl 1 rfl) ?_
                        refine lv_icmp_ge (tgt := 293) hx hb dX12_ahead_267 (by decide) (fun _ => ?_) (fun c => absurd (dk_gep (k := 4) (by decide +kernel) (by omega)) c)
                        refine lv_iload hx hb dX12_ahead_293 (lv_at hl 0 rfl) ?_
                        refine lv_iload hx hb dX12_ahead_295 (lv_at hl 1 rfl) ?_
                        refine lv_icmp_ge (tgt := 325) hx hb dX12_ahead_297 (by decide) (fun _ => ?_) (fun c => absurd (dk_gep (k := 4) (by decide +kernel) (by omega)) c)
                        obtain ⟨x_1239, ex_1239⟩ : ∃ z, z = x_1209 + 1 := ⟨_, rfl⟩
                        have jx_1239 : (x_1239).toInt = (x_1209).toInt + 1 := by rw [ex_1239]; exact dk_addT rfl (by decide +kernel) (by omega) (by omega)
                        refine lv_iinc (v := x_1239) (lv' := [(5, .int x_1239), (4, .int 4), (3, .int x_466), (2, .int x_462), (1, .int x_1210), (0, .ref (o + 0))]) hx hb dX12_ahead_325 hl (k := 0) rfl (by rw [ex_1239]; rfl) (by decide) rfl (fun ls hl => ?_)
                        obtain ⟨x_1240, ex_1240⟩ : ∃ z, z = x_1210 + 1 := ⟨_, rfl⟩
                        have jx_1240 : (x_1240).toInt = (x_1210).toInt + 1 := by rw [ex_1240]; exact dk_addT rfl (by decide +kernel) (by omega) (by omega)
                        refine lv_iinc (v := x_1240) (lv' := [(1, .int x_1240), (5, .int x_1239), (4, .int 4), (3, .int x_466), (2, .int x_462), (0, .ref (o + 0))]) hx hb dX12_ahead_328 hl (k := 4) rfl (by rw [ex_1240]; rfl) (by decide) rfl (fun ls hl => ?_)
                        refine lv_goto (tgt := 204) hx hb dX12_ahead_331 (by decide) ?_
                        exact ih x_1239 x_1240 x_1211 x_1212 (by omega) (by omega) (by omega) (by omega) (by omega) (by omega) S_1213 I_1213 M_1213 ff_1213_4_0 ff_1213_12_0 ff_1213_5_0 ff_1213_3_0 ff_1213_6_0 frw_1213_0 (by omega) _ _ hP hS _ (lv_sub hl [1, 2, 3, 4, 0, 5] rfl)
                      · have jc_1238 := dk_eqc (k := (-1)) (by decide +kernel) c_1238
                        refine lv_aload_n hx hb dX12_ahead_258 rfl (lv_at hl 5 rfl) ?_
                        refine lv_iload_n hx hb dX12_ahead_259 rfl (lv_at hl 4 rfl) ?_
                        refine dg_put (ci := 12) (v := .int x_1210) (ty := tyX12 12) (C := RX12) (T := TX12) (N := 77) hx hb hts (fun w h => bw_mem (wU_X12 w h)) tyX12 tyX12_ok nmX12 hown K hP hS hA1 sM_0 rfl 12 (by decide) (hts _ (bw_mem wB_1135)) (fun _ h9 => h9) rfl (by decide +kernel) rfl rfl dX12_ahead_260 (fun S_1241 e_1241 H locs hP hS => ?_)
                        have I_1241 := dg_I.uFi (lo := (-2147483648)) (hi := 2147483647) I_1213 e_1241 sM_0 (by decide +kernel) (show (-2147483648) ≤ (x_1210).toInt ∧ (x_1210).toInt ≤ 2147483647 from (dk_full _))
                        have M_1241 := dg_sm.uF M_1213 e_1241 sM_0 (by decide)
                        refine lv_iload hx hb dX12_ahead_263 (lv_at hl 0 rfl) ?_
                        refine lv_iload hx hb dX12_ahead_265 (lv_at hl 1 rfl) ?_
                        refine lv_icmp_ge (tgt := 293) hx hb dX12_ahead_267 (by decide) (fun _ => ?_) (fun c => absurd (dk_gep (k := 4) (by decide +kernel) (by omega)) c)
                        refine lv_iload hx hb dX12_ahead_293 (lv_at hl 0 rfl) ?_
                        refine lv_iload hx hb dX12_ahead_295 (lv_at hl 1 rfl) ?_
                        refine lv_icmp_ge (tgt := 325) hx hb dX12_ahead_297 (by decide) (fun _ => ?_) (fun c => absurd (dk_gep (k := 4) (by decide +kernel) (by omega)) c)
                        obtain ⟨x_1242, ex_1242⟩ : ∃ z, z = x_1209 + 1 := ⟨_, rfl⟩
                        have jx_1242 : (x_1242).toInt = (x_1209).toInt + 1 := by rw [ex_1242]; exact dk_addT rfl (by decide +kernel) (by omega) (by omega)
                        refine lv_iinc (v := x_1242) (lv' := [(5, .int x_1242), (4, .int 4), (3, .int x_466), (2, .int x_462), (1, .int x_1210), (0, .ref (o + 0))]) hx hb dX12_ahead_325 hl (k := 0) rfl (by rw [ex_1242]; rfl) (by decide) rfl (fun ls hl => ?_)
                        obtain ⟨x_1243, ex_1243⟩ : ∃ z, z = x_1210 + 1 := ⟨_, rfl⟩
                        have jx_1243 : (x_1243).toInt = (x_1210).toInt + 1 := by rw [ex_1243]; exact dk_addT rfl (by decide +kernel) (by omega) (by omega)
                        refine lv_iinc (v := x_1243) (lv' := [(1, .int x_1243), (5, .int x_1242), (4, .int 4), (3, .int x_466), (2, .int x_462), (0, .ref (o + 0))]) hx hb dX12_ahead_328 hl (k := 4) rfl (by rw [ex_1243]; rfl) (by decide) rfl (fun ls hl => ?_)
                        refine lv_goto (tgt := 204) hx hb dX12_ahead_331 (by decide) ?_
                        exact ih x_1242 x_1243 x_1210 x_1212 (by omega) (by omega) (by omega) (by omega) (by omega) (by omega) S_1241 I_1241 M_1241 ((dg_uF_ne e_1241 (fun z => absurd z.2 (by decide))).trans ff_1213_4_0) (dg_uF_at e_1241) ((dg_uF_ne e_1241 (fun z => absurd z.2 (by decide))).trans ff_1213_5_0) ((dg_uF_ne e_1241 (fun z => absurd z.2 (by decide))).trans ff_1213_3_0) ((dg_uF_ne e_1241 (fun z => absurd z.2 (by decide))).trans ff_1213_6_0) ((congrFun (dg_uF_f e_1241 1) _).trans frw_1213_0) (by omega) _ _ hP hS _ (lv_sub hl [1, 2, 3, 4, 0, 5] rfl)
            have hz_1244 : (0 : Int32).toInt = 0 := by decide +kernel
            have hz_1245 : (0 : Int32).toInt = 0 := by decide +kernel
            have hz_1246 : (0 : Int32).toInt = 0 := by decide +kernel
            have hz_1247 : (0 : Int32).toInt = 0 := by decide +kernel
            have hz_1248 : (0 : Int32).toInt = 0 := by decide +kernel
            have hz_1249 : (0 : Int32).toInt = 0 := by decide +kernel
            exact L_1214 ((1601 - ((0 : Int32)).toInt).toNat + 1) 0 x_30 x_506 0 (by decide +kernel) (by omega) (by omega) (by decide +kernel) (by omega) (by omega) S_1092 I_1092 M_1092 (((dg_uF_ne e_1092 (fun z => absurd z.2 (by decide))).trans ((dg_uF_ne e_881 (fun z => absurd z.2 (by decide))).trans ((dg_uF_ne e_879 (fun z => absurd z.2 (by decide))).trans ((dg_uF_ne e_877 (fun z => absurd z.2 (by decide))).trans (dg_uF_ne e_876 (fun z => absurd z.2 (by decide))))))).trans ff_873_4_0) (((dg_uF_ne e_1092 (fun z => absurd z.2 (by decide))).trans ((dg_uF_ne e_881 (fun z => absurd z.2 (by decide))).trans ((dg_uF_ne e_879 (fun z => absurd z.2 (by decide))).trans ((dg_uF_ne e_877 (fun z => absurd z.2 (by decide))).trans (dg_uF_ne e_876 (fun z => absurd z.2 (by decide))))))).trans ff_873_12_0) ((dg_uF_ne e_1092 (fun z => absurd z.2 (by decide))).trans (dg_uF_at e_881)) (dg_uF_at e_1092) (((dg_uF_ne e_1092 (fun z => absurd z.2 (by decide))).trans ((dg_uF_ne e_881 (fun z => absurd z.2 (by decide))).trans ((dg_uF_ne e_879 (fun z => absurd z.2 (by decide))).trans (dg_uF_ne e_877 (fun z => absurd z.2 (by decide)))))).trans (dg_uF_at e_876)) ((congrFun ((dg_uF_f e_1092 1).trans ((dg_uF_f e_881 1).trans ((dg_uF_f e_879 1).trans ((dg_uF_f e_877 1).trans (dg_uF_f e_876 1))))) _).trans frw_873_0) (by omega) _ _ hP hS _ (lv_sub hl [0, 1, 2, 3, 4, 5] rfl)
          · have jc_1090 := dk_eqc (k := 0) (by decide +kernel) c_1090
            refine lv_aload_n hx hb dX12_ahead_165 rfl (lv_at hl 3 rfl) ?_
            refine lv_aload_n hx hb dX12_ahead_166 rfl (lv_at hl 3 rfl) ?_
            refine dg_get (C := RX12) (T := TX12) (N := 77) hx hb hts (fun w h => bw_mem (wU_X12 w h)) hown K hP sM_0 rfl 0 (by decide) (hts _ (bw_mem wB_874)) (fun _ h9 => h9) (v := .ref (o + 1)) (show S_881.1 0 0 = .ref (o + 1) from dg_I.rel (d := 1) I_881 sM_0 (by decide +kernel)) dX12_ahead_167 ?_
            refine lv_iload_n hx hb dX12_ahead_170 rfl (lv_at hl 2 rfl) ?_
            have hin_1250 : vp_in x_30 1800 := (dk_inv (by omega) (by omega))
            refine dg_iald hx hb K hP sM_1 hin_1250 dX12_ahead_171 (fun y_1251 ey_1251 => ?_)
            obtain rfl : x_461 = y_1251 := ((ey_1251.trans (congrFun ((dg_uF_f e_881 1).trans ((dg_uF_f e_879 1).trans ((dg_uF_f e_877 1).trans (dg_uF_f e_876 1)))) _)).trans frw_873_0).symm
            refine dg_put (ci := 12) (v := .int x_461) (ty := tyX12 6) (C := RX12) (T := TX12) (N := 77) hx hb hts (fun w h => bw_mem (wU_X12 w h)) tyX12 tyX12_ok nmX12 hown K hP hS hA1 sM_0 rfl 6 (by decide) (hts _ (bw_mem wB_1141)) (fun _ h9 => h9) rfl (by decide +kernel) rfl rfl dX12_ahead_172 (fun S_1252 e_1252 H locs hP hS => ?_)
            have I_1252 := dg_I.uFi (lo := 0) (hi := 9999) I_881 e_1252 sM_0 (by decide +kernel) (show 0 ≤ (x_461).toInt ∧ (x_461).toInt ≤ 9999 from (by omega))
            have M_1252 := dg_sm.uF M_881 e_1252 sM_0 (by decide)
            have hz_1253 : (3 : Int32).toInt = 3 := by decide +kernel
            refine W.widen (k := 0) (n := 0) (Nat.le_of_ble_eq_true rfl) (Nat.le_of_ble_eq_true rfl) ?_
            exact dg_vret hx hb hr hlocks hP hS ⟨I_1252, M_1252, ⟨3, x_30, x_880, (((dg_uF_ne e_1252 (fun z => absurd z.2 (by decide))).trans (dg_uF_ne e_881 (fun z => absurd z.2 (by decide)))).trans (dg_uF_at e_879)), (((dg_uF_ne e_1252 (fun z => absurd z.2 (by decide))).trans ((dg_uF_ne e_881 (fun z => absurd z.2 (by decide))).trans ((dg_uF_ne e_879 (fun z => absurd z.2 (by decide))).trans ((dg_uF_ne e_877 (fun z => absurd z.2 (by decide))).trans (dg_uF_ne e_876 (fun z => absurd z.2 (by decide))))))).trans ff_873_4_0), ((dg_uF_ne e_1252 (fun z => absurd z.2 (by decide))).trans (dg_uF_at e_881)), (by omega)⟩, trivial⟩ dX12_ahead_175
      refine lv_if_ne (tgt := 98) hx hb dX12_ahead_91 (by decide) (fun c_1254 => ?_) (fun c_1254 => ?_)
      · have jc_1254 := dk_neqc (k := 0) (by decide +kernel) c_1254
        refine lv_iload_n hx hb dX12_ahead_98 rfl (lv_at hl 2 rfl) ?_
        refine lv_if_le (tgt := 135) hx hb dX12_ahead_99 (by decide) (fun c_1255 => ?_) (fun c_1255 => ?_)
        · have jc_1255 := dk_lec (k := 0) (by decide +kernel) c_1255
          have hz_1256 : (-1 : Int32).toInt = (-1) := by decide +kernel
          exact J_874 (-1) (by decide +kernel) S_458 I_458 M_458 (((dg_uF_ne e_458 (fun z => absurd z.2 (by decide))).trans ((dg_uF_ne e_456 (fun z => absurd z.2 (by decide))).trans (dg_uF_ne e_454 (fun z => absurd z.2 (by decide))))).trans (dg_uF_at e_453)) (((dg_uF_ne e_458 (fun z => absurd z.2 (by decide))).trans (dg_uF_ne e_456 (fun z => absurd z.2 (by decide)))).trans (dg_uF_at e_454)) ((dg_uF_ne e_458 (fun z => absurd z.2 (by decide))).trans (dg_uF_at e_456)) (dg_uF_at e_458) ex_461.symm _ _ hP hS _ (lv_sub hl [0, 1, 2, 3] rfl)
        · have jc_1255 := dk_nlec (k := 0) (by decide +kernel) c_1255
          refine lv_aload_n hx hb dX12_ahead_102 rfl (lv_at hl 3 rfl) ?_
          refine dg_get (C := RX12) (T := TX12) (N := 77) hx hb hts (fun w h => bw_mem (wU_X12 w h)) hown K hP sM_0 rfl 0 (by decide) (hts _ (bw_mem wB_874)) (fun _ h9 => h9) (v := .ref (o + 1)) (show S_458.1 0 0 = .ref (o + 1) from dg_I.rel (d := 1) I_458 sM_0 (by decide +kernel)) dX12_ahead_103 ?_
          refine lv_iload_n hx hb dX12_ahead_106 rfl (lv_at hl 2 rfl) ?_
          refine lv_iconst (v := 1) hx hb dX12_ahead_107 (by decide +kernel) ?_
          refine lv_isub hx hb dX12_ahead_108 ?_
          refine lv_topi (fun x_1257 ex_1257 => ?_)
          have jx_1257 : (x_1257).toInt = (x_30).toInt - 1 := by rw [ex_1257]; exact dk_subT rfl (by decide +kernel) (by omega) (by omega)
          have hin_1258 : vp_in x_1257 1800 := (dk_inv (by omega) (by omega))
          refine dg_iald hx hb K hP sM_1 hin_1258 dX12_ahead_109 (fun x_1259 ex_1259 => ?_)
          have b_x_1259 := dk_all_at (dg_I.row (lo := 0) (hi := 255) I_458 sM_1 (by decide +kernel)) hin_1258 ex_1259
          have htw_1259 : (x_1257 : Int32).toInt = (x_30 : Int32).toInt → (x_1259).toInt = (x_461 : Int32).toInt := fun h => by have h9 := Int32.toInt_inj.mp h; rw [ex_1259, h9]; exact congrArg Int32.toInt ex_461.symm
          refine dg_calli hS hA1 hA (va_runS (As := [.int x_1259]) (rest := []) F (c_m_isLetter l g D o S_458 x_1259 I_458 H.size) (va_cwS 1 hts (bw_S wB_1147 wB_1148 wB_881 wB_1146) rfl rfl rfl (by decide +kernel) ⟨Nat.le_of_ble_eq_true rfl, Nat.le_of_ble_eq_true rfl⟩) (dg_preS K ST hP hS hA1 hA) rfl rfl hl.1 rfl (lv_room (Nat.le_of_ble_eq_true rfl)) dX12_ahead_110 ⟨Nat.le_of_ble_eq_true rfl, Nat.le_of_ble_eq_true rfl⟩) (fun x_1261 S_1262 hw_1262 H locs hP hS => ?_)
          rw [hw_1262.1] at hP
          obtain ⟨hq_1262, w_1262_0, w_1262_1, -⟩ := hw_1262
          have w_1262_0 : 0 ≤ (x_1261).toInt ∧ (x_1261).toInt ≤ 1 := w_1262_0
          have w_1262_1 : (x_1261).toInt = 1 ↔ (97 ≤ (x_1259).toInt ∧ (x_1259).toInt ≤ 122) := w_1262_1
          refine lv_if_ne (tgt := 130) hx hb dX12_ahead_113 (by decide) (fun c_1263 => ?_) (fun c_1263 => ?_)
          · have jc_1263 := dk_neqc (k := 0) (by decide +kernel) c_1263
            refine lv_aload_n hx hb dX12_ahead_130 rfl (lv_at hl 3 rfl) ?_
            refine lv_iload_n hx hb dX12_ahead_131 rfl (lv_at hl 2 rfl) ?_
            refine dg_put (ci := 12) (v := .int x_30) (ty := tyX12 12) (C := RX12) (T := TX12) (N := 77) hx hb hts (fun w h => bw_mem (wU_X12 w h)) tyX12 tyX12_ok nmX12 hown K hP hS hA1 sM_0 rfl 12 (by decide) (hts _ (bw_mem wB_1135)) (fun _ h9 => h9) rfl (by decide +kernel) rfl rfl dX12_ahead_132 (fun S_1264 e_1264 H locs hP hS => ?_)
            have I_1264 := dg_I.uFi (lo := (-2147483648)) (hi := 2147483647) I_458 e_1264 sM_0 (by decide +kernel) (show (-2147483648) ≤ (x_30).toInt ∧ (x_30).toInt ≤ 2147483647 from (dk_full _))
            have M_1264 := dg_sm.uF M_458 e_1264 sM_0 (by decide)
            exact J_874 x_30 (by omega) S_1264 I_1264 M_1264 (((dg_uF_ne e_1264 (fun z => absurd z.2 (by decide))).trans ((dg_uF_ne e_458 (fun z => absurd z.2 (by decide))).trans ((dg_uF_ne e_456 (fun z => absurd z.2 (by decide))).trans (dg_uF_ne e_454 (fun z => absurd z.2 (by decide)))))).trans (dg_uF_at e_453)) (((dg_uF_ne e_1264 (fun z => absurd z.2 (by decide))).trans ((dg_uF_ne e_458 (fun z => absurd z.2 (by decide))).trans (dg_uF_ne e_456 (fun z => absurd z.2 (by decide))))).trans (dg_uF_at e_454)) (((dg_uF_ne e_1264 (fun z => absurd z.2 (by decide))).trans (dg_uF_ne e_458 (fun z => absurd z.2 (by decide)))).trans (dg_uF_at e_456)) (dg_uF_at e_1264) ((congrFun (dg_uF_f e_1264 1) _).trans ex_461.symm) _ _ hP hS _ (lv_sub hl [0, 1, 2, 3] rfl)
          · have jc_1263 := dk_eqc (k := 0) (by decide +kernel) c_1263
            refine lv_aload_n hx hb dX12_ahead_116 rfl (lv_at hl 3 rfl) ?_
            refine dg_get (C := RX12) (T := TX12) (N := 77) hx hb hts (fun w h => bw_mem (wU_X12 w h)) hown K hP sM_0 rfl 0 (by decide) (hts _ (bw_mem wB_874)) (fun _ h9 => h9) (v := .ref (o + 1)) (show S_458.1 0 0 = .ref (o + 1) from dg_I.rel (d := 1) I_458 sM_0 (by decide +kernel)) dX12_ahead_117 ?_
            refine lv_iload_n hx hb dX12_ahead_120 rfl (lv_at hl 2 rfl) ?_
            refine lv_iconst (v := 1) hx hb dX12_ahead_121 (by decide +kernel) ?_
            refine lv_isub hx hb dX12_ahead_122 ?_
            refine lv_topi (fun x_1265 ex_1265 => ?_)
            have jx_1265 : (x_1265).toInt = (x_30).toInt - 1 := by rw [ex_1265]; exact dk_subT rfl (by decide +kernel) (by omega) (by omega)
            have hin_1266 : vp_in x_1265 1800 := (dk_inv (by omega) (by omega))
            refine dg_iald hx hb K hP sM_1 hin_1266 dX12_ahead_123 (fun x_1267 ex_1267 => ?_)
            have b_x_1267 := dk_all_at (dg_I.row (lo := 0) (hi := 255) I_458 sM_1 (by decide +kernel)) hin_1266 ex_1267
            have htw_1267 : (x_1265 : Int32).toInt = (x_30 : Int32).toInt → (x_1267).toInt = (x_461 : Int32).toInt := fun h => by have h9 := Int32.toInt_inj.mp h; rw [ex_1267, h9]; exact congrArg Int32.toInt ex_461.symm
            have htw_1268 : (x_1265 : Int32).toInt = (x_1257 : Int32).toInt → (x_1267).toInt = (x_1259 : Int32).toInt := fun h => by have h9 := Int32.toInt_inj.mp h; rw [ex_1267, h9]; exact congrArg Int32.toInt ex_1259.symm
            refine dg_calli hS hA1 hA (va_runS (As := [.int x_1267]) (rest := []) F (c_m_isDigit l g D o S_458 x_1267 I_458 H.size) (va_cwS 1 hts (bw_S wB_1150 wB_1151 wB_881 wB_1149) rfl rfl rfl (by decide +kernel) ⟨Nat.le_of_ble_eq_true rfl, Nat.le_of_ble_eq_true rfl⟩) (dg_preS K ST hP hS hA1 hA) rfl rfl hl.1 rfl (lv_room (Nat.le_of_ble_eq_true rfl)) dX12_ahead_124 ⟨Nat.le_of_ble_eq_true rfl, Nat.le_of_ble_eq_true rfl⟩) (fun x_1270 S_1271 hw_1271 H locs hP hS => ?_)
            rw [hw_1271.1] at hP
            obtain ⟨hq_1271, w_1271_0, w_1271_1, -⟩ := hw_1271
            have w_1271_0 : 0 ≤ (x_1270).toInt ∧ (x_1270).toInt ≤ 1 := w_1271_0
            have w_1271_1 : (x_1270).toInt = 1 ↔ (48 ≤ (x_1267).toInt ∧ (x_1267).toInt ≤ 57) := w_1271_1
            refine lv_if_eq (tgt := 135) hx hb dX12_ahead_127 (by decide) (fun c_1272 => ?_) (fun c_1272 => ?_)
            · have jc_1272 := dk_eqc (k := 0) (by decide +kernel) c_1272
              have hz_1273 : (-1 : Int32).toInt = (-1) := by decide +kernel
              exact J_874 (-1) (by decide +kernel) S_458 I_458 M_458 (((dg_uF_ne e_458 (fun z => absurd z.2 (by decide))).trans ((dg_uF_ne e_456 (fun z => absurd z.2 (by decide))).trans (dg_uF_ne e_454 (fun z => absurd z.2 (by decide))))).trans (dg_uF_at e_453)) (((dg_uF_ne e_458 (fun z => absurd z.2 (by decide))).trans (dg_uF_ne e_456 (fun z => absurd z.2 (by decide)))).trans (dg_uF_at e_454)) ((dg_uF_ne e_458 (fun z => absurd z.2 (by decide))).trans (dg_uF_at e_456)) (dg_uF_at e_458) ex_461.symm _ _ hP hS _ (lv_sub hl [0, 1, 2, 3] rfl)
            · have jc_1272 := dk_neqc (k := 0) (by decide +kernel) c_1272
              refine lv_aload_n hx hb dX12_ahead_130 rfl (lv_at hl 3 rfl) ?_
              refine lv_iload_n hx hb dX12_ahead_131 rfl (lv_at hl 2 rfl) ?_
              refine dg_put (ci := 12) (v := .int x_30) (ty := tyX12 12) (C := RX12) (T := TX12) (N := 77) hx hb hts (fun w h => bw_mem (wU_X12 w h)) tyX12 tyX12_ok nmX12 hown K hP hS hA1 sM_0 rfl 12 (by decide) (hts _ (bw_mem wB_1135)) (fun _ h9 => h9) rfl (by decide +kernel) rfl rfl dX12_ahead_132 (fun S_1274 e_1274 H locs hP hS => ?_)
              have I_1274 := dg_I.uFi (lo := (-2147483648)) (hi := 2147483647) I_458 e_1274 sM_0 (by decide +kernel) (show (-2147483648) ≤ (x_30).toInt ∧ (x_30).toInt ≤ 2147483647 from (dk_full _))
              have M_1274 := dg_sm.uF M_458 e_1274 sM_0 (by decide)
              exact J_874 x_30 (by omega) S_1274 I_1274 M_1274 (((dg_uF_ne e_1274 (fun z => absurd z.2 (by decide))).trans ((dg_uF_ne e_458 (fun z => absurd z.2 (by decide))).trans ((dg_uF_ne e_456 (fun z => absurd z.2 (by decide))).trans (dg_uF_ne e_454 (fun z => absurd z.2 (by decide)))))).trans (dg_uF_at e_453)) (((dg_uF_ne e_1274 (fun z => absurd z.2 (by decide))).trans ((dg_uF_ne e_458 (fun z => absurd z.2 (by decide))).trans (dg_uF_ne e_456 (fun z => absurd z.2 (by decide))))).trans (dg_uF_at e_454)) (((dg_uF_ne e_1274 (fun z => absurd z.2 (by decide))).trans (dg_uF_ne e_458 (fun z => absurd z.2 (by decide)))).trans (dg_uF_at e_456)) (dg_uF_at e_1274) ((congrFun (dg_uF_f e_1274 1) _).trans ex_461.symm) _ _ hP hS _ (lv_sub hl [0, 1, 2, 3] rfl)
      · have jc_1254 := dk_eqc (k := 0) (by decide +kernel) c_1254
        refine lv_iload_n hx hb dX12_ahead_94 rfl (lv_at hl 0 rfl) ?_
        refine lv_if_eq (tgt := 135) hx hb dX12_ahead_95 (by decide) (fun c_1275 => ?_) (fun c_1275 => ?_)
        · have jc_1275 := dk_eqc (k := 0) (by decide +kernel) c_1275
          have hz_1276 : (-1 : Int32).toInt = (-1) := by decide +kernel
          exact J_874 (-1) (by decide +kernel) S_458 I_458 M_458 (((dg_uF_ne e_458 (fun z => absurd z.2 (by decide))).trans ((dg_uF_ne e_456 (fun z => absurd z.2 (by decide))).trans (dg_uF_ne e_454 (fun z => absurd z.2 (by decide))))).trans (dg_uF_at e_453)) (((dg_uF_ne e_458 (fun z => absurd z.2 (by decide))).trans (dg_uF_ne e_456 (fun z => absurd z.2 (by decide)))).trans (dg_uF_at e_454)) ((dg_uF_ne e_458 (fun z => absurd z.2 (by decide))).trans (dg_uF_at e_456)) (dg_uF_at e_458) ex_461.symm _ _ hP hS _ (lv_sub hl [0, 1, 2, 3] rfl)
        · have jc_1275 := dk_neqc (k := 0) (by decide +kernel) c_1275
          refine lv_iload_n hx hb dX12_ahead_98 rfl (lv_at hl 2 rfl) ?_
          refine lv_if_le (tgt := 135) hx hb dX12_ahead_99 (by decide) (fun c_1277 => ?_) (fun c_1277 => ?_)
          · have jc_1277 := dk_lec (k := 0) (by decide +kernel) c_1277
            have hz_1278 : (-1 : Int32).toInt = (-1) := by decide +kernel
            exact J_874 (-1) (by decide +kernel) S_458 I_458 M_458 (((dg_uF_ne e_458 (fun z => absurd z.2 (by decide))).trans ((dg_uF_ne e_456 (fun z => absurd z.2 (by decide))).trans (dg_uF_ne e_454 (fun z => absurd z.2 (by decide))))).trans (dg_uF_at e_453)) (((dg_uF_ne e_458 (fun z => absurd z.2 (by decide))).trans (dg_uF_ne e_456 (fun z => absurd z.2 (by decide)))).trans (dg_uF_at e_454)) ((dg_uF_ne e_458 (fun z => absurd z.2 (by decide))).trans (dg_uF_at e_456)) (dg_uF_at e_458) ex_461.symm _ _ hP hS _ (lv_sub hl [0, 1, 2, 3] rfl)
          · have jc_1277 := dk_nlec (k := 0) (by decide +kernel) c_1277
            refine lv_aload_n hx hb dX12_ahead_102 rfl (lv_at hl 3 rfl) ?_
            refine dg_get (C := RX12) (T := TX12) (N := 77) hx hb hts (fun w h => bw_mem (wU_X12 w h)) hown K hP sM_0 rfl 0 (by decide) (hts _ (bw_mem wB_874)) (fun _ h9 => h9) (v := .ref (o + 1)) (show S_458.1 0 0 = .ref (o + 1) from dg_I.rel (d := 1) I_458 sM_0 (by decide +kernel)) dX12_ahead_103 ?_
            refine lv_iload_n hx hb dX12_ahead_106 rfl (lv_at hl 2 rfl) ?_
            refine lv_iconst (v := 1) hx hb dX12_ahead_107 (by decide +kernel) ?_
            refine lv_isub hx hb dX12_ahead_108 ?_
            refine lv_topi (fun x_1279 ex_1279 => ?_)
            have jx_1279 : (x_1279).toInt = (x_30).toInt - 1 := by rw [ex_1279]; exact dk_subT rfl (by decide +kernel) (by omega) (by omega)
            have hin_1280 : vp_in x_1279 1800 := (dk_inv (by omega) (by omega))
            refine dg_iald hx hb K hP sM_1 hin_1280 dX12_ahead_109 (fun x_1281 ex_1281 => ?_)
            have b_x_1281 := dk_all_at (dg_I.row (lo := 0) (hi := 255) I_458 sM_1 (by decide +kernel)) hin_1280 ex_1281
            have htw_1281 : (x_1279 : Int32).toInt = (x_30 : Int32).toInt → (x_1281).toInt = (x_461 : Int32).toInt := fun h => by have h9 := Int32.toInt_inj.mp h; rw [ex_1281, h9]; exact congrArg Int32.toInt ex_461.symm
            refine dg_calli hS hA1 hA (va_runS (As := [.int x_1281]) (rest := []) F (c_m_isLetter l g D o S_458 x_1281 I_458 H.size) (va_cwS 1 hts (bw_S wB_1147 wB_1148 wB_881 wB_1146) rfl rfl rfl (by decide +kernel) ⟨Nat.le_of_ble_eq_true rfl, Nat.le_of_ble_eq_true rfl⟩) (dg_preS K ST hP hS hA1 hA) rfl rfl hl.1 rfl (lv_room (Nat.le_of_ble_eq_true rfl)) dX12_ahead_110 ⟨Nat.le_of_ble_eq_true rfl, Nat.le_of_ble_eq_true rfl⟩) (fun x_1283 S_1284 hw_1284 H locs hP hS => ?_)
            rw [hw_1284.1] at hP
            obtain ⟨hq_1284, w_1284_0, w_1284_1, -⟩ := hw_1284
            have w_1284_0 : 0 ≤ (x_1283).toInt ∧ (x_1283).toInt ≤ 1 := w_1284_0
            have w_1284_1 : (x_1283).toInt = 1 ↔ (97 ≤ (x_1281).toInt ∧ (x_1281).toInt ≤ 122) := w_1284_1
            refine lv_if_ne (tgt := 130) hx hb dX12_ahead_113 (by decide) (fun c_1285 => ?_) (fun c_1285 => ?_)
            · have jc_1285 := dk_neqc (k := 0) (by decide +kernel) c_1285
              refine lv_aload_n hx hb dX12_ahead_130 rfl (lv_at hl 3 rfl) ?_
              refine lv_iload_n hx hb dX12_ahead_131 rfl (lv_at hl 2 rfl) ?_
              refine dg_put (ci := 12) (v := .int x_30) (ty := tyX12 12) (C := RX12) (T := TX12) (N := 77) hx hb hts (fun w h => bw_mem (wU_X12 w h)) tyX12 tyX12_ok nmX12 hown K hP hS hA1 sM_0 rfl 12 (by decide) (hts _ (bw_mem wB_1135)) (fun _ h9 => h9) rfl (by decide +kernel) rfl rfl dX12_ahead_132 (fun S_1286 e_1286 H locs hP hS => ?_)
              have I_1286 := dg_I.uFi (lo := (-2147483648)) (hi := 2147483647) I_458 e_1286 sM_0 (by decide +kernel) (show (-2147483648) ≤ (x_30).toInt ∧ (x_30).toInt ≤ 2147483647 from (dk_full _))
              have M_1286 := dg_sm.uF M_458 e_1286 sM_0 (by decide)
              exact J_874 x_30 (by omega) S_1286 I_1286 M_1286 (((dg_uF_ne e_1286 (fun z => absurd z.2 (by decide))).trans ((dg_uF_ne e_458 (fun z => absurd z.2 (by decide))).trans ((dg_uF_ne e_456 (fun z => absurd z.2 (by decide))).trans (dg_uF_ne e_454 (fun z => absurd z.2 (by decide)))))).trans (dg_uF_at e_453)) (((dg_uF_ne e_1286 (fun z => absurd z.2 (by decide))).trans ((dg_uF_ne e_458 (fun z => absurd z.2 (by decide))).trans (dg_uF_ne e_456 (fun z => absurd z.2 (by decide))))).trans (dg_uF_at e_454)) (((dg_uF_ne e_1286 (fun z => absurd z.2 (by decide))).trans (dg_uF_ne e_458 (fun z => absurd z.2 (by decide)))).trans (dg_uF_at e_456)) (dg_uF_at e_1286) ((congrFun (dg_uF_f e_1286 1) _).trans ex_461.symm) _ _ hP hS _ (lv_sub hl [0, 1, 2, 3] rfl)
            · have jc_1285 := dk_eqc (k := 0) (by decide +kernel) c_1285
              refine lv_aload_n hx hb dX12_ahead_116 rfl (lv_at hl 3 rfl) ?_
              refine dg_get (C := RX12) (T := TX12) (N := 77) hx hb hts (fun w h => bw_mem (wU_X12 w h)) hown K hP sM_0 rfl 0 (by decide) (hts _ (bw_mem wB_874)) (fun _ h9 => h9) (v := .ref (o + 1)) (show S_458.1 0 0 = .ref (o + 1) from dg_I.rel (d := 1) I_458 sM_0 (by decide +kernel)) dX12_ahead_117 ?_
              refine lv_iload_n hx hb dX12_ahead_120 rfl (lv_at hl 2 rfl) ?_
              refine lv_iconst (v := 1) hx hb dX12_ahead_121 (by decide +kernel) ?_
              refine lv_isub hx hb dX12_ahead_122 ?_
              refine lv_topi (fun x_1287 ex_1287 => ?_)
              have jx_1287 : (x_1287).toInt = (x_30).toInt - 1 := by rw [ex_1287]; exact dk_subT rfl (by decide +kernel) (by omega) (by omega)
              have hin_1288 : vp_in x_1287 1800 := (dk_inv (by omega) (by omega))
              refine dg_iald hx hb K hP sM_1 hin_1288 dX12_ahead_123 (fun x_1289 ex_1289 => ?_)
              have b_x_1289 := dk_all_at (dg_I.row (lo := 0) (hi := 255) I_458 sM_1 (by decide +kernel)) hin_1288 ex_1289
              have htw_1289 : (x_1287 : Int32).toInt = (x_30 : Int32).toInt → (x_1289).toInt = (x_461 : Int32).toInt := fun h => by have h9 := Int32.toInt_inj.mp h; rw [ex_1289, h9]; exact congrArg Int32.toInt ex_461.symm
              have htw_1290 : (x_1287 : Int32).toInt = (x_1279 : Int32).toInt → (x_1289).toInt = (x_1281 : Int32).toInt := fun h => by have h9 := Int32.toInt_inj.mp h; rw [ex_1289, h9]; exact congrArg Int32.toInt ex_1281.symm
              refine dg_calli hS hA1 hA (va_runS (As := [.int x_1289]) (rest := []) F (c_m_isDigit l g D o S_458 x_1289 I_458 H.size) (va_cwS 1 hts (bw_S wB_1150 wB_1151 wB_881 wB_1149) rfl rfl rfl (by decide +kernel) ⟨Nat.le_of_ble_eq_true rfl, Nat.le_of_ble_eq_true rfl⟩) (dg_preS K ST hP hS hA1 hA) rfl rfl hl.1 rfl (lv_room (Nat.le_of_ble_eq_true rfl)) dX12_ahead_124 ⟨Nat.le_of_ble_eq_true rfl, Nat.le_of_ble_eq_true rfl⟩) (fun x_1292 S_1293 hw_1293 H locs hP hS => ?_)
              rw [hw_1293.1] at hP
              obtain ⟨hq_1293, w_1293_0, w_1293_1, -⟩ := hw_1293
              have w_1293_0 : 0 ≤ (x_1292).toInt ∧ (x_1292).toInt ≤ 1 := w_1293_0
              have w_1293_1 : (x_1292).toInt = 1 ↔ (48 ≤ (x_1289).toInt ∧ (x_1289).toInt ≤ 57) := w_1293_1
              refine lv_if_eq (tgt := 135) hx hb dX12_ahead_127 (by decide) (fun c_1294 => ?_) (fun c_1294 => ?_)
              · have jc_1294 := dk_eqc (k := 0) (by decide +kernel) c_1294
                have hz_1295 : (-1 : Int32).toInt = (-1) := by decide +kernel
                exact J_874 (-1) (by decide +kernel) S_458 I_458 M_458 (((dg_uF_ne e_458 (fun z => absurd z.2 (by decide))).trans ((dg_uF_ne e_456 (fun z => absurd z.2 (by decide))).trans (dg_uF_ne e_454 (fun z => absurd z.2 (by decide))))).trans (dg_uF_at e_453)) (((dg_uF_ne e_458 (fun z => absurd z.2 (by decide))).trans (dg_uF_ne e_456 (fun z => absurd z.2 (by decide)))).trans (dg_uF_at e_454)) ((dg_uF_ne e_458 (fun z => absurd z.2 (by decide))).trans (dg_uF_at e_456)) (dg_uF_at e_458) ex_461.symm _ _ hP hS _ (lv_sub hl [0, 1, 2, 3] rfl)
              · have jc_1294 := dk_neqc (k := 0) (by decide +kernel) c_1294
                refine lv_aload_n hx hb dX12_ahead_130 rfl (lv_at hl 3 rfl) ?_
                refine lv_iload_n hx hb dX12_ahead_131 rfl (lv_at hl 2 rfl) ?_
                refine dg_put (ci := 12) (v := .int x_30) (ty := tyX12 12) (C := RX12) (T := TX12) (N := 77) hx hb hts (fun w h => bw_mem (wU_X12 w h)) tyX12 tyX12_ok nmX12 hown K hP hS hA1 sM_0 rfl 12 (by decide) (hts _ (bw_mem wB_1135)) (fun _ h9 => h9) rfl (by decide +kernel) rfl rfl dX12_ahead_132 (fun S_1296 e_1296 H locs hP hS => ?_)
                have I_1296 := dg_I.uFi (lo := (-2147483648)) (hi := 2147483647) I_458 e_1296 sM_0 (by decide +kernel) (show (-2147483648) ≤ (x_30).toInt ∧ (x_30).toInt ≤ 2147483647 from (dk_full _))
                have M_1296 := dg_sm.uF M_458 e_1296 sM_0 (by decide)
                exact J_874 x_30 (by omega) S_1296 I_1296 M_1296 (((dg_uF_ne e_1296 (fun z => absurd z.2 (by decide))).trans ((dg_uF_ne e_458 (fun z => absurd z.2 (by decide))).trans ((dg_uF_ne e_456 (fun z => absurd z.2 (by decide))).trans (dg_uF_ne e_454 (fun z => absurd z.2 (by decide)))))).trans (dg_uF_at e_453)) (((dg_uF_ne e_1296 (fun z => absurd z.2 (by decide))).trans ((dg_uF_ne e_458 (fun z => absurd z.2 (by decide))).trans (dg_uF_ne e_456 (fun z => absurd z.2 (by decide))))).trans (dg_uF_at e_454)) (((dg_uF_ne e_1296 (fun z => absurd z.2 (by decide))).trans (dg_uF_ne e_458 (fun z => absurd z.2 (by decide)))).trans (dg_uF_at e_456)) (dg_uF_at e_1296) ((congrFun (dg_uF_f e_1296 1) _).trans ex_461.symm) _ _ hP hS _ (lv_sub hl [0, 1, 2, 3] rfl)
    · have jc_459 := dk_nltc (k := (sl).toInt) rfl c_459
      have hz_1297 : (0 : Int32).toInt = 0 := by decide +kernel
      refine W.widen (k := 0) (n := 0) (Nat.le_of_ble_eq_true rfl) (Nat.le_of_ble_eq_true rfl) ?_
      exact dg_vret hx hb hr hlocks hP hS ⟨I_458, M_458, ⟨0, x_30, x_30, ((dg_uF_ne e_458 (fun z => absurd z.2 (by decide))).trans (dg_uF_at e_456)), (((dg_uF_ne e_458 (fun z => absurd z.2 (by decide))).trans ((dg_uF_ne e_456 (fun z => absurd z.2 (by decide))).trans (dg_uF_ne e_454 (fun z => absurd z.2 (by decide))))).trans (dg_uF_at e_453)), (((dg_uF_ne e_458 (fun z => absurd z.2 (by decide))).trans (dg_uF_ne e_456 (fun z => absurd z.2 (by decide)))).trans (dg_uF_at e_454)), (by omega)⟩, trivial⟩ dX12_ahead_69
  have L_1318 : ∀ (n : Nat) (x_1317 : Int32), (0 ≤ (x_1317).toInt ∧ (x_1317).toInt ≤ 1600) → ((se).toInt ≤ (x_1317).toInt ∧ (x_1317).toInt ≤ (sl).toInt) → ((1601 - (x_1317).toInt).toNat < n) → ∀ (H : Heap) (locs : List Loc), va_P D vwCl (dg_w g shM o rfM S) H → va_S A s.heap H locs → ∀ ls : Array Slot, lv_has ls 6 [(1, .int x_1317), (0, .ref (o + 0))] → W p l e ({ frames := 2, cells := 0, slots := 0, locals := 52 } : Room) s m args below meth c H locs 0 0 (MQ below (va_Qv (fun S' => CM o S' ∧ dg_sm shM [(0, 3), (0, 4), (0, 5), (0, 6), (0, 7), (0, 12)] [] S S' ∧ (∃ y9_3 y9_4 y9_5 : Int32, S'.1 0 3 = .int y9_3 ∧ S'.1 0 4 = .int y9_4 ∧ S'.1 0 5 = .int y9_5 ∧ ((se).toInt ≤ (y9_4).toInt ∧ (y9_4).toInt ≤ (y9_5).toInt ∧ (y9_5).toInt ≤ (sl).toInt ∧ ((y9_3).toInt ≠ 0 → (y9_4).toInt + 1 ≤ (y9_5).toInt))) ∧ True) (dg_B g D shM o rfM) A) args s 0 0 A) (F0 m 5 ls []) := by
    intro n
    induction n with
    | zero =>
      intro x_1317 b_x_1317 rel_0 hmu H locs hP hS ls hl
      omega
    | succ n ih =>
      intro x_1317 b_x_1317 rel_0 hmu H locs hP hS ls hl
      refine lv_iload_n hx hb dX12_ahead_5 rfl (lv_at hl 0 rfl) ?_
      refine lv_aload_n hx hb dX12_ahead_6 rfl (lv_at hl 1 rfl) ?_
      refine dg_get (C := RX12) (T := TX12) (N := 77) hx hb hts (fun w h => bw_mem (wU_X12 w h)) hown K hP sM_0 rfl 2 (by decide) (hts _ (bw_mem wB_1144)) (fun _ h9 => h9) (v := .int sl) f_sl dX12_ahead_7 ?_
      refine lv_icmp_ge (tgt := 41) hx hb dX12_ahead_10 (by decide) (fun c_1319 => ?_) (fun c_1319 => ?_)
      · have jc_1319 := dk_gec (k := (sl).toInt) rfl c_1319
        exact J_452 x_1317 (by omega) (by omega) _ _ hP hS _ (lv_sub hl [0, 1] rfl)
      · have jc_1319 := dk_ngec (k := (sl).toInt) rfl c_1319
        refine lv_aload_n hx hb dX12_ahead_13 rfl (lv_at hl 1 rfl) ?_
        refine dg_get (C := RX12) (T := TX12) (N := 77) hx hb hts (fun w h => bw_mem (wU_X12 w h)) hown K hP sM_0 rfl 0 (by decide) (hts _ (bw_mem wB_874)) (fun _ h9 => h9) (v := .ref (o + 1)) (show S.1 0 0 = .ref (o + 1) from dg_I.rel (d := 1) I sM_0 (by decide +kernel)) dX12_ahead_14 ?_
        refine lv_iload_n hx hb dX12_ahead_17 rfl (lv_at hl 0 rfl) ?_
        have hin_1320 : vp_in x_1317 1800 := (dk_inv (by omega) (by omega))
        refine dg_iald hx hb K hP sM_1 hin_1320 dX12_ahead_18 (fun x_1321 ex_1321 => ?_)
        have b_x_1321 := dk_all_at (dg_I.row (lo := 0) (hi := 255) I sM_1 (by decide +kernel)) hin_1320 ex_1321
        refine lv_bipush (v := 32) hx hb dX12_ahead_19 (by decide +kernel) ?_
        refine lv_icmp_eq (tgt := 35) hx hb dX12_ahead_21 (by decide) (fun c_1322 => ?_) (fun c_1322 => ?_)
        · have jc_1322 := dk_eqc (k := 32) (by decide +kernel) c_1322
          obtain ⟨x_1323, ex_1323⟩ : ∃ z, z = x_1317 + 1 := ⟨_, rfl⟩
          have jx_1323 : (x_1323).toInt = (x_1317).toInt + 1 := by rw [ex_1323]; exact dk_addT rfl (by decide +kernel) (by omega) (by omega)
          refine lv_iinc (v := x_1323) (lv' := [(1, .int x_1323), (0, .ref (o + 0))]) hx hb dX12_ahead_35 hl (k := 0) rfl (by rw [ex_1323]; rfl) (by decide) rfl (fun ls hl => ?_)
          refine lv_goto (tgt := 5) hx hb dX12_ahead_38 (by decide) ?_
          exact ih x_1323 (by omega) (by omega) (by omega) _ _ hP hS _ (lv_sub hl [0, 1] rfl)
        · have jc_1322 := dk_neqc (k := 32) (by decide +kernel) c_1322
          refine lv_aload_n hx hb dX12_ahead_24 rfl (lv_at hl 1 rfl) ?_
          refine dg_get (C := RX12) (T := TX12) (N := 77) hx hb hts (fun w h => bw_mem (wU_X12 w h)) hown K hP sM_0 rfl 0 (by decide) (hts _ (bw_mem wB_874)) (fun _ h9 => h9) (v := .ref (o + 1)) (show S.1 0 0 = .ref (o + 1) from dg_I.rel (d := 1) I sM_0 (by decide +kernel)) dX12_ahead_25 ?_
          refine lv_iload_n hx hb dX12_ahead_28 rfl (lv_at hl 0 rfl) ?_
          have hin_1324 : vp_in x_1317 1800 := (dk_inv (by omega) (by omega))
          refine dg_iald hx hb K hP sM_1 hin_1324 dX12_ahead_29 (fun y_1325 ey_1325 => ?_)
          obtain rfl : x_1321 = y_1325 := (ey_1325.trans ex_1321.symm).symm
          refine lv_bipush (v := 10) hx hb dX12_ahead_30 (by decide +kernel) ?_
          refine lv_icmp_ne (tgt := 41) hx hb dX12_ahead_32 (by decide) (fun c_1326 => ?_) (fun c_1326 => ?_)
          · have jc_1326 := dk_neqc (k := 10) (by decide +kernel) c_1326
            exact J_452 x_1317 (by omega) (by omega) _ _ hP hS _ (lv_sub hl [0, 1] rfl)
          · have jc_1326 := dk_eqc (k := 10) (by decide +kernel) c_1326
            obtain ⟨x_1327, ex_1327⟩ : ∃ z, z = x_1317 + 1 := ⟨_, rfl⟩
            have jx_1327 : (x_1327).toInt = (x_1317).toInt + 1 := by rw [ex_1327]; exact dk_addT rfl (by decide +kernel) (by omega) (by omega)
            refine lv_iinc (v := x_1327) (lv' := [(1, .int x_1327), (0, .ref (o + 0))]) hx hb dX12_ahead_35 hl (k := 0) rfl (by rw [ex_1327]; rfl) (by decide) rfl (fun ls hl => ?_)
            refine lv_goto (tgt := 5) hx hb dX12_ahead_38 (by decide) ?_
            exact ih x_1327 (by omega) (by omega) (by omega) _ _ hP hS _ (lv_sub hl [0, 1] rfl)
  exact L_1318 ((1601 - ((se : Int32)).toInt).toNat + 1) se (by omega) (by omega) (by omega) _ _ hP hS _ (lv_sub hl [0, 1] rfl)
set_option maxHeartbeats 8000000 in
set_option maxRecDepth 100000 in
theorem c_m_must (l : Launch) (g : Nat → ClassId) (D : va_G) (o : Nat) (S : dg_S) (a1 : Int32) (sg : Int32) (f_sg : S.1 0 3 = .int sg) (b_sg : 0 ≤ (sg).toInt ∧ (sg).toInt ≤ 3) (sa : Int32) (f_sa : S.1 0 4 = .int sa) (b_sa : 0 ≤ (sa).toInt ∧ (sa).toInt ≤ 1600) (se : Int32) (f_se : S.1 0 5 = .int se) (b_se : 0 ≤ (se).toInt ∧ (se).toInt ≤ 1600) (sl : Int32) (f_sl : S.1 0 2 = .int sl) (b_sl : 0 ≤ (sl).toInt ∧ (sl).toInt ≤ 1600) (fk : Int32) (f_fk : S.1 0 8 = .int fk) (b_fk : 0 ≤ (fk).toInt ∧ (fk).toInt ≤ 6) (va : Int32) (f_va : S.1 0 6 = .int va) (b_va : 0 ≤ (va).toInt ∧ (va).toInt ≤ 9999) (hlx : (sa).toInt ≤ (se).toInt ∧ (se).toInt ≤ (sl).toInt ∧ ((sg).toInt ≠ 0 → (sa).toInt + 1 ≤ (se).toInt)) (I : CM o S) (sz : Nat) : Met l yX12_must (bw yX12_must cX12_must 2 none) ({ frames := 3, cells := 0, slots := 0, locals := 77 } : Room) (dk_Pc g D (dg_w g shM o rfM S) sz [.ref (o + 0), .int a1]) (va_Qv (fun S' => CM o S' ∧ dg_sm shM [(0, 3), (0, 4), (0, 5), (0, 6), (0, 7), (0, 8), (0, 9), (0, 12)] [] S S' ∧ (∃ y9_3 y9_4 y9_5 y9_8 : Int32, S'.1 0 3 = .int y9_3 ∧ S'.1 0 4 = .int y9_4 ∧ S'.1 0 5 = .int y9_5 ∧ S'.1 0 8 = .int y9_8 ∧ (((y9_4).toInt ≤ (y9_5).toInt ∧ (y9_5).toInt ≤ (sl).toInt ∧ ((y9_3).toInt ≠ 0 → (y9_4).toInt + 1 ≤ (y9_5).toInt)) ∧ (sa).toInt ≤ (y9_4).toInt ∧ ((fk).toInt ≠ 0 → (y9_8).toInt ≠ 0) ∧ ((y9_8).toInt = 0 → (sa).toInt + 1 ≤ (y9_4).toInt))) ∧ True) (dg_B g D shM o rfM) (dg_A o shM.length sz)) 0 0 (dg_A o shM.length sz) := by
  refine dg_met (cc := cX12_must) (maxL := 2) (ret := none) (by decide) rfl (Nat.le_of_ble_eq_true rfl) ?_
  intro p e s m args below meth c A hAe harg hx hb hr hml hts hown hlocks hin hP K hS hA1 hA ST hsz ls hl
  rw [← hAe]
  have F : CallFix p m c cX12_must 2 s args (bw yX12_must cX12_must 2 none) RX12 := ⟨hx, hb, hml, hown, hts⟩
  have hl : lv_has ls 2 [(0, .ref (o + 0)), (1, .int a1)] := hl
  have M_0 : dg_sm shM [(0, 3), (0, 4), (0, 5), (0, 6), (0, 7), (0, 8), (0, 9), (0, 12)] [] S S := dg_sm.rf
  refine lv_aload_n hx hb dX12_must_0 rfl (lv_at hl 0 rfl) ?_
  refine dg_callv hS hA1 hA (va_runV (As := []) (rest := []) F (c_m_lex l g D o S fk f_fk (by omega) I s.heap.size) (cwV 0 hts (bw_V wB_1153 wB_1154 wB_1155 wB_881 wB_1152) rfl rfl rfl (by decide +kernel) ⟨Nat.le_of_ble_eq_true rfl, Nat.le_of_ble_eq_true rfl⟩) (dg_preV sM_0 rfl K ST hP hS hA1 hA) rfl rfl hl.1 rfl (lv_room (Nat.le_of_ble_eq_true rfl)) dX12_must_1 ⟨Nat.le_of_ble_eq_true rfl, Nat.le_of_ble_eq_true rfl⟩) (fun S_1 hw_1 H locs hP hS => ?_)
  obtain ⟨I_1, m_1, w_1_0, -⟩ := hw_1
  have M_1 := dg_sm.tr M_0 m_1 (by decide) (by decide)
  obtain ⟨y_2, f_y_2, w_1_0⟩ := w_1_0
  have w_1_0 : (fk).toInt ≠ 0 → (y_2).toInt = (fk).toInt := w_1_0
  have b_y_2 : 0 ≤ (y_2).toInt ∧ (y_2).toInt ≤ 6 := dg_I.intb (lo := 0) (hi := 6) I_1 sM_0 (by decide +kernel) f_y_2
  refine lv_aload_n hx hb dX12_must_4 rfl (lv_at hl 0 rfl) ?_
  refine lv_iload_n hx hb dX12_must_5 rfl (lv_at hl 1 rfl) ?_
  refine dg_calli hS hA1 hA (va_runV (As := [.int a1]) (rest := []) F (c_m_isSign l g D o S_1 a1 sg ((m_1.1 0 3 _ sM_0 (by decide)).trans f_sg) (by omega) va ((m_1.1 0 6 _ sM_0 (by decide)).trans f_va) (by omega) I_1 H.size) (cwV 1 hts (bw_V wB_1157 wB_1158 wB_1159 wB_881 wB_1156) rfl rfl rfl (by decide +kernel) ⟨Nat.le_of_ble_eq_true rfl, Nat.le_of_ble_eq_true rfl⟩) (dg_preV sM_0 rfl K ST hP hS hA1 hA) rfl rfl hl.1 rfl (lv_room (Nat.le_of_ble_eq_true rfl)) dX12_must_6 ⟨Nat.le_of_ble_eq_true rfl, Nat.le_of_ble_eq_true rfl⟩) (fun x_3 S_4 hw_4 H locs hP hS => ?_)
  rw [hw_4.1] at hP
  obtain ⟨hq_4, w_4_0, w_4_1, -⟩ := hw_4
  have w_4_0 : 0 ≤ (x_3).toInt ∧ (x_3).toInt ≤ 1 := w_4_0
  have w_4_1 : (x_3).toInt = 1 ↔ ((sg).toInt = 3 ∧ (va).toInt = (a1).toInt) := w_4_1
  refine lv_if_ne (tgt := 21) hx hb dX12_must_9 (by decide) (fun c_5 => ?_) (fun c_5 => ?_)
  · have jc_5 := dk_neqc (k := 0) (by decide +kernel) c_5
    have w_4_1_r := w_4_1.mp (by omega)
    clear w_4_1
    refine lv_aload_n hx hb dX12_must_21 rfl (lv_at hl 0 rfl) ?_
    refine dg_get (C := RX12) (T := TX12) (N := 77) hx hb hts (fun w h => bw_mem (wU_X12 w h)) hown K hP sM_0 rfl 8 (by decide) (hts _ (bw_mem wB_1133)) (fun _ h9 => h9) (v := .int y_2) f_y_2 dX12_must_22 ?_
    refine lv_if_ne (tgt := 32) hx hb dX12_must_25 (by decide) (fun c_6 => ?_) (fun c_6 => ?_)
    · have jc_6 := dk_neqc (k := 0) (by decide +kernel) c_6
      refine W.widen (k := 0) (n := 0) (Nat.le_of_ble_eq_true rfl) (Nat.le_of_ble_eq_true rfl) ?_
      exact dg_vret hx hb hr hlocks hP hS ⟨I_1, M_1, ⟨sg, sa, se, y_2, ((m_1.1 0 3 _ sM_0 (by decide)).trans f_sg), ((m_1.1 0 4 _ sM_0 (by decide)).trans f_sa), ((m_1.1 0 5 _ sM_0 (by decide)).trans f_se), f_y_2, (by omega)⟩, trivial⟩ dX12_must_32
    · have jc_6 := dk_eqc (k := 0) (by decide +kernel) c_6
      refine lv_aload_n hx hb dX12_must_28 rfl (lv_at hl 0 rfl) ?_
      refine dg_callv hS hA1 hA (va_runV (As := []) (rest := []) F (c_m_ahead l g D o S_1 se ((m_1.1 0 5 _ sM_0 (by decide)).trans f_se) (by omega) sl ((m_1.1 0 2 _ sM_0 (by decide)).trans f_sl) (by omega) (by omega) I_1 H.size) (cwV 0 hts (bw_V wB_1161 wB_1162 wB_1163 wB_881 wB_1160) rfl rfl rfl (by decide +kernel) ⟨Nat.le_of_ble_eq_true rfl, Nat.le_of_ble_eq_true rfl⟩) (dg_preV sM_0 rfl K ST hP hS hA1 hA) rfl rfl hl.1 rfl (lv_room (Nat.le_of_ble_eq_true rfl)) dX12_must_29 ⟨Nat.le_of_ble_eq_true rfl, Nat.le_of_ble_eq_true rfl⟩) (fun S_7 hw_7 H locs hP hS => ?_)
      obtain ⟨I_7, m_7, w_7_0, -⟩ := hw_7
      have M_7 := dg_sm.tr M_1 m_7 (by decide) (by decide)
      obtain ⟨y_8, y_9, y_10, f_y_8, f_y_9, f_y_10, w_7_0⟩ := w_7_0
      have w_7_0 : (se).toInt ≤ (y_9).toInt ∧ (y_9).toInt ≤ (y_10).toInt ∧ (y_10).toInt ≤ (sl).toInt ∧ ((y_8).toInt ≠ 0 → (y_9).toInt + 1 ≤ (y_10).toInt) := w_7_0
      have b_y_8 : 0 ≤ (y_8).toInt ∧ (y_8).toInt ≤ 3 := dg_I.intb (lo := 0) (hi := 3) I_7 sM_0 (by decide +kernel) f_y_8
      have b_y_9 : 0 ≤ (y_9).toInt ∧ (y_9).toInt ≤ 1600 := dg_I.intb (lo := 0) (hi := 1600) I_7 sM_0 (by decide +kernel) f_y_9
      have b_y_10 : 0 ≤ (y_10).toInt ∧ (y_10).toInt ≤ 1600 := dg_I.intb (lo := 0) (hi := 1600) I_7 sM_0 (by decide +kernel) f_y_10
      refine W.widen (k := 0) (n := 0) (Nat.le_of_ble_eq_true rfl) (Nat.le_of_ble_eq_true rfl) ?_
      exact dg_vret hx hb hr hlocks hP hS ⟨I_7, M_7, ⟨y_8, y_9, y_10, y_2, f_y_8, f_y_9, f_y_10, ((m_7.1 0 8 _ sM_0 (by decide)).trans f_y_2), (by omega)⟩, trivial⟩ dX12_must_32
  · have jc_5 := dk_eqc (k := 0) (by decide +kernel) c_5
    clear w_4_1
    refine lv_aload_n hx hb dX12_must_12 rfl (lv_at hl 0 rfl) ?_
    refine lv_iconst (v := 1) hx hb dX12_must_13 (by decide +kernel) ?_
    refine lv_aload_n hx hb dX12_must_14 rfl (lv_at hl 0 rfl) ?_
    refine dg_get (C := RX12) (T := TX12) (N := 77) hx hb hts (fun w h => bw_mem (wU_X12 w h)) hown K hP sM_0 rfl 4 (by decide) (hts _ (bw_mem wB_1145)) (fun _ h9 => h9) (v := .int sa) ((m_1.1 0 4 _ sM_0 (by decide)).trans f_sa) dX12_must_15 ?_
    have hz_11 : (1 : Int32).toInt = 1 := by decide +kernel
    refine dg_callv hS hA1 hA (va_runV (As := [.int 1, .int sa]) (rest := []) F (c_m_blame l g D o S_1 1 (by decide +kernel) sa y_2 f_y_2 (by omega) I_1 H.size) (cwV 2 hts (bw_V wB_1137 wB_1138 wB_1139 wB_881 wB_1136) rfl rfl rfl (by decide +kernel) ⟨Nat.le_of_ble_eq_true rfl, Nat.le_of_ble_eq_true rfl⟩) (dg_preV sM_0 rfl K ST hP hS hA1 hA) rfl rfl hl.1 rfl (lv_room (Nat.le_of_ble_eq_true rfl)) dX12_must_18 ⟨Nat.le_of_ble_eq_true rfl, Nat.le_of_ble_eq_true rfl⟩) (fun S_12 hw_12 H locs hP hS => ?_)
    obtain ⟨I_12, m_12, w_12_0, -⟩ := hw_12
    have M_12 := dg_sm.tr M_1 m_12 (by decide) (by decide)
    have hz_13 : (1 : Int32).toInt = 1 := by decide +kernel
    obtain ⟨y_14, f_y_14, w_12_0⟩ := w_12_0
    have w_12_0 : ((y_2).toInt ≠ 0 → (y_14).toInt = (y_2).toInt) ∧ ((y_2).toInt = 0 → (y_14).toInt = ((1 : Int32)).toInt) := w_12_0
    have b_y_14 : 0 ≤ (y_14).toInt ∧ (y_14).toInt ≤ 6 := dg_I.intb (lo := 0) (hi := 6) I_12 sM_0 (by decide +kernel) f_y_14
    have hbl_y_14 : 1 ≤ (y_14).toInt := by omega
    refine lv_aload_n hx hb dX12_must_21 rfl (lv_at hl 0 rfl) ?_
    refine dg_get (C := RX12) (T := TX12) (N := 77) hx hb hts (fun w h => bw_mem (wU_X12 w h)) hown K hP sM_0 rfl 8 (by decide) (hts _ (bw_mem wB_1133)) (fun _ h9 => h9) (v := .int y_14) f_y_14 dX12_must_22 ?_
    refine lv_if_ne (tgt := 32) hx hb dX12_must_25 (by decide) (fun _ => ?_) (fun c => absurd c (fun z => absurd (dk_eqc (k := 0) (by decide +kernel) z) (by omega)))
    refine W.widen (k := 0) (n := 0) (Nat.le_of_ble_eq_true rfl) (Nat.le_of_ble_eq_true rfl) ?_
    exact dg_vret hx hb hr hlocks hP hS ⟨I_12, M_12, ⟨sg, sa, se, y_14, (((m_12.1 0 3 _ sM_0 (by decide)).trans (m_1.1 0 3 _ sM_0 (by decide))).trans f_sg), (((m_12.1 0 4 _ sM_0 (by decide)).trans (m_1.1 0 4 _ sM_0 (by decide))).trans f_sa), (((m_12.1 0 5 _ sM_0 (by decide)).trans (m_1.1 0 5 _ sM_0 (by decide))).trans f_se), f_y_14, (by omega)⟩, trivial⟩ dX12_must_32
set_option maxHeartbeats 8000000 in
set_option maxRecDepth 100000 in
theorem c_m_must_ (l : Launch) (g : Nat → ClassId) (D : va_G) (o : Nat) (S : dg_S) (b1 : Int64) (sg : Int32) (f_sg : S.1 0 3 = .int sg) (b_sg : 0 ≤ (sg).toInt ∧ (sg).toInt ≤ 3) (sa : Int32) (f_sa : S.1 0 4 = .int sa) (b_sa : 0 ≤ (sa).toInt ∧ (sa).toInt ≤ 1600) (se : Int32) (f_se : S.1 0 5 = .int se) (b_se : 0 ≤ (se).toInt ∧ (se).toInt ≤ 1600) (sl : Int32) (f_sl : S.1 0 2 = .int sl) (b_sl : 0 ≤ (sl).toInt ∧ (sl).toInt ≤ 1600) (fk : Int32) (f_fk : S.1 0 8 = .int fk) (b_fk : 0 ≤ (fk).toInt ∧ (fk).toInt ≤ 6) (hlx : (sa).toInt ≤ (se).toInt ∧ (se).toInt ≤ (sl).toInt ∧ ((sg).toInt ≠ 0 → (sa).toInt + 1 ≤ (se).toInt)) (I : CM o S) (sz : Nat) : Met l yX12_must_ (bw yX12_must_ cX12_must_ 3 none) ({ frames := 3, cells := 0, slots := 0, locals := 77 } : Room) (dk_Pc g D (dg_w g shM o rfM S) sz [.ref (o + 0), .long b1]) (va_Qv (fun S' => CM o S' ∧ dg_sm shM [(0, 3), (0, 4), (0, 5), (0, 6), (0, 7), (0, 8), (0, 9), (0, 12)] [] S S' ∧ (∃ y9_3 y9_4 y9_5 y9_8 : Int32, S'.1 0 3 = .int y9_3 ∧ S'.1 0 4 = .int y9_4 ∧ S'.1 0 5 = .int y9_5 ∧ S'.1 0 8 = .int y9_8 ∧ (((y9_4).toInt ≤ (y9_5).toInt ∧ (y9_5).toInt ≤ (sl).toInt ∧ ((y9_3).toInt ≠ 0 → (y9_4).toInt + 1 ≤ (y9_5).toInt)) ∧ (sa).toInt ≤ (y9_4).toInt ∧ ((fk).toInt ≠ 0 → (y9_8).toInt ≠ 0) ∧ ((y9_8).toInt = 0 → (sa).toInt + 1 ≤ (y9_4).toInt))) ∧ True) (dg_B g D shM o rfM) (dg_A o shM.length sz)) 0 0 (dg_A o shM.length sz) := by
  refine dg_met (cc := cX12_must_) (maxL := 3) (ret := none) (by decide) rfl (Nat.le_of_ble_eq_true rfl) ?_
  intro p e s m args below meth c A hAe harg hx hb hr hml hts hown hlocks hin hP K hS hA1 hA ST hsz ls hl
  rw [← hAe]
  have F : CallFix p m c cX12_must_ 3 s args (bw yX12_must_ cX12_must_ 3 none) RX12 := ⟨hx, hb, hml, hown, hts⟩
  have hl : lv_has ls 3 [(0, .ref (o + 0)), (1, .long b1)] := hl
  have M_0 : dg_sm shM [(0, 3), (0, 4), (0, 5), (0, 6), (0, 7), (0, 8), (0, 9), (0, 12)] [] S S := dg_sm.rf
  refine lv_aload_n hx hb dX12_must__0 rfl (lv_at hl 0 rfl) ?_
  refine dg_callv hS hA1 hA (va_runV (As := []) (rest := []) F (c_m_lex l g D o S fk f_fk (by omega) I s.heap.size) (cwV 0 hts (bw_V wB_1153 wB_1154 wB_1155 wB_881 wB_1152) rfl rfl rfl (by decide +kernel) ⟨Nat.le_of_ble_eq_true rfl, Nat.le_of_ble_eq_true rfl⟩) (dg_preV sM_0 rfl K ST hP hS hA1 hA) rfl rfl hl.1 rfl (lv_room (Nat.le_of_ble_eq_true rfl)) dX12_must__1 ⟨Nat.le_of_ble_eq_true rfl, Nat.le_of_ble_eq_true rfl⟩) (fun S_1 hw_1 H locs hP hS => ?_)
  obtain ⟨I_1, m_1, w_1_0, -⟩ := hw_1
  have M_1 := dg_sm.tr M_0 m_1 (by decide) (by decide)
  obtain ⟨y_2, f_y_2, w_1_0⟩ := w_1_0
  have w_1_0 : (fk).toInt ≠ 0 → (y_2).toInt = (fk).toInt := w_1_0
  have b_y_2 : 0 ≤ (y_2).toInt ∧ (y_2).toInt ≤ 6 := dg_I.intb (lo := 0) (hi := 6) I_1 sM_0 (by decide +kernel) f_y_2
  refine lv_aload_n hx hb dX12_must__4 rfl (lv_at hl 0 rfl) ?_
  refine dg_get (C := RX12) (T := TX12) (N := 77) hx hb hts (fun w h => bw_mem (wU_X12 w h)) hown K hP sM_0 rfl 8 (by decide) (hts _ (bw_mem wB_1133)) (fun _ h9 => h9) (v := .int y_2) f_y_2 dX12_must__5 ?_
  refine lv_if_le (tgt := 12) hx hb dX12_must__8 (by decide) (fun c_3 => ?_) (fun c_3 => ?_)
  · have jc_3 := dk_lec (k := 0) (by decide +kernel) c_3
    refine lv_aload_n hx hb dX12_must__12 rfl (lv_at hl 0 rfl) ?_
    refine lv_lload_n hx hb dX12_must__13 rfl (lv_at hl 1 rfl) ?_
    refine dg_calli hS hA1 hA (va_runV (As := [.long b1]) (rest := []) F (c_m_isWord l g D o S_1 b1 sg ((m_1.1 0 3 _ sM_0 (by decide)).trans f_sg) (by omega) I_1 H.size) (cwV 1 hts (bw_V wB_1165 wB_1166 wB_1167 wB_881 wB_1164) rfl rfl rfl (by decide +kernel) ⟨Nat.le_of_ble_eq_true rfl, Nat.le_of_ble_eq_true rfl⟩) (dg_preV sM_0 rfl K ST hP hS hA1 hA) rfl rfl hl.1 rfl (lv_room (Nat.le_of_ble_eq_true rfl)) dX12_must__14 ⟨Nat.le_of_ble_eq_true rfl, Nat.le_of_ble_eq_true rfl⟩) (fun x_4 S_5 hw_5 H locs hP hS => ?_)
    rw [hw_5.1] at hP
    obtain ⟨hq_5, w_5_0, w_5_1, -⟩ := hw_5
    have w_5_0 : 0 ≤ (x_4).toInt ∧ (x_4).toInt ≤ 1 := w_5_0
    have w_5_1 : (x_4).toInt = 1 → (sg).toInt = 1 := w_5_1
    refine lv_if_ne (tgt := 29) hx hb dX12_must__17 (by decide) (fun c_6 => ?_) (fun c_6 => ?_)
    · have jc_6 := dk_neqc (k := 0) (by decide +kernel) c_6
      have w_5_1_r := w_5_1 (by omega)
      clear w_5_1
      refine lv_aload_n hx hb dX12_must__29 rfl (lv_at hl 0 rfl) ?_
      refine dg_get (C := RX12) (T := TX12) (N := 77) hx hb hts (fun w h => bw_mem (wU_X12 w h)) hown K hP sM_0 rfl 8 (by decide) (hts _ (bw_mem wB_1133)) (fun _ h9 => h9) (v := .int y_2) f_y_2 dX12_must__30 ?_
      refine lv_if_ne (tgt := 40) hx hb dX12_must__33 (by decide) (fun c => absurd (dk_eqp (k := 0) (by decide +kernel) (by omega)) c) (fun _ => ?_)
      refine lv_aload_n hx hb dX12_must__36 rfl (lv_at hl 0 rfl) ?_
      refine dg_callv hS hA1 hA (va_runV (As := []) (rest := []) F (c_m_ahead l g D o S_1 se ((m_1.1 0 5 _ sM_0 (by decide)).trans f_se) (by omega) sl ((m_1.1 0 2 _ sM_0 (by decide)).trans f_sl) (by omega) (by omega) I_1 H.size) (cwV 0 hts (bw_V wB_1161 wB_1162 wB_1163 wB_881 wB_1160) rfl rfl rfl (by decide +kernel) ⟨Nat.le_of_ble_eq_true rfl, Nat.le_of_ble_eq_true rfl⟩) (dg_preV sM_0 rfl K ST hP hS hA1 hA) rfl rfl hl.1 rfl (lv_room (Nat.le_of_ble_eq_true rfl)) dX12_must__37 ⟨Nat.le_of_ble_eq_true rfl, Nat.le_of_ble_eq_true rfl⟩) (fun S_7 hw_7 H locs hP hS => ?_)
      obtain ⟨I_7, m_7, w_7_0, -⟩ := hw_7
      have M_7 := dg_sm.tr M_1 m_7 (by decide) (by decide)
      obtain ⟨y_8, y_9, y_10, f_y_8, f_y_9, f_y_10, w_7_0⟩ := w_7_0
      have w_7_0 : (se).toInt ≤ (y_9).toInt ∧ (y_9).toInt ≤ (y_10).toInt ∧ (y_10).toInt ≤ (sl).toInt ∧ ((y_8).toInt ≠ 0 → (y_9).toInt + 1 ≤ (y_10).toInt) := w_7_0
      have b_y_8 : 0 ≤ (y_8).toInt ∧ (y_8).toInt ≤ 3 := dg_I.intb (lo := 0) (hi := 3) I_7 sM_0 (by decide +kernel) f_y_8
      have b_y_9 : 0 ≤ (y_9).toInt ∧ (y_9).toInt ≤ 1600 := dg_I.intb (lo := 0) (hi := 1600) I_7 sM_0 (by decide +kernel) f_y_9
      have b_y_10 : 0 ≤ (y_10).toInt ∧ (y_10).toInt ≤ 1600 := dg_I.intb (lo := 0) (hi := 1600) I_7 sM_0 (by decide +kernel) f_y_10
      refine W.widen (k := 0) (n := 0) (Nat.le_of_ble_eq_true rfl) (Nat.le_of_ble_eq_true rfl) ?_
      exact dg_vret hx hb hr hlocks hP hS ⟨I_7, M_7, ⟨y_8, y_9, y_10, y_2, f_y_8, f_y_9, f_y_10, ((m_7.1 0 8 _ sM_0 (by decide)).trans f_y_2), (by omega)⟩, trivial⟩ dX12_must__40
    · have jc_6 := dk_eqc (k := 0) (by decide +kernel) c_6
      clear w_5_1
      refine lv_aload_n hx hb dX12_must__20 rfl (lv_at hl 0 rfl) ?_
      refine lv_iconst (v := 1) hx hb dX12_must__21 (by decide +kernel) ?_
      refine lv_aload_n hx hb dX12_must__22 rfl (lv_at hl 0 rfl) ?_
      refine dg_get (C := RX12) (T := TX12) (N := 77) hx hb hts (fun w h => bw_mem (wU_X12 w h)) hown K hP sM_0 rfl 4 (by decide) (hts _ (bw_mem wB_1145)) (fun _ h9 => h9) (v := .int sa) ((m_1.1 0 4 _ sM_0 (by decide)).trans f_sa) dX12_must__23 ?_
      have hz_11 : (1 : Int32).toInt = 1 := by decide +kernel
      refine dg_callv hS hA1 hA (va_runV (As := [.int 1, .int sa]) (rest := []) F (c_m_blame l g D o S_1 1 (by decide +kernel) sa y_2 f_y_2 (by omega) I_1 H.size) (cwV 2 hts (bw_V wB_1137 wB_1138 wB_1139 wB_881 wB_1136) rfl rfl rfl (by decide +kernel) ⟨Nat.le_of_ble_eq_true rfl, Nat.le_of_ble_eq_true rfl⟩) (dg_preV sM_0 rfl K ST hP hS hA1 hA) rfl rfl hl.1 rfl (lv_room (Nat.le_of_ble_eq_true rfl)) dX12_must__26 ⟨Nat.le_of_ble_eq_true rfl, Nat.le_of_ble_eq_true rfl⟩) (fun S_12 hw_12 H locs hP hS => ?_)
      obtain ⟨I_12, m_12, w_12_0, -⟩ := hw_12
      have M_12 := dg_sm.tr M_1 m_12 (by decide) (by decide)
      have hz_13 : (1 : Int32).toInt = 1 := by decide +kernel
      obtain ⟨y_14, f_y_14, w_12_0⟩ := w_12_0
      have w_12_0 : ((y_2).toInt ≠ 0 → (y_14).toInt = (y_2).toInt) ∧ ((y_2).toInt = 0 → (y_14).toInt = ((1 : Int32)).toInt) := w_12_0
      have b_y_14 : 0 ≤ (y_14).toInt ∧ (y_14).toInt ≤ 6 := dg_I.intb (lo := 0) (hi := 6) I_12 sM_0 (by decide +kernel) f_y_14
      have hbl_y_14 : 1 ≤ (y_14).toInt := by omega
      refine lv_aload_n hx hb dX12_must__29 rfl (lv_at hl 0 rfl) ?_
      refine dg_get (C := RX12) (T := TX12) (N := 77) hx hb hts (fun w h => bw_mem (wU_X12 w h)) hown K hP sM_0 rfl 8 (by decide) (hts _ (bw_mem wB_1133)) (fun _ h9 => h9) (v := .int y_14) f_y_14 dX12_must__30 ?_
      refine lv_if_ne (tgt := 40) hx hb dX12_must__33 (by decide) (fun _ => ?_) (fun c => absurd c (fun z => absurd (dk_eqc (k := 0) (by decide +kernel) z) (by omega)))
      refine W.widen (k := 0) (n := 0) (Nat.le_of_ble_eq_true rfl) (Nat.le_of_ble_eq_true rfl) ?_
      exact dg_vret hx hb hr hlocks hP hS ⟨I_12, M_12, ⟨sg, sa, se, y_14, (((m_12.1 0 3 _ sM_0 (by decide)).trans (m_1.1 0 3 _ sM_0 (by decide))).trans f_sg), (((m_12.1 0 4 _ sM_0 (by decide)).trans (m_1.1 0 4 _ sM_0 (by decide))).trans f_sa), (((m_12.1 0 5 _ sM_0 (by decide)).trans (m_1.1 0 5 _ sM_0 (by decide))).trans f_se), f_y_14, (by omega)⟩, trivial⟩ dX12_must__40
  · have jc_3 := dk_nlec (k := 0) (by decide +kernel) c_3
    refine W.widen (k := 0) (n := 0) (Nat.le_of_ble_eq_true rfl) (Nat.le_of_ble_eq_true rfl) ?_
    exact dg_vret hx hb hr hlocks hP hS ⟨I_1, M_1, ⟨sg, sa, se, y_2, ((m_1.1 0 3 _ sM_0 (by decide)).trans f_sg), ((m_1.1 0 4 _ sM_0 (by decide)).trans f_sa), ((m_1.1 0 5 _ sM_0 (by decide)).trans f_se), f_y_2, (by omega)⟩, trivial⟩ dX12_must__11
set_option maxHeartbeats 8000000 in
set_option maxRecDepth 100000 in
theorem c_m_isOwn (l : Launch) (g : Nat → ClassId) (D : va_G) (o : Nat) (S : dg_S) (b1 : Int64) (I : CM o S) (sz : Nat) : Met l yX12_isOwn (bw yX12_isOwn cX12_isOwn 3 (some .boolean)) ({ frames := 1, cells := 0, slots := 0, locals := 32 } : Room) (dk_Pc g D (dg_w g shM o rfM S) sz [.ref (o + 0), .long b1]) (va_Qi (fun (r : Int32) S' => S' = S ∧ (0 ≤ (r).toInt ∧ (r).toInt ≤ 1) ∧ True) (dg_B g D shM o rfM) (dg_A o shM.length sz)) 0 0 (dg_A o shM.length sz) := by
  refine dg_met (cc := cX12_isOwn) (maxL := 3) (ret := (some .boolean)) (by decide) rfl (Nat.le_of_ble_eq_true rfl) ?_
  intro p e s m args below meth c A hAe harg hx hb hr hml hts hown hlocks hin hP K hS hA1 hA ST hsz ls hl
  rw [← hAe]
  have F : CallFix p m c cX12_isOwn 3 s args (bw yX12_isOwn cX12_isOwn 3 (some .boolean)) RX12 := ⟨hx, hb, hml, hown, hts⟩
  have hl : lv_has ls 3 [(0, .ref (o + 0)), (1, .long b1)] := hl
  have M_0 : dg_sm shM [] [] S S := dg_sm.rf
  refine lv_lload_n hx hb dX12_isOwn_0 rfl (lv_at hl 1 rfl) ?_
  refine lv_ldc2 hx hb hown (hts _ (bw_mem wB_1168)) dX12_isOwn_1 ?_
  refine W.lcmp hx hb dX12_isOwn_4 ?_
  refine lv_topi (fun x_1 ex_1 => ?_)
  have hz_1 : (1936023917 : Int64).toInt = 1936023917 := by decide +kernel
  have hlc_x_1 := dk_lcmp ex_1
  refine lv_if_eq (tgt := 40) hx hb dX12_isOwn_5 (by decide) (fun c_3 => ?_) (fun c_3 => ?_)
  · have jc_3 := dk_eqc (k := 0) (by decide +kernel) c_3
    refine lv_iconst (v := 1) hx hb dX12_isOwn_40 (by decide +kernel) ?_
    have hz_4 : (1 : Int32).toInt = 1 := by decide +kernel
    refine W.widen (k := 0) (n := 0) (Nat.le_of_ble_eq_true rfl) (Nat.le_of_ble_eq_true rfl) ?_
    exact dg_iret hx hb hr hlocks (by decide +kernel) hP hS ⟨rfl, (by decide +kernel), trivial⟩ dX12_isOwn_41
  · have jc_3 := dk_neqc (k := 0) (by decide +kernel) c_3
    refine lv_lload_n hx hb dX12_isOwn_8 rfl (lv_at hl 1 rfl) ?_
    refine lv_ldc2 hx hb hown (hts _ (bw_mem wB_1169)) dX12_isOwn_9 ?_
    refine W.lcmp hx hb dX12_isOwn_12 ?_
    refine lv_topi (fun x_5 ex_5 => ?_)
    have hz_5 : (25209 : Int64).toInt = 25209 := by decide +kernel
    have hlc_x_5 := dk_lcmp ex_5
    refine lv_if_eq (tgt := 40) hx hb dX12_isOwn_13 (by decide) (fun c_7 => ?_) (fun c_7 => ?_)
    · have jc_7 := dk_eqc (k := 0) (by decide +kernel) c_7
      refine lv_iconst (v := 1) hx hb dX12_isOwn_40 (by decide +kernel) ?_
      have hz_8 : (1 : Int32).toInt = 1 := by decide +kernel
      refine W.widen (k := 0) (n := 0) (Nat.le_of_ble_eq_true rfl) (Nat.le_of_ble_eq_true rfl) ?_
      exact dg_iret hx hb hr hlocks (by decide +kernel) hP hS ⟨rfl, (by decide +kernel), trivial⟩ dX12_isOwn_41
    · have jc_7 := dk_neqc (k := 0) (by decide +kernel) c_7
      refine lv_lload_n hx hb dX12_isOwn_16 rfl (lv_at hl 1 rfl) ?_
      refine lv_ldc2 hx hb hown (hts _ (bw_mem wB_1170)) dX12_isOwn_17 ?_
      refine W.lcmp hx hb dX12_isOwn_20 ?_
      refine lv_topi (fun x_9 ex_9 => ?_)
      have hz_9 : (495672452724 : Int64).toInt = 495672452724 := by decide +kernel
      have hlc_x_9 := dk_lcmp ex_9
      refine lv_if_eq (tgt := 40) hx hb dX12_isOwn_21 (by decide) (fun c_11 => ?_) (fun c_11 => ?_)
      · have jc_11 := dk_eqc (k := 0) (by decide +kernel) c_11
        refine lv_iconst (v := 1) hx hb dX12_isOwn_40 (by decide +kernel) ?_
        have hz_12 : (1 : Int32).toInt = 1 := by decide +kernel
        refine W.widen (k := 0) (n := 0) (Nat.le_of_ble_eq_true rfl) (Nat.le_of_ble_eq_true rfl) ?_
        exact dg_iret hx hb hr hlocks (by decide +kernel) hP hS ⟨rfl, (by decide +kernel), trivial⟩ dX12_isOwn_41
      · have jc_11 := dk_neqc (k := 0) (by decide +kernel) c_11
        refine lv_lload_n hx hb dX12_isOwn_24 rfl (lv_at hl 1 rfl) ?_
        refine lv_ldc2 hx hb hown (hts _ (bw_mem wB_1171)) dX12_isOwn_25 ?_
        refine W.lcmp hx hb dX12_isOwn_28 ?_
        refine lv_topi (fun x_13 ex_13 => ?_)
        have hz_13 : (491327153000 : Int64).toInt = 491327153000 := by decide +kernel
        have hlc_x_13 := dk_lcmp ex_13
        refine lv_if_eq (tgt := 40) hx hb dX12_isOwn_29 (by decide) (fun c_15 => ?_) (fun c_15 => ?_)
        · have jc_15 := dk_eqc (k := 0) (by decide +kernel) c_15
          refine lv_iconst (v := 1) hx hb dX12_isOwn_40 (by decide +kernel) ?_
          have hz_16 : (1 : Int32).toInt = 1 := by decide +kernel
          refine W.widen (k := 0) (n := 0) (Nat.le_of_ble_eq_true rfl) (Nat.le_of_ble_eq_true rfl) ?_
          exact dg_iret hx hb hr hlocks (by decide +kernel) hP hS ⟨rfl, (by decide +kernel), trivial⟩ dX12_isOwn_41
        · have jc_15 := dk_neqc (k := 0) (by decide +kernel) c_15
          refine lv_lload_n hx hb dX12_isOwn_32 rfl (lv_at hl 1 rfl) ?_
          refine lv_ldc2 hx hb hown (hts _ (bw_mem wB_1172)) dX12_isOwn_33 ?_
          refine W.lcmp hx hb dX12_isOwn_36 ?_
          refine lv_topi (fun x_17 ex_17 => ?_)
          have hz_17 : (487300623205 : Int64).toInt = 487300623205 := by decide +kernel
          have hlc_x_17 := dk_lcmp ex_17
          refine lv_if_ne (tgt := 42) hx hb dX12_isOwn_37 (by decide) (fun c_19 => ?_) (fun c_19 => ?_)
          · have jc_19 := dk_neqc (k := 0) (by decide +kernel) c_19
            refine lv_lload_n hx hb dX12_isOwn_42 rfl (lv_at hl 1 rfl) ?_
            refine lv_ldc2 hx hb hown (hts _ (bw_mem wB_1173)) dX12_isOwn_43 ?_
            refine W.lcmp hx hb dX12_isOwn_46 ?_
            refine lv_topi (fun x_20 ex_20 => ?_)
            have hz_20 : (444300616805 : Int64).toInt = 444300616805 := by decide +kernel
            have hlc_x_20 := dk_lcmp ex_20
            refine lv_if_eq (tgt := 82) hx hb dX12_isOwn_47 (by decide) (fun c_22 => ?_) (fun c_22 => ?_)
            · have jc_22 := dk_eqc (k := 0) (by decide +kernel) c_22
              refine lv_iconst (v := 1) hx hb dX12_isOwn_82 (by decide +kernel) ?_
              have hz_23 : (1 : Int32).toInt = 1 := by decide +kernel
              refine W.widen (k := 0) (n := 0) (Nat.le_of_ble_eq_true rfl) (Nat.le_of_ble_eq_true rfl) ?_
              exact dg_iret hx hb hr hlocks (by decide +kernel) hP hS ⟨rfl, (by decide +kernel), trivial⟩ dX12_isOwn_83
            · have jc_22 := dk_neqc (k := 0) (by decide +kernel) c_22
              refine lv_lload_n hx hb dX12_isOwn_50 rfl (lv_at hl 1 rfl) ?_
              refine lv_ldc2 hx hb hown (hts _ (bw_mem wB_1174)) dX12_isOwn_51 ?_
              refine W.lcmp hx hb dX12_isOwn_54 ?_
              refine lv_topi (fun x_24 ex_24 => ?_)
              have hz_24 : (469920277874 : Int64).toInt = 469920277874 := by decide +kernel
              have hlc_x_24 := dk_lcmp ex_24
              refine lv_if_eq (tgt := 82) hx hb dX12_isOwn_55 (by decide) (fun c_26 => ?_) (fun c_26 => ?_)
              · have jc_26 := dk_eqc (k := 0) (by decide +kernel) c_26
                refine lv_iconst (v := 1) hx hb dX12_isOwn_82 (by decide +kernel) ?_
                have hz_27 : (1 : Int32).toInt = 1 := by decide +kernel
                refine W.widen (k := 0) (n := 0) (Nat.le_of_ble_eq_true rfl) (Nat.le_of_ble_eq_true rfl) ?_
                exact dg_iret hx hb hr hlocks (by decide +kernel) hP hS ⟨rfl, (by decide +kernel), trivial⟩ dX12_isOwn_83
              · have jc_26 := dk_neqc (k := 0) (by decide +kernel) c_26
                refine lv_lload_n hx hb dX12_isOwn_58 rfl (lv_at hl 1 rfl) ?_
                refine lv_ldc2 hx hb hown (hts _ (bw_mem wB_1175)) dX12_isOwn_59 ?_
                refine W.lcmp hx hb dX12_isOwn_62 ?_
                refine lv_topi (fun x_28 ex_28 => ?_)
                have hz_28 : (6580583 : Int64).toInt = 6580583 := by decide +kernel
                have hlc_x_28 := dk_lcmp ex_28
                refine lv_if_eq (tgt := 82) hx hb dX12_isOwn_63 (by decide) (fun c_30 => ?_) (fun c_30 => ?_)
                · have jc_30 := dk_eqc (k := 0) (by decide +kernel) c_30
                  refine lv_iconst (v := 1) hx hb dX12_isOwn_82 (by decide +kernel) ?_
                  have hz_31 : (1 : Int32).toInt = 1 := by decide +kernel
                  refine W.widen (k := 0) (n := 0) (Nat.le_of_ble_eq_true rfl) (Nat.le_of_ble_eq_true rfl) ?_
                  exact dg_iret hx hb hr hlocks (by decide +kernel) hP hS ⟨rfl, (by decide +kernel), trivial⟩ dX12_isOwn_83
                · have jc_30 := dk_neqc (k := 0) (by decide +kernel) c_30
                  refine lv_lload_n hx hb dX12_isOwn_66 rfl (lv_at hl 1 rfl) ?_
                  refine lv_ldc2 hx hb hown (hts _ (bw_mem wB_1176)) dX12_isOwn_67 ?_
                  refine W.lcmp hx hb dX12_isOwn_70 ?_
                  refine lv_topi (fun x_32 ex_32 => ?_)
                  have hz_32 : (24948 : Int64).toInt = 24948 := by decide +kernel
                  have hlc_x_32 := dk_lcmp ex_32
                  refine lv_if_eq (tgt := 82) hx hb dX12_isOwn_71 (by decide) (fun c_34 => ?_) (fun c_34 => ?_)
                  · have jc_34 := dk_eqc (k := 0) (by decide +kernel) c_34
                    refine lv_iconst (v := 1) hx hb dX12_isOwn_82 (by decide +kernel) ?_
                    have hz_35 : (1 : Int32).toInt = 1 := by decide +kernel
                    refine W.widen (k := 0) (n := 0) (Nat.le_of_ble_eq_true rfl) (Nat.le_of_ble_eq_true rfl) ?_
                    exact dg_iret hx hb hr hlocks (by decide +kernel) hP hS ⟨rfl, (by decide +kernel), trivial⟩ dX12_isOwn_83
                  · have jc_34 := dk_neqc (k := 0) (by decide +kernel) c_34
                    refine lv_lload_n hx hb dX12_isOwn_74 rfl (lv_at hl 1 rfl) ?_
                    refine lv_ldc2 hx hb hown (hts _ (bw_mem wB_1177)) dX12_isOwn_75 ?_
                    refine W.lcmp hx hb dX12_isOwn_78 ?_
                    refine lv_topi (fun x_36 ex_36 => ?_)
                    have hz_36 : (478660552050 : Int64).toInt = 478660552050 := by decide +kernel
                    have hlc_x_36 := dk_lcmp ex_36
                    refine lv_if_ne (tgt := 84) hx hb dX12_isOwn_79 (by decide) (fun c_38 => ?_) (fun c_38 => ?_)
                    · have jc_38 := dk_neqc (k := 0) (by decide +kernel) c_38
                      refine lv_lload_n hx hb dX12_isOwn_84 rfl (lv_at hl 1 rfl) ?_
                      refine lv_ldc2 hx hb hown (hts _ (bw_mem wB_1178)) dX12_isOwn_85 ?_
                      refine W.lcmp hx hb dX12_isOwn_88 ?_
                      refine lv_topi (fun x_39 ex_39 => ?_)
                      have hz_39 : (1953849971 : Int64).toInt = 1953849971 := by decide +kernel
                      have hlc_x_39 := dk_lcmp ex_39
                      refine lv_if_eq (tgt := 124) hx hb dX12_isOwn_89 (by decide) (fun c_41 => ?_) (fun c_41 => ?_)
                      · have jc_41 := dk_eqc (k := 0) (by decide +kernel) c_41
                        refine lv_iconst (v := 1) hx hb dX12_isOwn_124 (by decide +kernel) ?_
                        have hz_42 : (1 : Int32).toInt = 1 := by decide +kernel
                        refine W.widen (k := 0) (n := 0) (Nat.le_of_ble_eq_true rfl) (Nat.le_of_ble_eq_true rfl) ?_
                        exact dg_iret hx hb hr hlocks (by decide +kernel) hP hS ⟨rfl, (by decide +kernel), trivial⟩ dX12_isOwn_125
                      · have jc_41 := dk_neqc (k := 0) (by decide +kernel) c_41
                        refine lv_lload_n hx hb dX12_isOwn_92 rfl (lv_at hl 1 rfl) ?_
                        refine lv_ldc2 hx hb hown (hts _ (bw_mem wB_1179)) dX12_isOwn_93 ?_
                        refine W.lcmp hx hb dX12_isOwn_96 ?_
                        refine lv_topi (fun x_43 ex_43 => ?_)
                        have hz_43 : (1885436275 : Int64).toInt = 1885436275 := by decide +kernel
                        have hlc_x_43 := dk_lcmp ex_43
                        refine lv_if_eq (tgt := 124) hx hb dX12_isOwn_97 (by decide) (fun c_45 => ?_) (fun c_45 => ?_)
                        · have jc_45 := dk_eqc (k := 0) (by decide +kernel) c_45
                          refine lv_iconst (v := 1) hx hb dX12_isOwn_124 (by decide +kernel) ?_
                          have hz_46 : (1 : Int32).toInt = 1 := by decide +kernel
                          refine W.widen (k := 0) (n := 0) (Nat.le_of_ble_eq_true rfl) (Nat.le_of_ble_eq_true rfl) ?_
                          exact dg_iret hx hb hr hlocks (by decide +kernel) hP hS ⟨rfl, (by decide +kernel), trivial⟩ dX12_isOwn_125
                        · have jc_45 := dk_neqc (k := 0) (by decide +kernel) c_45
                          refine lv_lload_n hx hb dX12_isOwn_100 rfl (lv_at hl 1 rfl) ?_
                          refine lv_ldc2 hx hb hown (hts _ (bw_mem wB_1180)) dX12_isOwn_101 ?_
                          refine W.lcmp hx hb dX12_isOwn_104 ?_
                          refine lv_topi (fun x_47 ex_47 => ?_)
                          have hz_47 : (126926742711411 : Int64).toInt = 126926742711411 := by decide +kernel
                          have hlc_x_47 := dk_lcmp ex_47
                          refine lv_if_eq (tgt := 124) hx hb dX12_isOwn_105 (by decide) (fun c_49 => ?_) (fun c_49 => ?_)
                          · have jc_49 := dk_eqc (k := 0) (by decide +kernel) c_49
                            refine lv_iconst (v := 1) hx hb dX12_isOwn_124 (by decide +kernel) ?_
                            have hz_50 : (1 : Int32).toInt = 1 := by decide +kernel
                            refine W.widen (k := 0) (n := 0) (Nat.le_of_ble_eq_true rfl) (Nat.le_of_ble_eq_true rfl) ?_
                            exact dg_iret hx hb hr hlocks (by decide +kernel) hP hS ⟨rfl, (by decide +kernel), trivial⟩ dX12_isOwn_125
                          · have jc_49 := dk_neqc (k := 0) (by decide +kernel) c_49
                            refine lv_lload_n hx hb dX12_isOwn_108 rfl (lv_at hl 1 rfl) ?_
                            refine lv_ldc2 hx hb hown (hts _ (bw_mem wB_1181)) dX12_isOwn_109 ?_
                            refine W.lcmp hx hb dX12_isOwn_112 ?_
                            refine lv_topi (fun x_51 ex_51 => ?_)
                            have hz_51 : (439721159795 : Int64).toInt = 439721159795 := by decide +kernel
                            have hlc_x_51 := dk_lcmp ex_51
                            refine lv_if_eq (tgt := 124) hx hb dX12_isOwn_113 (by decide) (fun c_53 => ?_) (fun c_53 => ?_)
                            · have jc_53 := dk_eqc (k := 0) (by decide +kernel) c_53
                              refine lv_iconst (v := 1) hx hb dX12_isOwn_124 (by decide +kernel) ?_
                              have hz_54 : (1 : Int32).toInt = 1 := by decide +kernel
                              refine W.widen (k := 0) (n := 0) (Nat.le_of_ble_eq_true rfl) (Nat.le_of_ble_eq_true rfl) ?_
                              exact dg_iret hx hb hr hlocks (by decide +kernel) hP hS ⟨rfl, (by decide +kernel), trivial⟩ dX12_isOwn_125
                            · have jc_53 := dk_neqc (k := 0) (by decide +kernel) c_53
                              refine lv_lload_n hx hb dX12_isOwn_116 rfl (lv_at hl 1 rfl) ?_
                              refine lv_ldc2 hx hb hown (hts _ (bw_mem wB_1182)) dX12_isOwn_117 ?_
                              refine W.lcmp hx hb dX12_isOwn_120 ?_
                              refine lv_topi (fun x_55 ex_55 => ?_)
                              have hz_55 : (1734702195 : Int64).toInt = 1734702195 := by decide +kernel
                              have hlc_x_55 := dk_lcmp ex_55
                              refine lv_if_ne (tgt := 126) hx hb dX12_isOwn_121 (by decide) (fun c_57 => ?_) (fun c_57 => ?_)
                              · have jc_57 := dk_neqc (k := 0) (by decide +kernel) c_57
                                refine lv_lload_n hx hb dX12_isOwn_126 rfl (lv_at hl 1 rfl) ?_
                                refine lv_ldc2 hx hb hown (hts _ (bw_mem wB_1183)) dX12_isOwn_127 ?_
                                refine W.lcmp hx hb dX12_isOwn_130 ?_
                                refine lv_topi (fun x_58 ex_58 => ?_)
                                have hz_58 : (431198598248 : Int64).toInt = 431198598248 := by decide +kernel
                                have hlc_x_58 := dk_lcmp ex_58
                                refine lv_if_eq (tgt := 166) hx hb dX12_isOwn_131 (by decide) (fun c_60 => ?_) (fun c_60 => ?_)
                                · have jc_60 := dk_eqc (k := 0) (by decide +kernel) c_60
                                  refine lv_iconst (v := 1) hx hb dX12_isOwn_166 (by decide +kernel) ?_
                                  have hz_61 : (1 : Int32).toInt = 1 := by decide +kernel
                                  refine W.widen (k := 0) (n := 0) (Nat.le_of_ble_eq_true rfl) (Nat.le_of_ble_eq_true rfl) ?_
                                  exact dg_iret hx hb hr hlocks (by decide +kernel) hP hS ⟨rfl, (by decide +kernel), trivial⟩ dX12_isOwn_167
                                · have jc_60 := dk_neqc (k := 0) (by decide +kernel) c_60
                                  refine lv_lload_n hx hb dX12_isOwn_134 rfl (lv_at hl 1 rfl) ?_
                                  refine lv_ldc2 hx hb hown (hts _ (bw_mem wB_1184)) dX12_isOwn_135 ?_
                                  refine W.lcmp hx hb dX12_isOwn_138 ?_
                                  refine lv_topi (fun x_62 ex_62 => ?_)
                                  have hz_62 : (495672977012 : Int64).toInt = 495672977012 := by decide +kernel
                                  have hlc_x_62 := dk_lcmp ex_62
                                  refine lv_if_eq (tgt := 166) hx hb dX12_isOwn_139 (by decide) (fun c_64 => ?_) (fun c_64 => ?_)
                                  · have jc_64 := dk_eqc (k := 0) (by decide +kernel) c_64
                                    refine lv_iconst (v := 1) hx hb dX12_isOwn_166 (by decide +kernel) ?_
                                    have hz_65 : (1 : Int32).toInt = 1 := by decide +kernel
                                    refine W.widen (k := 0) (n := 0) (Nat.le_of_ble_eq_true rfl) (Nat.le_of_ble_eq_true rfl) ?_
                                    exact dg_iret hx hb hr hlocks (by decide +kernel) hP hS ⟨rfl, (by decide +kernel), trivial⟩ dX12_isOwn_167
                                  · have jc_64 := dk_neqc (k := 0) (by decide +kernel) c_64
                                    refine lv_lload_n hx hb dX12_isOwn_142 rfl (lv_at hl 1 rfl) ?_
                                    refine lv_ldc2 hx hb hown (hts _ (bw_mem wB_1185)) dX12_isOwn_143 ?_
                                    refine W.lcmp hx hb dX12_isOwn_146 ?_
                                    refine lv_topi (fun x_66 ex_66 => ?_)
                                    have hz_66 : (6709618 : Int64).toInt = 6709618 := by decide +kernel
                                    have hlc_x_66 := dk_lcmp ex_66
                                    refine lv_if_eq (tgt := 166) hx hb dX12_isOwn_147 (by decide) (fun c_68 => ?_) (fun c_68 => ?_)
                                    · have jc_68 := dk_eqc (k := 0) (by decide +kernel) c_68
                                      refine lv_iconst (v := 1) hx hb dX12_isOwn_166 (by decide +kernel) ?_
                                      have hz_69 : (1 : Int32).toInt = 1 := by decide +kernel
                                      refine W.widen (k := 0) (n := 0) (Nat.le_of_ble_eq_true rfl) (Nat.le_of_ble_eq_true rfl) ?_
                                      exact dg_iret hx hb hr hlocks (by decide +kernel) hP hS ⟨rfl, (by decide +kernel), trivial⟩ dX12_isOwn_167
                                    · have jc_68 := dk_neqc (k := 0) (by decide +kernel) c_68
                                      refine lv_lload_n hx hb dX12_isOwn_150 rfl (lv_at hl 1 rfl) ?_
                                      refine lv_ldc2 hx hb hown (hts _ (bw_mem wB_1186)) dX12_isOwn_151 ?_
                                      refine W.lcmp hx hb dX12_isOwn_154 ?_
                                      refine lv_topi (fun x_70 ex_70 => ?_)
                                      have hz_70 : (1869636974 : Int64).toInt = 1869636974 := by decide +kernel
                                      have hlc_x_70 := dk_lcmp ex_70
                                      refine lv_if_eq (tgt := 166) hx hb dX12_isOwn_155 (by decide) (fun c_72 => ?_) (fun c_72 => ?_)
                                      · have jc_72 := dk_eqc (k := 0) (by decide +kernel) c_72
                                        refine lv_iconst (v := 1) hx hb dX12_isOwn_166 (by decide +kernel) ?_
                                        have hz_73 : (1 : Int32).toInt = 1 := by decide +kernel
                                        refine W.widen (k := 0) (n := 0) (Nat.le_of_ble_eq_true rfl) (Nat.le_of_ble_eq_true rfl) ?_
                                        exact dg_iret hx hb hr hlocks (by decide +kernel) hP hS ⟨rfl, (by decide +kernel), trivial⟩ dX12_isOwn_167
                                      · have jc_72 := dk_neqc (k := 0) (by decide +kernel) c_72
                                        refine lv_lload_n hx hb dX12_isOwn_158 rfl (lv_at hl 1 rfl) ?_
                                        refine lv_ldc2 hx hb hown (hts _ (bw_mem wB_1187)) dX12_isOwn_159 ?_
                                        refine W.lcmp hx hb dX12_isOwn_162 ?_
                                        refine lv_topi (fun x_74 ex_74 => ?_)
                                        have hz_74 : (7104884 : Int64).toInt = 7104884 := by decide +kernel
                                        have hlc_x_74 := dk_lcmp ex_74
                                        refine lv_if_ne (tgt := 168) hx hb dX12_isOwn_163 (by decide) (fun c_76 => ?_) (fun c_76 => ?_)
                                        · have jc_76 := dk_neqc (k := 0) (by decide +kernel) c_76
                                          refine lv_lload_n hx hb dX12_isOwn_168 rfl (lv_at hl 1 rfl) ?_
                                          refine lv_ldc2 hx hb hown (hts _ (bw_mem wB_1188)) dX12_isOwn_169 ?_
                                          refine W.lcmp hx hb dX12_isOwn_172 ?_
                                          refine lv_topi (fun x_77 ex_77 => ?_)
                                          have hz_77 : (26982 : Int64).toInt = 26982 := by decide +kernel
                                          have hlc_x_77 := dk_lcmp ex_77
                                          refine lv_if_eq (tgt := 208) hx hb dX12_isOwn_173 (by decide) (fun c_79 => ?_) (fun c_79 => ?_)
                                          · have jc_79 := dk_eqc (k := 0) (by decide +kernel) c_79
                                            refine lv_iconst (v := 1) hx hb dX12_isOwn_208 (by decide +kernel) ?_
                                            have hz_80 : (1 : Int32).toInt = 1 := by decide +kernel
                                            refine W.widen (k := 0) (n := 0) (Nat.le_of_ble_eq_true rfl) (Nat.le_of_ble_eq_true rfl) ?_
                                            exact dg_iret hx hb hr hlocks (by decide +kernel) hP hS ⟨rfl, (by decide +kernel), trivial⟩ dX12_isOwn_209
                                          · have jc_79 := dk_neqc (k := 0) (by decide +kernel) c_79
                                            refine lv_lload_n hx hb dX12_isOwn_176 rfl (lv_at hl 1 rfl) ?_
                                            refine lv_ldc2 hx hb hown (hts _ (bw_mem wB_1189)) dX12_isOwn_177 ?_
                                            refine W.lcmp hx hb dX12_isOwn_180 ?_
                                            refine lv_topi (fun x_81 ex_81 => ?_)
                                            have hz_81 : (28530 : Int64).toInt = 28530 := by decide +kernel
                                            have hlc_x_81 := dk_lcmp ex_81
                                            refine lv_if_eq (tgt := 208) hx hb dX12_isOwn_181 (by decide) (fun c_83 => ?_) (fun c_83 => ?_)
                                            · have jc_83 := dk_eqc (k := 0) (by decide +kernel) c_83
                                              refine lv_iconst (v := 1) hx hb dX12_isOwn_208 (by decide +kernel) ?_
                                              have hz_84 : (1 : Int32).toInt = 1 := by decide +kernel
                                              refine W.widen (k := 0) (n := 0) (Nat.le_of_ble_eq_true rfl) (Nat.le_of_ble_eq_true rfl) ?_
                                              exact dg_iret hx hb hr hlocks (by decide +kernel) hP hS ⟨rfl, (by decide +kernel), trivial⟩ dX12_isOwn_209
                                            · have jc_83 := dk_neqc (k := 0) (by decide +kernel) c_83
                                              refine lv_lload_n hx hb dX12_isOwn_184 rfl (lv_at hl 1 rfl) ?_
                                              refine lv_ldc2 hx hb hown (hts _ (bw_mem wB_1190)) dX12_isOwn_185 ?_
                                              refine W.lcmp hx hb dX12_isOwn_188 ?_
                                              refine lv_topi (fun x_85 ex_85 => ?_)
                                              have hz_85 : (6385252 : Int64).toInt = 6385252 := by decide +kernel
                                              have hlc_x_85 := dk_lcmp ex_85
                                              refine lv_if_eq (tgt := 208) hx hb dX12_isOwn_189 (by decide) (fun c_87 => ?_) (fun c_87 => ?_)
                                              · have jc_87 := dk_eqc (k := 0) (by decide +kernel) c_87
                                                refine lv_iconst (v := 1) hx hb dX12_isOwn_208 (by decide +kernel) ?_
                                                have hz_88 : (1 : Int32).toInt = 1 := by decide +kernel
                                                refine W.widen (k := 0) (n := 0) (Nat.le_of_ble_eq_true rfl) (Nat.le_of_ble_eq_true rfl) ?_
                                                exact dg_iret hx hb hr hlocks (by decide +kernel) hP hS ⟨rfl, (by decide +kernel), trivial⟩ dX12_isOwn_209
                                              · have jc_87 := dk_neqc (k := 0) (by decide +kernel) c_87
                                                refine lv_lload_n hx hb dX12_isOwn_192 rfl (lv_at hl 1 rfl) ?_
                                                refine lv_ldc2 hx hb hown (hts _ (bw_mem wB_1191)) dX12_isOwn_193 ?_
                                                refine W.lcmp hx hb dX12_isOwn_196 ?_
                                                refine lv_topi (fun x_89 ex_89 => ?_)
                                                have hz_89 : (7237492 : Int64).toInt = 7237492 := by decide +kernel
                                                have hlc_x_89 := dk_lcmp ex_89
                                                refine lv_if_eq (tgt := 208) hx hb dX12_isOwn_197 (by decide) (fun c_91 => ?_) (fun c_91 => ?_)
                                                · have jc_91 := dk_eqc (k := 0) (by decide +kernel) c_91
                                                  refine lv_iconst (v := 1) hx hb dX12_isOwn_208 (by decide +kernel) ?_
                                                  have hz_92 : (1 : Int32).toInt = 1 := by decide +kernel
                                                  refine W.widen (k := 0) (n := 0) (Nat.le_of_ble_eq_true rfl) (Nat.le_of_ble_eq_true rfl) ?_
                                                  exact dg_iret hx hb hr hlocks (by decide +kernel) hP hS ⟨rfl, (by decide +kernel), trivial⟩ dX12_isOwn_209
                                                · have jc_91 := dk_neqc (k := 0) (by decide +kernel) c_91
                                                  refine lv_lload_n hx hb dX12_isOwn_200 rfl (lv_at hl 1 rfl) ?_
                                                  refine lv_ldc2 hx hb hown (hts _ (bw_mem wB_1192)) dX12_isOwn_201 ?_
                                                  refine W.lcmp hx hb dX12_isOwn_204 ?_
                                                  refine lv_topi (fun x_93 ex_93 => ?_)
                                                  have hz_93 : (6384748 : Int64).toInt = 6384748 := by decide +kernel
                                                  have hlc_x_93 := dk_lcmp ex_93
                                                  refine lv_if_ne (tgt := 210) hx hb dX12_isOwn_205 (by decide) (fun c_95 => ?_) (fun c_95 => ?_)
                                                  · have jc_95 := dk_neqc (k := 0) (by decide +kernel) c_95
                                                    refine lv_lload_n hx hb dX12_isOwn_210 rfl (lv_at hl 1 rfl) ?_
                                                    refine lv_ldc2 hx hb hown (hts _ (bw_mem wB_1193)) dX12_isOwn_211 ?_
                                                    refine W.lcmp hx hb dX12_isOwn_214 ?_
                                                    refine lv_topi (fun x_96 ex_96 => ?_)
                                                    have hz_96 : (7170414 : Int64).toInt = 7170414 := by decide +kernel
                                                    have hlc_x_96 := dk_lcmp ex_96
                                                    refine lv_if_eq (tgt := 226) hx hb dX12_isOwn_215 (by decide) (fun c_98 => ?_) (fun c_98 => ?_)
                                                    · have jc_98 := dk_eqc (k := 0) (by decide +kernel) c_98
                                                      refine lv_iconst (v := 1) hx hb dX12_isOwn_226 (by decide +kernel) ?_
                                                      have hz_99 : (1 : Int32).toInt = 1 := by decide +kernel
                                                      refine W.widen (k := 0) (n := 0) (Nat.le_of_ble_eq_true rfl) (Nat.le_of_ble_eq_true rfl) ?_
                                                      exact dg_iret hx hb hr hlocks (by decide +kernel) hP hS ⟨rfl, (by decide +kernel), trivial⟩ dX12_isOwn_227
                                                    · have jc_98 := dk_neqc (k := 0) (by decide +kernel) c_98
                                                      refine lv_lload_n hx hb dX12_isOwn_218 rfl (lv_at hl 1 rfl) ?_
                                                      refine lv_ldc2 hx hb hown (hts _ (bw_mem wB_1194)) dX12_isOwn_219 ?_
                                                      refine W.lcmp hx hb dX12_isOwn_222 ?_
                                                      refine lv_topi (fun x_100 ex_100 => ?_)
                                                      have hz_100 : (7168376 : Int64).toInt = 7168376 := by decide +kernel
                                                      have hlc_x_100 := dk_lcmp ex_100
                                                      refine lv_if_ne (tgt := 228) hx hb dX12_isOwn_223 (by decide) (fun c_102 => ?_) (fun c_102 => ?_)
                                                      · have jc_102 := dk_neqc (k := 0) (by decide +kernel) c_102
                                                        refine lv_iconst (v := 0) hx hb dX12_isOwn_228 (by decide +kernel) ?_
                                                        have hz_103 : (0 : Int32).toInt = 0 := by decide +kernel
                                                        refine W.widen (k := 0) (n := 0) (Nat.le_of_ble_eq_true rfl) (Nat.le_of_ble_eq_true rfl) ?_
                                                        exact dg_iret hx hb hr hlocks (by decide +kernel) hP hS ⟨rfl, (by decide +kernel), trivial⟩ dX12_isOwn_229
                                                      · have jc_102 := dk_eqc (k := 0) (by decide +kernel) c_102
                                                        refine lv_iconst (v := 1) hx hb dX12_isOwn_226 (by decide +kernel) ?_
                                                        have hz_104 : (1 : Int32).toInt = 1 := by decide +kernel
                                                        refine W.widen (k := 0) (n := 0) (Nat.le_of_ble_eq_true rfl) (Nat.le_of_ble_eq_true rfl) ?_
                                                        exact dg_iret hx hb hr hlocks (by decide +kernel) hP hS ⟨rfl, (by decide +kernel), trivial⟩ dX12_isOwn_227
                                                  · have jc_95 := dk_eqc (k := 0) (by decide +kernel) c_95
                                                    refine lv_iconst (v := 1) hx hb dX12_isOwn_208 (by decide +kernel) ?_
                                                    have hz_105 : (1 : Int32).toInt = 1 := by decide +kernel
                                                    refine W.widen (k := 0) (n := 0) (Nat.le_of_ble_eq_true rfl) (Nat.le_of_ble_eq_true rfl) ?_
                                                    exact dg_iret hx hb hr hlocks (by decide +kernel) hP hS ⟨rfl, (by decide +kernel), trivial⟩ dX12_isOwn_209
                                        · have jc_76 := dk_eqc (k := 0) (by decide +kernel) c_76
                                          refine lv_iconst (v := 1) hx hb dX12_isOwn_166 (by decide +kernel) ?_
                                          have hz_106 : (1 : Int32).toInt = 1 := by decide +kernel
                                          refine W.widen (k := 0) (n := 0) (Nat.le_of_ble_eq_true rfl) (Nat.le_of_ble_eq_true rfl) ?_
                                          exact dg_iret hx hb hr hlocks (by decide +kernel) hP hS ⟨rfl, (by decide +kernel), trivial⟩ dX12_isOwn_167
                              · have jc_57 := dk_eqc (k := 0) (by decide +kernel) c_57
                                refine lv_iconst (v := 1) hx hb dX12_isOwn_124 (by decide +kernel) ?_
                                have hz_107 : (1 : Int32).toInt = 1 := by decide +kernel
                                refine W.widen (k := 0) (n := 0) (Nat.le_of_ble_eq_true rfl) (Nat.le_of_ble_eq_true rfl) ?_
                                exact dg_iret hx hb hr hlocks (by decide +kernel) hP hS ⟨rfl, (by decide +kernel), trivial⟩ dX12_isOwn_125
                    · have jc_38 := dk_eqc (k := 0) (by decide +kernel) c_38
                      refine lv_iconst (v := 1) hx hb dX12_isOwn_82 (by decide +kernel) ?_
                      have hz_108 : (1 : Int32).toInt = 1 := by decide +kernel
                      refine W.widen (k := 0) (n := 0) (Nat.le_of_ble_eq_true rfl) (Nat.le_of_ble_eq_true rfl) ?_
                      exact dg_iret hx hb hr hlocks (by decide +kernel) hP hS ⟨rfl, (by decide +kernel), trivial⟩ dX12_isOwn_83
          · have jc_19 := dk_eqc (k := 0) (by decide +kernel) c_19
            refine lv_iconst (v := 1) hx hb dX12_isOwn_40 (by decide +kernel) ?_
            have hz_109 : (1 : Int32).toInt = 1 := by decide +kernel
            refine W.widen (k := 0) (n := 0) (Nat.le_of_ble_eq_true rfl) (Nat.le_of_ble_eq_true rfl) ?_
            exact dg_iret hx hb hr hlocks (by decide +kernel) hP hS ⟨rfl, (by decide +kernel), trivial⟩ dX12_isOwn_41
set_option maxHeartbeats 8000000 in
set_option maxRecDepth 100000 in
theorem c_m_minerNamed (l : Launch) (g : Nat → ClassId) (D : va_G) (o : Nat) (S : dg_S) (b1 : Int64) (I : CM o S) (sz : Nat) : Met l yX12_minerNamed (bw yX12_minerNamed cX12_minerNamed 4 (some .int)) ({ frames := 1, cells := 0, slots := 0, locals := 32 } : Room) (dk_Pc g D (dg_w g shM o rfM S) sz [.ref (o + 0), .long b1]) (va_Qi (fun (r : Int32) S' => S' = S ∧ ((-1) ≤ (r).toInt ∧ (r).toInt ≤ 5) ∧ True) (dg_B g D shM o rfM) (dg_A o shM.length sz)) 0 0 (dg_A o shM.length sz) := by
  refine dg_met (cc := cX12_minerNamed) (maxL := 4) (ret := (some .int)) (by decide) rfl (Nat.le_of_ble_eq_true rfl) ?_
  intro p e s m args below meth c A hAe harg hx hb hr hml hts hown hlocks hin hP K hS hA1 hA ST hsz ls hl
  rw [← hAe]
  have F : CallFix p m c cX12_minerNamed 4 s args (bw yX12_minerNamed cX12_minerNamed 4 (some .int)) RX12 := ⟨hx, hb, hml, hown, hts⟩
  have hl : lv_has ls 4 [(0, .ref (o + 0)), (1, .long b1)] := hl
  have M_0 : dg_sm shM [] [] S S := dg_sm.rf
  refine lv_iconst (v := 0) hx hb dX12_minerNamed_0 (by decide +kernel) ?_
  refine lv_istore_n (lv' := [(3, .int 0), (0, .ref (o + 0)), (1, .long b1)]) hx hb dX12_minerNamed_1 rfl hl (by decide) rfl (fun ls hl => ?_)
  have L_26 : ∀ (n : Nat) (x_25 : Int32), (0 ≤ (x_25).toInt ∧ (x_25).toInt ≤ 6) → ((7 - (x_25).toInt).toNat < n) → ∀ (H : Heap) (locs : List Loc), va_P D vwCl (dg_w g shM o rfM S) H → va_S A s.heap H locs → ∀ ls : Array Slot, lv_has ls 4 [(3, .int x_25), (0, .ref (o + 0)), (1, .long b1)] → W p l e ({ frames := 1, cells := 0, slots := 0, locals := 32 } : Room) s m args below meth c H locs 0 0 (MQ below (va_Qi (fun (r : Int32) S' => S' = S ∧ ((-1) ≤ (r).toInt ∧ (r).toInt ≤ 5) ∧ True) (dg_B g D shM o rfM) A) args s 0 0 A) (F0 m 2 ls []) := by
    intro n
    induction n with
    | zero =>
      intro x_25 b_x_25 hmu H locs hP hS ls hl
      omega
    | succ n ih =>
      intro x_25 b_x_25 hmu H locs hP hS ls hl
      refine lv_iload_n hx hb dX12_minerNamed_2 rfl (lv_at hl 0 rfl) ?_
      refine lv_aload_n hx hb dX12_minerNamed_3 rfl (lv_at hl 1 rfl) ?_
      refine dg_get (C := RX12) (T := TX12) (N := 77) hx hb hts (fun w h => bw_mem (wU_X12 w h)) hown K hP sM_0 rfl 20 (by decide) (hts _ (bw_mem wB_901)) (fun _ h9 => h9) (v := .ref (o + 8)) (show S.1 0 20 = .ref (o + 8) from dg_I.rel (d := 8) I sM_0 (by decide +kernel)) dX12_minerNamed_4 ?_
      refine lv_aload_n hx hb dX12_minerNamed_7 rfl (lv_at hl 1 rfl) ?_
      obtain ⟨x_27, f_x_27, b_x_27⟩ := dg_I.int (i := 0) (k := 35) (lo := 0) (hi := 1) I sM_0 (by decide +kernel)
      refine dg_get (C := RX12) (T := TX12) (N := 77) hx hb hts (fun w h => bw_mem (wU_X12 w h)) hown K hP sM_0 rfl 35 (by decide) (hts _ (bw_mem wB_1195)) (fun _ h9 => h9) (v := .int x_27) f_x_27 dX12_minerNamed_8 ?_
      have hin_28 : vp_in x_27 2 := (dk_inv (by omega) (by omega))
      refine dg_iald hx hb K hP sM_8 hin_28 dX12_minerNamed_11 (fun x_29 ex_29 => ?_)
      have b_x_29 := dk_all_at (dg_I.row (lo := 0) (hi := 6) I sM_8 (by decide +kernel)) hin_28 ex_29
      refine lv_icmp_ge (tgt := 42) hx hb dX12_minerNamed_12 (by decide) (fun c_30 => ?_) (fun c_30 => ?_)
      · have jc_30 := dk_gec (k := (x_29).toInt) rfl c_30
        refine lv_iconst (v := (-1)) hx hb dX12_minerNamed_42 (by decide +kernel) ?_
        have hz_31 : (-1 : Int32).toInt = (-1) := by decide +kernel
        refine W.widen (k := 0) (n := 0) (Nat.le_of_ble_eq_true rfl) (Nat.le_of_ble_eq_true rfl) ?_
        exact dg_iret hx hb hr hlocks rfl hP hS ⟨rfl, (by decide +kernel), trivial⟩ dX12_minerNamed_43
      · have jc_30 := dk_ngec (k := (x_29).toInt) rfl c_30
        refine lv_aload_n hx hb dX12_minerNamed_15 rfl (lv_at hl 1 rfl) ?_
        refine dg_get (C := RX12) (T := TX12) (N := 77) hx hb hts (fun w h => bw_mem (wU_X12 w h)) hown K hP sM_0 rfl 32 (by decide) (hts _ (bw_mem wB_1033)) (fun _ h9 => h9) (v := .ref (o + 20)) (show S.1 0 32 = .ref (o + 20) from dg_I.rel (d := 20) I sM_0 (by decide +kernel)) dX12_minerNamed_16 ?_
        refine lv_bipush (v := 6) hx hb dX12_minerNamed_19 (by decide +kernel) ?_
        refine lv_aload_n hx hb dX12_minerNamed_21 rfl (lv_at hl 1 rfl) ?_
        refine dg_get (C := RX12) (T := TX12) (N := 77) hx hb hts (fun w h => bw_mem (wU_X12 w h)) hown K hP sM_0 rfl 35 (by decide) (hts _ (bw_mem wB_1195)) (fun _ h9 => h9) (v := .int x_27) f_x_27 dX12_minerNamed_22 ?_
        refine lv_imul hx hb dX12_minerNamed_25 ?_
        refine lv_topi (fun x_32 ex_32 => ?_)
        have jx_32 : (x_32).toInt = 6 * (x_27).toInt := by rw [ex_32]; exact dk_mulT (by decide +kernel) rfl (by omega) (by omega)
        refine lv_iload_n hx hb dX12_minerNamed_26 rfl (lv_at hl 0 rfl) ?_
        refine lv_iadd hx hb dX12_minerNamed_27 ?_
        refine lv_topi (fun x_33 ex_33 => ?_)
        have jx_33 : (x_33).toInt = (x_32).toInt + (x_25).toInt := by rw [ex_33]; exact dk_addT rfl rfl (by omega) (by omega)
        have hin_34 : vp_in x_33 12 := (dk_inv (by omega) (by omega))
        refine dg_lald hx hb K hP sM_20 hin_34 dX12_minerNamed_28 (fun x_35 ex_35 => ?_)
        refine lv_lload_n hx hb dX12_minerNamed_29 rfl (lv_at hl 2 rfl) ?_
        refine W.lcmp hx hb dX12_minerNamed_30 ?_
        refine lv_topi (fun x_36 ex_36 => ?_)
        have hlc_x_36 := dk_lcmp ex_36
        refine lv_if_ne (tgt := 36) hx hb dX12_minerNamed_31 (by decide) (fun c_37 => ?_) (fun c_37 => ?_)
        · have jc_37 := dk_neqc (k := 0) (by decide +kernel) c_37
          obtain ⟨x_38, ex_38⟩ : ∃ z, z = x_25 + 1 := ⟨_, rfl⟩
          have jx_38 : (x_38).toInt = (x_25).toInt + 1 := by rw [ex_38]; exact dk_addT rfl (by decide +kernel) (by omega) (by omega)
          refine lv_iinc (v := x_38) (lv' := [(3, .int x_38), (0, .ref (o + 0)), (1, .long b1)]) hx hb dX12_minerNamed_36 hl (k := 0) rfl (by rw [ex_38]; rfl) (by decide) rfl (fun ls hl => ?_)
          refine lv_goto (tgt := 2) hx hb dX12_minerNamed_39 (by decide) ?_
          exact ih x_38 (by omega) (by omega) _ _ hP hS _ (lv_sub hl [0, 1, 2] rfl)
        · have jc_37 := dk_eqc (k := 0) (by decide +kernel) c_37
          refine lv_iload_n hx hb dX12_minerNamed_34 rfl (lv_at hl 0 rfl) ?_
          refine W.widen (k := 0) (n := 0) (Nat.le_of_ble_eq_true rfl) (Nat.le_of_ble_eq_true rfl) ?_
          exact dg_iret hx hb hr hlocks rfl hP hS ⟨rfl, (by omega), trivial⟩ dX12_minerNamed_35
  have hz_39 : (0 : Int32).toInt = 0 := by decide +kernel
  have hz_40 : (0 : Int32).toInt = 0 := by decide +kernel
  exact L_26 ((7 - ((0 : Int32)).toInt).toNat + 1) 0 (by decide +kernel) (by omega) _ _ hP hS _ (lv_sub hl [0, 1, 2] rfl)
set_option maxHeartbeats 8000000 in
set_option maxRecDepth 100000 in
theorem c_m_isNamed (l : Launch) (g : Nat → ClassId) (D : va_G) (o : Nat) (S : dg_S) (b1 : Int64) (I : CM o S) (sz : Nat) : Met l yX12_isNamed (bw yX12_isNamed cX12_isNamed 4 (some .boolean)) ({ frames := 2, cells := 0, slots := 0, locals := 55 } : Room) (dk_Pc g D (dg_w g shM o rfM S) sz [.ref (o + 0), .long b1]) (va_Qi (fun (r : Int32) S' => S' = S ∧ (0 ≤ (r).toInt ∧ (r).toInt ≤ 1) ∧ True) (dg_B g D shM o rfM) (dg_A o shM.length sz)) 0 0 (dg_A o shM.length sz) := by
  refine dg_met (cc := cX12_isNamed) (maxL := 4) (ret := (some .boolean)) (by decide) rfl (Nat.le_of_ble_eq_true rfl) ?_
  intro p e s m args below meth c A hAe harg hx hb hr hml hts hown hlocks hin hP K hS hA1 hA ST hsz ls hl
  rw [← hAe]
  have F : CallFix p m c cX12_isNamed 4 s args (bw yX12_isNamed cX12_isNamed 4 (some .boolean)) RX12 := ⟨hx, hb, hml, hown, hts⟩
  have hl : lv_has ls 4 [(0, .ref (o + 0)), (1, .long b1)] := hl
  have M_0 : dg_sm shM [] [] S S := dg_sm.rf
  refine lv_iconst (v := 0) hx hb dX12_isNamed_0 (by decide +kernel) ?_
  refine lv_istore_n (lv' := [(3, .int 0), (0, .ref (o + 0)), (1, .long b1)]) hx hb dX12_isNamed_1 rfl hl (by decide) rfl (fun ls hl => ?_)
  have L_35 : ∀ (n : Nat) (x_34 : Int32), (0 ≤ (x_34).toInt ∧ (x_34).toInt ≤ 5) → ((6 - (x_34).toInt).toNat < n) → ∀ (H : Heap) (locs : List Loc), va_P D vwCl (dg_w g shM o rfM S) H → va_S A s.heap H locs → ∀ ls : Array Slot, lv_has ls 4 [(3, .int x_34), (0, .ref (o + 0)), (1, .long b1)] → W p l e ({ frames := 2, cells := 0, slots := 0, locals := 55 } : Room) s m args below meth c H locs 0 0 (MQ below (va_Qi (fun (r : Int32) S' => S' = S ∧ (0 ≤ (r).toInt ∧ (r).toInt ≤ 1) ∧ True) (dg_B g D shM o rfM) A) args s 0 0 A) (F0 m 2 ls []) := by
    intro n
    induction n with
    | zero =>
      intro x_34 b_x_34 hmu H locs hP hS ls hl
      omega
    | succ n ih =>
      intro x_34 b_x_34 hmu H locs hP hS ls hl
      refine lv_iload_n hx hb dX12_isNamed_2 rfl (lv_at hl 0 rfl) ?_
      refine lv_aload_n hx hb dX12_isNamed_3 rfl (lv_at hl 1 rfl) ?_
      refine dg_get (C := RX12) (T := TX12) (N := 77) hx hb hts (fun w h => bw_mem (wU_X12 w h)) hown K hP sM_0 rfl 24 (by decide) (hts _ (bw_mem wB_902)) (fun _ h9 => h9) (v := .ref (o + 12)) (show S.1 0 24 = .ref (o + 12) from dg_I.rel (d := 12) I sM_0 (by decide +kernel)) dX12_isNamed_4 ?_
      refine lv_aload_n hx hb dX12_isNamed_7 rfl (lv_at hl 1 rfl) ?_
      obtain ⟨x_36, f_x_36, b_x_36⟩ := dg_I.int (i := 0) (k := 35) (lo := 0) (hi := 1) I sM_0 (by decide +kernel)
      refine dg_get (C := RX12) (T := TX12) (N := 77) hx hb hts (fun w h => bw_mem (wU_X12 w h)) hown K hP sM_0 rfl 35 (by decide) (hts _ (bw_mem wB_1195)) (fun _ h9 => h9) (v := .int x_36) f_x_36 dX12_isNamed_8 ?_
      have hin_37 : vp_in x_36 2 := (dk_inv (by omega) (by omega))
      refine dg_iald hx hb K hP sM_12 hin_37 dX12_isNamed_11 (fun x_38 ex_38 => ?_)
      have b_x_38 := dk_all_at (dg_I.row (lo := 0) (hi := 5) I sM_12 (by decide +kernel)) hin_37 ex_38
      refine lv_icmp_ge (tgt := 41) hx hb dX12_isNamed_12 (by decide) (fun c_39 => ?_) (fun c_39 => ?_)
      · have jc_39 := dk_gec (k := (x_38).toInt) rfl c_39
        refine lv_aload_n hx hb dX12_isNamed_41 rfl (lv_at hl 1 rfl) ?_
        refine lv_lload_n hx hb dX12_isNamed_42 rfl (lv_at hl 2 rfl) ?_
        refine dg_calli hS hA1 hA (va_runV (As := [.long b1]) (rest := []) F (c_m_minerNamed l g D o S b1 I H.size) (cwV 1 hts (bw_V wB_1197 wB_1198 wB_1199 wB_881 wB_1196) rfl rfl rfl (by decide +kernel) ⟨Nat.le_of_ble_eq_true rfl, Nat.le_of_ble_eq_true rfl⟩) (dg_preV sM_0 rfl K ST hP hS hA1 hA) rfl rfl hl.1 rfl (lv_room (Nat.le_of_ble_eq_true rfl)) dX12_isNamed_43 ⟨Nat.le_of_ble_eq_true rfl, Nat.le_of_ble_eq_true rfl⟩) (fun x_40 S_41 hw_41 H locs hP hS => ?_)
        rw [hw_41.1] at hP
        obtain ⟨hq_41, w_41_0, -⟩ := hw_41
        have w_41_0 : (-1) ≤ (x_40).toInt ∧ (x_40).toInt ≤ 5 := w_41_0
        refine lv_iconst (v := (-1)) hx hb dX12_isNamed_46 (by decide +kernel) ?_
        refine lv_icmp_eq (tgt := 54) hx hb dX12_isNamed_47 (by decide) (fun c_42 => ?_) (fun c_42 => ?_)
        · have jc_42 := dk_eqc (k := (-1)) (by decide +kernel) c_42
          refine lv_iconst (v := 0) hx hb dX12_isNamed_54 (by decide +kernel) ?_
          have hz_43 : (0 : Int32).toInt = 0 := by decide +kernel
          refine W.widen (k := 0) (n := 0) (Nat.le_of_ble_eq_true rfl) (Nat.le_of_ble_eq_true rfl) ?_
          exact dg_iret hx hb hr hlocks (by decide +kernel) hP hS ⟨rfl, (by decide +kernel), trivial⟩ dX12_isNamed_55
        · have jc_42 := dk_neqc (k := (-1)) (by decide +kernel) c_42
          refine lv_iconst (v := 1) hx hb dX12_isNamed_50 (by decide +kernel) ?_
          refine lv_goto (tgt := 55) hx hb dX12_isNamed_51 (by decide) ?_
          have hz_44 : (1 : Int32).toInt = 1 := by decide +kernel
          refine W.widen (k := 0) (n := 0) (Nat.le_of_ble_eq_true rfl) (Nat.le_of_ble_eq_true rfl) ?_
          exact dg_iret hx hb hr hlocks (by decide +kernel) hP hS ⟨rfl, (by decide +kernel), trivial⟩ dX12_isNamed_55
      · have jc_39 := dk_ngec (k := (x_38).toInt) rfl c_39
        refine lv_aload_n hx hb dX12_isNamed_15 rfl (lv_at hl 1 rfl) ?_
        refine dg_get (C := RX12) (T := TX12) (N := 77) hx hb hts (fun w h => bw_mem (wU_X12 w h)) hown K hP sM_0 rfl 33 (by decide) (hts _ (bw_mem wB_1027)) (fun _ h9 => h9) (v := .ref (o + 21)) (show S.1 0 33 = .ref (o + 21) from dg_I.rel (d := 21) I sM_0 (by decide +kernel)) dX12_isNamed_16 ?_
        refine lv_iconst (v := 5) hx hb dX12_isNamed_19 (by decide +kernel) ?_
        refine lv_aload_n hx hb dX12_isNamed_20 rfl (lv_at hl 1 rfl) ?_
        refine dg_get (C := RX12) (T := TX12) (N := 77) hx hb hts (fun w h => bw_mem (wU_X12 w h)) hown K hP sM_0 rfl 35 (by decide) (hts _ (bw_mem wB_1195)) (fun _ h9 => h9) (v := .int x_36) f_x_36 dX12_isNamed_21 ?_
        refine lv_imul hx hb dX12_isNamed_24 ?_
        refine lv_topi (fun x_45 ex_45 => ?_)
        have jx_45 : (x_45).toInt = 5 * (x_36).toInt := by rw [ex_45]; exact dk_mulT (by decide +kernel) rfl (by omega) (by omega)
        refine lv_iload_n hx hb dX12_isNamed_25 rfl (lv_at hl 0 rfl) ?_
        refine lv_iadd hx hb dX12_isNamed_26 ?_
        refine lv_topi (fun x_46 ex_46 => ?_)
        have jx_46 : (x_46).toInt = (x_45).toInt + (x_34).toInt := by rw [ex_46]; exact dk_addT rfl rfl (by omega) (by omega)
        have hin_47 : vp_in x_46 10 := (dk_inv (by omega) (by omega))
        refine dg_lald hx hb K hP sM_21 hin_47 dX12_isNamed_27 (fun x_48 ex_48 => ?_)
        refine lv_lload_n hx hb dX12_isNamed_28 rfl (lv_at hl 2 rfl) ?_
        refine W.lcmp hx hb dX12_isNamed_29 ?_
        refine lv_topi (fun x_49 ex_49 => ?_)
        have hlc_x_49 := dk_lcmp ex_49
        refine lv_if_ne (tgt := 35) hx hb dX12_isNamed_30 (by decide) (fun c_50 => ?_) (fun c_50 => ?_)
        · have jc_50 := dk_neqc (k := 0) (by decide +kernel) c_50
          obtain ⟨x_51, ex_51⟩ : ∃ z, z = x_34 + 1 := ⟨_, rfl⟩
          have jx_51 : (x_51).toInt = (x_34).toInt + 1 := by rw [ex_51]; exact dk_addT rfl (by decide +kernel) (by omega) (by omega)
          refine lv_iinc (v := x_51) (lv' := [(3, .int x_51), (0, .ref (o + 0)), (1, .long b1)]) hx hb dX12_isNamed_35 hl (k := 0) rfl (by rw [ex_51]; rfl) (by decide) rfl (fun ls hl => ?_)
          refine lv_goto (tgt := 2) hx hb dX12_isNamed_38 (by decide) ?_
          exact ih x_51 (by omega) (by omega) _ _ hP hS _ (lv_sub hl [0, 1, 2] rfl)
        · have jc_50 := dk_eqc (k := 0) (by decide +kernel) c_50
          refine lv_iconst (v := 1) hx hb dX12_isNamed_33 (by decide +kernel) ?_
          have hz_52 : (1 : Int32).toInt = 1 := by decide +kernel
          refine W.widen (k := 0) (n := 0) (Nat.le_of_ble_eq_true rfl) (Nat.le_of_ble_eq_true rfl) ?_
          exact dg_iret hx hb hr hlocks (by decide +kernel) hP hS ⟨rfl, (by decide +kernel), trivial⟩ dX12_isNamed_34
  have hz_53 : (0 : Int32).toInt = 0 := by decide +kernel
  have hz_54 : (0 : Int32).toInt = 0 := by decide +kernel
  exact L_35 ((6 - ((0 : Int32)).toInt).toNat + 1) 0 (by decide +kernel) (by omega) _ _ hP hS _ (lv_sub hl [0, 1, 2] rfl)
set_option maxHeartbeats 8000000 in
set_option maxRecDepth 100000 in
theorem c_m_number (l : Launch) (g : Nat → ClassId) (D : va_G) (o : Nat) (S : dg_S) (a1 : Int32) (a2 : Int32) (sg : Int32) (f_sg : S.1 0 3 = .int sg) (b_sg : 0 ≤ (sg).toInt ∧ (sg).toInt ≤ 3) (sa : Int32) (f_sa : S.1 0 4 = .int sa) (b_sa : 0 ≤ (sa).toInt ∧ (sa).toInt ≤ 1600) (se : Int32) (f_se : S.1 0 5 = .int se) (b_se : 0 ≤ (se).toInt ∧ (se).toInt ≤ 1600) (sl : Int32) (f_sl : S.1 0 2 = .int sl) (b_sl : 0 ≤ (sl).toInt ∧ (sl).toInt ≤ 1600) (fk : Int32) (f_fk : S.1 0 8 = .int fk) (b_fk : 0 ≤ (fk).toInt ∧ (fk).toInt ≤ 6) (hlx : (sa).toInt ≤ (se).toInt ∧ (se).toInt ≤ (sl).toInt ∧ ((sg).toInt ≠ 0 → (sa).toInt + 1 ≤ (se).toInt)) (I : CM o S) (sz : Nat) : Met l yX12_number (bw yX12_number cX12_number 4 (some .int)) ({ frames := 3, cells := 0, slots := 0, locals := 77 } : Room) (dk_Pc g D (dg_w g shM o rfM S) sz [.ref (o + 0), .int a1, .int a2]) (va_Qi (fun (r : Int32) S' => CM o S' ∧ dg_sm shM [(0, 3), (0, 4), (0, 5), (0, 6), (0, 7), (0, 8), (0, 9), (0, 12)] [] S S' ∧ (0 ≤ (r).toInt ∧ (r).toInt ≤ 9999) ∧ (∃ y9_3 y9_4 y9_5 y9_8 : Int32, S'.1 0 3 = .int y9_3 ∧ S'.1 0 4 = .int y9_4 ∧ S'.1 0 5 = .int y9_5 ∧ S'.1 0 8 = .int y9_8 ∧ (((y9_4).toInt ≤ (y9_5).toInt ∧ (y9_5).toInt ≤ (sl).toInt ∧ ((y9_3).toInt ≠ 0 → (y9_4).toInt + 1 ≤ (y9_5).toInt)) ∧ (sa).toInt ≤ (y9_4).toInt ∧ ((fk).toInt ≠ 0 → (y9_8).toInt ≠ 0) ∧ ((y9_8).toInt = 0 → ((a1).toInt ≤ (r).toInt ∧ (r).toInt ≤ (a2).toInt ∧ (sa).toInt + 1 ≤ (y9_4).toInt)))) ∧ True) (dg_B g D shM o rfM) (dg_A o shM.length sz)) 0 0 (dg_A o shM.length sz) := by
  refine dg_met (cc := cX12_number) (maxL := 4) (ret := (some .int)) (by decide) rfl (Nat.le_of_ble_eq_true rfl) ?_
  intro p e s m args below meth c A hAe harg hx hb hr hml hts hown hlocks hin hP K hS hA1 hA ST hsz ls hl
  rw [← hAe]
  have F : CallFix p m c cX12_number 4 s args (bw yX12_number cX12_number 4 (some .int)) RX12 := ⟨hx, hb, hml, hown, hts⟩
  have hl : lv_has ls 4 [(0, .ref (o + 0)), (1, .int a1), (2, .int a2)] := hl
  have M_0 : dg_sm shM [(0, 3), (0, 4), (0, 5), (0, 6), (0, 7), (0, 8), (0, 9), (0, 12)] [] S S := dg_sm.rf
  refine lv_aload_n hx hb dX12_number_0 rfl (lv_at hl 0 rfl) ?_
  refine dg_callv hS hA1 hA (va_runV (As := []) (rest := []) F (c_m_lex l g D o S fk f_fk (by omega) I s.heap.size) (cwV 0 hts (bw_V wB_1153 wB_1154 wB_1155 wB_881 wB_1152) rfl rfl rfl (by decide +kernel) ⟨Nat.le_of_ble_eq_true rfl, Nat.le_of_ble_eq_true rfl⟩) (dg_preV sM_0 rfl K ST hP hS hA1 hA) rfl rfl hl.1 rfl (lv_room (Nat.le_of_ble_eq_true rfl)) dX12_number_1 ⟨Nat.le_of_ble_eq_true rfl, Nat.le_of_ble_eq_true rfl⟩) (fun S_1 hw_1 H locs hP hS => ?_)
  obtain ⟨I_1, m_1, w_1_0, -⟩ := hw_1
  have M_1 := dg_sm.tr M_0 m_1 (by decide) (by decide)
  obtain ⟨y_2, f_y_2, w_1_0⟩ := w_1_0
  have w_1_0 : (fk).toInt ≠ 0 → (y_2).toInt = (fk).toInt := w_1_0
  have b_y_2 : 0 ≤ (y_2).toInt ∧ (y_2).toInt ≤ 6 := dg_I.intb (lo := 0) (hi := 6) I_1 sM_0 (by decide +kernel) f_y_2
  refine lv_aload_n hx hb dX12_number_4 rfl (lv_at hl 0 rfl) ?_
  refine dg_get (C := RX12) (T := TX12) (N := 77) hx hb hts (fun w h => bw_mem (wU_X12 w h)) hown K hP sM_0 rfl 8 (by decide) (hts _ (bw_mem wB_1133)) (fun _ h9 => h9) (v := .int y_2) f_y_2 dX12_number_5 ?_
  refine lv_if_le (tgt := 13) hx hb dX12_number_8 (by decide) (fun c_3 => ?_) (fun c_3 => ?_)
  · have jc_3 := dk_lec (k := 0) (by decide +kernel) c_3
    refine lv_aload_n hx hb dX12_number_13 rfl (lv_at hl 0 rfl) ?_
    refine dg_get (C := RX12) (T := TX12) (N := 77) hx hb hts (fun w h => bw_mem (wU_X12 w h)) hown K hP sM_0 rfl 3 (by decide) (hts _ (bw_mem wB_1140)) (fun _ h9 => h9) (v := .int sg) ((m_1.1 0 3 _ sM_0 (by decide)).trans f_sg) dX12_number_14 ?_
    refine lv_iconst (v := 2) hx hb dX12_number_17 (by decide +kernel) ?_
    refine lv_icmp_eq (tgt := 30) hx hb dX12_number_18 (by decide) (fun c_4 => ?_) (fun c_4 => ?_)
    · have jc_4 := dk_eqc (k := 2) (by decide +kernel) c_4
      refine lv_aload_n hx hb dX12_number_30 rfl (lv_at hl 0 rfl) ?_
      refine dg_get (C := RX12) (T := TX12) (N := 77) hx hb hts (fun w h => bw_mem (wU_X12 w h)) hown K hP sM_0 rfl 8 (by decide) (hts _ (bw_mem wB_1133)) (fun _ h9 => h9) (v := .int y_2) f_y_2 dX12_number_31 ?_
      refine lv_if_ne (tgt := 58) hx hb dX12_number_34 (by decide) (fun c => absurd (dk_eqp (k := 0) (by decide +kernel) (by omega)) c) (fun _ => ?_)
      refine lv_aload_n hx hb dX12_number_37 rfl (lv_at hl 0 rfl) ?_
      obtain ⟨x_5, f_x_5, b_x_5⟩ := dg_I.int (i := 0) (k := 6) (lo := 0) (hi := 9999) I_1 sM_0 (by decide +kernel)
      refine dg_get (C := RX12) (T := TX12) (N := 77) hx hb hts (fun w h => bw_mem (wU_X12 w h)) hown K hP sM_0 rfl 6 (by decide) (hts _ (bw_mem wB_1141)) (fun _ h9 => h9) (v := .int x_5) f_x_5 dX12_number_38 ?_
      refine lv_iload_n hx hb dX12_number_41 rfl (lv_at hl 1 rfl) ?_
      refine lv_iload_n hx hb dX12_number_42 rfl (lv_at hl 2 rfl) ?_
      refine dg_calli hS hA1 hA (va_runS (As := [.int x_5, .int a1, .int a2]) (rest := []) F (c_m_is l g D o S_1 x_5 a1 a2 I_1 H.size) (va_cwS 3 hts (bw_S wB_889 wB_890 wB_881 wB_888) rfl rfl rfl (by decide +kernel) ⟨Nat.le_of_ble_eq_true rfl, Nat.le_of_ble_eq_true rfl⟩) (dg_preS K ST hP hS hA1 hA) rfl rfl hl.1 rfl (lv_room (Nat.le_of_ble_eq_true rfl)) dX12_number_43 ⟨Nat.le_of_ble_eq_true rfl, Nat.le_of_ble_eq_true rfl⟩) (fun x_6 S_7 hw_7 H locs hP hS => ?_)
      rw [hw_7.1] at hP
      obtain ⟨hq_7, w_7_0, w_7_1, -⟩ := hw_7
      have w_7_0 : 0 ≤ (x_6).toInt ∧ (x_6).toInt ≤ 1 := w_7_0
      have w_7_1 : (x_6).toInt = 1 ↔ ((a1).toInt ≤ (x_5).toInt ∧ (x_5).toInt ≤ (a2).toInt) := w_7_1
      refine lv_if_ne (tgt := 58) hx hb dX12_number_46 (by decide) (fun c_8 => ?_) (fun c_8 => ?_)
      · have jc_8 := dk_neqc (k := 0) (by decide +kernel) c_8
        refine lv_aload_n hx hb dX12_number_58 rfl (lv_at hl 0 rfl) ?_
        refine dg_get (C := RX12) (T := TX12) (N := 77) hx hb hts (fun w h => bw_mem (wU_X12 w h)) hown K hP sM_0 rfl 6 (by decide) (hts _ (bw_mem wB_1141)) (fun _ h9 => h9) (v := .int x_5) f_x_5 dX12_number_59 ?_
        refine lv_istore_n (lv' := [(3, .int x_5), (0, .ref (o + 0)), (1, .int a1), (2, .int a2)]) hx hb dX12_number_62 rfl hl (by decide) rfl (fun ls hl => ?_)
        refine lv_aload_n hx hb dX12_number_63 rfl (lv_at hl 1 rfl) ?_
        refine dg_get (C := RX12) (T := TX12) (N := 77) hx hb hts (fun w h => bw_mem (wU_X12 w h)) hown K hP sM_0 rfl 8 (by decide) (hts _ (bw_mem wB_1133)) (fun _ h9 => h9) (v := .int y_2) f_y_2 dX12_number_64 ?_
        refine lv_if_ne (tgt := 74) hx hb dX12_number_67 (by decide) (fun c => absurd (dk_eqp (k := 0) (by decide +kernel) (by omega)) c) (fun _ => ?_)
        refine lv_aload_n hx hb dX12_number_70 rfl (lv_at hl 1 rfl) ?_
        refine dg_callv hS hA1 hA (va_runV (As := []) (rest := []) F (c_m_ahead l g D o S_1 se ((m_1.1 0 5 _ sM_0 (by decide)).trans f_se) (by omega) sl ((m_1.1 0 2 _ sM_0 (by decide)).trans f_sl) (by omega) (by omega) I_1 H.size) (cwV 0 hts (bw_V wB_1161 wB_1162 wB_1163 wB_881 wB_1160) rfl rfl rfl (by decide +kernel) ⟨Nat.le_of_ble_eq_true rfl, Nat.le_of_ble_eq_true rfl⟩) (dg_preV sM_0 rfl K ST hP hS hA1 hA) rfl rfl hl.1 rfl (lv_room (Nat.le_of_ble_eq_true rfl)) dX12_number_71 ⟨Nat.le_of_ble_eq_true rfl, Nat.le_of_ble_eq_true rfl⟩) (fun S_9 hw_9 H locs hP hS => ?_)
        obtain ⟨I_9, m_9, w_9_0, -⟩ := hw_9
        have M_9 := dg_sm.tr M_1 m_9 (by decide) (by decide)
        obtain ⟨y_10, y_11, y_12, f_y_10, f_y_11, f_y_12, w_9_0⟩ := w_9_0
        have w_9_0 : (se).toInt ≤ (y_11).toInt ∧ (y_11).toInt ≤ (y_12).toInt ∧ (y_12).toInt ≤ (sl).toInt ∧ ((y_10).toInt ≠ 0 → (y_11).toInt + 1 ≤ (y_12).toInt) := w_9_0
        have b_y_10 : 0 ≤ (y_10).toInt ∧ (y_10).toInt ≤ 3 := dg_I.intb (lo := 0) (hi := 3) I_9 sM_0 (by decide +kernel) f_y_10
        have b_y_11 : 0 ≤ (y_11).toInt ∧ (y_11).toInt ≤ 1600 := dg_I.intb (lo := 0) (hi := 1600) I_9 sM_0 (by decide +kernel) f_y_11
        have b_y_12 : 0 ≤ (y_12).toInt ∧ (y_12).toInt ≤ 1600 := dg_I.intb (lo := 0) (hi := 1600) I_9 sM_0 (by decide +kernel) f_y_12
        refine lv_iload_n hx hb dX12_number_74 rfl (lv_at hl 0 rfl) ?_
        refine W.widen (k := 0) (n := 0) (Nat.le_of_ble_eq_true rfl) (Nat.le_of_ble_eq_true rfl) ?_
        exact dg_iret hx hb hr hlocks rfl hP hS ⟨I_9, M_9, (by omega), ⟨y_10, y_11, y_12, y_2, f_y_10, f_y_11, f_y_12, ((m_9.1 0 8 _ sM_0 (by decide)).trans f_y_2), (by omega)⟩, trivial⟩ dX12_number_75
      · have jc_8 := dk_eqc (k := 0) (by decide +kernel) c_8
        refine lv_aload_n hx hb dX12_number_49 rfl (lv_at hl 0 rfl) ?_
        refine lv_iconst (v := 4) hx hb dX12_number_50 (by decide +kernel) ?_
        refine lv_aload_n hx hb dX12_number_51 rfl (lv_at hl 0 rfl) ?_
        refine dg_get (C := RX12) (T := TX12) (N := 77) hx hb hts (fun w h => bw_mem (wU_X12 w h)) hown K hP sM_0 rfl 4 (by decide) (hts _ (bw_mem wB_1145)) (fun _ h9 => h9) (v := .int sa) ((m_1.1 0 4 _ sM_0 (by decide)).trans f_sa) dX12_number_52 ?_
        have hz_13 : (4 : Int32).toInt = 4 := by decide +kernel
        refine dg_callv hS hA1 hA (va_runV (As := [.int 4, .int sa]) (rest := []) F (c_m_blame l g D o S_1 4 (by decide +kernel) sa y_2 f_y_2 (by omega) I_1 H.size) (cwV 2 hts (bw_V wB_1137 wB_1138 wB_1139 wB_881 wB_1136) rfl rfl rfl (by decide +kernel) ⟨Nat.le_of_ble_eq_true rfl, Nat.le_of_ble_eq_true rfl⟩) (dg_preV sM_0 rfl K ST hP hS hA1 hA) rfl rfl hl.1 rfl (lv_room (Nat.le_of_ble_eq_true rfl)) dX12_number_55 ⟨Nat.le_of_ble_eq_true rfl, Nat.le_of_ble_eq_true rfl⟩) (fun S_14 hw_14 H locs hP hS => ?_)
        obtain ⟨I_14, m_14, w_14_0, -⟩ := hw_14
        have M_14 := dg_sm.tr M_1 m_14 (by decide) (by decide)
        have hz_15 : (4 : Int32).toInt = 4 := by decide +kernel
        obtain ⟨y_16, f_y_16, w_14_0⟩ := w_14_0
        have w_14_0 : ((y_2).toInt ≠ 0 → (y_16).toInt = (y_2).toInt) ∧ ((y_2).toInt = 0 → (y_16).toInt = ((4 : Int32)).toInt) := w_14_0
        have b_y_16 : 0 ≤ (y_16).toInt ∧ (y_16).toInt ≤ 6 := dg_I.intb (lo := 0) (hi := 6) I_14 sM_0 (by decide +kernel) f_y_16
        have hbl_y_16 : 1 ≤ (y_16).toInt := by omega
        refine lv_aload_n hx hb dX12_number_58 rfl (lv_at hl 0 rfl) ?_
        refine dg_get (C := RX12) (T := TX12) (N := 77) hx hb hts (fun w h => bw_mem (wU_X12 w h)) hown K hP sM_0 rfl 6 (by decide) (hts _ (bw_mem wB_1141)) (fun _ h9 => h9) (v := .int x_5) ((m_14.1 0 6 _ sM_0 (by decide)).trans f_x_5) dX12_number_59 ?_
        refine lv_istore_n (lv' := [(3, .int x_5), (0, .ref (o + 0)), (1, .int a1), (2, .int a2)]) hx hb dX12_number_62 rfl hl (by decide) rfl (fun ls hl => ?_)
        refine lv_aload_n hx hb dX12_number_63 rfl (lv_at hl 1 rfl) ?_
        refine dg_get (C := RX12) (T := TX12) (N := 77) hx hb hts (fun w h => bw_mem (wU_X12 w h)) hown K hP sM_0 rfl 8 (by decide) (hts _ (bw_mem wB_1133)) (fun _ h9 => h9) (v := .int y_16) f_y_16 dX12_number_64 ?_
        refine lv_if_ne (tgt := 74) hx hb dX12_number_67 (by decide) (fun _ => ?_) (fun c => absurd c (fun z => absurd (dk_eqc (k := 0) (by decide +kernel) z) (by omega)))
        refine lv_iload_n hx hb dX12_number_74 rfl (lv_at hl 0 rfl) ?_
        refine W.widen (k := 0) (n := 0) (Nat.le_of_ble_eq_true rfl) (Nat.le_of_ble_eq_true rfl) ?_
        exact dg_iret hx hb hr hlocks rfl hP hS ⟨I_14, M_14, (by omega), ⟨sg, sa, se, y_16, (((m_14.1 0 3 _ sM_0 (by decide)).trans (m_1.1 0 3 _ sM_0 (by decide))).trans f_sg), (((m_14.1 0 4 _ sM_0 (by decide)).trans (m_1.1 0 4 _ sM_0 (by decide))).trans f_sa), (((m_14.1 0 5 _ sM_0 (by decide)).trans (m_1.1 0 5 _ sM_0 (by decide))).trans f_se), f_y_16, (by omega)⟩, trivial⟩ dX12_number_75
    · have jc_4 := dk_neqc (k := 2) (by decide +kernel) c_4
      refine lv_aload_n hx hb dX12_number_21 rfl (lv_at hl 0 rfl) ?_
      refine lv_iconst (v := 1) hx hb dX12_number_22 (by decide +kernel) ?_
      refine lv_aload_n hx hb dX12_number_23 rfl (lv_at hl 0 rfl) ?_
      refine dg_get (C := RX12) (T := TX12) (N := 77) hx hb hts (fun w h => bw_mem (wU_X12 w h)) hown K hP sM_0 rfl 4 (by decide) (hts _ (bw_mem wB_1145)) (fun _ h9 => h9) (v := .int sa) ((m_1.1 0 4 _ sM_0 (by decide)).trans f_sa) dX12_number_24 ?_
      have hz_17 : (1 : Int32).toInt = 1 := by decide +kernel
      refine dg_callv hS hA1 hA (va_runV (As := [.int 1, .int sa]) (rest := []) F (c_m_blame l g D o S_1 1 (by decide +kernel) sa y_2 f_y_2 (by omega) I_1 H.size) (cwV 2 hts (bw_V wB_1137 wB_1138 wB_1139 wB_881 wB_1136) rfl rfl rfl (by decide +kernel) ⟨Nat.le_of_ble_eq_true rfl, Nat.le_of_ble_eq_true rfl⟩) (dg_preV sM_0 rfl K ST hP hS hA1 hA) rfl rfl hl.1 rfl (lv_room (Nat.le_of_ble_eq_true rfl)) dX12_number_27 ⟨Nat.le_of_ble_eq_true rfl, Nat.le_of_ble_eq_true rfl⟩) (fun S_18 hw_18 H locs hP hS => ?_)
      obtain ⟨I_18, m_18, w_18_0, -⟩ := hw_18
      have M_18 := dg_sm.tr M_1 m_18 (by decide) (by decide)
      have hz_19 : (1 : Int32).toInt = 1 := by decide +kernel
      obtain ⟨y_20, f_y_20, w_18_0⟩ := w_18_0
      have w_18_0 : ((y_2).toInt ≠ 0 → (y_20).toInt = (y_2).toInt) ∧ ((y_2).toInt = 0 → (y_20).toInt = ((1 : Int32)).toInt) := w_18_0
      have b_y_20 : 0 ≤ (y_20).toInt ∧ (y_20).toInt ≤ 6 := dg_I.intb (lo := 0) (hi := 6) I_18 sM_0 (by decide +kernel) f_y_20
      have hbl_y_20 : 1 ≤ (y_20).toInt := by omega
      refine lv_aload_n hx hb dX12_number_30 rfl (lv_at hl 0 rfl) ?_
      refine dg_get (C := RX12) (T := TX12) (N := 77) hx hb hts (fun w h => bw_mem (wU_X12 w h)) hown K hP sM_0 rfl 8 (by decide) (hts _ (bw_mem wB_1133)) (fun _ h9 => h9) (v := .int y_20) f_y_20 dX12_number_31 ?_
      refine lv_if_ne (tgt := 58) hx hb dX12_number_34 (by decide) (fun _ => ?_) (fun c => absurd c (fun z => absurd (dk_eqc (k := 0) (by decide +kernel) z) (by omega)))
      refine lv_aload_n hx hb dX12_number_58 rfl (lv_at hl 0 rfl) ?_
      obtain ⟨x_21, f_x_21, b_x_21⟩ := dg_I.int (i := 0) (k := 6) (lo := 0) (hi := 9999) I_18 sM_0 (by decide +kernel)
      refine dg_get (C := RX12) (T := TX12) (N := 77) hx hb hts (fun w h => bw_mem (wU_X12 w h)) hown K hP sM_0 rfl 6 (by decide) (hts _ (bw_mem wB_1141)) (fun _ h9 => h9) (v := .int x_21) f_x_21 dX12_number_59 ?_
      refine lv_istore_n (lv' := [(3, .int x_21), (0, .ref (o + 0)), (1, .int a1), (2, .int a2)]) hx hb dX12_number_62 rfl hl (by decide) rfl (fun ls hl => ?_)
      refine lv_aload_n hx hb dX12_number_63 rfl (lv_at hl 1 rfl) ?_
      refine dg_get (C := RX12) (T := TX12) (N := 77) hx hb hts (fun w h => bw_mem (wU_X12 w h)) hown K hP sM_0 rfl 8 (by decide) (hts _ (bw_mem wB_1133)) (fun _ h9 => h9) (v := .int y_20) f_y_20 dX12_number_64 ?_
      refine lv_if_ne (tgt := 74) hx hb dX12_number_67 (by decide) (fun _ => ?_) (fun c => absurd c (fun z => absurd (dk_eqc (k := 0) (by decide +kernel) z) (by omega)))
      refine lv_iload_n hx hb dX12_number_74 rfl (lv_at hl 0 rfl) ?_
      refine W.widen (k := 0) (n := 0) (Nat.le_of_ble_eq_true rfl) (Nat.le_of_ble_eq_true rfl) ?_
      exact dg_iret hx hb hr hlocks rfl hP hS ⟨I_18, M_18, (by omega), ⟨sg, sa, se, y_20, (((m_18.1 0 3 _ sM_0 (by decide)).trans (m_1.1 0 3 _ sM_0 (by decide))).trans f_sg), (((m_18.1 0 4 _ sM_0 (by decide)).trans (m_1.1 0 4 _ sM_0 (by decide))).trans f_sa), (((m_18.1 0 5 _ sM_0 (by decide)).trans (m_1.1 0 5 _ sM_0 (by decide))).trans f_se), f_y_20, (by omega)⟩, trivial⟩ dX12_number_75
  · have jc_3 := dk_nlec (k := 0) (by decide +kernel) c_3
    refine lv_iconst (v := 0) hx hb dX12_number_11 (by decide +kernel) ?_
    have hz_22 : (0 : Int32).toInt = 0 := by decide +kernel
    have hz_23 : (0 : Int32).toInt = 0 := by decide +kernel
    refine W.widen (k := 0) (n := 0) (Nat.le_of_ble_eq_true rfl) (Nat.le_of_ble_eq_true rfl) ?_
    exact dg_iret hx hb hr hlocks rfl hP hS ⟨I_1, M_1, (by decide +kernel), ⟨sg, sa, se, y_2, ((m_1.1 0 3 _ sM_0 (by decide)).trans f_sg), ((m_1.1 0 4 _ sM_0 (by decide)).trans f_sa), ((m_1.1 0 5 _ sM_0 (by decide)).trans f_se), f_y_2, (by omega)⟩, trivial⟩ dX12_number_12
