/-! 43.m11a.lean.txt -/
theorem dX12_isLetter_0 : decode cX12_isLetter 0 = .ok (.iload_n 0, 1) := dk_o26 (by decide +kernel)
theorem dX12_isLetter_1 : decode cX12_isLetter 1 = .ok (.bipush 97, 2) := dk_o16 (by decide +kernel)
theorem dX12_isLetter_3 : decode cX12_isLetter 3 = .ok (.if_icmp .lt 13, 3) := dk_o161 (by decide +kernel)
theorem dX12_isLetter_6 : decode cX12_isLetter 6 = .ok (.iload_n 0, 1) := dk_o26 (by decide +kernel)
theorem dX12_isLetter_7 : decode cX12_isLetter 7 = .ok (.bipush 122, 2) := dk_o16 (by decide +kernel)
theorem dX12_isLetter_9 : decode cX12_isLetter 9 = .ok (.if_icmp .gt 7, 3) := dk_o163 (by decide +kernel)
theorem dX12_isLetter_12 : decode cX12_isLetter 12 = .ok (.iconst 1, 1) := dk_o4 (by decide +kernel)
theorem dX12_isLetter_13 : decode cX12_isLetter 13 = .ok (.goto 4, 3) := dk_o167 (by decide +kernel)
theorem dX12_isLetter_16 : decode cX12_isLetter 16 = .ok (.iconst 0, 1) := dk_o3 (by decide +kernel)
theorem dX12_isLetter_17 : decode cX12_isLetter 17 = .ok (.ireturn, 1) := dk_o172 (by decide +kernel)
theorem dX12_isDigit_0 : decode cX12_isDigit 0 = .ok (.iload_n 0, 1) := dk_o26 (by decide +kernel)
theorem dX12_isDigit_1 : decode cX12_isDigit 1 = .ok (.bipush 48, 2) := dk_o16 (by decide +kernel)
theorem dX12_isDigit_3 : decode cX12_isDigit 3 = .ok (.if_icmp .lt 13, 3) := dk_o161 (by decide +kernel)
theorem dX12_isDigit_6 : decode cX12_isDigit 6 = .ok (.iload_n 0, 1) := dk_o26 (by decide +kernel)
theorem dX12_isDigit_7 : decode cX12_isDigit 7 = .ok (.bipush 57, 2) := dk_o16 (by decide +kernel)
theorem dX12_isDigit_9 : decode cX12_isDigit 9 = .ok (.if_icmp .gt 7, 3) := dk_o163 (by decide +kernel)
theorem dX12_isDigit_12 : decode cX12_isDigit 12 = .ok (.iconst 1, 1) := dk_o4 (by decide +kernel)
theorem dX12_isDigit_13 : decode cX12_isDigit 13 = .ok (.goto 4, 3) := dk_o167 (by decide +kernel)
theorem dX12_isDigit_16 : decode cX12_isDigit 16 = .ok (.iconst 0, 1) := dk_o3 (by decide +kernel)
theorem dX12_isDigit_17 : decode cX12_isDigit 17 = .ok (.ireturn, 1) := dk_o172 (by decide +kernel)
theorem dX12_ahead_0 : decode cX12_ahead 0 = .ok (.aload_n 0, 1) := dk_o42 (by decide +kernel)
theorem dX12_ahead_1 : decode cX12_ahead 1 = .ok (.getfield 26, 3) := dk_o180 (by decide +kernel)
theorem dX12_ahead_4 : decode cX12_ahead 4 = .ok (.istore_n 1, 1) := dk_o60 (by decide +kernel)
theorem dX12_ahead_5 : decode cX12_ahead 5 = .ok (.iload_n 1, 1) := dk_o27 (by decide +kernel)
theorem dX12_ahead_6 : decode cX12_ahead 6 = .ok (.aload_n 0, 1) := dk_o42 (by decide +kernel)
theorem dX12_ahead_7 : decode cX12_ahead 7 = .ok (.getfield 17, 3) := dk_o180 (by decide +kernel)
theorem dX12_ahead_10 : decode cX12_ahead 10 = .ok (.if_icmp .ge 31, 3) := dk_o162 (by decide +kernel)
theorem dX12_ahead_13 : decode cX12_ahead 13 = .ok (.aload_n 0, 1) := dk_o42 (by decide +kernel)
theorem dX12_ahead_14 : decode cX12_ahead 14 = .ok (.getfield 7, 3) := dk_o180 (by decide +kernel)
theorem dX12_ahead_17 : decode cX12_ahead 17 = .ok (.iload_n 1, 1) := dk_o27 (by decide +kernel)
theorem dX12_ahead_18 : decode cX12_ahead 18 = .ok (.iaload, 1) := dk_o46 (by decide +kernel)
theorem dX12_ahead_19 : decode cX12_ahead 19 = .ok (.bipush 32, 2) := dk_o16 (by decide +kernel)
theorem dX12_ahead_21 : decode cX12_ahead 21 = .ok (.if_icmp .eq 14, 3) := dk_o159 (by decide +kernel)
theorem dX12_ahead_24 : decode cX12_ahead 24 = .ok (.aload_n 0, 1) := dk_o42 (by decide +kernel)
theorem dX12_ahead_25 : decode cX12_ahead 25 = .ok (.getfield 7, 3) := dk_o180 (by decide +kernel)
theorem dX12_ahead_28 : decode cX12_ahead 28 = .ok (.iload_n 1, 1) := dk_o27 (by decide +kernel)
theorem dX12_ahead_29 : decode cX12_ahead 29 = .ok (.iaload, 1) := dk_o46 (by decide +kernel)
theorem dX12_ahead_30 : decode cX12_ahead 30 = .ok (.bipush 10, 2) := dk_o16 (by decide +kernel)
theorem dX12_ahead_32 : decode cX12_ahead 32 = .ok (.if_icmp .ne 9, 3) := dk_o160 (by decide +kernel)
theorem dX12_ahead_35 : decode cX12_ahead 35 = .ok (.iinc 1 1, 3) := dk_o132 (by decide +kernel)
theorem dX12_ahead_38 : decode cX12_ahead 38 = .ok (.goto (-33), 3) := dk_o167 (by decide +kernel)
theorem dX12_ahead_41 : decode cX12_ahead 41 = .ok (.aload_n 0, 1) := dk_o42 (by decide +kernel)
theorem dX12_ahead_42 : decode cX12_ahead 42 = .ok (.iload_n 1, 1) := dk_o27 (by decide +kernel)
theorem dX12_ahead_43 : decode cX12_ahead 43 = .ok (.putfield 23, 3) := dk_o181 (by decide +kernel)
theorem dX12_ahead_46 : decode cX12_ahead 46 = .ok (.aload_n 0, 1) := dk_o42 (by decide +kernel)
theorem dX12_ahead_47 : decode cX12_ahead 47 = .ok (.iload_n 1, 1) := dk_o27 (by decide +kernel)
theorem dX12_ahead_48 : decode cX12_ahead 48 = .ok (.putfield 26, 3) := dk_o181 (by decide +kernel)
theorem dX12_ahead_51 : decode cX12_ahead 51 = .ok (.aload_n 0, 1) := dk_o42 (by decide +kernel)
theorem dX12_ahead_52 : decode cX12_ahead 52 = .ok (.iconst 0, 1) := dk_o3 (by decide +kernel)
theorem dX12_ahead_53 : decode cX12_ahead 53 = .ok (.putfield 20, 3) := dk_o181 (by decide +kernel)
theorem dX12_ahead_56 : decode cX12_ahead 56 = .ok (.aload_n 0, 1) := dk_o42 (by decide +kernel)
theorem dX12_ahead_57 : decode cX12_ahead 57 = .ok (.iconst (-1), 1) := dk_o2 (by decide +kernel)
theorem dX12_ahead_58 : decode cX12_ahead 58 = .ok (.putfield 48, 3) := dk_o181 (by decide +kernel)
theorem dX12_ahead_61 : decode cX12_ahead 61 = .ok (.iload_n 1, 1) := dk_o27 (by decide +kernel)
theorem dX12_ahead_62 : decode cX12_ahead 62 = .ok (.aload_n 0, 1) := dk_o42 (by decide +kernel)
theorem dX12_ahead_63 : decode cX12_ahead 63 = .ok (.getfield 17, 3) := dk_o180 (by decide +kernel)
theorem dX12_ahead_66 : decode cX12_ahead 66 = .ok (.if_icmp .lt 4, 3) := dk_o161 (by decide +kernel)
theorem dX12_ahead_69 : decode cX12_ahead 69 = .ok (.return_, 1) := dk_o177 (by decide +kernel)
theorem dX12_ahead_70 : decode cX12_ahead 70 = .ok (.aload_n 0, 1) := dk_o42 (by decide +kernel)
theorem dX12_ahead_71 : decode cX12_ahead 71 = .ok (.getfield 7, 3) := dk_o180 (by decide +kernel)
theorem dX12_ahead_74 : decode cX12_ahead 74 = .ok (.iload_n 1, 1) := dk_o27 (by decide +kernel)
theorem dX12_ahead_75 : decode cX12_ahead 75 = .ok (.iaload, 1) := dk_o46 (by decide +kernel)
theorem dX12_ahead_76 : decode cX12_ahead 76 = .ok (.invokestatic 259, 3) := dk_o184 (by decide +kernel)
theorem dX12_ahead_79 : decode cX12_ahead 79 = .ok (.istore_n 2, 1) := dk_o61 (by decide +kernel)
theorem dX12_ahead_80 : decode cX12_ahead 80 = .ok (.aload_n 0, 1) := dk_o42 (by decide +kernel)
theorem dX12_ahead_81 : decode cX12_ahead 81 = .ok (.getfield 7, 3) := dk_o180 (by decide +kernel)
theorem dX12_ahead_84 : decode cX12_ahead 84 = .ok (.iload_n 1, 1) := dk_o27 (by decide +kernel)
theorem dX12_ahead_85 : decode cX12_ahead 85 = .ok (.iaload, 1) := dk_o46 (by decide +kernel)
theorem dX12_ahead_86 : decode cX12_ahead 86 = .ok (.invokestatic 263, 3) := dk_o184 (by decide +kernel)
theorem dX12_ahead_89 : decode cX12_ahead 89 = .ok (.istore_n 3, 1) := dk_o62 (by decide +kernel)
theorem dX12_ahead_90 : decode cX12_ahead 90 = .ok (.iload_n 2, 1) := dk_o28 (by decide +kernel)
theorem dX12_ahead_91 : decode cX12_ahead 91 = .ok (.ifCond .ne 7, 3) := dk_o154 (by decide +kernel)
theorem dX12_ahead_94 : decode cX12_ahead 94 = .ok (.iload_n 3, 1) := dk_o29 (by decide +kernel)
theorem dX12_ahead_95 : decode cX12_ahead 95 = .ok (.ifCond .eq 40, 3) := dk_o153 (by decide +kernel)
theorem dX12_ahead_98 : decode cX12_ahead 98 = .ok (.iload_n 1, 1) := dk_o27 (by decide +kernel)
theorem dX12_ahead_99 : decode cX12_ahead 99 = .ok (.ifCond .le 36, 3) := dk_o158 (by decide +kernel)
theorem dX12_ahead_102 : decode cX12_ahead 102 = .ok (.aload_n 0, 1) := dk_o42 (by decide +kernel)
theorem dX12_ahead_103 : decode cX12_ahead 103 = .ok (.getfield 7, 3) := dk_o180 (by decide +kernel)
theorem dX12_ahead_106 : decode cX12_ahead 106 = .ok (.iload_n 1, 1) := dk_o27 (by decide +kernel)
theorem dX12_ahead_107 : decode cX12_ahead 107 = .ok (.iconst 1, 1) := dk_o4 (by decide +kernel)
theorem dX12_ahead_108 : decode cX12_ahead 108 = .ok (.isub, 1) := dk_o100 (by decide +kernel)
theorem dX12_ahead_109 : decode cX12_ahead 109 = .ok (.iaload, 1) := dk_o46 (by decide +kernel)
theorem dX12_ahead_110 : decode cX12_ahead 110 = .ok (.invokestatic 259, 3) := dk_o184 (by decide +kernel)
theorem dX12_ahead_113 : decode cX12_ahead 113 = .ok (.ifCond .ne 17, 3) := dk_o154 (by decide +kernel)
theorem dX12_ahead_116 : decode cX12_ahead 116 = .ok (.aload_n 0, 1) := dk_o42 (by decide +kernel)
theorem dX12_ahead_117 : decode cX12_ahead 117 = .ok (.getfield 7, 3) := dk_o180 (by decide +kernel)
theorem dX12_ahead_120 : decode cX12_ahead 120 = .ok (.iload_n 1, 1) := dk_o27 (by decide +kernel)
theorem dX12_ahead_121 : decode cX12_ahead 121 = .ok (.iconst 1, 1) := dk_o4 (by decide +kernel)
theorem dX12_ahead_122 : decode cX12_ahead 122 = .ok (.isub, 1) := dk_o100 (by decide +kernel)
theorem dX12_ahead_123 : decode cX12_ahead 123 = .ok (.iaload, 1) := dk_o46 (by decide +kernel)
theorem dX12_ahead_124 : decode cX12_ahead 124 = .ok (.invokestatic 263, 3) := dk_o184 (by decide +kernel)
theorem dX12_ahead_127 : decode cX12_ahead 127 = .ok (.ifCond .eq 8, 3) := dk_o153 (by decide +kernel)
theorem dX12_ahead_130 : decode cX12_ahead 130 = .ok (.aload_n 0, 1) := dk_o42 (by decide +kernel)
theorem dX12_ahead_131 : decode cX12_ahead 131 = .ok (.iload_n 1, 1) := dk_o27 (by decide +kernel)
theorem dX12_ahead_132 : decode cX12_ahead 132 = .ok (.putfield 48, 3) := dk_o181 (by decide +kernel)
theorem dX12_ahead_135 : decode cX12_ahead 135 = .ok (.aload_n 0, 1) := dk_o42 (by decide +kernel)
theorem dX12_ahead_136 : decode cX12_ahead 136 = .ok (.iconst 0, 1) := dk_o3 (by decide +kernel)
theorem dX12_ahead_137 : decode cX12_ahead 137 = .ok (.putfield 29, 3) := dk_o181 (by decide +kernel)
theorem dX12_ahead_140 : decode cX12_ahead 140 = .ok (.aload_n 0, 1) := dk_o42 (by decide +kernel)
theorem dX12_ahead_141 : decode cX12_ahead 141 = .ok (.lconst 0, 1) := dk_o9 (by decide +kernel)
theorem dX12_ahead_142 : decode cX12_ahead 142 = .ok (.putfield 32, 3) := dk_o181 (by decide +kernel)
theorem dX12_ahead_145 : decode cX12_ahead 145 = .ok (.aload_n 0, 1) := dk_o42 (by decide +kernel)
theorem dX12_ahead_146 : decode cX12_ahead 146 = .ok (.iconst 3, 1) := dk_o6 (by decide +kernel)
theorem dX12_ahead_147 : decode cX12_ahead 147 = .ok (.putfield 20, 3) := dk_o181 (by decide +kernel)
theorem dX12_ahead_150 : decode cX12_ahead 150 = .ok (.aload_n 0, 1) := dk_o42 (by decide +kernel)
theorem dX12_ahead_151 : decode cX12_ahead 151 = .ok (.iload_n 1, 1) := dk_o27 (by decide +kernel)
theorem dX12_ahead_152 : decode cX12_ahead 152 = .ok (.iconst 1, 1) := dk_o4 (by decide +kernel)
theorem dX12_ahead_153 : decode cX12_ahead 153 = .ok (.iadd, 1) := dk_o96 (by decide +kernel)
theorem dX12_ahead_154 : decode cX12_ahead 154 = .ok (.putfield 26, 3) := dk_o181 (by decide +kernel)
theorem dX12_ahead_157 : decode cX12_ahead 157 = .ok (.iload_n 2, 1) := dk_o28 (by decide +kernel)
theorem dX12_ahead_158 : decode cX12_ahead 158 = .ok (.ifCond .ne 18, 3) := dk_o154 (by decide +kernel)
theorem dX12_ahead_161 : decode cX12_ahead 161 = .ok (.iload_n 3, 1) := dk_o29 (by decide +kernel)
theorem dX12_ahead_162 : decode cX12_ahead 162 = .ok (.ifCond .ne 14, 3) := dk_o154 (by decide +kernel)
theorem dX12_ahead_165 : decode cX12_ahead 165 = .ok (.aload_n 0, 1) := dk_o42 (by decide +kernel)
theorem dX12_ahead_166 : decode cX12_ahead 166 = .ok (.aload_n 0, 1) := dk_o42 (by decide +kernel)
theorem dX12_ahead_167 : decode cX12_ahead 167 = .ok (.getfield 7, 3) := dk_o180 (by decide +kernel)
theorem dX12_ahead_170 : decode cX12_ahead 170 = .ok (.iload_n 1, 1) := dk_o27 (by decide +kernel)
theorem dX12_ahead_171 : decode cX12_ahead 171 = .ok (.iaload, 1) := dk_o46 (by decide +kernel)
theorem dX12_ahead_172 : decode cX12_ahead 172 = .ok (.putfield 29, 3) := dk_o181 (by decide +kernel)
theorem dX12_ahead_175 : decode cX12_ahead 175 = .ok (.return_, 1) := dk_o177 (by decide +kernel)
theorem dX12_ahead_176 : decode cX12_ahead 176 = .ok (.aload_n 0, 1) := dk_o42 (by decide +kernel)
theorem dX12_ahead_177 : decode cX12_ahead 177 = .ok (.iload_n 2, 1) := dk_o28 (by decide +kernel)
theorem dX12_ahead_178 : decode cX12_ahead 178 = .ok (.ifCond .eq 7, 3) := dk_o153 (by decide +kernel)
theorem dX12_ahead_181 : decode cX12_ahead 181 = .ok (.iconst 1, 1) := dk_o4 (by decide +kernel)
theorem dX12_ahead_182 : decode cX12_ahead 182 = .ok (.goto 4, 3) := dk_o167 (by decide +kernel)
theorem dX12_ahead_185 : decode cX12_ahead 185 = .ok (.iconst 2, 1) := dk_o5 (by decide +kernel)
theorem dX12_ahead_186 : decode cX12_ahead 186 = .ok (.putfield 20, 3) := dk_o181 (by decide +kernel)
theorem dX12_ahead_189 : decode cX12_ahead 189 = .ok (.iload_n 2, 1) := dk_o28 (by decide +kernel)
theorem dX12_ahead_190 : decode cX12_ahead 190 = .ok (.ifCond .eq 8, 3) := dk_o153 (by decide +kernel)
theorem dX12_ahead_193 : decode cX12_ahead 193 = .ok (.bipush 6, 2) := dk_o16 (by decide +kernel)
theorem dX12_ahead_195 : decode cX12_ahead 195 = .ok (.goto 4, 3) := dk_o167 (by decide +kernel)
theorem dX12_ahead_198 : decode cX12_ahead 198 = .ok (.iconst 4, 1) := dk_o7 (by decide +kernel)
theorem dX12_ahead_199 : decode cX12_ahead 199 = .ok (.istore 4, 2) := dk_o54 (by decide +kernel)
theorem dX12_ahead_201 : decode cX12_ahead 201 = .ok (.iconst 0, 1) := dk_o3 (by decide +kernel)
theorem dX12_ahead_202 : decode cX12_ahead 202 = .ok (.istore 5, 2) := dk_o54 (by decide +kernel)
theorem dX12_ahead_204 : decode cX12_ahead 204 = .ok (.iload_n 1, 1) := dk_o27 (by decide +kernel)
theorem dX12_ahead_205 : decode cX12_ahead 205 = .ok (.aload_n 0, 1) := dk_o42 (by decide +kernel)
theorem dX12_ahead_206 : decode cX12_ahead 206 = .ok (.getfield 17, 3) := dk_o180 (by decide +kernel)
theorem dX12_ahead_209 : decode cX12_ahead 209 = .ok (.if_icmp .ge 125, 3) := dk_o162 (by decide +kernel)
theorem dX12_ahead_212 : decode cX12_ahead 212 = .ok (.iload_n 2, 1) := dk_o28 (by decide +kernel)
theorem dX12_ahead_213 : decode cX12_ahead 213 = .ok (.ifCond .eq 18, 3) := dk_o153 (by decide +kernel)
theorem dX12_ahead_216 : decode cX12_ahead 216 = .ok (.aload_n 0, 1) := dk_o42 (by decide +kernel)
theorem dX12_ahead_217 : decode cX12_ahead 217 = .ok (.getfield 7, 3) := dk_o180 (by decide +kernel)
theorem dX12_ahead_220 : decode cX12_ahead 220 = .ok (.iload_n 1, 1) := dk_o27 (by decide +kernel)
theorem dX12_ahead_221 : decode cX12_ahead 221 = .ok (.iaload, 1) := dk_o46 (by decide +kernel)
theorem dX12_ahead_222 : decode cX12_ahead 222 = .ok (.invokestatic 259, 3) := dk_o184 (by decide +kernel)
theorem dX12_ahead_225 : decode cX12_ahead 225 = .ok (.ifCond .eq 109, 3) := dk_o153 (by decide +kernel)
theorem dX12_ahead_228 : decode cX12_ahead 228 = .ok (.goto 15, 3) := dk_o167 (by decide +kernel)
theorem dX12_ahead_231 : decode cX12_ahead 231 = .ok (.aload_n 0, 1) := dk_o42 (by decide +kernel)
theorem dX12_ahead_232 : decode cX12_ahead 232 = .ok (.getfield 7, 3) := dk_o180 (by decide +kernel)
theorem dX12_ahead_235 : decode cX12_ahead 235 = .ok (.iload_n 1, 1) := dk_o27 (by decide +kernel)
theorem dX12_ahead_236 : decode cX12_ahead 236 = .ok (.iaload, 1) := dk_o46 (by decide +kernel)
theorem dX12_ahead_237 : decode cX12_ahead 237 = .ok (.invokestatic 263, 3) := dk_o184 (by decide +kernel)
theorem dX12_ahead_240 : decode cX12_ahead 240 = .ok (.ifCond .eq 94, 3) := dk_o153 (by decide +kernel)
theorem dX12_ahead_243 : decode cX12_ahead 243 = .ok (.iload 5, 2) := dk_o21 (by decide +kernel)
theorem dX12_ahead_245 : decode cX12_ahead 245 = .ok (.iload 4, 2) := dk_o21 (by decide +kernel)
theorem dX12_ahead_247 : decode cX12_ahead 247 = .ok (.if_icmp .ne 16, 3) := dk_o160 (by decide +kernel)
theorem dX12_ahead_250 : decode cX12_ahead 250 = .ok (.aload_n 0, 1) := dk_o42 (by decide +kernel)
theorem dX12_ahead_251 : decode cX12_ahead 251 = .ok (.getfield 48, 3) := dk_o180 (by decide +kernel)
theorem dX12_ahead_254 : decode cX12_ahead 254 = .ok (.iconst (-1), 1) := dk_o2 (by decide +kernel)
theorem dX12_ahead_255 : decode cX12_ahead 255 = .ok (.if_icmp .ne 8, 3) := dk_o160 (by decide +kernel)
theorem dX12_ahead_258 : decode cX12_ahead 258 = .ok (.aload_n 0, 1) := dk_o42 (by decide +kernel)
theorem dX12_ahead_259 : decode cX12_ahead 259 = .ok (.iload_n 1, 1) := dk_o27 (by decide +kernel)
theorem dX12_ahead_260 : decode cX12_ahead 260 = .ok (.putfield 48, 3) := dk_o181 (by decide +kernel)
theorem dX12_ahead_263 : decode cX12_ahead 263 = .ok (.iload 5, 2) := dk_o21 (by decide +kernel)
theorem dX12_ahead_265 : decode cX12_ahead 265 = .ok (.iload 4, 2) := dk_o21 (by decide +kernel)
theorem dX12_ahead_267 : decode cX12_ahead 267 = .ok (.if_icmp .ge 26, 3) := dk_o162 (by decide +kernel)
theorem dX12_ahead_270 : decode cX12_ahead 270 = .ok (.iload_n 2, 1) := dk_o28 (by decide +kernel)
theorem dX12_ahead_271 : decode cX12_ahead 271 = .ok (.ifCond .eq 22, 3) := dk_o153 (by decide +kernel)
theorem dX12_ahead_274 : decode cX12_ahead 274 = .ok (.aload_n 0, 1) := dk_o42 (by decide +kernel)
theorem dX12_ahead_275 : decode cX12_ahead 275 = .ok (.aload_n 0, 1) := dk_o42 (by decide +kernel)
theorem dX12_ahead_276 : decode cX12_ahead 276 = .ok (.getfield 32, 3) := dk_o180 (by decide +kernel)
theorem dX12_ahead_279 : decode cX12_ahead 279 = .ok (.bipush 8, 2) := dk_o16 (by decide +kernel)
theorem dX12_ahead_281 : decode cX12_ahead 281 = .ok (.lshl, 1) := dk_o121 (by decide +kernel)
theorem dX12_ahead_282 : decode cX12_ahead 282 = .ok (.aload_n 0, 1) := dk_o42 (by decide +kernel)
theorem dX12_ahead_283 : decode cX12_ahead 283 = .ok (.getfield 7, 3) := dk_o180 (by decide +kernel)
theorem dX12_ahead_286 : decode cX12_ahead 286 = .ok (.iload_n 1, 1) := dk_o27 (by decide +kernel)
theorem dX12_ahead_287 : decode cX12_ahead 287 = .ok (.iaload, 1) := dk_o46 (by decide +kernel)
theorem dX12_ahead_288 : decode cX12_ahead 288 = .ok (.i2l, 1) := dk_o133 (by decide +kernel)
theorem dX12_ahead_289 : decode cX12_ahead 289 = .ok (.lor, 1) := dk_o129 (by decide +kernel)
theorem dX12_ahead_290 : decode cX12_ahead 290 = .ok (.putfield 32, 3) := dk_o181 (by decide +kernel)
theorem dX12_ahead_293 : decode cX12_ahead 293 = .ok (.iload 5, 2) := dk_o21 (by decide +kernel)
theorem dX12_ahead_295 : decode cX12_ahead 295 = .ok (.iload 4, 2) := dk_o21 (by decide +kernel)
theorem dX12_ahead_297 : decode cX12_ahead 297 = .ok (.if_icmp .ge 28, 3) := dk_o162 (by decide +kernel)
theorem dX12_ahead_300 : decode cX12_ahead 300 = .ok (.iload_n 3, 1) := dk_o29 (by decide +kernel)
theorem dX12_ahead_301 : decode cX12_ahead 301 = .ok (.ifCond .eq 24, 3) := dk_o153 (by decide +kernel)
theorem dX12_ahead_304 : decode cX12_ahead 304 = .ok (.aload_n 0, 1) := dk_o42 (by decide +kernel)
theorem dX12_ahead_305 : decode cX12_ahead 305 = .ok (.bipush 10, 2) := dk_o16 (by decide +kernel)
theorem dX12_ahead_307 : decode cX12_ahead 307 = .ok (.aload_n 0, 1) := dk_o42 (by decide +kernel)
theorem dX12_ahead_308 : decode cX12_ahead 308 = .ok (.getfield 29, 3) := dk_o180 (by decide +kernel)
theorem dX12_ahead_311 : decode cX12_ahead 311 = .ok (.imul, 1) := dk_o104 (by decide +kernel)
theorem dX12_ahead_312 : decode cX12_ahead 312 = .ok (.aload_n 0, 1) := dk_o42 (by decide +kernel)
theorem dX12_ahead_313 : decode cX12_ahead 313 = .ok (.getfield 7, 3) := dk_o180 (by decide +kernel)
theorem dX12_ahead_316 : decode cX12_ahead 316 = .ok (.iload_n 1, 1) := dk_o27 (by decide +kernel)
theorem dX12_ahead_317 : decode cX12_ahead 317 = .ok (.iaload, 1) := dk_o46 (by decide +kernel)
theorem dX12_ahead_318 : decode cX12_ahead 318 = .ok (.iadd, 1) := dk_o96 (by decide +kernel)
theorem dX12_ahead_319 : decode cX12_ahead 319 = .ok (.bipush 48, 2) := dk_o16 (by decide +kernel)
theorem dX12_ahead_321 : decode cX12_ahead 321 = .ok (.isub, 1) := dk_o100 (by decide +kernel)
theorem dX12_ahead_322 : decode cX12_ahead 322 = .ok (.putfield 29, 3) := dk_o181 (by decide +kernel)
theorem dX12_ahead_325 : decode cX12_ahead 325 = .ok (.iinc 5 1, 3) := dk_o132 (by decide +kernel)
theorem dX12_ahead_328 : decode cX12_ahead 328 = .ok (.iinc 1 1, 3) := dk_o132 (by decide +kernel)
theorem dX12_ahead_331 : decode cX12_ahead 331 = .ok (.goto (-127), 3) := dk_o167 (by decide +kernel)
theorem dX12_ahead_334 : decode cX12_ahead 334 = .ok (.aload_n 0, 1) := dk_o42 (by decide +kernel)
theorem dX12_ahead_335 : decode cX12_ahead 335 = .ok (.iload_n 1, 1) := dk_o27 (by decide +kernel)
theorem dX12_ahead_336 : decode cX12_ahead 336 = .ok (.putfield 26, 3) := dk_o181 (by decide +kernel)
theorem dX12_ahead_339 : decode cX12_ahead 339 = .ok (.return_, 1) := dk_o177 (by decide +kernel)
theorem wB_288 : Cond.fieldLink RX12 26 "DarkMineModel" "signEnd" "I" ∈ dgB := List.mem_filter.mpr ⟨tbl_6 _ (List.mem_of_getElem? (i := 168) (by decide +kernel)), by decide +kernel⟩
theorem wB_289 : Cond.fieldLink RX12 17 "DarkMineModel" "size" "I" ∈ dgB := List.mem_filter.mpr ⟨tbl_6 _ (List.mem_of_getElem? (i := 165) (by decide +kernel)), by decide +kernel⟩
theorem wB_290 : Cond.fieldLink RX12 7 "DarkMineModel" "tape" "[I" ∈ dgB := List.mem_filter.mpr ⟨tbl_6 _ (List.mem_of_getElem? (i := 163) (by decide +kernel)), by decide +kernel⟩
theorem wB_291 : Cond.fieldLink RX12 23 "DarkMineModel" "signAt" "I" ∈ dgB := List.mem_filter.mpr ⟨tbl_6 _ (List.mem_of_getElem? (i := 167) (by decide +kernel)), by decide +kernel⟩
theorem wB_292 : Cond.fieldLink RX12 20 "DarkMineModel" "sign" "I" ∈ dgB := List.mem_filter.mpr ⟨tbl_6 _ (List.mem_of_getElem? (i := 166) (by decide +kernel)), by decide +kernel⟩
theorem wB_293 : Cond.fieldLink RX12 48 "DarkMineModel" "lexAt" "I" ∈ dgB := List.mem_filter.mpr ⟨tbl_6 _ (List.mem_of_getElem? (i := 175) (by decide +kernel)), by decide +kernel⟩
theorem wB_294 : Cond.code yX12_isLetter cX12_isLetter 1 (some .boolean) ∈ dgB := List.mem_filter.mpr ⟨tbl_7 _ (List.mem_of_getElem? (i := 183) rfl), rfl⟩
theorem wB_295 : Cond.methodLink RX12 259 yX12_isLetter ∈ dgB := List.mem_filter.mpr ⟨tbl_7 _ (List.mem_of_getElem? (i := 181) (by decide +kernel)), by decide +kernel⟩
theorem wB_296 : Cond.static yX12_isLetter ∈ dgB := List.mem_filter.mpr ⟨tbl_7 _ (List.mem_of_getElem? (i := 182) (by decide +kernel)), by decide +kernel⟩
theorem wB_297 : Cond.initialized RX12 ∈ dgB := List.mem_filter.mpr ⟨tbl_1 _ (List.mem_of_getElem? (i := 15) (by decide +kernel)), by decide +kernel⟩
theorem wB_298 : Cond.code yX12_isDigit cX12_isDigit 1 (some .boolean) ∈ dgB := List.mem_filter.mpr ⟨tbl_7 _ (List.mem_of_getElem? (i := 186) rfl), rfl⟩
theorem wB_299 : Cond.methodLink RX12 263 yX12_isDigit ∈ dgB := List.mem_filter.mpr ⟨tbl_7 _ (List.mem_of_getElem? (i := 184) (by decide +kernel)), by decide +kernel⟩
theorem wB_300 : Cond.static yX12_isDigit ∈ dgB := List.mem_filter.mpr ⟨tbl_7 _ (List.mem_of_getElem? (i := 185) (by decide +kernel)), by decide +kernel⟩
theorem wB_301 : Cond.fieldLink RX12 29 "DarkMineModel" "value" "I" ∈ dgB := List.mem_filter.mpr ⟨tbl_6 _ (List.mem_of_getElem? (i := 169) (by decide +kernel)), by decide +kernel⟩
theorem wB_302 : Cond.fieldLink RX12 32 "DarkMineModel" "word" "J" ∈ dgB := List.mem_filter.mpr ⟨tbl_6 _ (List.mem_of_getElem? (i := 170) (by decide +kernel)), by decide +kernel⟩
set_option maxHeartbeats 8000000 in
set_option maxRecDepth 100000 in
theorem c_m_isLetter (l : Launch) (g : Nat → ClassId) (D : va_G) (o : Nat) (S : dg_S) (a1 : Int32) (I : CM o S) (sz : Nat) : Met l yX12_isLetter (bw yX12_isLetter cX12_isLetter 1 (some .boolean)) ({ frames := 1, cells := 0, slots := 0, locals := 32 } : Room) (dk_Pc g D (dg_w g shM o rfM S) sz [.int a1]) (va_Qi (fun (r : Int32) S' => S' = S ∧ (0 ≤ (r).toInt ∧ (r).toInt ≤ 1) ∧ ((r).toInt = 1 ↔ (97 ≤ (a1).toInt ∧ (a1).toInt ≤ 122)) ∧ True) (dg_B g D shM o rfM) (dg_A o shM.length sz)) 0 0 (dg_A o shM.length sz) := by
  refine dg_met (cc := cX12_isLetter) (maxL := 1) (ret := (some .boolean)) (dk_dq rfl) rfl (Nat.le_of_ble_eq_true rfl) ?_
  intro p e s m args below meth c A hAe harg hx hb hr hml hts hown hlocks hin hP K hS hA1 hA ST hsz ls hl
  rw [← hAe]
  have F : CallFix p m c cX12_isLetter 1 s args (bw yX12_isLetter cX12_isLetter 1 (some .boolean)) RX12 := ⟨hx, hb, hml, hown, hts⟩
  have hl : lv_has ls 1 [(0, .int a1)] := hl
  have M_0 : dg_sm shM [] [] S S := dg_sm.rf
  refine lv_iload_n hx hb dX12_isLetter_0 rfl (lv_at hl 0 rfl) ?_
  refine lv_bipush (v := 97) hx hb dX12_isLetter_1 (by decide +kernel) ?_
  refine lv_icmp_lt (tgt := 16) hx hb dX12_isLetter_3 (dk_dq rfl) (fun c_1 => ?_) (fun c_1 => ?_)
  · have jc_1 := dk_ltc (k := 97) (by decide +kernel) c_1
    refine lv_iconst (v := 0) hx hb dX12_isLetter_16 (by decide +kernel) ?_
    have hz_2 : (0 : Int32).toInt = 0 := by decide +kernel
    have hz_3 : (0 : Int32).toInt = 0 := by decide +kernel
    refine W.widen (k := 0) (n := 0) (Nat.le_of_ble_eq_true rfl) (Nat.le_of_ble_eq_true rfl) ?_
    exact dg_iret hx hb hr hlocks (by decide +kernel) hP hS ⟨rfl, (by decide +kernel), (by omega), trivial⟩ dX12_isLetter_17
  · have jc_1 := dk_nltc (k := 97) (by decide +kernel) c_1
    refine lv_iload_n hx hb dX12_isLetter_6 rfl (lv_at hl 0 rfl) ?_
    refine lv_bipush (v := 122) hx hb dX12_isLetter_7 (by decide +kernel) ?_
    refine lv_icmp_gt (tgt := 16) hx hb dX12_isLetter_9 (dk_dq rfl) (fun c_4 => ?_) (fun c_4 => ?_)
    · have jc_4 := dk_gtc (k := 122) (by decide +kernel) c_4
      refine lv_iconst (v := 0) hx hb dX12_isLetter_16 (by decide +kernel) ?_
      have hz_5 : (0 : Int32).toInt = 0 := by decide +kernel
      have hz_6 : (0 : Int32).toInt = 0 := by decide +kernel
      refine W.widen (k := 0) (n := 0) (Nat.le_of_ble_eq_true rfl) (Nat.le_of_ble_eq_true rfl) ?_
      exact dg_iret hx hb hr hlocks (by decide +kernel) hP hS ⟨rfl, (by decide +kernel), (by omega), trivial⟩ dX12_isLetter_17
    · have jc_4 := dk_ngtc (k := 122) (by decide +kernel) c_4
      refine lv_iconst (v := 1) hx hb dX12_isLetter_12 (by decide +kernel) ?_
      refine lv_goto (tgt := 17) hx hb dX12_isLetter_13 (dk_dq rfl) ?_
      have hz_7 : (1 : Int32).toInt = 1 := by decide +kernel
      have hz_8 : (1 : Int32).toInt = 1 := by decide +kernel
      refine W.widen (k := 0) (n := 0) (Nat.le_of_ble_eq_true rfl) (Nat.le_of_ble_eq_true rfl) ?_
      exact dg_iret hx hb hr hlocks (by decide +kernel) hP hS ⟨rfl, (by decide +kernel), (by omega), trivial⟩ dX12_isLetter_17
set_option maxHeartbeats 8000000 in
set_option maxRecDepth 100000 in
theorem c_m_isDigit (l : Launch) (g : Nat → ClassId) (D : va_G) (o : Nat) (S : dg_S) (a1 : Int32) (I : CM o S) (sz : Nat) : Met l yX12_isDigit (bw yX12_isDigit cX12_isDigit 1 (some .boolean)) ({ frames := 1, cells := 0, slots := 0, locals := 32 } : Room) (dk_Pc g D (dg_w g shM o rfM S) sz [.int a1]) (va_Qi (fun (r : Int32) S' => S' = S ∧ (0 ≤ (r).toInt ∧ (r).toInt ≤ 1) ∧ ((r).toInt = 1 ↔ (48 ≤ (a1).toInt ∧ (a1).toInt ≤ 57)) ∧ True) (dg_B g D shM o rfM) (dg_A o shM.length sz)) 0 0 (dg_A o shM.length sz) := by
  refine dg_met (cc := cX12_isDigit) (maxL := 1) (ret := (some .boolean)) (dk_dq rfl) rfl (Nat.le_of_ble_eq_true rfl) ?_
  intro p e s m args below meth c A hAe harg hx hb hr hml hts hown hlocks hin hP K hS hA1 hA ST hsz ls hl
  rw [← hAe]
  have F : CallFix p m c cX12_isDigit 1 s args (bw yX12_isDigit cX12_isDigit 1 (some .boolean)) RX12 := ⟨hx, hb, hml, hown, hts⟩
  have hl : lv_has ls 1 [(0, .int a1)] := hl
  have M_0 : dg_sm shM [] [] S S := dg_sm.rf
  refine lv_iload_n hx hb dX12_isDigit_0 rfl (lv_at hl 0 rfl) ?_
  refine lv_bipush (v := 48) hx hb dX12_isDigit_1 (by decide +kernel) ?_
  refine lv_icmp_lt (tgt := 16) hx hb dX12_isDigit_3 (dk_dq rfl) (fun c_1 => ?_) (fun c_1 => ?_)
  · have jc_1 := dk_ltc (k := 48) (by decide +kernel) c_1
    refine lv_iconst (v := 0) hx hb dX12_isDigit_16 (by decide +kernel) ?_
    have hz_2 : (0 : Int32).toInt = 0 := by decide +kernel
    have hz_3 : (0 : Int32).toInt = 0 := by decide +kernel
    refine W.widen (k := 0) (n := 0) (Nat.le_of_ble_eq_true rfl) (Nat.le_of_ble_eq_true rfl) ?_
    exact dg_iret hx hb hr hlocks (by decide +kernel) hP hS ⟨rfl, (by decide +kernel), (by omega), trivial⟩ dX12_isDigit_17
  · have jc_1 := dk_nltc (k := 48) (by decide +kernel) c_1
    refine lv_iload_n hx hb dX12_isDigit_6 rfl (lv_at hl 0 rfl) ?_
    refine lv_bipush (v := 57) hx hb dX12_isDigit_7 (by decide +kernel) ?_
    refine lv_icmp_gt (tgt := 16) hx hb dX12_isDigit_9 (dk_dq rfl) (fun c_4 => ?_) (fun c_4 => ?_)
    · have jc_4 := dk_gtc (k := 57) (by decide +kernel) c_4
      refine lv_iconst (v := 0) hx hb dX12_isDigit_16 (by decide +kernel) ?_
      have hz_5 : (0 : Int32).toInt = 0 := by decide +kernel
      have hz_6 : (0 : Int32).toInt = 0 := by decide +kernel
      refine W.widen (k := 0) (n := 0) (Nat.le_of_ble_eq_true rfl) (Nat.le_of_ble_eq_true rfl) ?_
      exact dg_iret hx hb hr hlocks (by decide +kernel) hP hS ⟨rfl, (by decide +kernel), (by omega), trivial⟩ dX12_isDigit_17
    · have jc_4 := dk_ngtc (k := 57) (by decide +kernel) c_4
      refine lv_iconst (v := 1) hx hb dX12_isDigit_12 (by decide +kernel) ?_
      refine lv_goto (tgt := 17) hx hb dX12_isDigit_13 (dk_dq rfl) ?_
      have hz_7 : (1 : Int32).toInt = 1 := by decide +kernel
      have hz_8 : (1 : Int32).toInt = 1 := by decide +kernel
      refine W.widen (k := 0) (n := 0) (Nat.le_of_ble_eq_true rfl) (Nat.le_of_ble_eq_true rfl) ?_
      exact dg_iret hx hb hr hlocks (by decide +kernel) hP hS ⟨rfl, (by decide +kernel), (by omega), trivial⟩ dX12_isDigit_17
set_option maxHeartbeats 8000000 in
set_option maxRecDepth 100000 in
theorem c_m_ahead (l : Launch) (g : Nat → ClassId) (D : va_G) (o : Nat) (S : dg_S) (tb : Nat → Int32) (tn : Nat) (se : Int32) (f_se : S.1 0 5 = .int se) (b_se : 0 ≤ (se).toInt ∧ (se).toInt ≤ 1600) (sl : Int32) (f_sl : S.1 0 2 = .int sl) (b_sl : 0 ≤ (sl).toInt ∧ (sl).toInt ≤ 1600) (hse : (se).toInt ≤ (sl).toInt) (TZ : TZM tb tn S) (I : CM o S) (sz : Nat) : Met l yX12_ahead (bw yX12_ahead cX12_ahead 6 none) ({ frames := 2, cells := 0, slots := 0, locals := 52 } : Room) (dk_Pc g D (dg_w g shM o rfM S) sz [.ref (o + 0)]) (va_Qv (fun S' => CM o S' ∧ dg_sm shM [(0, 3), (0, 4), (0, 5), (0, 6), (0, 7), (0, 12)] [] S S' ∧ (∃ y9_3 y9_4 y9_5 : Int32, S'.1 0 3 = .int y9_3 ∧ S'.1 0 4 = .int y9_4 ∧ S'.1 0 5 = .int y9_5 ∧ ((se).toInt ≤ (y9_4).toInt ∧ (y9_4).toInt ≤ (y9_5).toInt ∧ (y9_5).toInt ≤ (sl).toInt ∧ ((y9_3).toInt ≠ 0 → (y9_4).toInt + 1 ≤ (y9_5).toInt))) ∧ (TNX tb tn se S') ∧ True) (dg_B g D shM o rfM) (dg_A o shM.length sz)) 0 0 (dg_A o shM.length sz) := by
  refine dg_met (cc := cX12_ahead) (maxL := 6) (ret := none) (dk_dq rfl) rfl (Nat.le_of_ble_eq_true rfl) ?_
  intro p e s m args below meth c A hAe harg hx hb hr hml hts hown hlocks hin hP K hS hA1 hA ST hsz ls hl
  rw [← hAe]
  have F : CallFix p m c cX12_ahead 6 s args (bw yX12_ahead cX12_ahead 6 none) RX12 := ⟨hx, hb, hml, hown, hts⟩
  have hl : lv_has ls 6 [(0, .ref (o + 0))] := hl
  have M_0 : dg_sm shM [(0, 3), (0, 4), (0, 5), (0, 6), (0, 7), (0, 12)] [] S S := dg_sm.rf
  have htb := TZ.1
  have hn16 := TZ.2.1
  have hsl := TZ.siz f_sl
  have hcs := dk_clN sl
  refine lv_aload_n hx hb dX12_ahead_0 rfl (lv_at hl 0 rfl) ?_
  refine dg_get (C := RX12) (T := TX12) (N := 77) hx hb hts (fun w h => bw_mem (wU_X12 w h)) hown K hP sM_0 rfl 5 (dk_dq rfl) (hts _ (bw_mem wB_288)) (fun _ h9 => h9) (v := .int se) f_se dX12_ahead_1 ?_
  refine lv_istore_n (lv' := [(1, .int se), (0, .ref (o + 0))]) hx hb dX12_ahead_4 rfl hl (dk_dq rfl) rfl (fun ls hl => ?_)
  have J_393 : ∀ (x_30 : Int32), (0 ≤ (x_30).toInt ∧ (x_30).toInt ≤ 1600) → ((se).toInt ≤ (x_30).toInt ∧ (x_30).toInt ≤ (sl).toInt) → (t_sk tb tn (se : Int32).toNatClampNeg = (x_30 : Int32).toNatClampNeg) → ∀ (H : Heap) (locs : List Loc), va_P D vwCl (dg_w g shM o rfM S) H → va_S A s.heap H locs → ∀ ls : Array Slot, lv_has ls 6 [(1, .int x_30), (0, .ref (o + 0))] → W p l e ({ frames := 2, cells := 0, slots := 0, locals := 52 } : Room) s m args below meth c H locs 0 0 (MQ below (va_Qv (fun S' => CM o S' ∧ dg_sm shM [(0, 3), (0, 4), (0, 5), (0, 6), (0, 7), (0, 12)] [] S S' ∧ (∃ y9_3 y9_4 y9_5 : Int32, S'.1 0 3 = .int y9_3 ∧ S'.1 0 4 = .int y9_4 ∧ S'.1 0 5 = .int y9_5 ∧ ((se).toInt ≤ (y9_4).toInt ∧ (y9_4).toInt ≤ (y9_5).toInt ∧ (y9_5).toInt ≤ (sl).toInt ∧ ((y9_3).toInt ≠ 0 → (y9_4).toInt + 1 ≤ (y9_5).toInt))) ∧ (TNX tb tn se S') ∧ True) (dg_B g D shM o rfM) A) args s 0 0 A) (F0 m 41 ls []) := by
    as_aux_lemma =>
      intro x_30 b_x_30 rel_0 rel_1 H locs hP hS ls hl
      have hs9 := rel_1
      have hca := dk_clN x_30
      refine lv_aload_n hx hb dX12_ahead_41 rfl (lv_at hl 1 rfl) ?_
      refine lv_iload_n hx hb dX12_ahead_42 rfl (lv_at hl 0 rfl) ?_
      refine dg_put (ci := 12) (v := .int x_30) (ty := tyX12 4) (C := RX12) (T := TX12) (N := 77) hx hb hts (fun w h => bw_mem (wU_X12 w h)) tyX12 tyX12_ok nmX12 hown K hP hS hA1 sM_0 rfl 4 (dk_dq rfl) (hts _ (bw_mem wB_291)) (fun _ h9 => h9) rfl (by decide +kernel) rfl rfl dX12_ahead_43 (fun S_394 e_394 H locs hP hS => ?_)
      have I_394 := dg_I.uFi (lo := 0) (hi := 1600) I e_394 sM_0 (by decide +kernel) (show 0 ≤ (x_30).toInt ∧ (x_30).toInt ≤ 1600 from (by omega))
      have M_394 := dg_sm.uF M_0 e_394 sM_0 (dk_dq rfl)
      refine lv_aload_n hx hb dX12_ahead_46 rfl (lv_at hl 1 rfl) ?_
      refine lv_iload_n hx hb dX12_ahead_47 rfl (lv_at hl 0 rfl) ?_
      refine dg_put (ci := 12) (v := .int x_30) (ty := tyX12 5) (C := RX12) (T := TX12) (N := 77) hx hb hts (fun w h => bw_mem (wU_X12 w h)) tyX12 tyX12_ok nmX12 hown K hP hS hA1 sM_0 rfl 5 (dk_dq rfl) (hts _ (bw_mem wB_288)) (fun _ h9 => h9) rfl (by decide +kernel) rfl rfl dX12_ahead_48 (fun S_395 e_395 H locs hP hS => ?_)
      have I_395 := dg_I.uFi (lo := 0) (hi := 1600) I_394 e_395 sM_0 (by decide +kernel) (show 0 ≤ (x_30).toInt ∧ (x_30).toInt ≤ 1600 from (by omega))
      have M_395 := dg_sm.uF M_394 e_395 sM_0 (dk_dq rfl)
      refine lv_aload_n hx hb dX12_ahead_51 rfl (lv_at hl 1 rfl) ?_
      refine lv_iconst (v := 0) hx hb dX12_ahead_52 (by decide +kernel) ?_
      have hz_396 : (0 : Int32).toInt = 0 := by decide +kernel
      refine dg_put (ci := 12) (v := .int 0) (ty := tyX12 3) (C := RX12) (T := TX12) (N := 77) hx hb hts (fun w h => bw_mem (wU_X12 w h)) tyX12 tyX12_ok nmX12 hown K hP hS hA1 sM_0 rfl 3 (dk_dq rfl) (hts _ (bw_mem wB_292)) (fun _ h9 => h9) rfl (by decide +kernel) rfl rfl dX12_ahead_53 (fun S_397 e_397 H locs hP hS => ?_)
      have I_397 := dg_I.uFi (lo := 0) (hi := 3) I_395 e_397 sM_0 (by decide +kernel) (show 0 ≤ ((0 : Int32)).toInt ∧ ((0 : Int32)).toInt ≤ 3 from (by decide +kernel))
      have M_397 := dg_sm.uF M_395 e_397 sM_0 (dk_dq rfl)
      refine lv_aload_n hx hb dX12_ahead_56 rfl (lv_at hl 1 rfl) ?_
      refine lv_iconst (v := (-1)) hx hb dX12_ahead_57 (by decide +kernel) ?_
      have hz_398 : (-1 : Int32).toInt = (-1) := by decide +kernel
      refine dg_put (ci := 12) (v := .int (-1)) (ty := tyX12 12) (C := RX12) (T := TX12) (N := 77) hx hb hts (fun w h => bw_mem (wU_X12 w h)) tyX12 tyX12_ok nmX12 hown K hP hS hA1 sM_0 rfl 12 (dk_dq rfl) (hts _ (bw_mem wB_293)) (fun _ h9 => h9) rfl (by decide +kernel) rfl rfl dX12_ahead_58 (fun S_399 e_399 H locs hP hS => ?_)
      have I_399 := dg_I.uFi (lo := (-2147483648)) (hi := 2147483647) I_397 e_399 sM_0 (by decide +kernel) (show (-2147483648) ≤ ((-1 : Int32)).toInt ∧ ((-1 : Int32)).toInt ≤ 2147483647 from (by decide +kernel))
      have M_399 := dg_sm.uF M_397 e_399 sM_0 (dk_dq rfl)
      refine lv_iload_n hx hb dX12_ahead_61 rfl (lv_at hl 0 rfl) ?_
      refine lv_aload_n hx hb dX12_ahead_62 rfl (lv_at hl 1 rfl) ?_
      refine dg_get (C := RX12) (T := TX12) (N := 77) hx hb hts (fun w h => bw_mem (wU_X12 w h)) hown K hP sM_0 rfl 2 (dk_dq rfl) (hts _ (bw_mem wB_289)) (fun _ h9 => h9) (v := .int sl) (((dg_uF_ne e_399 (fun z => absurd z.2 (dk_dq rfl))).trans ((dg_uF_ne e_397 (fun z => absurd z.2 (dk_dq rfl))).trans ((dg_uF_ne e_395 (fun z => absurd z.2 (dk_dq rfl))).trans (dg_uF_ne e_394 (fun z => absurd z.2 (dk_dq rfl)))))).trans f_sl) dX12_ahead_63 ?_
      refine lv_icmp_lt (tgt := 70) hx hb dX12_ahead_66 (dk_dq rfl) (fun c_400 => ?_) (fun c_400 => ?_)
      · as_aux_lemma =>
          have jc_400 := dk_ltc (k := (sl).toInt) rfl c_400
          refine lv_aload_n hx hb dX12_ahead_70 rfl (lv_at hl 1 rfl) ?_
          refine dg_get (C := RX12) (T := TX12) (N := 77) hx hb hts (fun w h => bw_mem (wU_X12 w h)) hown K hP sM_0 rfl 0 (dk_dq rfl) (hts _ (bw_mem wB_290)) (fun _ h9 => h9) (v := .ref (o + 1)) (show S_399.1 0 0 = .ref (o + 1) from dg_I.rel (d := 1) I_399 sM_0 (by decide +kernel)) dX12_ahead_71 ?_
          refine lv_iload_n hx hb dX12_ahead_74 rfl (lv_at hl 0 rfl) ?_
          have hin_401 : vp_in x_30 1800 := (dk_inv2 (by omega))
          refine dg_iald hx hb K hP sM_1 hin_401 dX12_ahead_75 (fun x_402 ex_402 => ?_)
          have b_x_402 := dk_all_at (dg_I.row (lo := 0) (hi := 255) I_399 sM_1 (by decide +kernel)) hin_401 ex_402
          have kx_402 : tb (x_30 : Int32).toNatClampNeg = x_402 := by rw [ex_402, ((dg_uF_f e_399 1).trans ((dg_uF_f e_397 1).trans ((dg_uF_f e_395 1).trans (dg_uF_f e_394 1)))), htb]
          refine dg_calli hS hA1 hA (va_runS (As := [.int x_402]) (rest := []) F (c_m_isLetter l g D o S_399 x_402 I_399 H.size) (va_cwS 1 hts (bw_S wB_295 wB_296 wB_297 wB_294) rfl rfl rfl (by decide +kernel) ⟨Nat.le_of_ble_eq_true rfl, Nat.le_of_ble_eq_true rfl⟩) (dg_preS K ST hP hS hA1 hA) rfl rfl hl.1 rfl (lv_room (Nat.le_of_ble_eq_true rfl)) dX12_ahead_76 ⟨Nat.le_of_ble_eq_true rfl, Nat.le_of_ble_eq_true rfl⟩) (fun x_403 S_404 hw_404 H locs hP hS => ?_)
          rw [hw_404.1] at hP
          obtain ⟨hq_404, w_404_0, w_404_1, -⟩ := hw_404
          have w_404_0 : 0 ≤ (x_403).toInt ∧ (x_403).toInt ≤ 1 := w_404_0
          have w_404_1 : (x_403).toInt = 1 ↔ (97 ≤ (x_402).toInt ∧ (x_402).toInt ≤ 122) := w_404_1
          refine lv_istore_n (lv' := [(2, .int x_403), (1, .int x_30), (0, .ref (o + 0))]) hx hb dX12_ahead_79 rfl hl (dk_dq rfl) rfl (fun ls hl => ?_)
          refine lv_aload_n hx hb dX12_ahead_80 rfl (lv_at hl 2 rfl) ?_
          refine dg_get (C := RX12) (T := TX12) (N := 77) hx hb hts (fun w h => bw_mem (wU_X12 w h)) hown K hP sM_0 rfl 0 (dk_dq rfl) (hts _ (bw_mem wB_290)) (fun _ h9 => h9) (v := .ref (o + 1)) (show S_399.1 0 0 = .ref (o + 1) from dg_I.rel (d := 1) I_399 sM_0 (by decide +kernel)) dX12_ahead_81 ?_
          refine lv_iload_n hx hb dX12_ahead_84 rfl (lv_at hl 1 rfl) ?_
          have hin_405 : vp_in x_30 1800 := (dk_inv2 (by omega))
          refine dg_iald hx hb K hP sM_1 hin_405 dX12_ahead_85 (fun y_406 ey_406 => ?_)
          obtain rfl : x_402 = y_406 := (ey_406.trans ex_402.symm).symm
          refine dg_calli hS hA1 hA (va_runS (As := [.int x_402]) (rest := []) F (c_m_isDigit l g D o S_399 x_402 I_399 H.size) (va_cwS 1 hts (bw_S wB_299 wB_300 wB_297 wB_298) rfl rfl rfl (by decide +kernel) ⟨Nat.le_of_ble_eq_true rfl, Nat.le_of_ble_eq_true rfl⟩) (dg_preS K ST hP hS hA1 hA) rfl rfl hl.1 rfl (lv_room (Nat.le_of_ble_eq_true rfl)) dX12_ahead_86 ⟨Nat.le_of_ble_eq_true rfl, Nat.le_of_ble_eq_true rfl⟩) (fun x_407 S_408 hw_408 H locs hP hS => ?_)
          rw [hw_408.1] at hP
          obtain ⟨hq_408, w_408_0, w_408_1, -⟩ := hw_408
          have w_408_0 : 0 ≤ (x_407).toInt ∧ (x_407).toInt ≤ 1 := w_408_0
          have w_408_1 : (x_407).toInt = 1 ↔ (48 ≤ (x_402).toInt ∧ (x_402).toInt ≤ 57) := w_408_1
          refine lv_istore_n (lv' := [(3, .int x_407), (2, .int x_403), (1, .int x_30), (0, .ref (o + 0))]) hx hb dX12_ahead_89 rfl hl (dk_dq rfl) rfl (fun ls hl => ?_)
          refine lv_iload_n hx hb dX12_ahead_90 rfl (lv_at hl 1 rfl) ?_
          have J_752 : ∀ (x_447 : Int32), ((-1) ≤ (x_447).toInt ∧ (x_447).toInt ≤ 1599) → ∀ S_751 : dg_S, CM o S_751 → dg_sm shM [(0, 3), (0, 4), (0, 5), (0, 6), (0, 7), (0, 12)] [] S S_751 → S_751.1 0 4 = .int x_30 → S_751.1 0 5 = .int x_30 → S_751.1 0 3 = .int 0 → S_751.1 0 12 = .int x_447 → S_751.2.1 1 (x_30 : Int32).toNatClampNeg = x_402 → (m_hid (((x_447 : Int32)).toInt ≠ -1 ↔ ((((x_403 : Int32)).toInt = 1 ∨ ((x_407 : Int32)).toInt = 1) ∧ t_adj tb (x_30 : Int32).toNatClampNeg = true))) → ∀ (H : Heap) (locs : List Loc), va_P D vwCl (dg_w g shM o rfM S_751) H → va_S A s.heap H locs → ∀ ls : Array Slot, lv_has ls 6 [(3, .int x_407), (2, .int x_403), (1, .int x_30), (0, .ref (o + 0))] → W p l e ({ frames := 2, cells := 0, slots := 0, locals := 52 } : Room) s m args below meth c H locs 0 0 (MQ below (va_Qv (fun S' => CM o S' ∧ dg_sm shM [(0, 3), (0, 4), (0, 5), (0, 6), (0, 7), (0, 12)] [] S S' ∧ (∃ y9_3 y9_4 y9_5 : Int32, S'.1 0 3 = .int y9_3 ∧ S'.1 0 4 = .int y9_4 ∧ S'.1 0 5 = .int y9_5 ∧ ((se).toInt ≤ (y9_4).toInt ∧ (y9_4).toInt ≤ (y9_5).toInt ∧ (y9_5).toInt ≤ (sl).toInt ∧ ((y9_3).toInt ≠ 0 → (y9_4).toInt + 1 ≤ (y9_5).toInt))) ∧ (TNX tb tn se S') ∧ True) (dg_B g D shM o rfM) A) args s 0 0 A) (F0 m 135 ls []) := by
            as_aux_lemma =>
              intro x_447 b_x_447 S_751 I_751 M_751 ff_751_4_0 ff_751_5_0 ff_751_3_0 ff_751_12_0 frw_751_0 srel_751_0 H locs hP hS ls hl
              have adj9 := srel_751_0
              refine lv_aload_n hx hb dX12_ahead_135 rfl (lv_at hl 3 rfl) ?_
              refine lv_iconst (v := 0) hx hb dX12_ahead_136 (by decide +kernel) ?_
              have hz_753 : (0 : Int32).toInt = 0 := by decide +kernel
              refine dg_put (ci := 12) (v := .int 0) (ty := tyX12 6) (C := RX12) (T := TX12) (N := 77) hx hb hts (fun w h => bw_mem (wU_X12 w h)) tyX12 tyX12_ok nmX12 hown K hP hS hA1 sM_0 rfl 6 (dk_dq rfl) (hts _ (bw_mem wB_301)) (fun _ h9 => h9) rfl (by decide +kernel) rfl rfl dX12_ahead_137 (fun S_754 e_754 H locs hP hS => ?_)
              have I_754 := dg_I.uFi (lo := 0) (hi := 9999) I_751 e_754 sM_0 (by decide +kernel) (show 0 ≤ ((0 : Int32)).toInt ∧ ((0 : Int32)).toInt ≤ 9999 from (by decide +kernel))
              have M_754 := dg_sm.uF M_751 e_754 sM_0 (dk_dq rfl)
              refine lv_aload_n hx hb dX12_ahead_140 rfl (lv_at hl 3 rfl) ?_
              refine lv_lconst (v := 0) hx hb dX12_ahead_141 (by decide +kernel) ?_
              refine dg_put (ci := 12) (v := .long 0) (ty := tyX12 7) (C := RX12) (T := TX12) (N := 77) hx hb hts (fun w h => bw_mem (wU_X12 w h)) tyX12 tyX12_ok nmX12 hown K hP hS hA1 sM_0 rfl 7 (dk_dq rfl) (hts _ (bw_mem wB_302)) (fun _ h9 => h9) rfl (by decide +kernel) rfl rfl dX12_ahead_142 (fun S_755 e_755 H locs hP hS => ?_)
              have I_755 := dg_I.uFl I_754 e_755 sM_0 (by decide +kernel)
              have M_755 := dg_sm.uF M_754 e_755 sM_0 (dk_dq rfl)
              refine lv_aload_n hx hb dX12_ahead_145 rfl (lv_at hl 3 rfl) ?_
              refine lv_iconst (v := 3) hx hb dX12_ahead_146 (by decide +kernel) ?_
              have hz_756 : (3 : Int32).toInt = 3 := by decide +kernel
              refine dg_put (ci := 12) (v := .int 3) (ty := tyX12 3) (C := RX12) (T := TX12) (N := 77) hx hb hts (fun w h => bw_mem (wU_X12 w h)) tyX12 tyX12_ok nmX12 hown K hP hS hA1 sM_0 rfl 3 (dk_dq rfl) (hts _ (bw_mem wB_292)) (fun _ h9 => h9) rfl (by decide +kernel) rfl rfl dX12_ahead_147 (fun S_757 e_757 H locs hP hS => ?_)
              have I_757 := dg_I.uFi (lo := 0) (hi := 3) I_755 e_757 sM_0 (by decide +kernel) (show 0 ≤ ((3 : Int32)).toInt ∧ ((3 : Int32)).toInt ≤ 3 from (by decide +kernel))
              have M_757 := dg_sm.uF M_755 e_757 sM_0 (dk_dq rfl)
              refine lv_aload_n hx hb dX12_ahead_150 rfl (lv_at hl 3 rfl) ?_
              refine lv_iload_n hx hb dX12_ahead_151 rfl (lv_at hl 2 rfl) ?_
              refine lv_iconst (v := 1) hx hb dX12_ahead_152 (by decide +kernel) ?_
              refine lv_iadd hx hb dX12_ahead_153 ?_
              refine lv_topi (fun x_758 ex_758 => ?_)
              have jx_758 : (x_758).toInt = (x_30).toInt + 1 := by rw [ex_758]; exact dk_addT2 rfl (by decide +kernel) (by omega)
              refine dg_put (ci := 12) (v := .int x_758) (ty := tyX12 5) (C := RX12) (T := TX12) (N := 77) hx hb hts (fun w h => bw_mem (wU_X12 w h)) tyX12 tyX12_ok nmX12 hown K hP hS hA1 sM_0 rfl 5 (dk_dq rfl) (hts _ (bw_mem wB_288)) (fun _ h9 => h9) rfl (by decide +kernel) rfl rfl dX12_ahead_154 (fun S_759 e_759 H locs hP hS => ?_)
              have I_759 := dg_I.uFi (lo := 0) (hi := 1600) I_757 e_759 sM_0 (by decide +kernel) (show 0 ≤ (x_758).toInt ∧ (x_758).toInt ≤ 1600 from (by omega))
              have M_759 := dg_sm.uF M_757 e_759 sM_0 (dk_dq rfl)
              refine lv_iload_n hx hb dX12_ahead_157 rfl (lv_at hl 1 rfl) ?_
              refine lv_if_ne (tgt := 176) hx hb dX12_ahead_158 (dk_dq rfl) (fun c_760 => ?_) (fun c_760 => ?_)
              · as_aux_lemma =>
                  have jc_760 := dk_neqc (k := 0) (by decide +kernel) c_760
                  refine lv_aload_n hx hb dX12_ahead_176 rfl (lv_at hl 3 rfl) ?_
                  refine lv_iload_n hx hb dX12_ahead_177 rfl (lv_at hl 1 rfl) ?_
                  refine lv_if_eq (tgt := 185) hx hb dX12_ahead_178 (dk_dq rfl) (fun c => absurd c (fun z => absurd (dk_eqc (k := 0) (by decide +kernel) z) (by omega))) (fun _ => ?_)
                  refine lv_iconst (v := 1) hx hb dX12_ahead_181 (by decide +kernel) ?_
                  refine lv_goto (tgt := 186) hx hb dX12_ahead_182 (dk_dq rfl) ?_
                  have hz_761 : (1 : Int32).toInt = 1 := by decide +kernel
                  refine dg_put (ci := 12) (v := .int 1) (ty := tyX12 3) (C := RX12) (T := TX12) (N := 77) hx hb hts (fun w h => bw_mem (wU_X12 w h)) tyX12 tyX12_ok nmX12 hown K hP hS hA1 sM_0 rfl 3 (dk_dq rfl) (hts _ (bw_mem wB_292)) (fun _ h9 => h9) rfl (by decide +kernel) rfl rfl dX12_ahead_186 (fun S_762 e_762 H locs hP hS => ?_)
                  have I_762 := dg_I.uFi (lo := 0) (hi := 3) I_759 e_762 sM_0 (by decide +kernel) (show 0 ≤ ((1 : Int32)).toInt ∧ ((1 : Int32)).toInt ≤ 3 from (by decide +kernel))
                  have M_762 := dg_sm.uF M_759 e_762 sM_0 (dk_dq rfl)
                  refine lv_iload_n hx hb dX12_ahead_189 rfl (lv_at hl 1 rfl) ?_
                  refine lv_if_eq (tgt := 198) hx hb dX12_ahead_190 (dk_dq rfl) (fun c => absurd c (fun z => absurd (dk_eqc (k := 0) (by decide +kernel) z) (by omega))) (fun _ => ?_)
                  refine lv_bipush (v := 6) hx hb dX12_ahead_193 (by decide +kernel) ?_
                  refine lv_goto (tgt := 199) hx hb dX12_ahead_195 (dk_dq rfl) ?_
                  refine lv_istore (lv' := [(4, .int 6), (3, .int x_407), (2, .int x_403), (1, .int x_30), (0, .ref (o + 0))]) hx hb dX12_ahead_199 hl (dk_dq rfl) rfl (fun ls hl => ?_)
                  have hdg9 : (x_407).toInt = 0 := by omega
                  refine lv_iconst (v := 0) hx hb dX12_ahead_201 (by decide +kernel) ?_
                  refine lv_istore (lv' := [(5, .int 0), (4, .int 6), (3, .int x_407), (2, .int x_403), (1, .int x_30), (0, .ref (o + 0))]) hx hb dX12_ahead_202 hl (dk_dq rfl) rfl (fun ls hl => ?_)
                  have L_871 : ∀ (n : Nat) (x_867 : Int32) (x_868 : Int32) (x_869 : Int32), (0 ≤ (x_867).toInt ∧ (x_867).toInt ≤ 1600) → (0 ≤ (x_868).toInt ∧ (x_868).toInt ≤ 1600) → ((-1) ≤ (x_869).toInt ∧ (x_869).toInt ≤ 1599) → ((x_868).toInt ≤ (sl).toInt ∧ (x_868).toInt = (x_30).toInt + (x_867).toInt) → ((1601 - (x_867).toInt).toNat < n) → ∀ S_870 : dg_S, CM o S_870 → dg_sm shM [(0, 3), (0, 4), (0, 5), (0, 6), (0, 7), (0, 12)] [] S S_870 → S_870.1 0 4 = .int x_30 → S_870.1 0 12 = .int x_869 → S_870.1 0 6 = .int 0 → S_870.1 0 5 = .int x_758 → S_870.1 0 3 = .int 1 → S_870.2.1 1 (x_30 : Int32).toNatClampNeg = x_402 → (m_hid ((x_403 : Int32).toInt = 1 → ∀ j9 : Nat, (x_30 : Int32).toNatClampNeg ≤ j9 → j9 < (x_868 : Int32).toNatClampNeg → t_l (tb j9) = true)) → (m_hid ((x_407 : Int32).toInt = 1 → ∀ j9 : Nat, (x_30 : Int32).toNatClampNeg ≤ j9 → j9 < (x_868 : Int32).toNatClampNeg → t_d (tb j9) = true)) → (∃ w9 : Int64, S_870.1 0 7 = .long w9 ∧ m_hid ((x_403 : Int32).toInt = 1 → w9.toInt = m_pk tb (x_30 : Int32).toNatClampNeg (min 6 (x_867 : Int32).toNatClampNeg))) → (m_hid ((x_407 : Int32).toInt = 1 → ((0 : Int32)).toInt = t_num tb (x_30 : Int32).toNatClampNeg (min 4 (x_867 : Int32).toNatClampNeg))) → (m_hid (((x_869 : Int32)).toInt ≠ -1 ↔ (t_adj tb (x_30 : Int32).toNatClampNeg = true ∨ (6 : Int32).toInt < (x_867).toInt))) → ∀ (H : Heap) (locs : List Loc), va_P D vwCl (dg_w g shM o rfM S_870) H → va_S A s.heap H locs → ∀ ls : Array Slot, lv_has ls 6 [(5, .int x_867), (4, .int 6), (3, .int x_407), (2, .int x_403), (1, .int x_868), (0, .ref (o + 0))] → W p l e ({ frames := 2, cells := 0, slots := 0, locals := 52 } : Room) s m args below meth c H locs 0 0 (MQ below (va_Qv (fun S' => CM o S' ∧ dg_sm shM [(0, 3), (0, 4), (0, 5), (0, 6), (0, 7), (0, 12)] [] S S' ∧ (∃ y9_3 y9_4 y9_5 : Int32, S'.1 0 3 = .int y9_3 ∧ S'.1 0 4 = .int y9_4 ∧ S'.1 0 5 = .int y9_5 ∧ ((se).toInt ≤ (y9_4).toInt ∧ (y9_4).toInt ≤ (y9_5).toInt ∧ (y9_5).toInt ≤ (sl).toInt ∧ ((y9_3).toInt ≠ 0 → (y9_4).toInt + 1 ≤ (y9_5).toInt))) ∧ (TNX tb tn se S') ∧ True) (dg_B g D shM o rfM) A) args s 0 0 A) (F0 m 204 ls []) := by
                    as_aux_lemma =>
                      intro n
                      induction n with
                      | zero =>
                        intro x_867 x_868 x_869 b_x_867 b_x_868 b_x_869 rel_0 hmu S_870 I_870 M_870 ff_870_4_0 ff_870_12_0 ff_870_6_0 ff_870_5_0 ff_870_3_0 frw_870_0 srel_870_0 srel_870_1 srel_870_2 srel_870_3 srel_870_4 H locs hP hS ls hl
                        omega
                      | succ n ih =>
                        as_aux_lemma =>
                          intro x_867 x_868 x_869 b_x_867 b_x_868 b_x_869 rel_0 hmu S_870 I_870 M_870 ff_870_4_0 ff_870_12_0 ff_870_6_0 ff_870_5_0 ff_870_3_0 frw_870_0 srel_870_0 srel_870_1 srel_870_2 srel_870_3 srel_870_4 H locs hP hS ls hl
                          refine lv_iload_n hx hb dX12_ahead_204 rfl (lv_at hl 4 rfl) ?_
                          refine lv_aload_n hx hb dX12_ahead_205 rfl (lv_at hl 5 rfl) ?_
                          refine dg_get (C := RX12) (T := TX12) (N := 77) hx hb hts (fun w h => bw_mem (wU_X12 w h)) hown K hP sM_0 rfl 2 (dk_dq rfl) (hts _ (bw_mem wB_289)) (fun _ h9 => h9) (v := .int sl) ((M_870.1 0 2 _ sM_0 (dk_dq rfl)).trans f_sl) dX12_ahead_206 ?_
                          refine lv_icmp_ge (tgt := 334) hx hb dX12_ahead_209 (dk_dq rfl) (fun c_872 => ?_) (fun c_872 => ?_)
                          · have jc_872 := dk_gec (k := (sl).toInt) rfl c_872
                            refine lv_aload_n hx hb dX12_ahead_334 rfl (lv_at hl 5 rfl) ?_
                            refine lv_iload_n hx hb dX12_ahead_335 rfl (lv_at hl 4 rfl) ?_
                            refine dg_put (ci := 12) (v := .int x_868) (ty := tyX12 5) (C := RX12) (T := TX12) (N := 77) hx hb hts (fun w h => bw_mem (wU_X12 w h)) tyX12 tyX12_ok nmX12 hown K hP hS hA1 sM_0 rfl 5 (dk_dq rfl) (hts _ (bw_mem wB_288)) (fun _ h9 => h9) rfl (by decide +kernel) rfl rfl dX12_ahead_336 (fun S_873 e_873 H locs hP hS => ?_)
                            have I_873 := dg_I.uFi (lo := 0) (hi := 1600) I_870 e_873 sM_0 (by decide +kernel) (show 0 ≤ (x_868).toInt ∧ (x_868).toInt ≤ 1600 from (by omega))
                            have M_873 := dg_sm.uF M_870 e_873 sM_0 (dk_dq rfl)
                            have hz_874 : (1 : Int32).toInt = 1 := by decide +kernel
                            obtain ⟨x_875, f_x_875⟩ := dg_I.long (i := 0) (k := 7) I_873 sM_0 (by decide +kernel)
                            have hz_876 : (1 : Int32).toInt = 1 := by decide +kernel
                            have hz_877 : (0 : Int32).toInt = 0 := by decide +kernel
                            have hz_878 : (6 : Int32).toInt = 6 := by decide +kernel
                            refine W.widen (k := 0) (n := 0) (Nat.le_of_ble_eq_true rfl) (Nat.le_of_ble_eq_true rfl) ?_
                            exact dg_vret hx hb hr hlocks hP hS ⟨I_873, M_873, ⟨1, x_30, x_868, ((dg_uF_ne e_873 (fun z => absurd z.2 (dk_dq rfl))).trans ff_870_3_0), ((dg_uF_ne e_873 (fun z => absurd z.2 (dk_dq rfl))).trans ff_870_4_0), (dg_uF_at e_873), (by omega)⟩, (by obtain ⟨w9, f9, h9⟩ := srel_870_2; exact TNX.wrd (m := x_867) (mo := 6) hn16 hs9 (by omega) ((dg_uF_ne e_873 (fun z => absurd z.2 (dk_dq rfl))).trans ff_870_3_0) ((dg_uF_ne e_873 (fun z => absurd z.2 (dk_dq rfl))).trans ff_870_4_0) (dg_uF_at e_873) ((dg_uF_ne e_873 (fun z => absurd z.2 (dk_dq rfl))).trans ff_870_6_0) ((dg_uF_ne e_873 (fun z => absurd z.2 (dk_dq rfl))).trans f9) ((dg_uF_ne e_873 (fun z => absurd z.2 (dk_dq rfl))).trans ff_870_12_0) (by omega) (by omega) (by have h8 := dk_clN x_868; omega) (by omega) (by omega) (srel_870_0.out (by omega)) (t_wd_ge (by have h8 := dk_clN x_868; omega)) srel_870_4.out (by omega) (h9.out (by omega))), trivial⟩ dX12_ahead_339
                          · as_aux_lemma =>
                              have jc_872 := dk_ngec (k := (sl).toInt) rfl c_872
                              refine lv_iload_n hx hb dX12_ahead_212 rfl (lv_at hl 3 rfl) ?_
                              refine lv_if_eq (tgt := 231) hx hb dX12_ahead_213 (dk_dq rfl) (fun c => absurd c (fun z => absurd (dk_eqc (k := 0) (by decide +kernel) z) (by omega))) (fun _ => ?_)
                              refine lv_aload_n hx hb dX12_ahead_216 rfl (lv_at hl 5 rfl) ?_
                              refine dg_get (C := RX12) (T := TX12) (N := 77) hx hb hts (fun w h => bw_mem (wU_X12 w h)) hown K hP sM_0 rfl 0 (dk_dq rfl) (hts _ (bw_mem wB_290)) (fun _ h9 => h9) (v := .ref (o + 1)) (show S_870.1 0 0 = .ref (o + 1) from dg_I.rel (d := 1) I_870 sM_0 (by decide +kernel)) dX12_ahead_217 ?_
                              refine lv_iload_n hx hb dX12_ahead_220 rfl (lv_at hl 4 rfl) ?_
                              have hin_879 : vp_in x_868 1800 := (dk_inv2 (by omega))
                              refine dg_iald hx hb K hP sM_1 hin_879 dX12_ahead_221 (fun x_880 ex_880 => ?_)
                              have b_x_880 := dk_all_at (dg_I.row (lo := 0) (hi := 255) I_870 sM_1 (by decide +kernel)) hin_879 ex_880
                              have htw_880 : (x_868 : Int32).toInt = (x_30 : Int32).toInt → (x_880).toInt = (x_402 : Int32).toInt := fun h => by have h9 := Int32.toInt_inj.mp h; rw [ex_880, h9]; exact congrArg Int32.toInt frw_870_0
                              have kx_880 : tb (x_868 : Int32).toNatClampNeg = x_880 := by rw [ex_880, (M_870.2 1 _ sM_1 (dk_dq rfl)).1, htb]
                              refine dg_calli hS hA1 hA (va_runS (As := [.int x_880]) (rest := []) F (c_m_isLetter l g D o S_870 x_880 I_870 H.size) (va_cwS 1 hts (bw_S wB_295 wB_296 wB_297 wB_294) rfl rfl rfl (by decide +kernel) ⟨Nat.le_of_ble_eq_true rfl, Nat.le_of_ble_eq_true rfl⟩) (dg_preS K ST hP hS hA1 hA) rfl rfl hl.1 rfl (lv_room (Nat.le_of_ble_eq_true rfl)) dX12_ahead_222 ⟨Nat.le_of_ble_eq_true rfl, Nat.le_of_ble_eq_true rfl⟩) (fun x_882 S_883 hw_883 H locs hP hS => ?_)
                              rw [hw_883.1] at hP
                              obtain ⟨hq_883, w_883_0, w_883_1, -⟩ := hw_883
                              have w_883_0 : 0 ≤ (x_882).toInt ∧ (x_882).toInt ≤ 1 := w_883_0
                              have w_883_1 : (x_882).toInt = 1 ↔ (97 ≤ (x_880).toInt ∧ (x_880).toInt ≤ 122) := w_883_1
                              refine lv_if_eq (tgt := 334) hx hb dX12_ahead_225 (dk_dq rfl) (fun c_884 => ?_) (fun c_884 => ?_)
                              · have jc_884 := dk_eqc (k := 0) (by decide +kernel) c_884
                                refine lv_aload_n hx hb dX12_ahead_334 rfl (lv_at hl 5 rfl) ?_
                                refine lv_iload_n hx hb dX12_ahead_335 rfl (lv_at hl 4 rfl) ?_
                                refine dg_put (ci := 12) (v := .int x_868) (ty := tyX12 5) (C := RX12) (T := TX12) (N := 77) hx hb hts (fun w h => bw_mem (wU_X12 w h)) tyX12 tyX12_ok nmX12 hown K hP hS hA1 sM_0 rfl 5 (dk_dq rfl) (hts _ (bw_mem wB_288)) (fun _ h9 => h9) rfl (by decide +kernel) rfl rfl dX12_ahead_336 (fun S_885 e_885 H locs hP hS => ?_)
                                have I_885 := dg_I.uFi (lo := 0) (hi := 1600) I_870 e_885 sM_0 (by decide +kernel) (show 0 ≤ (x_868).toInt ∧ (x_868).toInt ≤ 1600 from (by omega))
                                have M_885 := dg_sm.uF M_870 e_885 sM_0 (dk_dq rfl)
                                have hz_886 : (1 : Int32).toInt = 1 := by decide +kernel
                                obtain ⟨x_887, f_x_887⟩ := dg_I.long (i := 0) (k := 7) I_885 sM_0 (by decide +kernel)
                                have hz_888 : (1 : Int32).toInt = 1 := by decide +kernel
                                have hz_889 : (0 : Int32).toInt = 0 := by decide +kernel
                                have hz_890 : (6 : Int32).toInt = 6 := by decide +kernel
                                refine W.widen (k := 0) (n := 0) (Nat.le_of_ble_eq_true rfl) (Nat.le_of_ble_eq_true rfl) ?_
                                exact dg_vret hx hb hr hlocks hP hS ⟨I_885, M_885, ⟨1, x_30, x_868, ((dg_uF_ne e_885 (fun z => absurd z.2 (dk_dq rfl))).trans ff_870_3_0), ((dg_uF_ne e_885 (fun z => absurd z.2 (dk_dq rfl))).trans ff_870_4_0), (dg_uF_at e_885), (by omega)⟩, (by obtain ⟨w9, f9, h9⟩ := srel_870_2; exact TNX.wrd (m := x_867) (mo := 6) hn16 hs9 (by omega) ((dg_uF_ne e_885 (fun z => absurd z.2 (dk_dq rfl))).trans ff_870_3_0) ((dg_uF_ne e_885 (fun z => absurd z.2 (dk_dq rfl))).trans ff_870_4_0) (dg_uF_at e_885) ((dg_uF_ne e_885 (fun z => absurd z.2 (dk_dq rfl))).trans ff_870_6_0) ((dg_uF_ne e_885 (fun z => absurd z.2 (dk_dq rfl))).trans f9) ((dg_uF_ne e_885 (fun z => absurd z.2 (dk_dq rfl))).trans ff_870_12_0) (by omega) (by omega) (by have h8 := dk_clN x_868; omega) (by omega) (by omega) (srel_870_0.out (by omega)) (t_wd_no (by rw [kx_880]; exact t_l_f (by omega))) srel_870_4.out (by omega) (h9.out (by omega))), trivial⟩ dX12_ahead_339
                              · as_aux_lemma =>
                                  have jc_884 := dk_neqc (k := 0) (by decide +kernel) c_884
                                  refine lv_goto (tgt := 243) hx hb dX12_ahead_228 (dk_dq rfl) ?_
                                  refine lv_iload hx hb dX12_ahead_243 (lv_at hl 0 rfl) ?_
                                  refine lv_iload hx hb dX12_ahead_245 (lv_at hl 1 rfl) ?_
                                  refine lv_icmp_ne (tgt := 263) hx hb dX12_ahead_247 (dk_dq rfl) (fun c_891 => ?_) (fun c_891 => ?_)
                                  · as_aux_lemma =>
                                      have jc_891 := dk_neqc (k := 6) (by decide +kernel) c_891
                                      refine lv_iload hx hb dX12_ahead_263 (lv_at hl 0 rfl) ?_
                                      refine lv_iload hx hb dX12_ahead_265 (lv_at hl 1 rfl) ?_
                                      refine lv_icmp_ge (tgt := 293) hx hb dX12_ahead_267 (dk_dq rfl) (fun c_892 => ?_) (fun c_892 => ?_)
                                      · as_aux_lemma =>
                                          have jc_892 := dk_gec (k := 6) (by decide +kernel) c_892
                                          refine lv_iload hx hb dX12_ahead_293 (lv_at hl 0 rfl) ?_
                                          refine lv_iload hx hb dX12_ahead_295 (lv_at hl 1 rfl) ?_
                                          refine lv_icmp_ge (tgt := 325) hx hb dX12_ahead_297 (dk_dq rfl) (fun _ => ?_) (fun c => absurd (dk_gep (k := 6) (by decide +kernel) (by omega)) c)
                                          obtain ⟨x_893, ex_893⟩ : ∃ z, z = x_867 + 1 := ⟨_, rfl⟩
                                          have jx_893 : (x_893).toInt = (x_867).toInt + 1 := by rw [ex_893]; exact dk_addT2 rfl (by decide +kernel) (by omega)
                                          refine lv_iinc (v := x_893) (lv' := [(5, .int x_893), (4, .int 6), (3, .int x_407), (2, .int x_403), (1, .int x_868), (0, .ref (o + 0))]) hx hb dX12_ahead_325 hl (k := 0) rfl (by rw [ex_893]; rfl) (dk_dq rfl) rfl (fun ls hl => ?_)
                                          obtain ⟨x_894, ex_894⟩ : ∃ z, z = x_868 + 1 := ⟨_, rfl⟩
                                          have jx_894 : (x_894).toInt = (x_868).toInt + 1 := by rw [ex_894]; exact dk_addT2 rfl (by decide +kernel) (by omega)
                                          refine lv_iinc (v := x_894) (lv' := [(1, .int x_894), (5, .int x_893), (4, .int 6), (3, .int x_407), (2, .int x_403), (0, .ref (o + 0))]) hx hb dX12_ahead_328 hl (k := 4) rfl (by rw [ex_894]; rfl) (dk_dq rfl) rfl (fun ls hl => ?_)
                                          refine lv_goto (tgt := 204) hx hb dX12_ahead_331 (dk_dq rfl) ?_
                                          have hz_895 : (0 : Int32).toInt = 0 := by decide +kernel
                                          have hz_896 : (6 : Int32).toInt = 6 := by decide +kernel
                                          have hz_897 : (0 : Int32).toInt = 0 := by decide +kernel
                                          have hz_898 : (6 : Int32).toInt = 6 := by decide +kernel
                                          have hz_899 : (0 : Int32).toInt = 0 := by decide +kernel
                                          have hz_900 : (6 : Int32).toInt = 6 := by decide +kernel
                                          have hz_901 : (0 : Int32).toInt = 0 := by decide +kernel
                                          have hz_902 : (6 : Int32).toInt = 6 := by decide +kernel
                                          have hz_903 : (0 : Int32).toInt = 0 := by decide +kernel
                                          have hz_904 : (6 : Int32).toInt = 6 := by decide +kernel
                                          exact ih x_893 x_894 x_869 (by omega) (by omega) (by omega) (by omega) (by first | exact mu_lt hmu (by omega) (by omega) | omega) S_870 I_870 M_870 ff_870_4_0 ff_870_12_0 ff_870_6_0 ff_870_5_0 ff_870_3_0 frw_870_0 (m_hid.mk fun h9 => tl_step (srel_870_0.out h9) (by rw [kx_880]; exact t_l_iff.mpr (by omega)) (by omega) (by omega)) (m_hid.mk fun h9 => tl_step (srel_870_1.out h9) (by rw [kx_880]; exact t_d_iff.mpr (by omega)) (by omega) (by omega)) (by obtain ⟨w9, f9, h9⟩ := srel_870_2; exact ⟨w9, f9, m_hid.mk fun q9 => by first | exact m_pk_st (h9.out q9) (by omega) (by omega) | (exfalso; omega)⟩) (m_hid.mk fun q9 => by first | exact m_nu_st (srel_870_3.out q9) (by omega) (by omega) | exact m_nu_up (srel_870_3.out q9) kx_880 (by omega) (by omega) (by omega) (by omega) | (exfalso; omega)) (m_hid.mk (by first | exact t_lx2 (by omega) (by omega) | exact t_lx1 srel_870_4.out (by omega))) _ _ hP hS _ (lv_sub hl [1, 2, 3, 4, 0, 5] rfl)
                                      · as_aux_lemma =>
                                          have jc_892 := dk_ngec (k := 6) (by decide +kernel) c_892
                                          refine lv_iload_n hx hb dX12_ahead_270 rfl (lv_at hl 3 rfl) ?_
                                          refine lv_if_eq (tgt := 293) hx hb dX12_ahead_271 (dk_dq rfl) (fun c => absurd c (fun z => absurd (dk_eqc (k := 0) (by decide +kernel) z) (by omega))) (fun _ => ?_)
                                          refine lv_aload_n hx hb dX12_ahead_274 rfl (lv_at hl 5 rfl) ?_
                                          refine lv_aload_n hx hb dX12_ahead_275 rfl (lv_at hl 5 rfl) ?_
                                          obtain ⟨x_905, f_x_905⟩ := dg_I.long (i := 0) (k := 7) I_870 sM_0 (by decide +kernel)
                                          refine dg_get (C := RX12) (T := TX12) (N := 77) hx hb hts (fun w h => bw_mem (wU_X12 w h)) hown K hP sM_0 rfl 7 (dk_dq rfl) (hts _ (bw_mem wB_302)) (fun _ h9 => h9) (v := .long x_905) f_x_905 dX12_ahead_276 ?_
                                          refine lv_bipush (v := 8) hx hb dX12_ahead_279 (by decide +kernel) ?_
                                          refine lv_lshl hx hb dX12_ahead_281 rfl ?_
                                          refine lv_topl (fun x_906 ex_906 => ?_)
                                          refine lv_aload_n hx hb dX12_ahead_282 rfl (lv_at hl 5 rfl) ?_
                                          refine dg_get (C := RX12) (T := TX12) (N := 77) hx hb hts (fun w h => bw_mem (wU_X12 w h)) hown K hP sM_0 rfl 0 (dk_dq rfl) (hts _ (bw_mem wB_290)) (fun _ h9 => h9) (v := .ref (o + 1)) (show S_870.1 0 0 = .ref (o + 1) from dg_I.rel (d := 1) I_870 sM_0 (by decide +kernel)) dX12_ahead_283 ?_
                                          refine lv_iload_n hx hb dX12_ahead_286 rfl (lv_at hl 4 rfl) ?_
                                          have hin_907 : vp_in x_868 1800 := (dk_inv2 (by omega))
                                          refine dg_iald hx hb K hP sM_1 hin_907 dX12_ahead_287 (fun y_908 ey_908 => ?_)
                                          obtain rfl : x_880 = y_908 := (ey_908.trans ex_880.symm).symm
                                          obtain ⟨x_909, ex_909⟩ : ∃ z, (x_880 : Int32).toInt64 = z := ⟨_, rfl⟩
                                          refine lv_i2l (v := x_909) hx hb dX12_ahead_288 ex_909 ?_
                                          refine lv_lor hx hb dX12_ahead_289 ?_
                                          refine lv_topl (fun x_910 ex_910 => ?_)
                                          refine dg_put (ci := 12) (v := .long x_910) (ty := tyX12 7) (C := RX12) (T := TX12) (N := 77) hx hb hts (fun w h => bw_mem (wU_X12 w h)) tyX12 tyX12_ok nmX12 hown K hP hS hA1 sM_0 rfl 7 (dk_dq rfl) (hts _ (bw_mem wB_302)) (fun _ h9 => h9) rfl (by decide +kernel) rfl rfl dX12_ahead_290 (fun S_911 e_911 H locs hP hS => ?_)
                                          have I_911 := dg_I.uFl I_870 e_911 sM_0 (by decide +kernel)
                                          have M_911 := dg_sm.uF M_870 e_911 sM_0 (dk_dq rfl)
                                          refine lv_iload hx hb dX12_ahead_293 (lv_at hl 0 rfl) ?_
                                          refine lv_iload hx hb dX12_ahead_295 (lv_at hl 1 rfl) ?_
                                          refine lv_icmp_ge (tgt := 325) hx hb dX12_ahead_297 (dk_dq rfl) (fun c => absurd c (fun z => absurd (dk_gec (k := 6) (by decide +kernel) z) (by omega))) (fun _ => ?_)
                                          refine lv_iload_n hx hb dX12_ahead_300 rfl (lv_at hl 2 rfl) ?_
                                          refine lv_if_eq (tgt := 325) hx hb dX12_ahead_301 (dk_dq rfl) (fun _ => ?_) (fun c => absurd (dk_eqp (k := 0) (by decide +kernel) (by omega)) c)
                                          obtain ⟨x_912, ex_912⟩ : ∃ z, z = x_867 + 1 := ⟨_, rfl⟩
                                          have jx_912 : (x_912).toInt = (x_867).toInt + 1 := by rw [ex_912]; exact dk_addT2 rfl (by decide +kernel) (by omega)
                                          refine lv_iinc (v := x_912) (lv' := [(5, .int x_912), (4, .int 6), (3, .int x_407), (2, .int x_403), (1, .int x_868), (0, .ref (o + 0))]) hx hb dX12_ahead_325 hl (k := 0) rfl (by rw [ex_912]; rfl) (dk_dq rfl) rfl (fun ls hl => ?_)
                                          obtain ⟨x_913, ex_913⟩ : ∃ z, z = x_868 + 1 := ⟨_, rfl⟩
                                          have jx_913 : (x_913).toInt = (x_868).toInt + 1 := by rw [ex_913]; exact dk_addT2 rfl (by decide +kernel) (by omega)
                                          refine lv_iinc (v := x_913) (lv' := [(1, .int x_913), (5, .int x_912), (4, .int 6), (3, .int x_407), (2, .int x_403), (0, .ref (o + 0))]) hx hb dX12_ahead_328 hl (k := 4) rfl (by rw [ex_913]; rfl) (dk_dq rfl) rfl (fun ls hl => ?_)
                                          refine lv_goto (tgt := 204) hx hb dX12_ahead_331 (dk_dq rfl) ?_
                                          have hz_914 : (0 : Int32).toInt = 0 := by decide +kernel
                                          have hz_915 : (6 : Int32).toInt = 6 := by decide +kernel
                                          have hz_916 : (0 : Int32).toInt = 0 := by decide +kernel
                                          have hz_917 : (6 : Int32).toInt = 6 := by decide +kernel
                                          have hz_918 : (0 : Int32).toInt = 0 := by decide +kernel
                                          have hz_919 : (6 : Int32).toInt = 6 := by decide +kernel
                                          have hz_920 : (0 : Int32).toInt = 0 := by decide +kernel
                                          have hz_921 : (6 : Int32).toInt = 6 := by decide +kernel
                                          have hz_922 : (0 : Int32).toInt = 0 := by decide +kernel
                                          have hz_923 : (6 : Int32).toInt = 6 := by decide +kernel
                                          exact ih x_912 x_913 x_869 (by omega) (by omega) (by omega) (by omega) (by first | exact mu_lt hmu (by omega) (by omega) | omega) S_911 I_911 M_911 ((dg_uF_ne e_911 (fun z => absurd z.2 (dk_dq rfl))).trans ff_870_4_0) ((dg_uF_ne e_911 (fun z => absurd z.2 (dk_dq rfl))).trans ff_870_12_0) ((dg_uF_ne e_911 (fun z => absurd z.2 (dk_dq rfl))).trans ff_870_6_0) ((dg_uF_ne e_911 (fun z => absurd z.2 (dk_dq rfl))).trans ff_870_5_0) ((dg_uF_ne e_911 (fun z => absurd z.2 (dk_dq rfl))).trans ff_870_3_0) ((congrFun (dg_uF_f e_911 1) _).trans frw_870_0) (m_hid.mk fun h9 => tl_step (srel_870_0.out h9) (by rw [kx_880]; exact t_l_iff.mpr (by omega)) (by omega) (by omega)) (m_hid.mk fun h9 => tl_step (srel_870_1.out h9) (by rw [kx_880]; exact t_d_iff.mpr (by omega)) (by omega) (by omega)) (by obtain ⟨w9, f9, h9⟩ := srel_870_2; have hw9 : x_905 = w9 := (by have q9 := (f_x_905).symm.trans f9; cases q9; rfl); exact ⟨x_910, (dg_uF_at e_911), m_hid.mk fun q9 => m_pk_up (by rw [hw9]; exact h9.out q9) (srel_870_0.out q9) kx_880 (by omega) (by omega) (by omega) ex_906 ex_909 ex_910 (by omega)⟩) (m_hid.mk fun q9 => by first | exact m_nu_st (srel_870_3.out q9) (by omega) (by omega) | exact m_nu_up (srel_870_3.out q9) kx_880 (by omega) (by omega) (by omega) (by omega) | (exfalso; omega)) (m_hid.mk (by first | exact t_lx2 (by omega) (by omega) | exact t_lx1 srel_870_4.out (by omega))) _ _ hP hS _ (lv_sub hl [1, 2, 3, 4, 0, 5] rfl)
                                  · as_aux_lemma =>
                                      have jc_891 := dk_eqc (k := 6) (by decide +kernel) c_891
                                      refine lv_aload_n hx hb dX12_ahead_250 rfl (lv_at hl 5 rfl) ?_
                                      refine dg_get (C := RX12) (T := TX12) (N := 77) hx hb hts (fun w h => bw_mem (wU_X12 w h)) hown K hP sM_0 rfl 12 (dk_dq rfl) (hts _ (bw_mem wB_293)) (fun _ h9 => h9) (v := .int x_869) ff_870_12_0 dX12_ahead_251 ?_
                                      refine lv_iconst (v := (-1)) hx hb dX12_ahead_254 (by decide +kernel) ?_
                                      refine lv_icmp_ne (tgt := 263) hx hb dX12_ahead_255 (dk_dq rfl) (fun c_924 => ?_) (fun c_924 => ?_)
                                      · as_aux_lemma =>
                                          have jc_924 := dk_neqc (k := (-1)) (by decide +kernel) c_924
                                          refine lv_iload hx hb dX12_ahead_263 (lv_at hl 0 rfl) ?_
                                          refine lv_iload hx hb dX12_ahead_265 (lv_at hl 1 rfl) ?_
                                          refine lv_icmp_ge (tgt := 293) hx hb dX12_ahead_267 (dk_dq rfl) (fun _ => ?_) (fun c => absurd (dk_gep (k := 6) (by decide +kernel) (by omega)) c)
                                          refine lv_iload hx hb dX12_ahead_293 (lv_at hl 0 rfl) ?_
                                          refine lv_iload hx hb dX12_ahead_295 (lv_at hl 1 rfl) ?_
                                          refine lv_icmp_ge (tgt := 325) hx hb dX12_ahead_297 (dk_dq rfl) (fun _ => ?_) (fun c => absurd (dk_gep (k := 6) (by decide +kernel) (by omega)) c)
                                          obtain ⟨x_925, ex_925⟩ : ∃ z, z = x_867 + 1 := ⟨_, rfl⟩
                                          have jx_925 : (x_925).toInt = (x_867).toInt + 1 := by rw [ex_925]; exact dk_addT2 rfl (by decide +kernel) (by omega)
                                          refine lv_iinc (v := x_925) (lv' := [(5, .int x_925), (4, .int 6), (3, .int x_407), (2, .int x_403), (1, .int x_868), (0, .ref (o + 0))]) hx hb dX12_ahead_325 hl (k := 0) rfl (by rw [ex_925]; rfl) (dk_dq rfl) rfl (fun ls hl => ?_)
                                          obtain ⟨x_926, ex_926⟩ : ∃ z, z = x_868 + 1 := ⟨_, rfl⟩
                                          have jx_926 : (x_926).toInt = (x_868).toInt + 1 := by rw [ex_926]; exact dk_addT2 rfl (by decide +kernel) (by omega)
                                          refine lv_iinc (v := x_926) (lv' := [(1, .int x_926), (5, .int x_925), (4, .int 6), (3, .int x_407), (2, .int x_403), (0, .ref (o + 0))]) hx hb dX12_ahead_328 hl (k := 4) rfl (by rw [ex_926]; rfl) (dk_dq rfl) rfl (fun ls hl => ?_)
                                          refine lv_goto (tgt := 204) hx hb dX12_ahead_331 (dk_dq rfl) ?_
                                          have hz_927 : (0 : Int32).toInt = 0 := by decide +kernel
                                          have hz_928 : (6 : Int32).toInt = 6 := by decide +kernel
                                          have hz_929 : (0 : Int32).toInt = 0 := by decide +kernel
                                          have hz_930 : (6 : Int32).toInt = 6 := by decide +kernel
                                          have hz_931 : (0 : Int32).toInt = 0 := by decide +kernel
                                          have hz_932 : (6 : Int32).toInt = 6 := by decide +kernel
                                          have hz_933 : (0 : Int32).toInt = 0 := by decide +kernel
                                          have hz_934 : (6 : Int32).toInt = 6 := by decide +kernel
                                          have hz_935 : (0 : Int32).toInt = 0 := by decide +kernel
                                          have hz_936 : (6 : Int32).toInt = 6 := by decide +kernel
                                          exact ih x_925 x_926 x_869 (by omega) (by omega) (by omega) (by omega) (by first | exact mu_lt hmu (by omega) (by omega) | omega) S_870 I_870 M_870 ff_870_4_0 ff_870_12_0 ff_870_6_0 ff_870_5_0 ff_870_3_0 frw_870_0 (m_hid.mk fun h9 => tl_step (srel_870_0.out h9) (by rw [kx_880]; exact t_l_iff.mpr (by omega)) (by omega) (by omega)) (m_hid.mk fun h9 => tl_step (srel_870_1.out h9) (by rw [kx_880]; exact t_d_iff.mpr (by omega)) (by omega) (by omega)) (by obtain ⟨w9, f9, h9⟩ := srel_870_2; exact ⟨w9, f9, m_hid.mk fun q9 => by first | exact m_pk_st (h9.out q9) (by omega) (by omega) | (exfalso; omega)⟩) (m_hid.mk fun q9 => by first | exact m_nu_st (srel_870_3.out q9) (by omega) (by omega) | exact m_nu_up (srel_870_3.out q9) kx_880 (by omega) (by omega) (by omega) (by omega) | (exfalso; omega)) (m_hid.mk (by first | exact t_lx2 (by omega) (by omega) | exact t_lx1 srel_870_4.out (by omega))) _ _ hP hS _ (lv_sub hl [1, 2, 3, 4, 0, 5] rfl)
                                      · as_aux_lemma =>
                                          have jc_924 := dk_eqc (k := (-1)) (by decide +kernel) c_924
                                          refine lv_aload_n hx hb dX12_ahead_258 rfl (lv_at hl 5 rfl) ?_
                                          refine lv_iload_n hx hb dX12_ahead_259 rfl (lv_at hl 4 rfl) ?_
                                          refine dg_put (ci := 12) (v := .int x_868) (ty := tyX12 12) (C := RX12) (T := TX12) (N := 77) hx hb hts (fun w h => bw_mem (wU_X12 w h)) tyX12 tyX12_ok nmX12 hown K hP hS hA1 sM_0 rfl 12 (dk_dq rfl) (hts _ (bw_mem wB_293)) (fun _ h9 => h9) rfl (by decide +kernel) rfl rfl dX12_ahead_260 (fun S_937 e_937 H locs hP hS => ?_)
                                          have I_937 := dg_I.uFi (lo := (-2147483648)) (hi := 2147483647) I_870 e_937 sM_0 (by decide +kernel) (show (-2147483648) ≤ (x_868).toInt ∧ (x_868).toInt ≤ 2147483647 from (dk_full _))
                                          have M_937 := dg_sm.uF M_870 e_937 sM_0 (dk_dq rfl)
                                          refine lv_iload hx hb dX12_ahead_263 (lv_at hl 0 rfl) ?_
                                          refine lv_iload hx hb dX12_ahead_265 (lv_at hl 1 rfl) ?_
                                          refine lv_icmp_ge (tgt := 293) hx hb dX12_ahead_267 (dk_dq rfl) (fun _ => ?_) (fun c => absurd (dk_gep (k := 6) (by decide +kernel) (by omega)) c)
                                          refine lv_iload hx hb dX12_ahead_293 (lv_at hl 0 rfl) ?_
                                          refine lv_iload hx hb dX12_ahead_295 (lv_at hl 1 rfl) ?_
                                          refine lv_icmp_ge (tgt := 325) hx hb dX12_ahead_297 (dk_dq rfl) (fun _ => ?_) (fun c => absurd (dk_gep (k := 6) (by decide +kernel) (by omega)) c)
                                          obtain ⟨x_938, ex_938⟩ : ∃ z, z = x_867 + 1 := ⟨_, rfl⟩
                                          have jx_938 : (x_938).toInt = (x_867).toInt + 1 := by rw [ex_938]; exact dk_addT2 rfl (by decide +kernel) (by omega)
                                          refine lv_iinc (v := x_938) (lv' := [(5, .int x_938), (4, .int 6), (3, .int x_407), (2, .int x_403), (1, .int x_868), (0, .ref (o + 0))]) hx hb dX12_ahead_325 hl (k := 0) rfl (by rw [ex_938]; rfl) (dk_dq rfl) rfl (fun ls hl => ?_)
                                          obtain ⟨x_939, ex_939⟩ : ∃ z, z = x_868 + 1 := ⟨_, rfl⟩
                                          have jx_939 : (x_939).toInt = (x_868).toInt + 1 := by rw [ex_939]; exact dk_addT2 rfl (by decide +kernel) (by omega)
                                          refine lv_iinc (v := x_939) (lv' := [(1, .int x_939), (5, .int x_938), (4, .int 6), (3, .int x_407), (2, .int x_403), (0, .ref (o + 0))]) hx hb dX12_ahead_328 hl (k := 4) rfl (by rw [ex_939]; rfl) (dk_dq rfl) rfl (fun ls hl => ?_)
                                          refine lv_goto (tgt := 204) hx hb dX12_ahead_331 (dk_dq rfl) ?_
                                          have hz_940 : (0 : Int32).toInt = 0 := by decide +kernel
                                          have hz_941 : (6 : Int32).toInt = 6 := by decide +kernel
                                          have hz_942 : (0 : Int32).toInt = 0 := by decide +kernel
                                          have hz_943 : (6 : Int32).toInt = 6 := by decide +kernel
                                          have hz_944 : (0 : Int32).toInt = 0 := by decide +kernel
                                          have hz_945 : (6 : Int32).toInt = 6 := by decide +kernel
                                          have hz_946 : (0 : Int32).toInt = 0 := by decide +kernel
                                          have hz_947 : (6 : Int32).toInt = 6 := by decide +kernel
                                          have hz_948 : (0 : Int32).toInt = 0 := by decide +kernel
                                          have hz_949 : (6 : Int32).toInt = 6 := by decide +kernel
                                          exact ih x_938 x_939 x_868 (by omega) (by omega) (by omega) (by omega) (by first | exact mu_lt hmu (by omega) (by omega) | omega) S_937 I_937 M_937 ((dg_uF_ne e_937 (fun z => absurd z.2 (dk_dq rfl))).trans ff_870_4_0) (dg_uF_at e_937) ((dg_uF_ne e_937 (fun z => absurd z.2 (dk_dq rfl))).trans ff_870_6_0) ((dg_uF_ne e_937 (fun z => absurd z.2 (dk_dq rfl))).trans ff_870_5_0) ((dg_uF_ne e_937 (fun z => absurd z.2 (dk_dq rfl))).trans ff_870_3_0) ((congrFun (dg_uF_f e_937 1) _).trans frw_870_0) (m_hid.mk fun h9 => tl_step (srel_870_0.out h9) (by rw [kx_880]; exact t_l_iff.mpr (by omega)) (by omega) (by omega)) (m_hid.mk fun h9 => tl_step (srel_870_1.out h9) (by rw [kx_880]; exact t_d_iff.mpr (by omega)) (by omega) (by omega)) (by obtain ⟨w9, f9, h9⟩ := srel_870_2; exact ⟨w9, (dg_uF_ne e_937 (fun z => absurd z.2 (dk_dq rfl))).trans f9, m_hid.mk fun q9 => by first | exact m_pk_st (h9.out q9) (by omega) (by omega) | (exfalso; omega)⟩) (m_hid.mk fun q9 => by first | exact m_nu_st (srel_870_3.out q9) (by omega) (by omega) | exact m_nu_up (srel_870_3.out q9) kx_880 (by omega) (by omega) (by omega) (by omega) | (exfalso; omega)) (m_hid.mk (by first | exact t_lx2 (by omega) (by omega) | exact t_lx1 srel_870_4.out (by omega))) _ _ hP hS _ (lv_sub hl [1, 2, 3, 4, 0, 5] rfl)
                  have hz_950 : (0 : Int32).toInt = 0 := by decide +kernel
                  have hz_951 : (0 : Int32).toInt = 0 := by decide +kernel
                  have hz_952 : (0 : Int32).toInt = 0 := by decide +kernel
                  have hz_953 : (0 : Int32).toInt = 0 := by decide +kernel
                  have hz_954 : (6 : Int32).toInt = 6 := by decide +kernel
                  have hz_955 : (0 : Int32).toInt = 0 := by decide +kernel
                  have hz_956 : (0 : Int32).toInt = 0 := by decide +kernel
                  have hz_957 : (6 : Int32).toInt = 6 := by decide +kernel
                  have hz_958 : (0 : Int32).toInt = 0 := by decide +kernel
                  have hz_959 : (0 : Int32).toInt = 0 := by decide +kernel
                  have hz_960 : (6 : Int32).toInt = 6 := by decide +kernel
                  have hz_961 : (0 : Int32).toInt = 0 := by decide +kernel
                  have hz_962 : (0 : Int32).toInt = 0 := by decide +kernel
                  have hz_963 : (6 : Int32).toInt = 6 := by decide +kernel
                  have hz_964 : (0 : Int32).toInt = 0 := by decide +kernel
                  have hz_965 : (0 : Int32).toInt = 0 := by decide +kernel
                  have hz_966 : (6 : Int32).toInt = 6 := by decide +kernel
                  have hz_967 : (0 : Int32).toInt = 0 := by decide +kernel
                  exact L_871 ((1601 - ((0 : Int32)).toInt).toNat + 1) 0 x_30 x_447 (by decide +kernel) (by omega) (by omega) (by omega) (by first | exact mu_lt hmu (by omega) (by omega) | omega) S_762 I_762 M_762 (((dg_uF_ne e_762 (fun z => absurd z.2 (dk_dq rfl))).trans ((dg_uF_ne e_759 (fun z => absurd z.2 (dk_dq rfl))).trans ((dg_uF_ne e_757 (fun z => absurd z.2 (dk_dq rfl))).trans ((dg_uF_ne e_755 (fun z => absurd z.2 (dk_dq rfl))).trans (dg_uF_ne e_754 (fun z => absurd z.2 (dk_dq rfl))))))).trans ff_751_4_0) (((dg_uF_ne e_762 (fun z => absurd z.2 (dk_dq rfl))).trans ((dg_uF_ne e_759 (fun z => absurd z.2 (dk_dq rfl))).trans ((dg_uF_ne e_757 (fun z => absurd z.2 (dk_dq rfl))).trans ((dg_uF_ne e_755 (fun z => absurd z.2 (dk_dq rfl))).trans (dg_uF_ne e_754 (fun z => absurd z.2 (dk_dq rfl))))))).trans ff_751_12_0) (((dg_uF_ne e_762 (fun z => absurd z.2 (dk_dq rfl))).trans ((dg_uF_ne e_759 (fun z => absurd z.2 (dk_dq rfl))).trans ((dg_uF_ne e_757 (fun z => absurd z.2 (dk_dq rfl))).trans (dg_uF_ne e_755 (fun z => absurd z.2 (dk_dq rfl)))))).trans (dg_uF_at e_754)) ((dg_uF_ne e_762 (fun z => absurd z.2 (dk_dq rfl))).trans (dg_uF_at e_759)) (dg_uF_at e_762) ((congrFun ((dg_uF_f e_762 1).trans ((dg_uF_f e_759 1).trans ((dg_uF_f e_757 1).trans ((dg_uF_f e_755 1).trans (dg_uF_f e_754 1))))) _).trans frw_751_0) (m_hid.mk fun _ => tl_zero) (m_hid.mk fun _ => tl_zero) ⟨0, (((dg_uF_ne e_762 (fun z => absurd z.2 (dk_dq rfl))).trans ((dg_uF_ne e_759 (fun z => absurd z.2 (dk_dq rfl))).trans (dg_uF_ne e_757 (fun z => absurd z.2 (dk_dq rfl))))).trans (dg_uF_at e_755)), m_hid.mk fun _ => m_pk_z (by omega) (by decide +kernel)⟩ (m_hid.mk fun _ => m_nu_z (by omega) (by omega)) (m_hid.mk <| t_lx0 adj9.out (by omega) (by omega)) _ _ hP hS _ (lv_sub hl [0, 1, 2, 3, 4, 5] rfl)
              · as_aux_lemma =>
                  have jc_760 := dk_eqc (k := 0) (by decide +kernel) c_760
                  refine lv_iload_n hx hb dX12_ahead_161 rfl (lv_at hl 0 rfl) ?_
                  refine lv_if_ne (tgt := 176) hx hb dX12_ahead_162 (dk_dq rfl) (fun c_968 => ?_) (fun c_968 => ?_)
                  · as_aux_lemma =>
                      have jc_968 := dk_neqc (k := 0) (by decide +kernel) c_968
                      refine lv_aload_n hx hb dX12_ahead_176 rfl (lv_at hl 3 rfl) ?_
                      refine lv_iload_n hx hb dX12_ahead_177 rfl (lv_at hl 1 rfl) ?_
                      refine lv_if_eq (tgt := 185) hx hb dX12_ahead_178 (dk_dq rfl) (fun _ => ?_) (fun c => absurd (dk_eqp (k := 0) (by decide +kernel) (by omega)) c)
                      refine lv_iconst (v := 2) hx hb dX12_ahead_185 (by decide +kernel) ?_
                      have hz_969 : (2 : Int32).toInt = 2 := by decide +kernel
                      refine dg_put (ci := 12) (v := .int 2) (ty := tyX12 3) (C := RX12) (T := TX12) (N := 77) hx hb hts (fun w h => bw_mem (wU_X12 w h)) tyX12 tyX12_ok nmX12 hown K hP hS hA1 sM_0 rfl 3 (dk_dq rfl) (hts _ (bw_mem wB_292)) (fun _ h9 => h9) rfl (by decide +kernel) rfl rfl dX12_ahead_186 (fun S_970 e_970 H locs hP hS => ?_)
                      have I_970 := dg_I.uFi (lo := 0) (hi := 3) I_759 e_970 sM_0 (by decide +kernel) (show 0 ≤ ((2 : Int32)).toInt ∧ ((2 : Int32)).toInt ≤ 3 from (by decide +kernel))
                      have M_970 := dg_sm.uF M_759 e_970 sM_0 (dk_dq rfl)
                      refine lv_iload_n hx hb dX12_ahead_189 rfl (lv_at hl 1 rfl) ?_
                      refine lv_if_eq (tgt := 198) hx hb dX12_ahead_190 (dk_dq rfl) (fun _ => ?_) (fun c => absurd (dk_eqp (k := 0) (by decide +kernel) (by omega)) c)
                      refine lv_iconst (v := 4) hx hb dX12_ahead_198 (by decide +kernel) ?_
                      refine lv_istore (lv' := [(4, .int 4), (3, .int x_407), (2, .int x_403), (1, .int x_30), (0, .ref (o + 0))]) hx hb dX12_ahead_199 hl (dk_dq rfl) rfl (fun ls hl => ?_)
                      refine lv_iconst (v := 0) hx hb dX12_ahead_201 (by decide +kernel) ?_
                      refine lv_istore (lv' := [(5, .int 0), (4, .int 4), (3, .int x_407), (2, .int x_403), (1, .int x_30), (0, .ref (o + 0))]) hx hb dX12_ahead_202 hl (dk_dq rfl) rfl (fun ls hl => ?_)
                      have L_1074 : ∀ (n : Nat) (x_1069 : Int32) (x_1070 : Int32) (x_1071 : Int32) (x_1072 : Int32), (0 ≤ (x_1069).toInt ∧ (x_1069).toInt ≤ 1600) → (0 ≤ (x_1070).toInt ∧ (x_1070).toInt ≤ 1600) → ((-1) ≤ (x_1071).toInt ∧ (x_1071).toInt ≤ 1599) → (0 ≤ (x_1072).toInt ∧ (x_1072).toInt ≤ 9999) → ((x_1070).toInt ≤ (sl).toInt ∧ (x_1070).toInt = (x_30).toInt + (x_1069).toInt) → ((1601 - (x_1069).toInt).toNat < n) → ∀ S_1073 : dg_S, CM o S_1073 → dg_sm shM [(0, 3), (0, 4), (0, 5), (0, 6), (0, 7), (0, 12)] [] S S_1073 → S_1073.1 0 4 = .int x_30 → S_1073.1 0 12 = .int x_1071 → S_1073.1 0 5 = .int x_758 → S_1073.1 0 3 = .int 2 → S_1073.1 0 6 = .int x_1072 → S_1073.2.1 1 (x_30 : Int32).toNatClampNeg = x_402 → (m_hid ((x_403 : Int32).toInt = 1 → ∀ j9 : Nat, (x_30 : Int32).toNatClampNeg ≤ j9 → j9 < (x_1070 : Int32).toNatClampNeg → t_l (tb j9) = true)) → (m_hid ((x_407 : Int32).toInt = 1 → ∀ j9 : Nat, (x_30 : Int32).toNatClampNeg ≤ j9 → j9 < (x_1070 : Int32).toNatClampNeg → t_d (tb j9) = true)) → (∃ w9 : Int64, S_1073.1 0 7 = .long w9 ∧ m_hid ((x_403 : Int32).toInt = 1 → w9.toInt = m_pk tb (x_30 : Int32).toNatClampNeg (min 6 (x_1069 : Int32).toNatClampNeg))) → (m_hid ((x_407 : Int32).toInt = 1 → ((x_1072 : Int32)).toInt = t_num tb (x_30 : Int32).toNatClampNeg (min 4 (x_1069 : Int32).toNatClampNeg))) → (m_hid (((x_1071 : Int32)).toInt ≠ -1 ↔ (t_adj tb (x_30 : Int32).toNatClampNeg = true ∨ (4 : Int32).toInt < (x_1069).toInt))) → ∀ (H : Heap) (locs : List Loc), va_P D vwCl (dg_w g shM o rfM S_1073) H → va_S A s.heap H locs → ∀ ls : Array Slot, lv_has ls 6 [(5, .int x_1069), (4, .int 4), (3, .int x_407), (2, .int x_403), (1, .int x_1070), (0, .ref (o + 0))] → W p l e ({ frames := 2, cells := 0, slots := 0, locals := 52 } : Room) s m args below meth c H locs 0 0 (MQ below (va_Qv (fun S' => CM o S' ∧ dg_sm shM [(0, 3), (0, 4), (0, 5), (0, 6), (0, 7), (0, 12)] [] S S' ∧ (∃ y9_3 y9_4 y9_5 : Int32, S'.1 0 3 = .int y9_3 ∧ S'.1 0 4 = .int y9_4 ∧ S'.1 0 5 = .int y9_5 ∧ ((se).toInt ≤ (y9_4).toInt ∧ (y9_4).toInt ≤ (y9_5).toInt ∧ (y9_5).toInt ≤ (sl).toInt ∧ ((y9_3).toInt ≠ 0 → (y9_4).toInt + 1 ≤ (y9_5).toInt))) ∧ (TNX tb tn se S') ∧ True) (dg_B g D shM o rfM) A) args s 0 0 A) (F0 m 204 ls []) := by
                        as_aux_lemma =>
                          intro n
                          induction n with
                          | zero =>
                            intro x_1069 x_1070 x_1071 x_1072 b_x_1069 b_x_1070 b_x_1071 b_x_1072 rel_0 hmu S_1073 I_1073 M_1073 ff_1073_4_0 ff_1073_12_0 ff_1073_5_0 ff_1073_3_0 ff_1073_6_0 frw_1073_0 srel_1073_0 srel_1073_1 srel_1073_2 srel_1073_3 srel_1073_4 H locs hP hS ls hl
                            omega
                          | succ n ih =>
                            as_aux_lemma =>
                              intro x_1069 x_1070 x_1071 x_1072 b_x_1069 b_x_1070 b_x_1071 b_x_1072 rel_0 hmu S_1073 I_1073 M_1073 ff_1073_4_0 ff_1073_12_0 ff_1073_5_0 ff_1073_3_0 ff_1073_6_0 frw_1073_0 srel_1073_0 srel_1073_1 srel_1073_2 srel_1073_3 srel_1073_4 H locs hP hS ls hl
                              refine lv_iload_n hx hb dX12_ahead_204 rfl (lv_at hl 4 rfl) ?_
                              refine lv_aload_n hx hb dX12_ahead_205 rfl (lv_at hl 5 rfl) ?_
                              refine dg_get (C := RX12) (T := TX12) (N := 77) hx hb hts (fun w h => bw_mem (wU_X12 w h)) hown K hP sM_0 rfl 2 (dk_dq rfl) (hts _ (bw_mem wB_289)) (fun _ h9 => h9) (v := .int sl) ((M_1073.1 0 2 _ sM_0 (dk_dq rfl)).trans f_sl) dX12_ahead_206 ?_
                              refine lv_icmp_ge (tgt := 334) hx hb dX12_ahead_209 (dk_dq rfl) (fun c_1075 => ?_) (fun c_1075 => ?_)
                              · have jc_1075 := dk_gec (k := (sl).toInt) rfl c_1075
                                refine lv_aload_n hx hb dX12_ahead_334 rfl (lv_at hl 5 rfl) ?_
                                refine lv_iload_n hx hb dX12_ahead_335 rfl (lv_at hl 4 rfl) ?_
                                refine dg_put (ci := 12) (v := .int x_1070) (ty := tyX12 5) (C := RX12) (T := TX12) (N := 77) hx hb hts (fun w h => bw_mem (wU_X12 w h)) tyX12 tyX12_ok nmX12 hown K hP hS hA1 sM_0 rfl 5 (dk_dq rfl) (hts _ (bw_mem wB_288)) (fun _ h9 => h9) rfl (by decide +kernel) rfl rfl dX12_ahead_336 (fun S_1076 e_1076 H locs hP hS => ?_)
                                have I_1076 := dg_I.uFi (lo := 0) (hi := 1600) I_1073 e_1076 sM_0 (by decide +kernel) (show 0 ≤ (x_1070).toInt ∧ (x_1070).toInt ≤ 1600 from (by omega))
                                have M_1076 := dg_sm.uF M_1073 e_1076 sM_0 (dk_dq rfl)
                                have hz_1077 : (2 : Int32).toInt = 2 := by decide +kernel
                                obtain ⟨x_1078, f_x_1078⟩ := dg_I.long (i := 0) (k := 7) I_1076 sM_0 (by decide +kernel)
                                have hz_1079 : (2 : Int32).toInt = 2 := by decide +kernel
                                have hz_1080 : (4 : Int32).toInt = 4 := by decide +kernel
                                refine W.widen (k := 0) (n := 0) (Nat.le_of_ble_eq_true rfl) (Nat.le_of_ble_eq_true rfl) ?_
                                exact dg_vret hx hb hr hlocks hP hS ⟨I_1076, M_1076, ⟨2, x_30, x_1070, ((dg_uF_ne e_1076 (fun z => absurd z.2 (dk_dq rfl))).trans ff_1073_3_0), ((dg_uF_ne e_1076 (fun z => absurd z.2 (dk_dq rfl))).trans ff_1073_4_0), (dg_uF_at e_1076), (by omega)⟩, (TNX.num (m := x_1069) (mo := 4) hn16 hs9 (by omega) ((dg_uF_ne e_1076 (fun z => absurd z.2 (dk_dq rfl))).trans ff_1073_3_0) ((dg_uF_ne e_1076 (fun z => absurd z.2 (dk_dq rfl))).trans ff_1073_4_0) (dg_uF_at e_1076) ((dg_uF_ne e_1076 (fun z => absurd z.2 (dk_dq rfl))).trans ff_1073_6_0) f_x_1078 ((dg_uF_ne e_1076 (fun z => absurd z.2 (dk_dq rfl))).trans ff_1073_12_0) (by omega) (by omega) (by have h8 := dk_clN x_1070; omega) (by omega) (by omega) (srel_1073_1.out (by omega)) (t_nm_ge (by have h8 := dk_clN x_1070; omega)) srel_1073_4.out (by omega) (srel_1073_3.out (by omega))), trivial⟩ dX12_ahead_339
                              · as_aux_lemma =>
                                  have jc_1075 := dk_ngec (k := (sl).toInt) rfl c_1075
                                  refine lv_iload_n hx hb dX12_ahead_212 rfl (lv_at hl 3 rfl) ?_
                                  refine lv_if_eq (tgt := 231) hx hb dX12_ahead_213 (dk_dq rfl) (fun _ => ?_) (fun c => absurd (dk_eqp (k := 0) (by decide +kernel) (by omega)) c)
                                  refine lv_aload_n hx hb dX12_ahead_231 rfl (lv_at hl 5 rfl) ?_
                                  refine dg_get (C := RX12) (T := TX12) (N := 77) hx hb hts (fun w h => bw_mem (wU_X12 w h)) hown K hP sM_0 rfl 0 (dk_dq rfl) (hts _ (bw_mem wB_290)) (fun _ h9 => h9) (v := .ref (o + 1)) (show S_1073.1 0 0 = .ref (o + 1) from dg_I.rel (d := 1) I_1073 sM_0 (by decide +kernel)) dX12_ahead_232 ?_
                                  refine lv_iload_n hx hb dX12_ahead_235 rfl (lv_at hl 4 rfl) ?_
                                  have hin_1081 : vp_in x_1070 1800 := (dk_inv2 (by omega))
                                  refine dg_iald hx hb K hP sM_1 hin_1081 dX12_ahead_236 (fun x_1082 ex_1082 => ?_)
                                  have b_x_1082 := dk_all_at (dg_I.row (lo := 0) (hi := 255) I_1073 sM_1 (by decide +kernel)) hin_1081 ex_1082
                                  have htw_1082 : (x_1070 : Int32).toInt = (x_30 : Int32).toInt → (x_1082).toInt = (x_402 : Int32).toInt := fun h => by have h9 := Int32.toInt_inj.mp h; rw [ex_1082, h9]; exact congrArg Int32.toInt frw_1073_0
                                  have kx_1082 : tb (x_1070 : Int32).toNatClampNeg = x_1082 := by rw [ex_1082, (M_1073.2 1 _ sM_1 (dk_dq rfl)).1, htb]
                                  refine dg_calli hS hA1 hA (va_runS (As := [.int x_1082]) (rest := []) F (c_m_isDigit l g D o S_1073 x_1082 I_1073 H.size) (va_cwS 1 hts (bw_S wB_299 wB_300 wB_297 wB_298) rfl rfl rfl (by decide +kernel) ⟨Nat.le_of_ble_eq_true rfl, Nat.le_of_ble_eq_true rfl⟩) (dg_preS K ST hP hS hA1 hA) rfl rfl hl.1 rfl (lv_room (Nat.le_of_ble_eq_true rfl)) dX12_ahead_237 ⟨Nat.le_of_ble_eq_true rfl, Nat.le_of_ble_eq_true rfl⟩) (fun x_1084 S_1085 hw_1085 H locs hP hS => ?_)
                                  rw [hw_1085.1] at hP
                                  obtain ⟨hq_1085, w_1085_0, w_1085_1, -⟩ := hw_1085
                                  have w_1085_0 : 0 ≤ (x_1084).toInt ∧ (x_1084).toInt ≤ 1 := w_1085_0
                                  have w_1085_1 : (x_1084).toInt = 1 ↔ (48 ≤ (x_1082).toInt ∧ (x_1082).toInt ≤ 57) := w_1085_1
                                  refine lv_if_eq (tgt := 334) hx hb dX12_ahead_240 (dk_dq rfl) (fun c_1086 => ?_) (fun c_1086 => ?_)
                                  · have jc_1086 := dk_eqc (k := 0) (by decide +kernel) c_1086
                                    refine lv_aload_n hx hb dX12_ahead_334 rfl (lv_at hl 5 rfl) ?_
                                    refine lv_iload_n hx hb dX12_ahead_335 rfl (lv_at hl 4 rfl) ?_
                                    refine dg_put (ci := 12) (v := .int x_1070) (ty := tyX12 5) (C := RX12) (T := TX12) (N := 77) hx hb hts (fun w h => bw_mem (wU_X12 w h)) tyX12 tyX12_ok nmX12 hown K hP hS hA1 sM_0 rfl 5 (dk_dq rfl) (hts _ (bw_mem wB_288)) (fun _ h9 => h9) rfl (by decide +kernel) rfl rfl dX12_ahead_336 (fun S_1087 e_1087 H locs hP hS => ?_)
                                    have I_1087 := dg_I.uFi (lo := 0) (hi := 1600) I_1073 e_1087 sM_0 (by decide +kernel) (show 0 ≤ (x_1070).toInt ∧ (x_1070).toInt ≤ 1600 from (by omega))
                                    have M_1087 := dg_sm.uF M_1073 e_1087 sM_0 (dk_dq rfl)
                                    have hz_1088 : (2 : Int32).toInt = 2 := by decide +kernel
                                    obtain ⟨x_1089, f_x_1089⟩ := dg_I.long (i := 0) (k := 7) I_1087 sM_0 (by decide +kernel)
                                    have hz_1090 : (2 : Int32).toInt = 2 := by decide +kernel
                                    have hz_1091 : (4 : Int32).toInt = 4 := by decide +kernel
                                    refine W.widen (k := 0) (n := 0) (Nat.le_of_ble_eq_true rfl) (Nat.le_of_ble_eq_true rfl) ?_
                                    exact dg_vret hx hb hr hlocks hP hS ⟨I_1087, M_1087, ⟨2, x_30, x_1070, ((dg_uF_ne e_1087 (fun z => absurd z.2 (dk_dq rfl))).trans ff_1073_3_0), ((dg_uF_ne e_1087 (fun z => absurd z.2 (dk_dq rfl))).trans ff_1073_4_0), (dg_uF_at e_1087), (by omega)⟩, (TNX.num (m := x_1069) (mo := 4) hn16 hs9 (by omega) ((dg_uF_ne e_1087 (fun z => absurd z.2 (dk_dq rfl))).trans ff_1073_3_0) ((dg_uF_ne e_1087 (fun z => absurd z.2 (dk_dq rfl))).trans ff_1073_4_0) (dg_uF_at e_1087) ((dg_uF_ne e_1087 (fun z => absurd z.2 (dk_dq rfl))).trans ff_1073_6_0) f_x_1089 ((dg_uF_ne e_1087 (fun z => absurd z.2 (dk_dq rfl))).trans ff_1073_12_0) (by omega) (by omega) (by have h8 := dk_clN x_1070; omega) (by omega) (by omega) (srel_1073_1.out (by omega)) (t_nm_no (by rw [kx_1082]; exact t_d_f (by omega))) srel_1073_4.out (by omega) (srel_1073_3.out (by omega))), trivial⟩ dX12_ahead_339
                                  · as_aux_lemma =>
                                      have jc_1086 := dk_neqc (k := 0) (by decide +kernel) c_1086
                                      refine lv_iload hx hb dX12_ahead_243 (lv_at hl 0 rfl) ?_
                                      refine lv_iload hx hb dX12_ahead_245 (lv_at hl 1 rfl) ?_
                                      refine lv_icmp_ne (tgt := 263) hx hb dX12_ahead_247 (dk_dq rfl) (fun c_1092 => ?_) (fun c_1092 => ?_)
                                      · as_aux_lemma =>
                                          have jc_1092 := dk_neqc (k := 4) (by decide +kernel) c_1092
                                          refine lv_iload hx hb dX12_ahead_263 (lv_at hl 0 rfl) ?_
                                          refine lv_iload hx hb dX12_ahead_265 (lv_at hl 1 rfl) ?_
                                          refine lv_icmp_ge (tgt := 293) hx hb dX12_ahead_267 (dk_dq rfl) (fun c_1093 => ?_) (fun c_1093 => ?_)
                                          · as_aux_lemma =>
                                              have jc_1093 := dk_gec (k := 4) (by decide +kernel) c_1093
                                              refine lv_iload hx hb dX12_ahead_293 (lv_at hl 0 rfl) ?_
                                              refine lv_iload hx hb dX12_ahead_295 (lv_at hl 1 rfl) ?_
                                              refine lv_icmp_ge (tgt := 325) hx hb dX12_ahead_297 (dk_dq rfl) (fun _ => ?_) (fun c => absurd (dk_gep (k := 4) (by decide +kernel) (by omega)) c)
                                              obtain ⟨x_1094, ex_1094⟩ : ∃ z, z = x_1069 + 1 := ⟨_, rfl⟩
                                              have jx_1094 : (x_1094).toInt = (x_1069).toInt + 1 := by rw [ex_1094]; exact dk_addT2 rfl (by decide +kernel) (by omega)
                                              refine lv_iinc (v := x_1094) (lv' := [(5, .int x_1094), (4, .int 4), (3, .int x_407), (2, .int x_403), (1, .int x_1070), (0, .ref (o + 0))]) hx hb dX12_ahead_325 hl (k := 0) rfl (by rw [ex_1094]; rfl) (dk_dq rfl) rfl (fun ls hl => ?_)
                                              obtain ⟨x_1095, ex_1095⟩ : ∃ z, z = x_1070 + 1 := ⟨_, rfl⟩
                                              have jx_1095 : (x_1095).toInt = (x_1070).toInt + 1 := by rw [ex_1095]; exact dk_addT2 rfl (by decide +kernel) (by omega)
                                              refine lv_iinc (v := x_1095) (lv' := [(1, .int x_1095), (5, .int x_1094), (4, .int 4), (3, .int x_407), (2, .int x_403), (0, .ref (o + 0))]) hx hb dX12_ahead_328 hl (k := 4) rfl (by rw [ex_1095]; rfl) (dk_dq rfl) rfl (fun ls hl => ?_)
                                              refine lv_goto (tgt := 204) hx hb dX12_ahead_331 (dk_dq rfl) ?_
                                              have hz_1096 : (4 : Int32).toInt = 4 := by decide +kernel
                                              have hz_1097 : (4 : Int32).toInt = 4 := by decide +kernel
                                              have hz_1098 : (4 : Int32).toInt = 4 := by decide +kernel
                                              have hz_1099 : (4 : Int32).toInt = 4 := by decide +kernel
                                              have hz_1100 : (4 : Int32).toInt = 4 := by decide +kernel
                                              exact ih x_1094 x_1095 x_1071 x_1072 (by omega) (by omega) (by omega) (by omega) (by omega) (by first | exact mu_lt hmu (by omega) (by omega) | omega) S_1073 I_1073 M_1073 ff_1073_4_0 ff_1073_12_0 ff_1073_5_0 ff_1073_3_0 ff_1073_6_0 frw_1073_0 (m_hid.mk fun h9 => tl_step (srel_1073_0.out h9) (by rw [kx_1082]; exact t_l_iff.mpr (by omega)) (by omega) (by omega)) (m_hid.mk fun h9 => tl_step (srel_1073_1.out h9) (by rw [kx_1082]; exact t_d_iff.mpr (by omega)) (by omega) (by omega)) (by obtain ⟨w9, f9, h9⟩ := srel_1073_2; exact ⟨w9, f9, m_hid.mk fun q9 => by first | exact m_pk_st (h9.out q9) (by omega) (by omega) | (exfalso; omega)⟩) (m_hid.mk fun q9 => by first | exact m_nu_st (srel_1073_3.out q9) (by omega) (by omega) | exact m_nu_up (srel_1073_3.out q9) kx_1082 (by omega) (by omega) (by omega) (by omega) | (exfalso; omega)) (m_hid.mk (by first | exact t_lx2 (by omega) (by omega) | exact t_lx1 srel_1073_4.out (by omega))) _ _ hP hS _ (lv_sub hl [1, 2, 3, 4, 0, 5] rfl)
                                          · as_aux_lemma =>
                                              have jc_1093 := dk_ngec (k := 4) (by decide +kernel) c_1093
                                              refine lv_iload_n hx hb dX12_ahead_270 rfl (lv_at hl 3 rfl) ?_
                                              refine lv_if_eq (tgt := 293) hx hb dX12_ahead_271 (dk_dq rfl) (fun _ => ?_) (fun c => absurd (dk_eqp (k := 0) (by decide +kernel) (by omega)) c)
                                              refine lv_iload hx hb dX12_ahead_293 (lv_at hl 0 rfl) ?_
                                              refine lv_iload hx hb dX12_ahead_295 (lv_at hl 1 rfl) ?_
                                              refine lv_icmp_ge (tgt := 325) hx hb dX12_ahead_297 (dk_dq rfl) (fun c => absurd c (fun z => absurd (dk_gec (k := 4) (by decide +kernel) z) (by omega))) (fun _ => ?_)
                                              refine lv_iload_n hx hb dX12_ahead_300 rfl (lv_at hl 2 rfl) ?_
                                              refine lv_if_eq (tgt := 325) hx hb dX12_ahead_301 (dk_dq rfl) (fun c => absurd c (fun z => absurd (dk_eqc (k := 0) (by decide +kernel) z) (by omega))) (fun _ => ?_)
                                              have hv9 := m_nu_b (srel_1073_3.out (by omega)) (srel_1073_1.out (by omega)) (a := x_1070) (by omega) (by omega)
                                              refine lv_aload_n hx hb dX12_ahead_304 rfl (lv_at hl 5 rfl) ?_
                                              refine lv_bipush (v := 10) hx hb dX12_ahead_305 (by decide +kernel) ?_
                                              refine lv_aload_n hx hb dX12_ahead_307 rfl (lv_at hl 5 rfl) ?_
                                              refine dg_get (C := RX12) (T := TX12) (N := 77) hx hb hts (fun w h => bw_mem (wU_X12 w h)) hown K hP sM_0 rfl 6 (dk_dq rfl) (hts _ (bw_mem wB_301)) (fun _ h9 => h9) (v := .int x_1072) ff_1073_6_0 dX12_ahead_308 ?_
                                              refine lv_imul hx hb dX12_ahead_311 ?_
                                              refine lv_topi (fun x_1101 ex_1101 => ?_)
                                              have jx_1101 : (x_1101).toInt = 10 * (x_1072).toInt := by rw [ex_1101]; exact dk_mulT2 (by decide +kernel) rfl (by omega)
                                              refine lv_aload_n hx hb dX12_ahead_312 rfl (lv_at hl 5 rfl) ?_
                                              refine dg_get (C := RX12) (T := TX12) (N := 77) hx hb hts (fun w h => bw_mem (wU_X12 w h)) hown K hP sM_0 rfl 0 (dk_dq rfl) (hts _ (bw_mem wB_290)) (fun _ h9 => h9) (v := .ref (o + 1)) (show S_1073.1 0 0 = .ref (o + 1) from dg_I.rel (d := 1) I_1073 sM_0 (by decide +kernel)) dX12_ahead_313 ?_
                                              refine lv_iload_n hx hb dX12_ahead_316 rfl (lv_at hl 4 rfl) ?_
                                              have hin_1102 : vp_in x_1070 1800 := (dk_inv2 (by omega))
                                              refine dg_iald hx hb K hP sM_1 hin_1102 dX12_ahead_317 (fun y_1103 ey_1103 => ?_)
                                              obtain rfl : x_1082 = y_1103 := (ey_1103.trans ex_1082.symm).symm
                                              refine lv_iadd hx hb dX12_ahead_318 ?_
                                              refine lv_topi (fun x_1104 ex_1104 => ?_)
                                              have jx_1104 : (x_1104).toInt = (x_1101).toInt + (x_1082).toInt := by rw [ex_1104]; exact dk_addT2 rfl rfl (by omega)
                                              refine lv_bipush (v := 48) hx hb dX12_ahead_319 (by decide +kernel) ?_
                                              refine lv_isub hx hb dX12_ahead_321 ?_
                                              refine lv_topi (fun x_1105 ex_1105 => ?_)
                                              have jx_1105 : (x_1105).toInt = (x_1104).toInt - 48 := by rw [ex_1105]; exact dk_subT2 rfl (by decide +kernel) (by omega)
                                              refine dg_put (ci := 12) (v := .int x_1105) (ty := tyX12 6) (C := RX12) (T := TX12) (N := 77) hx hb hts (fun w h => bw_mem (wU_X12 w h)) tyX12 tyX12_ok nmX12 hown K hP hS hA1 sM_0 rfl 6 (dk_dq rfl) (hts _ (bw_mem wB_301)) (fun _ h9 => h9) rfl (by decide +kernel) rfl rfl dX12_ahead_322 (fun S_1106 e_1106 H locs hP hS => ?_)
                                              have I_1106 := dg_I.uFi (lo := 0) (hi := 9999) I_1073 e_1106 sM_0 (by decide +kernel) (show 0 ≤ (x_1105).toInt ∧ (x_1105).toInt ≤ 9999 from (by omega))
                                              have M_1106 := dg_sm.uF M_1073 e_1106 sM_0 (dk_dq rfl)
                                              obtain ⟨x_1107, ex_1107⟩ : ∃ z, z = x_1069 + 1 := ⟨_, rfl⟩
                                              have jx_1107 : (x_1107).toInt = (x_1069).toInt + 1 := by rw [ex_1107]; exact dk_addT2 rfl (by decide +kernel) (by omega)
                                              refine lv_iinc (v := x_1107) (lv' := [(5, .int x_1107), (4, .int 4), (3, .int x_407), (2, .int x_403), (1, .int x_1070), (0, .ref (o + 0))]) hx hb dX12_ahead_325 hl (k := 0) rfl (by rw [ex_1107]; rfl) (dk_dq rfl) rfl (fun ls hl => ?_)
                                              obtain ⟨x_1108, ex_1108⟩ : ∃ z, z = x_1070 + 1 := ⟨_, rfl⟩
                                              have jx_1108 : (x_1108).toInt = (x_1070).toInt + 1 := by rw [ex_1108]; exact dk_addT2 rfl (by decide +kernel) (by omega)
                                              refine lv_iinc (v := x_1108) (lv' := [(1, .int x_1108), (5, .int x_1107), (4, .int 4), (3, .int x_407), (2, .int x_403), (0, .ref (o + 0))]) hx hb dX12_ahead_328 hl (k := 4) rfl (by rw [ex_1108]; rfl) (dk_dq rfl) rfl (fun ls hl => ?_)
                                              refine lv_goto (tgt := 204) hx hb dX12_ahead_331 (dk_dq rfl) ?_
                                              have hz_1109 : (4 : Int32).toInt = 4 := by decide +kernel
                                              have hz_1110 : (4 : Int32).toInt = 4 := by decide +kernel
                                              have hz_1111 : (4 : Int32).toInt = 4 := by decide +kernel
                                              have hz_1112 : (4 : Int32).toInt = 4 := by decide +kernel
                                              have hz_1113 : (4 : Int32).toInt = 4 := by decide +kernel
                                              exact ih x_1107 x_1108 x_1071 x_1105 (by omega) (by omega) (by omega) (by omega) (by omega) (by first | exact mu_lt hmu (by omega) (by omega) | omega) S_1106 I_1106 M_1106 ((dg_uF_ne e_1106 (fun z => absurd z.2 (dk_dq rfl))).trans ff_1073_4_0) ((dg_uF_ne e_1106 (fun z => absurd z.2 (dk_dq rfl))).trans ff_1073_12_0) ((dg_uF_ne e_1106 (fun z => absurd z.2 (dk_dq rfl))).trans ff_1073_5_0) ((dg_uF_ne e_1106 (fun z => absurd z.2 (dk_dq rfl))).trans ff_1073_3_0) (dg_uF_at e_1106) ((congrFun (dg_uF_f e_1106 1) _).trans frw_1073_0) (m_hid.mk fun h9 => tl_step (srel_1073_0.out h9) (by rw [kx_1082]; exact t_l_iff.mpr (by omega)) (by omega) (by omega)) (m_hid.mk fun h9 => tl_step (srel_1073_1.out h9) (by rw [kx_1082]; exact t_d_iff.mpr (by omega)) (by omega) (by omega)) (by obtain ⟨w9, f9, h9⟩ := srel_1073_2; exact ⟨w9, (dg_uF_ne e_1106 (fun z => absurd z.2 (dk_dq rfl))).trans f9, m_hid.mk fun q9 => by first | exact m_pk_st (h9.out q9) (by omega) (by omega) | (exfalso; omega)⟩) (m_hid.mk fun q9 => by first | exact m_nu_st (srel_1073_3.out q9) (by omega) (by omega) | exact m_nu_up (srel_1073_3.out q9) kx_1082 (by omega) (by omega) (by omega) (by omega) | (exfalso; omega)) (m_hid.mk (by first | exact t_lx2 (by omega) (by omega) | exact t_lx1 srel_1073_4.out (by omega))) _ _ hP hS _ (lv_sub hl [1, 2, 3, 4, 0, 5] rfl)
                                      · as_aux_lemma =>
                                          have jc_1092 := dk_eqc (k := 4) (by decide +kernel) c_1092
                                          refine lv_aload_n hx hb dX12_ahead_250 rfl (lv_at hl 5 rfl) ?_
                                          refine dg_get (C := RX12) (T := TX12) (N := 77) hx hb hts (fun w h => bw_mem (wU_X12 w h)) hown K hP sM_0 rfl 12 (dk_dq rfl) (hts _ (bw_mem wB_293)) (fun _ h9 => h9) (v := .int x_1071) ff_1073_12_0 dX12_ahead_251 ?_
                                          refine lv_iconst (v := (-1)) hx hb dX12_ahead_254 (by decide +kernel) ?_
                                          refine lv_icmp_ne (tgt := 263) hx hb dX12_ahead_255 (dk_dq rfl) (fun c_1114 => ?_) (fun c_1114 => ?_)
                                          · as_aux_lemma =>
                                              have jc_1114 := dk_neqc (k := (-1)) (by decide +kernel) c_1114
                                              refine lv_iload hx hb dX12_ahead_263 (lv_at hl 0 rfl) ?_
                                              refine lv_iload hx hb dX12_ahead_265 (lv_at hl 1 rfl) ?_
                                              refine lv_icmp_ge (tgt := 293) hx hb dX12_ahead_267 (dk_dq rfl) (fun _ => ?_) (fun c => absurd (dk_gep (k := 4) (by decide +kernel) (by omega)) c)
                                              refine lv_iload hx hb dX12_ahead_293 (lv_at hl 0 rfl) ?_
                                              refine lv_iload hx hb dX12_ahead_295 (lv_at hl 1 rfl) ?_
                                              refine lv_icmp_ge (tgt := 325) hx hb dX12_ahead_297 (dk_dq rfl) (fun _ => ?_) (fun c => absurd (dk_gep (k := 4) (by decide +kernel) (by omega)) c)
                                              obtain ⟨x_1115, ex_1115⟩ : ∃ z, z = x_1069 + 1 := ⟨_, rfl⟩
                                              have jx_1115 : (x_1115).toInt = (x_1069).toInt + 1 := by rw [ex_1115]; exact dk_addT2 rfl (by decide +kernel) (by omega)
                                              refine lv_iinc (v := x_1115) (lv' := [(5, .int x_1115), (4, .int 4), (3, .int x_407), (2, .int x_403), (1, .int x_1070), (0, .ref (o + 0))]) hx hb dX12_ahead_325 hl (k := 0) rfl (by rw [ex_1115]; rfl) (dk_dq rfl) rfl (fun ls hl => ?_)
                                              obtain ⟨x_1116, ex_1116⟩ : ∃ z, z = x_1070 + 1 := ⟨_, rfl⟩
                                              have jx_1116 : (x_1116).toInt = (x_1070).toInt + 1 := by rw [ex_1116]; exact dk_addT2 rfl (by decide +kernel) (by omega)
                                              refine lv_iinc (v := x_1116) (lv' := [(1, .int x_1116), (5, .int x_1115), (4, .int 4), (3, .int x_407), (2, .int x_403), (0, .ref (o + 0))]) hx hb dX12_ahead_328 hl (k := 4) rfl (by rw [ex_1116]; rfl) (dk_dq rfl) rfl (fun ls hl => ?_)
                                              refine lv_goto (tgt := 204) hx hb dX12_ahead_331 (dk_dq rfl) ?_
                                              have hz_1117 : (4 : Int32).toInt = 4 := by decide +kernel
                                              have hz_1118 : (4 : Int32).toInt = 4 := by decide +kernel
                                              have hz_1119 : (4 : Int32).toInt = 4 := by decide +kernel
                                              have hz_1120 : (4 : Int32).toInt = 4 := by decide +kernel
                                              have hz_1121 : (4 : Int32).toInt = 4 := by decide +kernel
                                              exact ih x_1115 x_1116 x_1071 x_1072 (by omega) (by omega) (by omega) (by omega) (by omega) (by first | exact mu_lt hmu (by omega) (by omega) | omega) S_1073 I_1073 M_1073 ff_1073_4_0 ff_1073_12_0 ff_1073_5_0 ff_1073_3_0 ff_1073_6_0 frw_1073_0 (m_hid.mk fun h9 => tl_step (srel_1073_0.out h9) (by rw [kx_1082]; exact t_l_iff.mpr (by omega)) (by omega) (by omega)) (m_hid.mk fun h9 => tl_step (srel_1073_1.out h9) (by rw [kx_1082]; exact t_d_iff.mpr (by omega)) (by omega) (by omega)) (by obtain ⟨w9, f9, h9⟩ := srel_1073_2; exact ⟨w9, f9, m_hid.mk fun q9 => by first | exact m_pk_st (h9.out q9) (by omega) (by omega) | (exfalso; omega)⟩) (m_hid.mk fun q9 => by first | exact m_nu_st (srel_1073_3.out q9) (by omega) (by omega) | exact m_nu_up (srel_1073_3.out q9) kx_1082 (by omega) (by omega) (by omega) (by omega) | (exfalso; omega)) (m_hid.mk (by first | exact t_lx2 (by omega) (by omega) | exact t_lx1 srel_1073_4.out (by omega))) _ _ hP hS _ (lv_sub hl [1, 2, 3, 4, 0, 5] rfl)
                                          · as_aux_lemma =>
                                              have jc_1114 := dk_eqc (k := (-1)) (by decide +kernel) c_1114
                                              refine lv_aload_n hx hb dX12_ahead_258 rfl (lv_at hl 5 rfl) ?_
                                              refine lv_iload_n hx hb dX12_ahead_259 rfl (lv_at hl 4 rfl) ?_
                                              refine dg_put (ci := 12) (v := .int x_1070) (ty := tyX12 12) (C := RX12) (T := TX12) (N := 77) hx hb hts (fun w h => bw_mem (wU_X12 w h)) tyX12 tyX12_ok nmX12 hown K hP hS hA1 sM_0 rfl 12 (dk_dq rfl) (hts _ (bw_mem wB_293)) (fun _ h9 => h9) rfl (by decide +kernel) rfl rfl dX12_ahead_260 (fun S_1122 e_1122 H locs hP hS => ?_)
                                              have I_1122 := dg_I.uFi (lo := (-2147483648)) (hi := 2147483647) I_1073 e_1122 sM_0 (by decide +kernel) (show (-2147483648) ≤ (x_1070).toInt ∧ (x_1070).toInt ≤ 2147483647 from (dk_full _))
                                              have M_1122 := dg_sm.uF M_1073 e_1122 sM_0 (dk_dq rfl)
                                              refine lv_iload hx hb dX12_ahead_263 (lv_at hl 0 rfl) ?_
                                              refine lv_iload hx hb dX12_ahead_265 (lv_at hl 1 rfl) ?_
                                              refine lv_icmp_ge (tgt := 293) hx hb dX12_ahead_267 (dk_dq rfl) (fun _ => ?_) (fun c => absurd (dk_gep (k := 4) (by decide +kernel) (by omega)) c)
                                              refine lv_iload hx hb dX12_ahead_293 (lv_at hl 0 rfl) ?_
                                              refine lv_iload hx hb dX12_ahead_295 (lv_at hl 1 rfl) ?_
                                              refine lv_icmp_ge (tgt := 325) hx hb dX12_ahead_297 (dk_dq rfl) (fun _ => ?_) (fun c => absurd (dk_gep (k := 4) (by decide +kernel) (by omega)) c)
                                              obtain ⟨x_1123, ex_1123⟩ : ∃ z, z = x_1069 + 1 := ⟨_, rfl⟩
                                              have jx_1123 : (x_1123).toInt = (x_1069).toInt + 1 := by rw [ex_1123]; exact dk_addT2 rfl (by decide +kernel) (by omega)
                                              refine lv_iinc (v := x_1123) (lv' := [(5, .int x_1123), (4, .int 4), (3, .int x_407), (2, .int x_403), (1, .int x_1070), (0, .ref (o + 0))]) hx hb dX12_ahead_325 hl (k := 0) rfl (by rw [ex_1123]; rfl) (dk_dq rfl) rfl (fun ls hl => ?_)
                                              obtain ⟨x_1124, ex_1124⟩ : ∃ z, z = x_1070 + 1 := ⟨_, rfl⟩
                                              have jx_1124 : (x_1124).toInt = (x_1070).toInt + 1 := by rw [ex_1124]; exact dk_addT2 rfl (by decide +kernel) (by omega)
                                              refine lv_iinc (v := x_1124) (lv' := [(1, .int x_1124), (5, .int x_1123), (4, .int 4), (3, .int x_407), (2, .int x_403), (0, .ref (o + 0))]) hx hb dX12_ahead_328 hl (k := 4) rfl (by rw [ex_1124]; rfl) (dk_dq rfl) rfl (fun ls hl => ?_)
                                              refine lv_goto (tgt := 204) hx hb dX12_ahead_331 (dk_dq rfl) ?_
                                              have hz_1125 : (4 : Int32).toInt = 4 := by decide +kernel
                                              have hz_1126 : (4 : Int32).toInt = 4 := by decide +kernel
                                              have hz_1127 : (4 : Int32).toInt = 4 := by decide +kernel
                                              have hz_1128 : (4 : Int32).toInt = 4 := by decide +kernel
                                              have hz_1129 : (4 : Int32).toInt = 4 := by decide +kernel
                                              exact ih x_1123 x_1124 x_1070 x_1072 (by omega) (by omega) (by omega) (by omega) (by omega) (by first | exact mu_lt hmu (by omega) (by omega) | omega) S_1122 I_1122 M_1122 ((dg_uF_ne e_1122 (fun z => absurd z.2 (dk_dq rfl))).trans ff_1073_4_0) (dg_uF_at e_1122) ((dg_uF_ne e_1122 (fun z => absurd z.2 (dk_dq rfl))).trans ff_1073_5_0) ((dg_uF_ne e_1122 (fun z => absurd z.2 (dk_dq rfl))).trans ff_1073_3_0) ((dg_uF_ne e_1122 (fun z => absurd z.2 (dk_dq rfl))).trans ff_1073_6_0) ((congrFun (dg_uF_f e_1122 1) _).trans frw_1073_0) (m_hid.mk fun h9 => tl_step (srel_1073_0.out h9) (by rw [kx_1082]; exact t_l_iff.mpr (by omega)) (by omega) (by omega)) (m_hid.mk fun h9 => tl_step (srel_1073_1.out h9) (by rw [kx_1082]; exact t_d_iff.mpr (by omega)) (by omega) (by omega)) (by obtain ⟨w9, f9, h9⟩ := srel_1073_2; exact ⟨w9, (dg_uF_ne e_1122 (fun z => absurd z.2 (dk_dq rfl))).trans f9, m_hid.mk fun q9 => by first | exact m_pk_st (h9.out q9) (by omega) (by omega) | (exfalso; omega)⟩) (m_hid.mk fun q9 => by first | exact m_nu_st (srel_1073_3.out q9) (by omega) (by omega) | exact m_nu_up (srel_1073_3.out q9) kx_1082 (by omega) (by omega) (by omega) (by omega) | (exfalso; omega)) (m_hid.mk (by first | exact t_lx2 (by omega) (by omega) | exact t_lx1 srel_1073_4.out (by omega))) _ _ hP hS _ (lv_sub hl [1, 2, 3, 4, 0, 5] rfl)
                      have hz_1130 : (0 : Int32).toInt = 0 := by decide +kernel
                      have hz_1131 : (0 : Int32).toInt = 0 := by decide +kernel
                      have hz_1132 : (0 : Int32).toInt = 0 := by decide +kernel
                      have hz_1133 : (0 : Int32).toInt = 0 := by decide +kernel
                      have hz_1134 : (0 : Int32).toInt = 0 := by decide +kernel
                      have hz_1135 : (0 : Int32).toInt = 0 := by decide +kernel
                      have hz_1136 : (0 : Int32).toInt = 0 := by decide +kernel
                      have hz_1137 : (4 : Int32).toInt = 4 := by decide +kernel
                      have hz_1138 : (0 : Int32).toInt = 0 := by decide +kernel
                      have hz_1139 : (0 : Int32).toInt = 0 := by decide +kernel
                      have hz_1140 : (4 : Int32).toInt = 4 := by decide +kernel
                      have hz_1141 : (0 : Int32).toInt = 0 := by decide +kernel
                      have hz_1142 : (0 : Int32).toInt = 0 := by decide +kernel
                      have hz_1143 : (4 : Int32).toInt = 4 := by decide +kernel
                      have hz_1144 : (0 : Int32).toInt = 0 := by decide +kernel
                      have hz_1145 : (0 : Int32).toInt = 0 := by decide +kernel
                      have hz_1146 : (4 : Int32).toInt = 4 := by decide +kernel
                      have hz_1147 : (0 : Int32).toInt = 0 := by decide +kernel
                      have hz_1148 : (0 : Int32).toInt = 0 := by decide +kernel
                      have hz_1149 : (4 : Int32).toInt = 4 := by decide +kernel
                      have hz_1150 : (0 : Int32).toInt = 0 := by decide +kernel
                      exact L_1074 ((1601 - ((0 : Int32)).toInt).toNat + 1) 0 x_30 x_447 0 (by decide +kernel) (by omega) (by omega) (by decide +kernel) (by omega) (by first | exact mu_lt hmu (by omega) (by omega) | omega) S_970 I_970 M_970 (((dg_uF_ne e_970 (fun z => absurd z.2 (dk_dq rfl))).trans ((dg_uF_ne e_759 (fun z => absurd z.2 (dk_dq rfl))).trans ((dg_uF_ne e_757 (fun z => absurd z.2 (dk_dq rfl))).trans ((dg_uF_ne e_755 (fun z => absurd z.2 (dk_dq rfl))).trans (dg_uF_ne e_754 (fun z => absurd z.2 (dk_dq rfl))))))).trans ff_751_4_0) (((dg_uF_ne e_970 (fun z => absurd z.2 (dk_dq rfl))).trans ((dg_uF_ne e_759 (fun z => absurd z.2 (dk_dq rfl))).trans ((dg_uF_ne e_757 (fun z => absurd z.2 (dk_dq rfl))).trans ((dg_uF_ne e_755 (fun z => absurd z.2 (dk_dq rfl))).trans (dg_uF_ne e_754 (fun z => absurd z.2 (dk_dq rfl))))))).trans ff_751_12_0) ((dg_uF_ne e_970 (fun z => absurd z.2 (dk_dq rfl))).trans (dg_uF_at e_759)) (dg_uF_at e_970) (((dg_uF_ne e_970 (fun z => absurd z.2 (dk_dq rfl))).trans ((dg_uF_ne e_759 (fun z => absurd z.2 (dk_dq rfl))).trans ((dg_uF_ne e_757 (fun z => absurd z.2 (dk_dq rfl))).trans (dg_uF_ne e_755 (fun z => absurd z.2 (dk_dq rfl)))))).trans (dg_uF_at e_754)) ((congrFun ((dg_uF_f e_970 1).trans ((dg_uF_f e_759 1).trans ((dg_uF_f e_757 1).trans ((dg_uF_f e_755 1).trans (dg_uF_f e_754 1))))) _).trans frw_751_0) (m_hid.mk fun _ => tl_zero) (m_hid.mk fun _ => tl_zero) ⟨0, (((dg_uF_ne e_970 (fun z => absurd z.2 (dk_dq rfl))).trans ((dg_uF_ne e_759 (fun z => absurd z.2 (dk_dq rfl))).trans (dg_uF_ne e_757 (fun z => absurd z.2 (dk_dq rfl))))).trans (dg_uF_at e_755)), m_hid.mk fun _ => m_pk_z (by omega) (by decide +kernel)⟩ (m_hid.mk fun _ => m_nu_z (by omega) (by omega)) (m_hid.mk <| t_lx0 adj9.out (by omega) (by omega)) _ _ hP hS _ (lv_sub hl [0, 1, 2, 3, 4, 5] rfl)
                  · have jc_968 := dk_eqc (k := 0) (by decide +kernel) c_968
                    refine lv_aload_n hx hb dX12_ahead_165 rfl (lv_at hl 3 rfl) ?_
                    refine lv_aload_n hx hb dX12_ahead_166 rfl (lv_at hl 3 rfl) ?_
                    refine dg_get (C := RX12) (T := TX12) (N := 77) hx hb hts (fun w h => bw_mem (wU_X12 w h)) hown K hP sM_0 rfl 0 (dk_dq rfl) (hts _ (bw_mem wB_290)) (fun _ h9 => h9) (v := .ref (o + 1)) (show S_759.1 0 0 = .ref (o + 1) from dg_I.rel (d := 1) I_759 sM_0 (by decide +kernel)) dX12_ahead_167 ?_
                    refine lv_iload_n hx hb dX12_ahead_170 rfl (lv_at hl 2 rfl) ?_
                    have hin_1151 : vp_in x_30 1800 := (dk_inv2 (by omega))
                    refine dg_iald hx hb K hP sM_1 hin_1151 dX12_ahead_171 (fun y_1152 ey_1152 => ?_)
                    obtain rfl : x_402 = y_1152 := ((ey_1152.trans (congrFun ((dg_uF_f e_759 1).trans ((dg_uF_f e_757 1).trans ((dg_uF_f e_755 1).trans (dg_uF_f e_754 1)))) _)).trans frw_751_0).symm
                    refine dg_put (ci := 12) (v := .int x_402) (ty := tyX12 6) (C := RX12) (T := TX12) (N := 77) hx hb hts (fun w h => bw_mem (wU_X12 w h)) tyX12 tyX12_ok nmX12 hown K hP hS hA1 sM_0 rfl 6 (dk_dq rfl) (hts _ (bw_mem wB_301)) (fun _ h9 => h9) rfl (by decide +kernel) rfl rfl dX12_ahead_172 (fun S_1153 e_1153 H locs hP hS => ?_)
                    have I_1153 := dg_I.uFi (lo := 0) (hi := 9999) I_759 e_1153 sM_0 (by decide +kernel) (show 0 ≤ (x_402).toInt ∧ (x_402).toInt ≤ 9999 from (by omega))
                    have M_1153 := dg_sm.uF M_759 e_1153 sM_0 (dk_dq rfl)
                    have hz_1154 : (3 : Int32).toInt = 3 := by decide +kernel
                    have hz_1155 : (3 : Int32).toInt = 3 := by decide +kernel
                    refine W.widen (k := 0) (n := 0) (Nat.le_of_ble_eq_true rfl) (Nat.le_of_ble_eq_true rfl) ?_
                    exact dg_vret hx hb hr hlocks hP hS ⟨I_1153, M_1153, ⟨3, x_30, x_758, (((dg_uF_ne e_1153 (fun z => absurd z.2 (dk_dq rfl))).trans (dg_uF_ne e_759 (fun z => absurd z.2 (dk_dq rfl)))).trans (dg_uF_at e_757)), (((dg_uF_ne e_1153 (fun z => absurd z.2 (dk_dq rfl))).trans ((dg_uF_ne e_759 (fun z => absurd z.2 (dk_dq rfl))).trans ((dg_uF_ne e_757 (fun z => absurd z.2 (dk_dq rfl))).trans ((dg_uF_ne e_755 (fun z => absurd z.2 (dk_dq rfl))).trans (dg_uF_ne e_754 (fun z => absurd z.2 (dk_dq rfl))))))).trans ff_751_4_0), ((dg_uF_ne e_1153 (fun z => absurd z.2 (dk_dq rfl))).trans (dg_uF_at e_759)), (by omega)⟩, (TNX.sgn hs9 (by omega) (((dg_uF_ne e_1153 (fun z => absurd z.2 (dk_dq rfl))).trans (dg_uF_ne e_759 (fun z => absurd z.2 (dk_dq rfl)))).trans (dg_uF_at e_757)) (((dg_uF_ne e_1153 (fun z => absurd z.2 (dk_dq rfl))).trans ((dg_uF_ne e_759 (fun z => absurd z.2 (dk_dq rfl))).trans ((dg_uF_ne e_757 (fun z => absurd z.2 (dk_dq rfl))).trans ((dg_uF_ne e_755 (fun z => absurd z.2 (dk_dq rfl))).trans (dg_uF_ne e_754 (fun z => absurd z.2 (dk_dq rfl))))))).trans ff_751_4_0) ((dg_uF_ne e_1153 (fun z => absurd z.2 (dk_dq rfl))).trans (dg_uF_at e_759)) (dg_uF_at e_1153) (((dg_uF_ne e_1153 (fun z => absurd z.2 (dk_dq rfl))).trans ((dg_uF_ne e_759 (fun z => absurd z.2 (dk_dq rfl))).trans (dg_uF_ne e_757 (fun z => absurd z.2 (dk_dq rfl))))).trans (dg_uF_at e_755)) (((dg_uF_ne e_1153 (fun z => absurd z.2 (dk_dq rfl))).trans ((dg_uF_ne e_759 (fun z => absurd z.2 (dk_dq rfl))).trans ((dg_uF_ne e_757 (fun z => absurd z.2 (dk_dq rfl))).trans ((dg_uF_ne e_755 (fun z => absurd z.2 (dk_dq rfl))).trans (dg_uF_ne e_754 (fun z => absurd z.2 (dk_dq rfl))))))).trans ff_751_12_0) (by omega) (t_lx_i adj9.out (by omega)) (by omega) (by omega) kx_402 (by omega) (by omega)), trivial⟩ dX12_ahead_175
          refine lv_if_ne (tgt := 98) hx hb dX12_ahead_91 (dk_dq rfl) (fun c_1156 => ?_) (fun c_1156 => ?_)
          · as_aux_lemma =>
              have jc_1156 := dk_neqc (k := 0) (by decide +kernel) c_1156
              refine lv_iload_n hx hb dX12_ahead_98 rfl (lv_at hl 2 rfl) ?_
              refine lv_if_le (tgt := 135) hx hb dX12_ahead_99 (dk_dq rfl) (fun c_1157 => ?_) (fun c_1157 => ?_)
              · have jc_1157 := dk_lec (k := 0) (by decide +kernel) c_1157
                have hz_1158 : (-1 : Int32).toInt = (-1) := by decide +kernel
                have hz_1159 : (-1 : Int32).toInt = (-1) := by decide +kernel
                exact J_752 (-1) (by decide +kernel) S_399 I_399 M_399 (((dg_uF_ne e_399 (fun z => absurd z.2 (dk_dq rfl))).trans ((dg_uF_ne e_397 (fun z => absurd z.2 (dk_dq rfl))).trans (dg_uF_ne e_395 (fun z => absurd z.2 (dk_dq rfl))))).trans (dg_uF_at e_394)) (((dg_uF_ne e_399 (fun z => absurd z.2 (dk_dq rfl))).trans (dg_uF_ne e_397 (fun z => absurd z.2 (dk_dq rfl)))).trans (dg_uF_at e_395)) ((dg_uF_ne e_399 (fun z => absurd z.2 (dk_dq rfl))).trans (dg_uF_at e_397)) (dg_uF_at e_399) ex_402.symm (m_hid.mk <| t_lx_z (by omega) (by omega)) _ _ hP hS _ (lv_sub hl [0, 1, 2, 3] rfl)
              · as_aux_lemma =>
                  have jc_1157 := dk_nlec (k := 0) (by decide +kernel) c_1157
                  refine lv_aload_n hx hb dX12_ahead_102 rfl (lv_at hl 3 rfl) ?_
                  refine dg_get (C := RX12) (T := TX12) (N := 77) hx hb hts (fun w h => bw_mem (wU_X12 w h)) hown K hP sM_0 rfl 0 (dk_dq rfl) (hts _ (bw_mem wB_290)) (fun _ h9 => h9) (v := .ref (o + 1)) (show S_399.1 0 0 = .ref (o + 1) from dg_I.rel (d := 1) I_399 sM_0 (by decide +kernel)) dX12_ahead_103 ?_
                  refine lv_iload_n hx hb dX12_ahead_106 rfl (lv_at hl 2 rfl) ?_
                  refine lv_iconst (v := 1) hx hb dX12_ahead_107 (by decide +kernel) ?_
                  refine lv_isub hx hb dX12_ahead_108 ?_
                  refine lv_topi (fun x_1160 ex_1160 => ?_)
                  have jx_1160 : (x_1160).toInt = (x_30).toInt - 1 := by rw [ex_1160]; exact dk_subT2 rfl (by decide +kernel) (by omega)
                  have hin_1161 : vp_in x_1160 1800 := (dk_inv2 (by omega))
                  refine dg_iald hx hb K hP sM_1 hin_1161 dX12_ahead_109 (fun x_1162 ex_1162 => ?_)
                  have b_x_1162 := dk_all_at (dg_I.row (lo := 0) (hi := 255) I_399 sM_1 (by decide +kernel)) hin_1161 ex_1162
                  have htw_1162 : (x_1160 : Int32).toInt = (x_30 : Int32).toInt → (x_1162).toInt = (x_402 : Int32).toInt := fun h => by have h9 := Int32.toInt_inj.mp h; rw [ex_1162, h9]; exact congrArg Int32.toInt ex_402.symm
                  have kx_1162 : tb (x_1160 : Int32).toNatClampNeg = x_1162 := by rw [ex_1162, ((dg_uF_f e_399 1).trans ((dg_uF_f e_397 1).trans ((dg_uF_f e_395 1).trans (dg_uF_f e_394 1)))), htb]
                  refine dg_calli hS hA1 hA (va_runS (As := [.int x_1162]) (rest := []) F (c_m_isLetter l g D o S_399 x_1162 I_399 H.size) (va_cwS 1 hts (bw_S wB_295 wB_296 wB_297 wB_294) rfl rfl rfl (by decide +kernel) ⟨Nat.le_of_ble_eq_true rfl, Nat.le_of_ble_eq_true rfl⟩) (dg_preS K ST hP hS hA1 hA) rfl rfl hl.1 rfl (lv_room (Nat.le_of_ble_eq_true rfl)) dX12_ahead_110 ⟨Nat.le_of_ble_eq_true rfl, Nat.le_of_ble_eq_true rfl⟩) (fun x_1164 S_1165 hw_1165 H locs hP hS => ?_)
                  rw [hw_1165.1] at hP
                  obtain ⟨hq_1165, w_1165_0, w_1165_1, -⟩ := hw_1165
                  have w_1165_0 : 0 ≤ (x_1164).toInt ∧ (x_1164).toInt ≤ 1 := w_1165_0
                  have w_1165_1 : (x_1164).toInt = 1 ↔ (97 ≤ (x_1162).toInt ∧ (x_1162).toInt ≤ 122) := w_1165_1
                  refine lv_if_ne (tgt := 130) hx hb dX12_ahead_113 (dk_dq rfl) (fun c_1166 => ?_) (fun c_1166 => ?_)
                  · have jc_1166 := dk_neqc (k := 0) (by decide +kernel) c_1166
                    refine lv_aload_n hx hb dX12_ahead_130 rfl (lv_at hl 3 rfl) ?_
                    refine lv_iload_n hx hb dX12_ahead_131 rfl (lv_at hl 2 rfl) ?_
                    refine dg_put (ci := 12) (v := .int x_30) (ty := tyX12 12) (C := RX12) (T := TX12) (N := 77) hx hb hts (fun w h => bw_mem (wU_X12 w h)) tyX12 tyX12_ok nmX12 hown K hP hS hA1 sM_0 rfl 12 (dk_dq rfl) (hts _ (bw_mem wB_293)) (fun _ h9 => h9) rfl (by decide +kernel) rfl rfl dX12_ahead_132 (fun S_1167 e_1167 H locs hP hS => ?_)
                    have I_1167 := dg_I.uFi (lo := (-2147483648)) (hi := 2147483647) I_399 e_1167 sM_0 (by decide +kernel) (show (-2147483648) ≤ (x_30).toInt ∧ (x_30).toInt ≤ 2147483647 from (dk_full _))
                    have M_1167 := dg_sm.uF M_399 e_1167 sM_0 (dk_dq rfl)
                    exact J_752 x_30 (by omega) S_1167 I_1167 M_1167 (((dg_uF_ne e_1167 (fun z => absurd z.2 (dk_dq rfl))).trans ((dg_uF_ne e_399 (fun z => absurd z.2 (dk_dq rfl))).trans ((dg_uF_ne e_397 (fun z => absurd z.2 (dk_dq rfl))).trans (dg_uF_ne e_395 (fun z => absurd z.2 (dk_dq rfl)))))).trans (dg_uF_at e_394)) (((dg_uF_ne e_1167 (fun z => absurd z.2 (dk_dq rfl))).trans ((dg_uF_ne e_399 (fun z => absurd z.2 (dk_dq rfl))).trans (dg_uF_ne e_397 (fun z => absurd z.2 (dk_dq rfl))))).trans (dg_uF_at e_395)) (((dg_uF_ne e_1167 (fun z => absurd z.2 (dk_dq rfl))).trans (dg_uF_ne e_399 (fun z => absurd z.2 (dk_dq rfl)))).trans (dg_uF_at e_397)) (dg_uF_at e_1167) ((congrFun (dg_uF_f e_1167 1) _).trans ex_402.symm) (m_hid.mk <| t_lx_y (by omega) (by omega) (a1 := x_1160) (by omega) kx_1162 (by omega) (by omega)) _ _ hP hS _ (lv_sub hl [0, 1, 2, 3] rfl)
                  · as_aux_lemma =>
                      have jc_1166 := dk_eqc (k := 0) (by decide +kernel) c_1166
                      refine lv_aload_n hx hb dX12_ahead_116 rfl (lv_at hl 3 rfl) ?_
                      refine dg_get (C := RX12) (T := TX12) (N := 77) hx hb hts (fun w h => bw_mem (wU_X12 w h)) hown K hP sM_0 rfl 0 (dk_dq rfl) (hts _ (bw_mem wB_290)) (fun _ h9 => h9) (v := .ref (o + 1)) (show S_399.1 0 0 = .ref (o + 1) from dg_I.rel (d := 1) I_399 sM_0 (by decide +kernel)) dX12_ahead_117 ?_
                      refine lv_iload_n hx hb dX12_ahead_120 rfl (lv_at hl 2 rfl) ?_
                      refine lv_iconst (v := 1) hx hb dX12_ahead_121 (by decide +kernel) ?_
                      refine lv_isub hx hb dX12_ahead_122 ?_
                      refine lv_topi (fun x_1168 ex_1168 => ?_)
                      have jx_1168 : (x_1168).toInt = (x_30).toInt - 1 := by rw [ex_1168]; exact dk_subT2 rfl (by decide +kernel) (by omega)
                      have hin_1169 : vp_in x_1168 1800 := (dk_inv2 (by omega))
                      refine dg_iald hx hb K hP sM_1 hin_1169 dX12_ahead_123 (fun x_1170 ex_1170 => ?_)
                      have b_x_1170 := dk_all_at (dg_I.row (lo := 0) (hi := 255) I_399 sM_1 (by decide +kernel)) hin_1169 ex_1170
                      have htw_1170 : (x_1168 : Int32).toInt = (x_30 : Int32).toInt → (x_1170).toInt = (x_402 : Int32).toInt := fun h => by have h9 := Int32.toInt_inj.mp h; rw [ex_1170, h9]; exact congrArg Int32.toInt ex_402.symm
                      have htw_1171 : (x_1168 : Int32).toInt = (x_1160 : Int32).toInt → (x_1170).toInt = (x_1162 : Int32).toInt := fun h => by have h9 := Int32.toInt_inj.mp h; rw [ex_1170, h9]; exact congrArg Int32.toInt ex_1162.symm
                      have kx_1170 : tb (x_1168 : Int32).toNatClampNeg = x_1170 := by rw [ex_1170, ((dg_uF_f e_399 1).trans ((dg_uF_f e_397 1).trans ((dg_uF_f e_395 1).trans (dg_uF_f e_394 1)))), htb]
                      refine dg_calli hS hA1 hA (va_runS (As := [.int x_1170]) (rest := []) F (c_m_isDigit l g D o S_399 x_1170 I_399 H.size) (va_cwS 1 hts (bw_S wB_299 wB_300 wB_297 wB_298) rfl rfl rfl (by decide +kernel) ⟨Nat.le_of_ble_eq_true rfl, Nat.le_of_ble_eq_true rfl⟩) (dg_preS K ST hP hS hA1 hA) rfl rfl hl.1 rfl (lv_room (Nat.le_of_ble_eq_true rfl)) dX12_ahead_124 ⟨Nat.le_of_ble_eq_true rfl, Nat.le_of_ble_eq_true rfl⟩) (fun x_1173 S_1174 hw_1174 H locs hP hS => ?_)
                      rw [hw_1174.1] at hP
                      obtain ⟨hq_1174, w_1174_0, w_1174_1, -⟩ := hw_1174
                      have w_1174_0 : 0 ≤ (x_1173).toInt ∧ (x_1173).toInt ≤ 1 := w_1174_0
                      have w_1174_1 : (x_1173).toInt = 1 ↔ (48 ≤ (x_1170).toInt ∧ (x_1170).toInt ≤ 57) := w_1174_1
                      refine lv_if_eq (tgt := 135) hx hb dX12_ahead_127 (dk_dq rfl) (fun c_1175 => ?_) (fun c_1175 => ?_)
                      · have jc_1175 := dk_eqc (k := 0) (by decide +kernel) c_1175
                        have hz_1176 : (-1 : Int32).toInt = (-1) := by decide +kernel
                        have hz_1177 : (-1 : Int32).toInt = (-1) := by decide +kernel
                        exact J_752 (-1) (by decide +kernel) S_399 I_399 M_399 (((dg_uF_ne e_399 (fun z => absurd z.2 (dk_dq rfl))).trans ((dg_uF_ne e_397 (fun z => absurd z.2 (dk_dq rfl))).trans (dg_uF_ne e_395 (fun z => absurd z.2 (dk_dq rfl))))).trans (dg_uF_at e_394)) (((dg_uF_ne e_399 (fun z => absurd z.2 (dk_dq rfl))).trans (dg_uF_ne e_397 (fun z => absurd z.2 (dk_dq rfl)))).trans (dg_uF_at e_395)) ((dg_uF_ne e_399 (fun z => absurd z.2 (dk_dq rfl))).trans (dg_uF_at e_397)) (dg_uF_at e_399) ex_402.symm (m_hid.mk <| t_lx_n (by omega) (a1 := x_1168) (by omega) kx_1170 (by omega) (by omega) (by omega)) _ _ hP hS _ (lv_sub hl [0, 1, 2, 3] rfl)
                      · have jc_1175 := dk_neqc (k := 0) (by decide +kernel) c_1175
                        refine lv_aload_n hx hb dX12_ahead_130 rfl (lv_at hl 3 rfl) ?_
                        refine lv_iload_n hx hb dX12_ahead_131 rfl (lv_at hl 2 rfl) ?_
                        refine dg_put (ci := 12) (v := .int x_30) (ty := tyX12 12) (C := RX12) (T := TX12) (N := 77) hx hb hts (fun w h => bw_mem (wU_X12 w h)) tyX12 tyX12_ok nmX12 hown K hP hS hA1 sM_0 rfl 12 (dk_dq rfl) (hts _ (bw_mem wB_293)) (fun _ h9 => h9) rfl (by decide +kernel) rfl rfl dX12_ahead_132 (fun S_1178 e_1178 H locs hP hS => ?_)
                        have I_1178 := dg_I.uFi (lo := (-2147483648)) (hi := 2147483647) I_399 e_1178 sM_0 (by decide +kernel) (show (-2147483648) ≤ (x_30).toInt ∧ (x_30).toInt ≤ 2147483647 from (dk_full _))
                        have M_1178 := dg_sm.uF M_399 e_1178 sM_0 (dk_dq rfl)
                        exact J_752 x_30 (by omega) S_1178 I_1178 M_1178 (((dg_uF_ne e_1178 (fun z => absurd z.2 (dk_dq rfl))).trans ((dg_uF_ne e_399 (fun z => absurd z.2 (dk_dq rfl))).trans ((dg_uF_ne e_397 (fun z => absurd z.2 (dk_dq rfl))).trans (dg_uF_ne e_395 (fun z => absurd z.2 (dk_dq rfl)))))).trans (dg_uF_at e_394)) (((dg_uF_ne e_1178 (fun z => absurd z.2 (dk_dq rfl))).trans ((dg_uF_ne e_399 (fun z => absurd z.2 (dk_dq rfl))).trans (dg_uF_ne e_397 (fun z => absurd z.2 (dk_dq rfl))))).trans (dg_uF_at e_395)) (((dg_uF_ne e_1178 (fun z => absurd z.2 (dk_dq rfl))).trans (dg_uF_ne e_399 (fun z => absurd z.2 (dk_dq rfl)))).trans (dg_uF_at e_397)) (dg_uF_at e_1178) ((congrFun (dg_uF_f e_1178 1) _).trans ex_402.symm) (m_hid.mk <| t_lx_y (by omega) (by omega) (a1 := x_1168) (by omega) kx_1170 (by omega) (by omega)) _ _ hP hS _ (lv_sub hl [0, 1, 2, 3] rfl)
          · as_aux_lemma =>
              have jc_1156 := dk_eqc (k := 0) (by decide +kernel) c_1156
              refine lv_iload_n hx hb dX12_ahead_94 rfl (lv_at hl 0 rfl) ?_
              refine lv_if_eq (tgt := 135) hx hb dX12_ahead_95 (dk_dq rfl) (fun c_1179 => ?_) (fun c_1179 => ?_)
              · have jc_1179 := dk_eqc (k := 0) (by decide +kernel) c_1179
                have hz_1180 : (-1 : Int32).toInt = (-1) := by decide +kernel
                have hz_1181 : (-1 : Int32).toInt = (-1) := by decide +kernel
                exact J_752 (-1) (by decide +kernel) S_399 I_399 M_399 (((dg_uF_ne e_399 (fun z => absurd z.2 (dk_dq rfl))).trans ((dg_uF_ne e_397 (fun z => absurd z.2 (dk_dq rfl))).trans (dg_uF_ne e_395 (fun z => absurd z.2 (dk_dq rfl))))).trans (dg_uF_at e_394)) (((dg_uF_ne e_399 (fun z => absurd z.2 (dk_dq rfl))).trans (dg_uF_ne e_397 (fun z => absurd z.2 (dk_dq rfl)))).trans (dg_uF_at e_395)) ((dg_uF_ne e_399 (fun z => absurd z.2 (dk_dq rfl))).trans (dg_uF_at e_397)) (dg_uF_at e_399) ex_402.symm (m_hid.mk <| t_lx_z (by omega) (by omega)) _ _ hP hS _ (lv_sub hl [0, 1, 2, 3] rfl)
              · as_aux_lemma =>
                  have jc_1179 := dk_neqc (k := 0) (by decide +kernel) c_1179
                  refine lv_iload_n hx hb dX12_ahead_98 rfl (lv_at hl 2 rfl) ?_
                  refine lv_if_le (tgt := 135) hx hb dX12_ahead_99 (dk_dq rfl) (fun c_1182 => ?_) (fun c_1182 => ?_)
                  · have jc_1182 := dk_lec (k := 0) (by decide +kernel) c_1182
                    have hz_1183 : (-1 : Int32).toInt = (-1) := by decide +kernel
                    have hz_1184 : (-1 : Int32).toInt = (-1) := by decide +kernel
                    exact J_752 (-1) (by decide +kernel) S_399 I_399 M_399 (((dg_uF_ne e_399 (fun z => absurd z.2 (dk_dq rfl))).trans ((dg_uF_ne e_397 (fun z => absurd z.2 (dk_dq rfl))).trans (dg_uF_ne e_395 (fun z => absurd z.2 (dk_dq rfl))))).trans (dg_uF_at e_394)) (((dg_uF_ne e_399 (fun z => absurd z.2 (dk_dq rfl))).trans (dg_uF_ne e_397 (fun z => absurd z.2 (dk_dq rfl)))).trans (dg_uF_at e_395)) ((dg_uF_ne e_399 (fun z => absurd z.2 (dk_dq rfl))).trans (dg_uF_at e_397)) (dg_uF_at e_399) ex_402.symm (m_hid.mk <| t_lx_z (by omega) (by omega)) _ _ hP hS _ (lv_sub hl [0, 1, 2, 3] rfl)
                  · as_aux_lemma =>
                      have jc_1182 := dk_nlec (k := 0) (by decide +kernel) c_1182
                      refine lv_aload_n hx hb dX12_ahead_102 rfl (lv_at hl 3 rfl) ?_
                      refine dg_get (C := RX12) (T := TX12) (N := 77) hx hb hts (fun w h => bw_mem (wU_X12 w h)) hown K hP sM_0 rfl 0 (dk_dq rfl) (hts _ (bw_mem wB_290)) (fun _ h9 => h9) (v := .ref (o + 1)) (show S_399.1 0 0 = .ref (o + 1) from dg_I.rel (d := 1) I_399 sM_0 (by decide +kernel)) dX12_ahead_103 ?_
                      refine lv_iload_n hx hb dX12_ahead_106 rfl (lv_at hl 2 rfl) ?_
                      refine lv_iconst (v := 1) hx hb dX12_ahead_107 (by decide +kernel) ?_
                      refine lv_isub hx hb dX12_ahead_108 ?_
                      refine lv_topi (fun x_1185 ex_1185 => ?_)
                      have jx_1185 : (x_1185).toInt = (x_30).toInt - 1 := by rw [ex_1185]; exact dk_subT2 rfl (by decide +kernel) (by omega)
                      have hin_1186 : vp_in x_1185 1800 := (dk_inv2 (by omega))
                      refine dg_iald hx hb K hP sM_1 hin_1186 dX12_ahead_109 (fun x_1187 ex_1187 => ?_)
                      have b_x_1187 := dk_all_at (dg_I.row (lo := 0) (hi := 255) I_399 sM_1 (by decide +kernel)) hin_1186 ex_1187
                      have htw_1187 : (x_1185 : Int32).toInt = (x_30 : Int32).toInt → (x_1187).toInt = (x_402 : Int32).toInt := fun h => by have h9 := Int32.toInt_inj.mp h; rw [ex_1187, h9]; exact congrArg Int32.toInt ex_402.symm
                      have kx_1187 : tb (x_1185 : Int32).toNatClampNeg = x_1187 := by rw [ex_1187, ((dg_uF_f e_399 1).trans ((dg_uF_f e_397 1).trans ((dg_uF_f e_395 1).trans (dg_uF_f e_394 1)))), htb]
                      refine dg_calli hS hA1 hA (va_runS (As := [.int x_1187]) (rest := []) F (c_m_isLetter l g D o S_399 x_1187 I_399 H.size) (va_cwS 1 hts (bw_S wB_295 wB_296 wB_297 wB_294) rfl rfl rfl (by decide +kernel) ⟨Nat.le_of_ble_eq_true rfl, Nat.le_of_ble_eq_true rfl⟩) (dg_preS K ST hP hS hA1 hA) rfl rfl hl.1 rfl (lv_room (Nat.le_of_ble_eq_true rfl)) dX12_ahead_110 ⟨Nat.le_of_ble_eq_true rfl, Nat.le_of_ble_eq_true rfl⟩) (fun x_1189 S_1190 hw_1190 H locs hP hS => ?_)
                      rw [hw_1190.1] at hP
                      obtain ⟨hq_1190, w_1190_0, w_1190_1, -⟩ := hw_1190
                      have w_1190_0 : 0 ≤ (x_1189).toInt ∧ (x_1189).toInt ≤ 1 := w_1190_0
                      have w_1190_1 : (x_1189).toInt = 1 ↔ (97 ≤ (x_1187).toInt ∧ (x_1187).toInt ≤ 122) := w_1190_1
                      refine lv_if_ne (tgt := 130) hx hb dX12_ahead_113 (dk_dq rfl) (fun c_1191 => ?_) (fun c_1191 => ?_)
                      · have jc_1191 := dk_neqc (k := 0) (by decide +kernel) c_1191
                        refine lv_aload_n hx hb dX12_ahead_130 rfl (lv_at hl 3 rfl) ?_
                        refine lv_iload_n hx hb dX12_ahead_131 rfl (lv_at hl 2 rfl) ?_
                        refine dg_put (ci := 12) (v := .int x_30) (ty := tyX12 12) (C := RX12) (T := TX12) (N := 77) hx hb hts (fun w h => bw_mem (wU_X12 w h)) tyX12 tyX12_ok nmX12 hown K hP hS hA1 sM_0 rfl 12 (dk_dq rfl) (hts _ (bw_mem wB_293)) (fun _ h9 => h9) rfl (by decide +kernel) rfl rfl dX12_ahead_132 (fun S_1192 e_1192 H locs hP hS => ?_)
                        have I_1192 := dg_I.uFi (lo := (-2147483648)) (hi := 2147483647) I_399 e_1192 sM_0 (by decide +kernel) (show (-2147483648) ≤ (x_30).toInt ∧ (x_30).toInt ≤ 2147483647 from (dk_full _))
                        have M_1192 := dg_sm.uF M_399 e_1192 sM_0 (dk_dq rfl)
                        exact J_752 x_30 (by omega) S_1192 I_1192 M_1192 (((dg_uF_ne e_1192 (fun z => absurd z.2 (dk_dq rfl))).trans ((dg_uF_ne e_399 (fun z => absurd z.2 (dk_dq rfl))).trans ((dg_uF_ne e_397 (fun z => absurd z.2 (dk_dq rfl))).trans (dg_uF_ne e_395 (fun z => absurd z.2 (dk_dq rfl)))))).trans (dg_uF_at e_394)) (((dg_uF_ne e_1192 (fun z => absurd z.2 (dk_dq rfl))).trans ((dg_uF_ne e_399 (fun z => absurd z.2 (dk_dq rfl))).trans (dg_uF_ne e_397 (fun z => absurd z.2 (dk_dq rfl))))).trans (dg_uF_at e_395)) (((dg_uF_ne e_1192 (fun z => absurd z.2 (dk_dq rfl))).trans (dg_uF_ne e_399 (fun z => absurd z.2 (dk_dq rfl)))).trans (dg_uF_at e_397)) (dg_uF_at e_1192) ((congrFun (dg_uF_f e_1192 1) _).trans ex_402.symm) (m_hid.mk <| t_lx_y (by omega) (by omega) (a1 := x_1185) (by omega) kx_1187 (by omega) (by omega)) _ _ hP hS _ (lv_sub hl [0, 1, 2, 3] rfl)
                      · as_aux_lemma =>
                          have jc_1191 := dk_eqc (k := 0) (by decide +kernel) c_1191
                          refine lv_aload_n hx hb dX12_ahead_116 rfl (lv_at hl 3 rfl) ?_
                          refine dg_get (C := RX12) (T := TX12) (N := 77) hx hb hts (fun w h => bw_mem (wU_X12 w h)) hown K hP sM_0 rfl 0 (dk_dq rfl) (hts _ (bw_mem wB_290)) (fun _ h9 => h9) (v := .ref (o + 1)) (show S_399.1 0 0 = .ref (o + 1) from dg_I.rel (d := 1) I_399 sM_0 (by decide +kernel)) dX12_ahead_117 ?_
                          refine lv_iload_n hx hb dX12_ahead_120 rfl (lv_at hl 2 rfl) ?_
                          refine lv_iconst (v := 1) hx hb dX12_ahead_121 (by decide +kernel) ?_
                          refine lv_isub hx hb dX12_ahead_122 ?_
                          refine lv_topi (fun x_1193 ex_1193 => ?_)
                          have jx_1193 : (x_1193).toInt = (x_30).toInt - 1 := by rw [ex_1193]; exact dk_subT2 rfl (by decide +kernel) (by omega)
                          have hin_1194 : vp_in x_1193 1800 := (dk_inv2 (by omega))
                          refine dg_iald hx hb K hP sM_1 hin_1194 dX12_ahead_123 (fun x_1195 ex_1195 => ?_)
                          have b_x_1195 := dk_all_at (dg_I.row (lo := 0) (hi := 255) I_399 sM_1 (by decide +kernel)) hin_1194 ex_1195
                          have htw_1195 : (x_1193 : Int32).toInt = (x_30 : Int32).toInt → (x_1195).toInt = (x_402 : Int32).toInt := fun h => by have h9 := Int32.toInt_inj.mp h; rw [ex_1195, h9]; exact congrArg Int32.toInt ex_402.symm
                          have htw_1196 : (x_1193 : Int32).toInt = (x_1185 : Int32).toInt → (x_1195).toInt = (x_1187 : Int32).toInt := fun h => by have h9 := Int32.toInt_inj.mp h; rw [ex_1195, h9]; exact congrArg Int32.toInt ex_1187.symm
                          have kx_1195 : tb (x_1193 : Int32).toNatClampNeg = x_1195 := by rw [ex_1195, ((dg_uF_f e_399 1).trans ((dg_uF_f e_397 1).trans ((dg_uF_f e_395 1).trans (dg_uF_f e_394 1)))), htb]
                          refine dg_calli hS hA1 hA (va_runS (As := [.int x_1195]) (rest := []) F (c_m_isDigit l g D o S_399 x_1195 I_399 H.size) (va_cwS 1 hts (bw_S wB_299 wB_300 wB_297 wB_298) rfl rfl rfl (by decide +kernel) ⟨Nat.le_of_ble_eq_true rfl, Nat.le_of_ble_eq_true rfl⟩) (dg_preS K ST hP hS hA1 hA) rfl rfl hl.1 rfl (lv_room (Nat.le_of_ble_eq_true rfl)) dX12_ahead_124 ⟨Nat.le_of_ble_eq_true rfl, Nat.le_of_ble_eq_true rfl⟩) (fun x_1198 S_1199 hw_1199 H locs hP hS => ?_)
                          rw [hw_1199.1] at hP
                          obtain ⟨hq_1199, w_1199_0, w_1199_1, -⟩ := hw_1199
                          have w_1199_0 : 0 ≤ (x_1198).toInt ∧ (x_1198).toInt ≤ 1 := w_1199_0
                          have w_1199_1 : (x_1198).toInt = 1 ↔ (48 ≤ (x_1195).toInt ∧ (x_1195).toInt ≤ 57) := w_1199_1
                          refine lv_if_eq (tgt := 135) hx hb dX12_ahead_127 (dk_dq rfl) (fun c_1200 => ?_) (fun c_1200 => ?_)
                          · have jc_1200 := dk_eqc (k := 0) (by decide +kernel) c_1200
                            have hz_1201 : (-1 : Int32).toInt = (-1) := by decide +kernel
                            have hz_1202 : (-1 : Int32).toInt = (-1) := by decide +kernel
                            exact J_752 (-1) (by decide +kernel) S_399 I_399 M_399 (((dg_uF_ne e_399 (fun z => absurd z.2 (dk_dq rfl))).trans ((dg_uF_ne e_397 (fun z => absurd z.2 (dk_dq rfl))).trans (dg_uF_ne e_395 (fun z => absurd z.2 (dk_dq rfl))))).trans (dg_uF_at e_394)) (((dg_uF_ne e_399 (fun z => absurd z.2 (dk_dq rfl))).trans (dg_uF_ne e_397 (fun z => absurd z.2 (dk_dq rfl)))).trans (dg_uF_at e_395)) ((dg_uF_ne e_399 (fun z => absurd z.2 (dk_dq rfl))).trans (dg_uF_at e_397)) (dg_uF_at e_399) ex_402.symm (m_hid.mk <| t_lx_n (by omega) (a1 := x_1193) (by omega) kx_1195 (by omega) (by omega) (by omega)) _ _ hP hS _ (lv_sub hl [0, 1, 2, 3] rfl)
                          · have jc_1200 := dk_neqc (k := 0) (by decide +kernel) c_1200
                            refine lv_aload_n hx hb dX12_ahead_130 rfl (lv_at hl 3 rfl) ?_
                            refine lv_iload_n hx hb dX12_ahead_131 rfl (lv_at hl 2 rfl) ?_
                            refine dg_put (ci := 12) (v := .int x_30) (ty := tyX12 12) (C := RX12) (T := TX12) (N := 77) hx hb hts (fun w h => bw_mem (wU_X12 w h)) tyX12 tyX12_ok nmX12 hown K hP hS hA1 sM_0 rfl 12 (dk_dq rfl) (hts _ (bw_mem wB_293)) (fun _ h9 => h9) rfl (by decide +kernel) rfl rfl dX12_ahead_132 (fun S_1203 e_1203 H locs hP hS => ?_)
                            have I_1203 := dg_I.uFi (lo := (-2147483648)) (hi := 2147483647) I_399 e_1203 sM_0 (by decide +kernel) (show (-2147483648) ≤ (x_30).toInt ∧ (x_30).toInt ≤ 2147483647 from (dk_full _))
                            have M_1203 := dg_sm.uF M_399 e_1203 sM_0 (dk_dq rfl)
                            exact J_752 x_30 (by omega) S_1203 I_1203 M_1203 (((dg_uF_ne e_1203 (fun z => absurd z.2 (dk_dq rfl))).trans ((dg_uF_ne e_399 (fun z => absurd z.2 (dk_dq rfl))).trans ((dg_uF_ne e_397 (fun z => absurd z.2 (dk_dq rfl))).trans (dg_uF_ne e_395 (fun z => absurd z.2 (dk_dq rfl)))))).trans (dg_uF_at e_394)) (((dg_uF_ne e_1203 (fun z => absurd z.2 (dk_dq rfl))).trans ((dg_uF_ne e_399 (fun z => absurd z.2 (dk_dq rfl))).trans (dg_uF_ne e_397 (fun z => absurd z.2 (dk_dq rfl))))).trans (dg_uF_at e_395)) (((dg_uF_ne e_1203 (fun z => absurd z.2 (dk_dq rfl))).trans (dg_uF_ne e_399 (fun z => absurd z.2 (dk_dq rfl)))).trans (dg_uF_at e_397)) (dg_uF_at e_1203) ((congrFun (dg_uF_f e_1203 1) _).trans ex_402.symm) (m_hid.mk <| t_lx_y (by omega) (by omega) (a1 := x_1193) (by omega) kx_1195 (by omega) (by omega)) _ _ hP hS _ (lv_sub hl [0, 1, 2, 3] rfl)
      · have jc_400 := dk_nltc (k := (sl).toInt) rfl c_400
        have hz_1204 : (0 : Int32).toInt = 0 := by decide +kernel
        obtain ⟨x_1205, f_x_1205, b_x_1205⟩ := dg_I.int (i := 0) (k := 6) (lo := 0) (hi := 9999) I_399 sM_0 (by decide +kernel)
        obtain ⟨x_1206, f_x_1206⟩ := dg_I.long (i := 0) (k := 7) I_399 sM_0 (by decide +kernel)
        have hz_1207 : (0 : Int32).toInt = 0 := by decide +kernel
        have hz_1208 : (-1 : Int32).toInt = (-1) := by decide +kernel
        refine W.widen (k := 0) (n := 0) (Nat.le_of_ble_eq_true rfl) (Nat.le_of_ble_eq_true rfl) ?_
        exact dg_vret hx hb hr hlocks hP hS ⟨I_399, M_399, ⟨0, x_30, x_30, ((dg_uF_ne e_399 (fun z => absurd z.2 (dk_dq rfl))).trans (dg_uF_at e_397)), (((dg_uF_ne e_399 (fun z => absurd z.2 (dk_dq rfl))).trans ((dg_uF_ne e_397 (fun z => absurd z.2 (dk_dq rfl))).trans (dg_uF_ne e_395 (fun z => absurd z.2 (dk_dq rfl))))).trans (dg_uF_at e_394)), (((dg_uF_ne e_399 (fun z => absurd z.2 (dk_dq rfl))).trans (dg_uF_ne e_397 (fun z => absurd z.2 (dk_dq rfl)))).trans (dg_uF_at e_395)), (by omega)⟩, (TNX.eod hs9 (by omega) ((dg_uF_ne e_399 (fun z => absurd z.2 (dk_dq rfl))).trans (dg_uF_at e_397)) (((dg_uF_ne e_399 (fun z => absurd z.2 (dk_dq rfl))).trans ((dg_uF_ne e_397 (fun z => absurd z.2 (dk_dq rfl))).trans (dg_uF_ne e_395 (fun z => absurd z.2 (dk_dq rfl))))).trans (dg_uF_at e_394)) (((dg_uF_ne e_399 (fun z => absurd z.2 (dk_dq rfl))).trans (dg_uF_ne e_397 (fun z => absurd z.2 (dk_dq rfl)))).trans (dg_uF_at e_395)) f_x_1205 f_x_1206 (dg_uF_at e_399) (by omega) (by omega)), trivial⟩ dX12_ahead_69
  have L_1229 : ∀ (n : Nat) (x_1228 : Int32), (0 ≤ (x_1228).toInt ∧ (x_1228).toInt ≤ 1600) → ((se).toInt ≤ (x_1228).toInt ∧ (x_1228).toInt ≤ (sl).toInt) → (t_sk tb tn (se : Int32).toNatClampNeg = t_sk tb tn (x_1228 : Int32).toNatClampNeg) → ((1601 - (x_1228).toInt).toNat < n) → ∀ (H : Heap) (locs : List Loc), va_P D vwCl (dg_w g shM o rfM S) H → va_S A s.heap H locs → ∀ ls : Array Slot, lv_has ls 6 [(1, .int x_1228), (0, .ref (o + 0))] → W p l e ({ frames := 2, cells := 0, slots := 0, locals := 52 } : Room) s m args below meth c H locs 0 0 (MQ below (va_Qv (fun S' => CM o S' ∧ dg_sm shM [(0, 3), (0, 4), (0, 5), (0, 6), (0, 7), (0, 12)] [] S S' ∧ (∃ y9_3 y9_4 y9_5 : Int32, S'.1 0 3 = .int y9_3 ∧ S'.1 0 4 = .int y9_4 ∧ S'.1 0 5 = .int y9_5 ∧ ((se).toInt ≤ (y9_4).toInt ∧ (y9_4).toInt ≤ (y9_5).toInt ∧ (y9_5).toInt ≤ (sl).toInt ∧ ((y9_3).toInt ≠ 0 → (y9_4).toInt + 1 ≤ (y9_5).toInt))) ∧ (TNX tb tn se S') ∧ True) (dg_B g D shM o rfM) A) args s 0 0 A) (F0 m 5 ls []) := by
    as_aux_lemma =>
      intro n
      induction n with
      | zero =>
        intro x_1228 b_x_1228 rel_0 rel_1 hmu H locs hP hS ls hl
        omega
      | succ n ih =>
        as_aux_lemma =>
          intro x_1228 b_x_1228 rel_0 rel_1 hmu H locs hP hS ls hl
          refine lv_iload_n hx hb dX12_ahead_5 rfl (lv_at hl 0 rfl) ?_
          refine lv_aload_n hx hb dX12_ahead_6 rfl (lv_at hl 1 rfl) ?_
          refine dg_get (C := RX12) (T := TX12) (N := 77) hx hb hts (fun w h => bw_mem (wU_X12 w h)) hown K hP sM_0 rfl 2 (dk_dq rfl) (hts _ (bw_mem wB_289)) (fun _ h9 => h9) (v := .int sl) f_sl dX12_ahead_7 ?_
          refine lv_icmp_ge (tgt := 41) hx hb dX12_ahead_10 (dk_dq rfl) (fun c_1230 => ?_) (fun c_1230 => ?_)
          · have jc_1230 := dk_gec (k := (sl).toInt) rfl c_1230
            exact J_393 x_1228 (by omega) (by omega) (rel_1.trans (t_sk_over (by have h8 := dk_clN x_1228; omega))) _ _ hP hS _ (lv_sub hl [0, 1] rfl)
          · as_aux_lemma =>
              have jc_1230 := dk_ngec (k := (sl).toInt) rfl c_1230
              refine lv_aload_n hx hb dX12_ahead_13 rfl (lv_at hl 1 rfl) ?_
              refine dg_get (C := RX12) (T := TX12) (N := 77) hx hb hts (fun w h => bw_mem (wU_X12 w h)) hown K hP sM_0 rfl 0 (dk_dq rfl) (hts _ (bw_mem wB_290)) (fun _ h9 => h9) (v := .ref (o + 1)) (show S.1 0 0 = .ref (o + 1) from dg_I.rel (d := 1) I sM_0 (by decide +kernel)) dX12_ahead_14 ?_
              refine lv_iload_n hx hb dX12_ahead_17 rfl (lv_at hl 0 rfl) ?_
              have hin_1231 : vp_in x_1228 1800 := (dk_inv2 (by omega))
              refine dg_iald hx hb K hP sM_1 hin_1231 dX12_ahead_18 (fun x_1232 ex_1232 => ?_)
              have b_x_1232 := dk_all_at (dg_I.row (lo := 0) (hi := 255) I sM_1 (by decide +kernel)) hin_1231 ex_1232
              have kx_1232 : tb (x_1228 : Int32).toNatClampNeg = x_1232 := by rw [ex_1232, htb]
              refine lv_bipush (v := 32) hx hb dX12_ahead_19 (by decide +kernel) ?_
              refine lv_icmp_eq (tgt := 35) hx hb dX12_ahead_21 (dk_dq rfl) (fun c_1233 => ?_) (fun c_1233 => ?_)
              · have jc_1233 := dk_eqc (k := 32) (by decide +kernel) c_1233
                obtain ⟨x_1234, ex_1234⟩ : ∃ z, z = x_1228 + 1 := ⟨_, rfl⟩
                have jx_1234 : (x_1234).toInt = (x_1228).toInt + 1 := by rw [ex_1234]; exact dk_addT2 rfl (by decide +kernel) (by omega)
                refine lv_iinc (v := x_1234) (lv' := [(1, .int x_1234), (0, .ref (o + 0))]) hx hb dX12_ahead_35 hl (k := 0) rfl (by rw [ex_1234]; rfl) (dk_dq rfl) rfl (fun ls hl => ?_)
                refine lv_goto (tgt := 5) hx hb dX12_ahead_38 (dk_dq rfl) ?_
                exact ih x_1234 (by omega) (by omega) (rel_1.trans (t_sk_nx hn16 (by have h8 := dk_clN x_1228; omega) (by rw [kx_1232]; exact t_b_t (by omega)) (by omega) (by omega))) (by first | exact mu_lt hmu (by omega) (by omega) | omega) _ _ hP hS _ (lv_sub hl [0, 1] rfl)
              · as_aux_lemma =>
                  have jc_1233 := dk_neqc (k := 32) (by decide +kernel) c_1233
                  refine lv_aload_n hx hb dX12_ahead_24 rfl (lv_at hl 1 rfl) ?_
                  refine dg_get (C := RX12) (T := TX12) (N := 77) hx hb hts (fun w h => bw_mem (wU_X12 w h)) hown K hP sM_0 rfl 0 (dk_dq rfl) (hts _ (bw_mem wB_290)) (fun _ h9 => h9) (v := .ref (o + 1)) (show S.1 0 0 = .ref (o + 1) from dg_I.rel (d := 1) I sM_0 (by decide +kernel)) dX12_ahead_25 ?_
                  refine lv_iload_n hx hb dX12_ahead_28 rfl (lv_at hl 0 rfl) ?_
                  have hin_1235 : vp_in x_1228 1800 := (dk_inv2 (by omega))
                  refine dg_iald hx hb K hP sM_1 hin_1235 dX12_ahead_29 (fun y_1236 ey_1236 => ?_)
                  obtain rfl : x_1232 = y_1236 := (ey_1236.trans ex_1232.symm).symm
                  refine lv_bipush (v := 10) hx hb dX12_ahead_30 (by decide +kernel) ?_
                  refine lv_icmp_ne (tgt := 41) hx hb dX12_ahead_32 (dk_dq rfl) (fun c_1237 => ?_) (fun c_1237 => ?_)
                  · have jc_1237 := dk_neqc (k := 10) (by decide +kernel) c_1237
                    exact J_393 x_1228 (by omega) (by omega) (rel_1.trans (t_sk_stay (by rw [kx_1232]; exact t_b_f (by omega) (by omega)))) _ _ hP hS _ (lv_sub hl [0, 1] rfl)
                  · have jc_1237 := dk_eqc (k := 10) (by decide +kernel) c_1237
                    obtain ⟨x_1238, ex_1238⟩ : ∃ z, z = x_1228 + 1 := ⟨_, rfl⟩
                    have jx_1238 : (x_1238).toInt = (x_1228).toInt + 1 := by rw [ex_1238]; exact dk_addT2 rfl (by decide +kernel) (by omega)
                    refine lv_iinc (v := x_1238) (lv' := [(1, .int x_1238), (0, .ref (o + 0))]) hx hb dX12_ahead_35 hl (k := 0) rfl (by rw [ex_1238]; rfl) (dk_dq rfl) rfl (fun ls hl => ?_)
                    refine lv_goto (tgt := 5) hx hb dX12_ahead_38 (dk_dq rfl) ?_
                    exact ih x_1238 (by omega) (by omega) (rel_1.trans (t_sk_nx hn16 (by have h8 := dk_clN x_1228; omega) (by rw [kx_1232]; exact t_b_t (by omega)) (by omega) (by omega))) (by first | exact mu_lt hmu (by omega) (by omega) | omega) _ _ hP hS _ (lv_sub hl [0, 1] rfl)
  exact L_1229 ((1601 - ((se : Int32)).toInt).toNat + 1) se (by omega) (by omega) rfl (by first | exact mu_lt hmu (by omega) (by omega) | omega) _ _ hP hS _ (lv_sub hl [0, 1] rfl)
