/-! 34.m3.lean.txt -/
theorem dX12_copies_0 : decode cX12_copies 0 = .ok (.aload_n 0, 1) := dk_o42 (by decide +kernel)
theorem dX12_copies_1 : decode cX12_copies 1 = .ok (.getfield 162, 3) := dk_o180 (by decide +kernel)
theorem dX12_copies_4 : decode cX12_copies 4 = .ok (.iload_n 1, 1) := dk_o27 (by decide +kernel)
theorem dX12_copies_5 : decode cX12_copies 5 = .ok (.aload_n 0, 1) := dk_o42 (by decide +kernel)
theorem dX12_copies_6 : decode cX12_copies 6 = .ok (.getfield 162, 3) := dk_o180 (by decide +kernel)
theorem dX12_copies_9 : decode cX12_copies 9 = .ok (.iload_n 2, 1) := dk_o28 (by decide +kernel)
theorem dX12_copies_10 : decode cX12_copies 10 = .ok (.iaload, 1) := dk_o46 (by decide +kernel)
theorem dX12_copies_11 : decode cX12_copies 11 = .ok (.iastore, 1) := dk_o79 (by decide +kernel)
theorem dX12_copies_12 : decode cX12_copies 12 = .ok (.aload_n 0, 1) := dk_o42 (by decide +kernel)
theorem dX12_copies_13 : decode cX12_copies 13 = .ok (.getfield 165, 3) := dk_o180 (by decide +kernel)
theorem dX12_copies_16 : decode cX12_copies 16 = .ok (.iload_n 1, 1) := dk_o27 (by decide +kernel)
theorem dX12_copies_17 : decode cX12_copies 17 = .ok (.aload_n 0, 1) := dk_o42 (by decide +kernel)
theorem dX12_copies_18 : decode cX12_copies 18 = .ok (.getfield 165, 3) := dk_o180 (by decide +kernel)
theorem dX12_copies_21 : decode cX12_copies 21 = .ok (.iload_n 2, 1) := dk_o28 (by decide +kernel)
theorem dX12_copies_22 : decode cX12_copies 22 = .ok (.iaload, 1) := dk_o46 (by decide +kernel)
theorem dX12_copies_23 : decode cX12_copies 23 = .ok (.iastore, 1) := dk_o79 (by decide +kernel)
theorem dX12_copies_24 : decode cX12_copies 24 = .ok (.aload_n 0, 1) := dk_o42 (by decide +kernel)
theorem dX12_copies_25 : decode cX12_copies 25 = .ok (.getfield 174, 3) := dk_o180 (by decide +kernel)
theorem dX12_copies_28 : decode cX12_copies 28 = .ok (.iload_n 1, 1) := dk_o27 (by decide +kernel)
theorem dX12_copies_29 : decode cX12_copies 29 = .ok (.aload_n 0, 1) := dk_o42 (by decide +kernel)
theorem dX12_copies_30 : decode cX12_copies 30 = .ok (.getfield 174, 3) := dk_o180 (by decide +kernel)
theorem dX12_copies_33 : decode cX12_copies 33 = .ok (.iload_n 2, 1) := dk_o28 (by decide +kernel)
theorem dX12_copies_34 : decode cX12_copies 34 = .ok (.iaload, 1) := dk_o46 (by decide +kernel)
theorem dX12_copies_35 : decode cX12_copies 35 = .ok (.iastore, 1) := dk_o79 (by decide +kernel)
theorem dX12_copies_36 : decode cX12_copies 36 = .ok (.aload_n 0, 1) := dk_o42 (by decide +kernel)
theorem dX12_copies_37 : decode cX12_copies 37 = .ok (.getfield 177, 3) := dk_o180 (by decide +kernel)
theorem dX12_copies_40 : decode cX12_copies 40 = .ok (.iload_n 1, 1) := dk_o27 (by decide +kernel)
theorem dX12_copies_41 : decode cX12_copies 41 = .ok (.aload_n 0, 1) := dk_o42 (by decide +kernel)
theorem dX12_copies_42 : decode cX12_copies 42 = .ok (.getfield 177, 3) := dk_o180 (by decide +kernel)
theorem dX12_copies_45 : decode cX12_copies 45 = .ok (.iload_n 2, 1) := dk_o28 (by decide +kernel)
theorem dX12_copies_46 : decode cX12_copies 46 = .ok (.iaload, 1) := dk_o46 (by decide +kernel)
theorem dX12_copies_47 : decode cX12_copies 47 = .ok (.iastore, 1) := dk_o79 (by decide +kernel)
theorem dX12_copies_48 : decode cX12_copies 48 = .ok (.iconst 0, 1) := dk_o3 (by decide +kernel)
theorem dX12_copies_49 : decode cX12_copies 49 = .ok (.istore_n 3, 1) := dk_o62 (by decide +kernel)
theorem dX12_copies_50 : decode cX12_copies 50 = .ok (.iload_n 3, 1) := dk_o29 (by decide +kernel)
theorem dX12_copies_51 : decode cX12_copies 51 = .ok (.bipush 64, 2) := dk_o16 (by decide +kernel)
theorem dX12_copies_53 : decode cX12_copies 53 = .ok (.if_icmp .ge 53, 3) := dk_o162 (by decide +kernel)
theorem dX12_copies_56 : decode cX12_copies 56 = .ok (.aload_n 0, 1) := dk_o42 (by decide +kernel)
theorem dX12_copies_57 : decode cX12_copies 57 = .ok (.getfield 168, 3) := dk_o180 (by decide +kernel)
theorem dX12_copies_60 : decode cX12_copies 60 = .ok (.bipush 64, 2) := dk_o16 (by decide +kernel)
theorem dX12_copies_62 : decode cX12_copies 62 = .ok (.iload_n 1, 1) := dk_o27 (by decide +kernel)
theorem dX12_copies_63 : decode cX12_copies 63 = .ok (.imul, 1) := dk_o104 (by decide +kernel)
theorem dX12_copies_64 : decode cX12_copies 64 = .ok (.iload_n 3, 1) := dk_o29 (by decide +kernel)
theorem dX12_copies_65 : decode cX12_copies 65 = .ok (.iadd, 1) := dk_o96 (by decide +kernel)
theorem dX12_copies_66 : decode cX12_copies 66 = .ok (.aload_n 0, 1) := dk_o42 (by decide +kernel)
theorem dX12_copies_67 : decode cX12_copies 67 = .ok (.getfield 168, 3) := dk_o180 (by decide +kernel)
theorem dX12_copies_70 : decode cX12_copies 70 = .ok (.bipush 64, 2) := dk_o16 (by decide +kernel)
theorem dX12_copies_72 : decode cX12_copies 72 = .ok (.iload_n 2, 1) := dk_o28 (by decide +kernel)
theorem dX12_copies_73 : decode cX12_copies 73 = .ok (.imul, 1) := dk_o104 (by decide +kernel)
theorem dX12_copies_74 : decode cX12_copies 74 = .ok (.iload_n 3, 1) := dk_o29 (by decide +kernel)
theorem dX12_copies_75 : decode cX12_copies 75 = .ok (.iadd, 1) := dk_o96 (by decide +kernel)
theorem dX12_copies_76 : decode cX12_copies 76 = .ok (.iaload, 1) := dk_o46 (by decide +kernel)
theorem dX12_copies_77 : decode cX12_copies 77 = .ok (.iastore, 1) := dk_o79 (by decide +kernel)
theorem dX12_copies_78 : decode cX12_copies 78 = .ok (.aload_n 0, 1) := dk_o42 (by decide +kernel)
theorem dX12_copies_79 : decode cX12_copies 79 = .ok (.getfield 171, 3) := dk_o180 (by decide +kernel)
theorem dX12_copies_82 : decode cX12_copies 82 = .ok (.bipush 64, 2) := dk_o16 (by decide +kernel)
theorem dX12_copies_84 : decode cX12_copies 84 = .ok (.iload_n 1, 1) := dk_o27 (by decide +kernel)
theorem dX12_copies_85 : decode cX12_copies 85 = .ok (.imul, 1) := dk_o104 (by decide +kernel)
theorem dX12_copies_86 : decode cX12_copies 86 = .ok (.iload_n 3, 1) := dk_o29 (by decide +kernel)
theorem dX12_copies_87 : decode cX12_copies 87 = .ok (.iadd, 1) := dk_o96 (by decide +kernel)
theorem dX12_copies_88 : decode cX12_copies 88 = .ok (.aload_n 0, 1) := dk_o42 (by decide +kernel)
theorem dX12_copies_89 : decode cX12_copies 89 = .ok (.getfield 171, 3) := dk_o180 (by decide +kernel)
theorem dX12_copies_92 : decode cX12_copies 92 = .ok (.bipush 64, 2) := dk_o16 (by decide +kernel)
theorem dX12_copies_94 : decode cX12_copies 94 = .ok (.iload_n 2, 1) := dk_o28 (by decide +kernel)
theorem dX12_copies_95 : decode cX12_copies 95 = .ok (.imul, 1) := dk_o104 (by decide +kernel)
theorem dX12_copies_96 : decode cX12_copies 96 = .ok (.iload_n 3, 1) := dk_o29 (by decide +kernel)
theorem dX12_copies_97 : decode cX12_copies 97 = .ok (.iadd, 1) := dk_o96 (by decide +kernel)
theorem dX12_copies_98 : decode cX12_copies 98 = .ok (.iaload, 1) := dk_o46 (by decide +kernel)
theorem dX12_copies_99 : decode cX12_copies 99 = .ok (.iastore, 1) := dk_o79 (by decide +kernel)
theorem dX12_copies_100 : decode cX12_copies 100 = .ok (.iinc 3 1, 3) := dk_o132 (by decide +kernel)
theorem dX12_copies_103 : decode cX12_copies 103 = .ok (.goto (-53), 3) := dk_o167 (by decide +kernel)
theorem dX12_copies_106 : decode cX12_copies 106 = .ok (.iconst 0, 1) := dk_o3 (by decide +kernel)
theorem dX12_copies_107 : decode cX12_copies 107 = .ok (.istore_n 3, 1) := dk_o62 (by decide +kernel)
theorem dX12_copies_108 : decode cX12_copies 108 = .ok (.iload_n 3, 1) := dk_o29 (by decide +kernel)
theorem dX12_copies_109 : decode cX12_copies 109 = .ok (.bipush 16, 2) := dk_o16 (by decide +kernel)
theorem dX12_copies_111 : decode cX12_copies 111 = .ok (.if_icmp .ge 53, 3) := dk_o162 (by decide +kernel)
theorem dX12_copies_114 : decode cX12_copies 114 = .ok (.aload_n 0, 1) := dk_o42 (by decide +kernel)
theorem dX12_copies_115 : decode cX12_copies 115 = .ok (.getfield 180, 3) := dk_o180 (by decide +kernel)
theorem dX12_copies_118 : decode cX12_copies 118 = .ok (.bipush 16, 2) := dk_o16 (by decide +kernel)
theorem dX12_copies_120 : decode cX12_copies 120 = .ok (.iload_n 1, 1) := dk_o27 (by decide +kernel)
theorem dX12_copies_121 : decode cX12_copies 121 = .ok (.imul, 1) := dk_o104 (by decide +kernel)
theorem dX12_copies_122 : decode cX12_copies 122 = .ok (.iload_n 3, 1) := dk_o29 (by decide +kernel)
theorem dX12_copies_123 : decode cX12_copies 123 = .ok (.iadd, 1) := dk_o96 (by decide +kernel)
theorem dX12_copies_124 : decode cX12_copies 124 = .ok (.aload_n 0, 1) := dk_o42 (by decide +kernel)
theorem dX12_copies_125 : decode cX12_copies 125 = .ok (.getfield 180, 3) := dk_o180 (by decide +kernel)
theorem dX12_copies_128 : decode cX12_copies 128 = .ok (.bipush 16, 2) := dk_o16 (by decide +kernel)
theorem dX12_copies_130 : decode cX12_copies 130 = .ok (.iload_n 2, 1) := dk_o28 (by decide +kernel)
theorem dX12_copies_131 : decode cX12_copies 131 = .ok (.imul, 1) := dk_o104 (by decide +kernel)
theorem dX12_copies_132 : decode cX12_copies 132 = .ok (.iload_n 3, 1) := dk_o29 (by decide +kernel)
theorem dX12_copies_133 : decode cX12_copies 133 = .ok (.iadd, 1) := dk_o96 (by decide +kernel)
theorem dX12_copies_134 : decode cX12_copies 134 = .ok (.iaload, 1) := dk_o46 (by decide +kernel)
theorem dX12_copies_135 : decode cX12_copies 135 = .ok (.iastore, 1) := dk_o79 (by decide +kernel)
theorem dX12_copies_136 : decode cX12_copies 136 = .ok (.aload_n 0, 1) := dk_o42 (by decide +kernel)
theorem dX12_copies_137 : decode cX12_copies 137 = .ok (.getfield 183, 3) := dk_o180 (by decide +kernel)
theorem dX12_copies_140 : decode cX12_copies 140 = .ok (.bipush 16, 2) := dk_o16 (by decide +kernel)
theorem dX12_copies_142 : decode cX12_copies 142 = .ok (.iload_n 1, 1) := dk_o27 (by decide +kernel)
theorem dX12_copies_143 : decode cX12_copies 143 = .ok (.imul, 1) := dk_o104 (by decide +kernel)
theorem dX12_copies_144 : decode cX12_copies 144 = .ok (.iload_n 3, 1) := dk_o29 (by decide +kernel)
theorem dX12_copies_145 : decode cX12_copies 145 = .ok (.iadd, 1) := dk_o96 (by decide +kernel)
theorem dX12_copies_146 : decode cX12_copies 146 = .ok (.aload_n 0, 1) := dk_o42 (by decide +kernel)
theorem dX12_copies_147 : decode cX12_copies 147 = .ok (.getfield 183, 3) := dk_o180 (by decide +kernel)
theorem dX12_copies_150 : decode cX12_copies 150 = .ok (.bipush 16, 2) := dk_o16 (by decide +kernel)
theorem dX12_copies_152 : decode cX12_copies 152 = .ok (.iload_n 2, 1) := dk_o28 (by decide +kernel)
theorem dX12_copies_153 : decode cX12_copies 153 = .ok (.imul, 1) := dk_o104 (by decide +kernel)
theorem dX12_copies_154 : decode cX12_copies 154 = .ok (.iload_n 3, 1) := dk_o29 (by decide +kernel)
theorem dX12_copies_155 : decode cX12_copies 155 = .ok (.iadd, 1) := dk_o96 (by decide +kernel)
theorem dX12_copies_156 : decode cX12_copies 156 = .ok (.iaload, 1) := dk_o46 (by decide +kernel)
theorem dX12_copies_157 : decode cX12_copies 157 = .ok (.iastore, 1) := dk_o79 (by decide +kernel)
theorem dX12_copies_158 : decode cX12_copies 158 = .ok (.iinc 3 1, 3) := dk_o132 (by decide +kernel)
theorem dX12_copies_161 : decode cX12_copies 161 = .ok (.goto (-53), 3) := dk_o167 (by decide +kernel)
theorem dX12_copies_164 : decode cX12_copies 164 = .ok (.iconst 0, 1) := dk_o3 (by decide +kernel)
theorem dX12_copies_165 : decode cX12_copies 165 = .ok (.istore_n 3, 1) := dk_o62 (by decide +kernel)
theorem dX12_copies_166 : decode cX12_copies 166 = .ok (.iload_n 3, 1) := dk_o29 (by decide +kernel)
theorem dX12_copies_167 : decode cX12_copies 167 = .ok (.bipush 10, 2) := dk_o16 (by decide +kernel)
theorem dX12_copies_169 : decode cX12_copies 169 = .ok (.if_icmp .ge 31, 3) := dk_o162 (by decide +kernel)
theorem dX12_copies_172 : decode cX12_copies 172 = .ok (.aload_n 0, 1) := dk_o42 (by decide +kernel)
theorem dX12_copies_173 : decode cX12_copies 173 = .ok (.getfield 186, 3) := dk_o180 (by decide +kernel)
theorem dX12_copies_176 : decode cX12_copies 176 = .ok (.bipush 10, 2) := dk_o16 (by decide +kernel)
theorem dX12_copies_178 : decode cX12_copies 178 = .ok (.iload_n 1, 1) := dk_o27 (by decide +kernel)
theorem dX12_copies_179 : decode cX12_copies 179 = .ok (.imul, 1) := dk_o104 (by decide +kernel)
theorem dX12_copies_180 : decode cX12_copies 180 = .ok (.iload_n 3, 1) := dk_o29 (by decide +kernel)
theorem dX12_copies_181 : decode cX12_copies 181 = .ok (.iadd, 1) := dk_o96 (by decide +kernel)
theorem dX12_copies_182 : decode cX12_copies 182 = .ok (.aload_n 0, 1) := dk_o42 (by decide +kernel)
theorem dX12_copies_183 : decode cX12_copies 183 = .ok (.getfield 186, 3) := dk_o180 (by decide +kernel)
theorem dX12_copies_186 : decode cX12_copies 186 = .ok (.bipush 10, 2) := dk_o16 (by decide +kernel)
theorem dX12_copies_188 : decode cX12_copies 188 = .ok (.iload_n 2, 1) := dk_o28 (by decide +kernel)
theorem dX12_copies_189 : decode cX12_copies 189 = .ok (.imul, 1) := dk_o104 (by decide +kernel)
theorem dX12_copies_190 : decode cX12_copies 190 = .ok (.iload_n 3, 1) := dk_o29 (by decide +kernel)
theorem dX12_copies_191 : decode cX12_copies 191 = .ok (.iadd, 1) := dk_o96 (by decide +kernel)
theorem dX12_copies_192 : decode cX12_copies 192 = .ok (.iaload, 1) := dk_o46 (by decide +kernel)
theorem dX12_copies_193 : decode cX12_copies 193 = .ok (.iastore, 1) := dk_o79 (by decide +kernel)
theorem dX12_copies_194 : decode cX12_copies 194 = .ok (.iinc 3 1, 3) := dk_o132 (by decide +kernel)
theorem dX12_copies_197 : decode cX12_copies 197 = .ok (.goto (-31), 3) := dk_o167 (by decide +kernel)
theorem dX12_copies_200 : decode cX12_copies 200 = .ok (.aload_n 0, 1) := dk_o42 (by decide +kernel)
theorem dX12_copies_201 : decode cX12_copies 201 = .ok (.getfield 189, 3) := dk_o180 (by decide +kernel)
theorem dX12_copies_204 : decode cX12_copies 204 = .ok (.iload_n 1, 1) := dk_o27 (by decide +kernel)
theorem dX12_copies_205 : decode cX12_copies 205 = .ok (.aload_n 0, 1) := dk_o42 (by decide +kernel)
theorem dX12_copies_206 : decode cX12_copies 206 = .ok (.getfield 189, 3) := dk_o180 (by decide +kernel)
theorem dX12_copies_209 : decode cX12_copies 209 = .ok (.iload_n 2, 1) := dk_o28 (by decide +kernel)
theorem dX12_copies_210 : decode cX12_copies 210 = .ok (.iaload, 1) := dk_o46 (by decide +kernel)
theorem dX12_copies_211 : decode cX12_copies 211 = .ok (.iastore, 1) := dk_o79 (by decide +kernel)
theorem dX12_copies_212 : decode cX12_copies 212 = .ok (.iconst 0, 1) := dk_o3 (by decide +kernel)
theorem dX12_copies_213 : decode cX12_copies 213 = .ok (.istore_n 3, 1) := dk_o62 (by decide +kernel)
theorem dX12_copies_214 : decode cX12_copies 214 = .ok (.iload_n 3, 1) := dk_o29 (by decide +kernel)
theorem dX12_copies_215 : decode cX12_copies 215 = .ok (.iconst 4, 1) := dk_o7 (by decide +kernel)
theorem dX12_copies_216 : decode cX12_copies 216 = .ok (.aload_n 0, 1) := dk_o42 (by decide +kernel)
theorem dX12_copies_217 : decode cX12_copies 217 = .ok (.getfield 189, 3) := dk_o180 (by decide +kernel)
theorem dX12_copies_220 : decode cX12_copies 220 = .ok (.iload_n 2, 1) := dk_o28 (by decide +kernel)
theorem dX12_copies_221 : decode cX12_copies 221 = .ok (.iaload, 1) := dk_o46 (by decide +kernel)
theorem dX12_copies_222 : decode cX12_copies 222 = .ok (.imul, 1) := dk_o104 (by decide +kernel)
theorem dX12_copies_223 : decode cX12_copies 223 = .ok (.if_icmp .ge 33, 3) := dk_o162 (by decide +kernel)
theorem dX12_copies_226 : decode cX12_copies 226 = .ok (.aload_n 0, 1) := dk_o42 (by decide +kernel)
theorem dX12_copies_227 : decode cX12_copies 227 = .ok (.getfield 192, 3) := dk_o180 (by decide +kernel)
theorem dX12_copies_230 : decode cX12_copies 230 = .ok (.sipush 160, 3) := dk_o17 (by decide +kernel)
theorem dX12_copies_233 : decode cX12_copies 233 = .ok (.iload_n 1, 1) := dk_o27 (by decide +kernel)
theorem dX12_copies_234 : decode cX12_copies 234 = .ok (.imul, 1) := dk_o104 (by decide +kernel)
theorem dX12_copies_235 : decode cX12_copies 235 = .ok (.iload_n 3, 1) := dk_o29 (by decide +kernel)
theorem dX12_copies_236 : decode cX12_copies 236 = .ok (.iadd, 1) := dk_o96 (by decide +kernel)
theorem dX12_copies_237 : decode cX12_copies 237 = .ok (.aload_n 0, 1) := dk_o42 (by decide +kernel)
theorem dX12_copies_238 : decode cX12_copies 238 = .ok (.getfield 192, 3) := dk_o180 (by decide +kernel)
theorem dX12_copies_241 : decode cX12_copies 241 = .ok (.sipush 160, 3) := dk_o17 (by decide +kernel)
theorem dX12_copies_244 : decode cX12_copies 244 = .ok (.iload_n 2, 1) := dk_o28 (by decide +kernel)
theorem dX12_copies_245 : decode cX12_copies 245 = .ok (.imul, 1) := dk_o104 (by decide +kernel)
theorem dX12_copies_246 : decode cX12_copies 246 = .ok (.iload_n 3, 1) := dk_o29 (by decide +kernel)
theorem dX12_copies_247 : decode cX12_copies 247 = .ok (.iadd, 1) := dk_o96 (by decide +kernel)
theorem dX12_copies_248 : decode cX12_copies 248 = .ok (.iaload, 1) := dk_o46 (by decide +kernel)
theorem dX12_copies_249 : decode cX12_copies 249 = .ok (.iastore, 1) := dk_o79 (by decide +kernel)
theorem dX12_copies_250 : decode cX12_copies 250 = .ok (.iinc 3 1, 3) := dk_o132 (by decide +kernel)
theorem dX12_copies_253 : decode cX12_copies 253 = .ok (.goto (-39), 3) := dk_o167 (by decide +kernel)
theorem dX12_copies_256 : decode cX12_copies 256 = .ok (.return_, 1) := dk_o177 (by decide +kernel)
theorem dX12_within_0 : decode cX12_within 0 = .ok (.lload_n 0, 1) := dk_o30 (by decide +kernel)
theorem dX12_within_1 : decode cX12_within 1 = .ok (.ldc2_w 436, 3) := dk_o20 (by decide +kernel)
theorem dX12_within_4 : decode cX12_within 4 = .ok (.lcmp, 1) := dk_o148 (by decide +kernel)
theorem dX12_within_5 : decode cX12_within 5 = .ok (.ifCond .le 9, 3) := dk_o158 (by decide +kernel)
theorem dX12_within_8 : decode cX12_within 8 = .ok (.ldc2_w 436, 3) := dk_o20 (by decide +kernel)
theorem dX12_within_11 : decode cX12_within 11 = .ok (.goto 18, 3) := dk_o167 (by decide +kernel)
theorem dX12_within_14 : decode cX12_within 14 = .ok (.lload_n 0, 1) := dk_o30 (by decide +kernel)
theorem dX12_within_15 : decode cX12_within 15 = .ok (.ldc2_w 438, 3) := dk_o20 (by decide +kernel)
theorem dX12_within_18 : decode cX12_within 18 = .ok (.lcmp, 1) := dk_o148 (by decide +kernel)
theorem dX12_within_19 : decode cX12_within 19 = .ok (.ifCond .ge 9, 3) := dk_o156 (by decide +kernel)
theorem dX12_within_22 : decode cX12_within 22 = .ok (.ldc2_w 438, 3) := dk_o20 (by decide +kernel)
theorem dX12_within_25 : decode cX12_within 25 = .ok (.goto 4, 3) := dk_o167 (by decide +kernel)
theorem dX12_within_28 : decode cX12_within 28 = .ok (.lload_n 0, 1) := dk_o30 (by decide +kernel)
theorem dX12_within_29 : decode cX12_within 29 = .ok (.lreturn, 1) := dk_o173 (by decide +kernel)
theorem dX12_floor_0 : decode cX12_floor 0 = .ok (.lload_n 2, 1) := dk_o32 (by decide +kernel)
theorem dX12_floor_1 : decode cX12_floor 1 = .ok (.lconst 0, 1) := dk_o9 (by decide +kernel)
theorem dX12_floor_2 : decode cX12_floor 2 = .ok (.lcmp, 1) := dk_o148 (by decide +kernel)
theorem dX12_floor_3 : decode cX12_floor 3 = .ok (.ifCond .ne 5, 3) := dk_o154 (by decide +kernel)
theorem dX12_floor_6 : decode cX12_floor 6 = .ok (.lconst 0, 1) := dk_o9 (by decide +kernel)
theorem dX12_floor_7 : decode cX12_floor 7 = .ok (.lreturn, 1) := dk_o173 (by decide +kernel)
theorem dX12_floor_8 : decode cX12_floor 8 = .ok (.lload_n 0, 1) := dk_o30 (by decide +kernel)
theorem dX12_floor_9 : decode cX12_floor 9 = .ok (.lload_n 2, 1) := dk_o32 (by decide +kernel)
theorem dX12_floor_10 : decode cX12_floor 10 = .ok (.ldiv, 1) := dk_o109 (by decide +kernel)
theorem dX12_floor_11 : decode cX12_floor 11 = .ok (.lstore 4, 2) := dk_o55 (by decide +kernel)
theorem dX12_floor_13 : decode cX12_floor 13 = .ok (.lload_n 0, 1) := dk_o30 (by decide +kernel)
theorem dX12_floor_14 : decode cX12_floor 14 = .ok (.lload_n 2, 1) := dk_o32 (by decide +kernel)
theorem dX12_floor_15 : decode cX12_floor 15 = .ok (.lrem, 1) := dk_o113 (by decide +kernel)
theorem dX12_floor_16 : decode cX12_floor 16 = .ok (.lconst 0, 1) := dk_o9 (by decide +kernel)
theorem dX12_floor_17 : decode cX12_floor 17 = .ok (.lcmp, 1) := dk_o148 (by decide +kernel)
theorem dX12_floor_18 : decode cX12_floor 18 = .ok (.ifCond .eq 35, 3) := dk_o153 (by decide +kernel)
theorem dX12_floor_21 : decode cX12_floor 21 = .ok (.lload_n 0, 1) := dk_o30 (by decide +kernel)
theorem dX12_floor_22 : decode cX12_floor 22 = .ok (.lconst 0, 1) := dk_o9 (by decide +kernel)
theorem dX12_floor_23 : decode cX12_floor 23 = .ok (.lcmp, 1) := dk_o148 (by decide +kernel)
theorem dX12_floor_24 : decode cX12_floor 24 = .ok (.ifCond .ge 7, 3) := dk_o156 (by decide +kernel)
theorem dX12_floor_27 : decode cX12_floor 27 = .ok (.iconst 1, 1) := dk_o4 (by decide +kernel)
theorem dX12_floor_28 : decode cX12_floor 28 = .ok (.goto 4, 3) := dk_o167 (by decide +kernel)
theorem dX12_floor_31 : decode cX12_floor 31 = .ok (.iconst 0, 1) := dk_o3 (by decide +kernel)
theorem dX12_floor_32 : decode cX12_floor 32 = .ok (.lload_n 2, 1) := dk_o32 (by decide +kernel)
theorem dX12_floor_33 : decode cX12_floor 33 = .ok (.lconst 0, 1) := dk_o9 (by decide +kernel)
theorem dX12_floor_34 : decode cX12_floor 34 = .ok (.lcmp, 1) := dk_o148 (by decide +kernel)
theorem dX12_floor_35 : decode cX12_floor 35 = .ok (.ifCond .ge 7, 3) := dk_o156 (by decide +kernel)
theorem dX12_floor_38 : decode cX12_floor 38 = .ok (.iconst 1, 1) := dk_o4 (by decide +kernel)
theorem dX12_floor_39 : decode cX12_floor 39 = .ok (.goto 4, 3) := dk_o167 (by decide +kernel)
theorem dX12_floor_42 : decode cX12_floor 42 = .ok (.iconst 0, 1) := dk_o3 (by decide +kernel)
theorem dX12_floor_43 : decode cX12_floor 43 = .ok (.if_icmp .eq 10, 3) := dk_o159 (by decide +kernel)
theorem dX12_floor_46 : decode cX12_floor 46 = .ok (.lload 4, 2) := dk_o22 (by decide +kernel)
theorem dX12_floor_48 : decode cX12_floor 48 = .ok (.lconst 1, 1) := dk_o10 (by decide +kernel)
theorem dX12_floor_49 : decode cX12_floor 49 = .ok (.lsub, 1) := dk_o101 (by decide +kernel)
theorem dX12_floor_50 : decode cX12_floor 50 = .ok (.goto 5, 3) := dk_o167 (by decide +kernel)
theorem dX12_floor_53 : decode cX12_floor 53 = .ok (.lload 4, 2) := dk_o22 (by decide +kernel)
theorem dX12_floor_55 : decode cX12_floor 55 = .ok (.lreturn, 1) := dk_o173 (by decide +kernel)
theorem dX12_two_0 : decode cX12_two 0 = .ok (.iload_n 0, 1) := dk_o26 (by decide +kernel)
theorem dX12_two_1 : decode cX12_two 1 = .ok (.tableswitch 176 31 41 #[59, 66, 73, 80, 89, 112, 124, 136, 148, 160, 172], 59) := by decide +kernel
theorem dX12_two_60 : decode cX12_two 60 = .ok (.lload_n 1, 1) := dk_o31 (by decide +kernel)
theorem dX12_two_61 : decode cX12_two 61 = .ok (.lload_n 3, 1) := dk_o33 (by decide +kernel)
theorem dX12_two_62 : decode cX12_two 62 = .ok (.ladd, 1) := dk_o97 (by decide +kernel)
theorem dX12_two_63 : decode cX12_two 63 = .ok (.invokestatic 440, 3) := dk_o184 (by decide +kernel)
theorem dX12_two_66 : decode cX12_two 66 = .ok (.lreturn, 1) := dk_o173 (by decide +kernel)
theorem dX12_two_67 : decode cX12_two 67 = .ok (.lload_n 1, 1) := dk_o31 (by decide +kernel)
theorem dX12_two_68 : decode cX12_two 68 = .ok (.lload_n 3, 1) := dk_o33 (by decide +kernel)
theorem dX12_two_69 : decode cX12_two 69 = .ok (.lsub, 1) := dk_o101 (by decide +kernel)
theorem dX12_two_70 : decode cX12_two 70 = .ok (.invokestatic 440, 3) := dk_o184 (by decide +kernel)
theorem dX12_two_73 : decode cX12_two 73 = .ok (.lreturn, 1) := dk_o173 (by decide +kernel)
theorem dX12_two_74 : decode cX12_two 74 = .ok (.lload_n 1, 1) := dk_o31 (by decide +kernel)
theorem dX12_two_75 : decode cX12_two 75 = .ok (.lload_n 3, 1) := dk_o33 (by decide +kernel)
theorem dX12_two_76 : decode cX12_two 76 = .ok (.lmul, 1) := dk_o105 (by decide +kernel)
theorem dX12_two_77 : decode cX12_two 77 = .ok (.invokestatic 440, 3) := dk_o184 (by decide +kernel)
theorem dX12_two_80 : decode cX12_two 80 = .ok (.lreturn, 1) := dk_o173 (by decide +kernel)
theorem dX12_two_81 : decode cX12_two 81 = .ok (.lload_n 1, 1) := dk_o31 (by decide +kernel)
theorem dX12_two_82 : decode cX12_two 82 = .ok (.lload_n 3, 1) := dk_o33 (by decide +kernel)
theorem dX12_two_83 : decode cX12_two 83 = .ok (.invokestatic 444, 3) := dk_o184 (by decide +kernel)
theorem dX12_two_86 : decode cX12_two 86 = .ok (.invokestatic 440, 3) := dk_o184 (by decide +kernel)
theorem dX12_two_89 : decode cX12_two 89 = .ok (.lreturn, 1) := dk_o173 (by decide +kernel)
theorem dX12_two_90 : decode cX12_two 90 = .ok (.lload_n 3, 1) := dk_o33 (by decide +kernel)
theorem dX12_two_91 : decode cX12_two 91 = .ok (.lconst 0, 1) := dk_o9 (by decide +kernel)
theorem dX12_two_92 : decode cX12_two 92 = .ok (.lcmp, 1) := dk_o148 (by decide +kernel)
theorem dX12_two_93 : decode cX12_two 93 = .ok (.ifCond .ne 7, 3) := dk_o154 (by decide +kernel)
theorem dX12_two_96 : decode cX12_two 96 = .ok (.lconst 0, 1) := dk_o9 (by decide +kernel)
theorem dX12_two_97 : decode cX12_two 97 = .ok (.goto 15, 3) := dk_o167 (by decide +kernel)
theorem dX12_two_100 : decode cX12_two 100 = .ok (.lload_n 1, 1) := dk_o31 (by decide +kernel)
theorem dX12_two_101 : decode cX12_two 101 = .ok (.lload_n 3, 1) := dk_o33 (by decide +kernel)
theorem dX12_two_102 : decode cX12_two 102 = .ok (.lload_n 1, 1) := dk_o31 (by decide +kernel)
theorem dX12_two_103 : decode cX12_two 103 = .ok (.lload_n 3, 1) := dk_o33 (by decide +kernel)
theorem dX12_two_104 : decode cX12_two 104 = .ok (.invokestatic 444, 3) := dk_o184 (by decide +kernel)
theorem dX12_two_107 : decode cX12_two 107 = .ok (.lmul, 1) := dk_o105 (by decide +kernel)
theorem dX12_two_108 : decode cX12_two 108 = .ok (.lsub, 1) := dk_o101 (by decide +kernel)
theorem dX12_two_109 : decode cX12_two 109 = .ok (.invokestatic 440, 3) := dk_o184 (by decide +kernel)
theorem dX12_two_112 : decode cX12_two 112 = .ok (.lreturn, 1) := dk_o173 (by decide +kernel)
theorem dX12_two_113 : decode cX12_two 113 = .ok (.lload_n 1, 1) := dk_o31 (by decide +kernel)
theorem dX12_two_114 : decode cX12_two 114 = .ok (.lload_n 3, 1) := dk_o33 (by decide +kernel)
theorem dX12_two_115 : decode cX12_two 115 = .ok (.lcmp, 1) := dk_o148 (by decide +kernel)
theorem dX12_two_116 : decode cX12_two 116 = .ok (.ifCond .ge 7, 3) := dk_o156 (by decide +kernel)
theorem dX12_two_119 : decode cX12_two 119 = .ok (.lload_n 1, 1) := dk_o31 (by decide +kernel)
theorem dX12_two_120 : decode cX12_two 120 = .ok (.goto 4, 3) := dk_o167 (by decide +kernel)
theorem dX12_two_123 : decode cX12_two 123 = .ok (.lload_n 3, 1) := dk_o33 (by decide +kernel)
theorem dX12_two_124 : decode cX12_two 124 = .ok (.lreturn, 1) := dk_o173 (by decide +kernel)
theorem dX12_two_125 : decode cX12_two 125 = .ok (.lload_n 1, 1) := dk_o31 (by decide +kernel)
theorem dX12_two_126 : decode cX12_two 126 = .ok (.lload_n 3, 1) := dk_o33 (by decide +kernel)
theorem dX12_two_127 : decode cX12_two 127 = .ok (.lcmp, 1) := dk_o148 (by decide +kernel)
theorem dX12_two_128 : decode cX12_two 128 = .ok (.ifCond .le 7, 3) := dk_o158 (by decide +kernel)
theorem dX12_two_131 : decode cX12_two 131 = .ok (.lload_n 1, 1) := dk_o31 (by decide +kernel)
theorem dX12_two_132 : decode cX12_two 132 = .ok (.goto 4, 3) := dk_o167 (by decide +kernel)
theorem dX12_two_135 : decode cX12_two 135 = .ok (.lload_n 3, 1) := dk_o33 (by decide +kernel)
theorem dX12_two_136 : decode cX12_two 136 = .ok (.lreturn, 1) := dk_o173 (by decide +kernel)
theorem dX12_two_137 : decode cX12_two 137 = .ok (.lload_n 1, 1) := dk_o31 (by decide +kernel)
theorem dX12_two_138 : decode cX12_two 138 = .ok (.lload_n 3, 1) := dk_o33 (by decide +kernel)
theorem dX12_two_139 : decode cX12_two 139 = .ok (.lcmp, 1) := dk_o148 (by decide +kernel)
theorem dX12_two_140 : decode cX12_two 140 = .ok (.ifCond .ge 7, 3) := dk_o156 (by decide +kernel)
theorem dX12_two_143 : decode cX12_two 143 = .ok (.lconst 1, 1) := dk_o10 (by decide +kernel)
theorem dX12_two_144 : decode cX12_two 144 = .ok (.goto 4, 3) := dk_o167 (by decide +kernel)
theorem dX12_two_147 : decode cX12_two 147 = .ok (.lconst 0, 1) := dk_o9 (by decide +kernel)
theorem dX12_two_148 : decode cX12_two 148 = .ok (.lreturn, 1) := dk_o173 (by decide +kernel)
theorem dX12_two_149 : decode cX12_two 149 = .ok (.lload_n 1, 1) := dk_o31 (by decide +kernel)
theorem dX12_two_150 : decode cX12_two 150 = .ok (.lload_n 3, 1) := dk_o33 (by decide +kernel)
theorem dX12_two_151 : decode cX12_two 151 = .ok (.lcmp, 1) := dk_o148 (by decide +kernel)
theorem dX12_two_152 : decode cX12_two 152 = .ok (.ifCond .le 7, 3) := dk_o158 (by decide +kernel)
theorem dX12_two_155 : decode cX12_two 155 = .ok (.lconst 1, 1) := dk_o10 (by decide +kernel)
theorem dX12_two_156 : decode cX12_two 156 = .ok (.goto 4, 3) := dk_o167 (by decide +kernel)
theorem dX12_two_159 : decode cX12_two 159 = .ok (.lconst 0, 1) := dk_o9 (by decide +kernel)
theorem dX12_two_160 : decode cX12_two 160 = .ok (.lreturn, 1) := dk_o173 (by decide +kernel)
theorem dX12_two_161 : decode cX12_two 161 = .ok (.lload_n 1, 1) := dk_o31 (by decide +kernel)
theorem dX12_two_162 : decode cX12_two 162 = .ok (.lload_n 3, 1) := dk_o33 (by decide +kernel)
theorem dX12_two_163 : decode cX12_two 163 = .ok (.lcmp, 1) := dk_o148 (by decide +kernel)
theorem dX12_two_164 : decode cX12_two 164 = .ok (.ifCond .ne 7, 3) := dk_o154 (by decide +kernel)
theorem dX12_two_167 : decode cX12_two 167 = .ok (.lconst 1, 1) := dk_o10 (by decide +kernel)
theorem dX12_two_168 : decode cX12_two 168 = .ok (.goto 4, 3) := dk_o167 (by decide +kernel)
theorem dX12_two_171 : decode cX12_two 171 = .ok (.lconst 0, 1) := dk_o9 (by decide +kernel)
theorem dX12_two_172 : decode cX12_two 172 = .ok (.lreturn, 1) := dk_o173 (by decide +kernel)
theorem dX12_two_173 : decode cX12_two 173 = .ok (.lload_n 1, 1) := dk_o31 (by decide +kernel)
theorem dX12_two_174 : decode cX12_two 174 = .ok (.lload_n 3, 1) := dk_o33 (by decide +kernel)
theorem dX12_two_175 : decode cX12_two 175 = .ok (.land, 1) := dk_o127 (by decide +kernel)
theorem dX12_two_176 : decode cX12_two 176 = .ok (.lreturn, 1) := dk_o173 (by decide +kernel)
theorem dX12_two_177 : decode cX12_two 177 = .ok (.lload_n 1, 1) := dk_o31 (by decide +kernel)
theorem dX12_two_178 : decode cX12_two 178 = .ok (.lload_n 3, 1) := dk_o33 (by decide +kernel)
theorem dX12_two_179 : decode cX12_two 179 = .ok (.lor, 1) := dk_o129 (by decide +kernel)
theorem dX12_two_180 : decode cX12_two 180 = .ok (.lreturn, 1) := dk_o173 (by decide +kernel)
theorem dX12_reckons_0 : decode cX12_reckons 0 = .ok (.iconst 0, 1) := dk_o3 (by decide +kernel)
theorem dX12_reckons_1 : decode cX12_reckons 1 = .ok (.istore_n 2, 1) := dk_o61 (by decide +kernel)
theorem dX12_reckons_2 : decode cX12_reckons 2 = .ok (.sipush 1600, 3) := dk_o17 (by decide +kernel)
theorem dX12_reckons_5 : decode cX12_reckons 5 = .ok (.aload_n 0, 1) := dk_o42 (by decide +kernel)
theorem dX12_reckons_6 : decode cX12_reckons 6 = .ok (.getfield 51, 3) := dk_o180 (by decide +kernel)
theorem dX12_reckons_9 : decode cX12_reckons 9 = .ok (.imul, 1) := dk_o104 (by decide +kernel)
theorem dX12_reckons_10 : decode cX12_reckons 10 = .ok (.aload_n 0, 1) := dk_o42 (by decide +kernel)
theorem dX12_reckons_11 : decode cX12_reckons 11 = .ok (.getfield 96, 3) := dk_o180 (by decide +kernel)
theorem dX12_reckons_14 : decode cX12_reckons 14 = .ok (.iconst 3, 1) := dk_o6 (by decide +kernel)
theorem dX12_reckons_15 : decode cX12_reckons 15 = .ok (.aload_n 0, 1) := dk_o42 (by decide +kernel)
theorem dX12_reckons_16 : decode cX12_reckons 16 = .ok (.getfield 51, 3) := dk_o180 (by decide +kernel)
theorem dX12_reckons_19 : decode cX12_reckons 19 = .ok (.imul, 1) := dk_o104 (by decide +kernel)
theorem dX12_reckons_20 : decode cX12_reckons 20 = .ok (.iload_n 1, 1) := dk_o27 (by decide +kernel)
theorem dX12_reckons_21 : decode cX12_reckons 21 = .ok (.iadd, 1) := dk_o96 (by decide +kernel)
theorem dX12_reckons_22 : decode cX12_reckons 22 = .ok (.iaload, 1) := dk_o46 (by decide +kernel)
theorem dX12_reckons_23 : decode cX12_reckons 23 = .ok (.iadd, 1) := dk_o96 (by decide +kernel)
theorem dX12_reckons_24 : decode cX12_reckons 24 = .ok (.istore_n 3, 1) := dk_o62 (by decide +kernel)
theorem dX12_reckons_25 : decode cX12_reckons 25 = .ok (.iload_n 3, 1) := dk_o29 (by decide +kernel)
theorem dX12_reckons_26 : decode cX12_reckons 26 = .ok (.sipush 1600, 3) := dk_o17 (by decide +kernel)
theorem dX12_reckons_29 : decode cX12_reckons 29 = .ok (.aload_n 0, 1) := dk_o42 (by decide +kernel)
theorem dX12_reckons_30 : decode cX12_reckons 30 = .ok (.getfield 51, 3) := dk_o180 (by decide +kernel)
theorem dX12_reckons_33 : decode cX12_reckons 33 = .ok (.imul, 1) := dk_o104 (by decide +kernel)
theorem dX12_reckons_34 : decode cX12_reckons 34 = .ok (.aload_n 0, 1) := dk_o42 (by decide +kernel)
theorem dX12_reckons_35 : decode cX12_reckons 35 = .ok (.getfield 99, 3) := dk_o180 (by decide +kernel)
theorem dX12_reckons_38 : decode cX12_reckons 38 = .ok (.iconst 3, 1) := dk_o6 (by decide +kernel)
theorem dX12_reckons_39 : decode cX12_reckons 39 = .ok (.aload_n 0, 1) := dk_o42 (by decide +kernel)
theorem dX12_reckons_40 : decode cX12_reckons 40 = .ok (.getfield 51, 3) := dk_o180 (by decide +kernel)
theorem dX12_reckons_43 : decode cX12_reckons 43 = .ok (.imul, 1) := dk_o104 (by decide +kernel)
theorem dX12_reckons_44 : decode cX12_reckons 44 = .ok (.iload_n 1, 1) := dk_o27 (by decide +kernel)
theorem dX12_reckons_45 : decode cX12_reckons 45 = .ok (.iadd, 1) := dk_o96 (by decide +kernel)
theorem dX12_reckons_46 : decode cX12_reckons 46 = .ok (.iaload, 1) := dk_o46 (by decide +kernel)
theorem dX12_reckons_47 : decode cX12_reckons 47 = .ok (.iadd, 1) := dk_o96 (by decide +kernel)
theorem dX12_reckons_48 : decode cX12_reckons 48 = .ok (.if_icmp .ge 179, 3) := dk_o162 (by decide +kernel)
theorem dX12_reckons_51 : decode cX12_reckons 51 = .ok (.aload_n 0, 1) := dk_o42 (by decide +kernel)
theorem dX12_reckons_52 : decode cX12_reckons 52 = .ok (.getfield 102, 3) := dk_o180 (by decide +kernel)
theorem dX12_reckons_55 : decode cX12_reckons 55 = .ok (.iload_n 3, 1) := dk_o29 (by decide +kernel)
theorem dX12_reckons_56 : decode cX12_reckons 56 = .ok (.iaload, 1) := dk_o46 (by decide +kernel)
theorem dX12_reckons_57 : decode cX12_reckons 57 = .ok (.istore 4, 2) := dk_o54 (by decide +kernel)
theorem dX12_reckons_59 : decode cX12_reckons 59 = .ok (.iload 4, 2) := dk_o21 (by decide +kernel)
theorem dX12_reckons_61 : decode cX12_reckons 61 = .ok (.bipush 30, 2) := dk_o16 (by decide +kernel)
theorem dX12_reckons_63 : decode cX12_reckons 63 = .ok (.if_icmp .gt 49, 3) := dk_o163 (by decide +kernel)
theorem dX12_reckons_66 : decode cX12_reckons 66 = .ok (.aload_n 0, 1) := dk_o42 (by decide +kernel)
theorem dX12_reckons_67 : decode cX12_reckons 67 = .ok (.getfield 207, 3) := dk_o180 (by decide +kernel)
theorem dX12_reckons_70 : decode cX12_reckons 70 = .ok (.iload_n 2, 1) := dk_o28 (by decide +kernel)
theorem dX12_reckons_71 : decode cX12_reckons 71 = .ok (.iload 4, 2) := dk_o21 (by decide +kernel)
theorem dX12_reckons_73 : decode cX12_reckons 73 = .ok (.ifCond .ne 13, 3) := dk_o154 (by decide +kernel)
theorem dX12_reckons_76 : decode cX12_reckons 76 = .ok (.aload_n 0, 1) := dk_o42 (by decide +kernel)
theorem dX12_reckons_77 : decode cX12_reckons 77 = .ok (.getfield 105, 3) := dk_o180 (by decide +kernel)
theorem dX12_reckons_80 : decode cX12_reckons 80 = .ok (.iload_n 3, 1) := dk_o29 (by decide +kernel)
theorem dX12_reckons_81 : decode cX12_reckons 81 = .ok (.iaload, 1) := dk_o46 (by decide +kernel)
theorem dX12_reckons_82 : decode cX12_reckons 82 = .ok (.i2l, 1) := dk_o133 (by decide +kernel)
theorem dX12_reckons_83 : decode cX12_reckons 83 = .ok (.goto 22, 3) := dk_o167 (by decide +kernel)
theorem dX12_reckons_86 : decode cX12_reckons 86 = .ok (.iload 4, 2) := dk_o21 (by decide +kernel)
theorem dX12_reckons_88 : decode cX12_reckons 88 = .ok (.bipush 30, 2) := dk_o16 (by decide +kernel)
theorem dX12_reckons_90 : decode cX12_reckons 90 = .ok (.if_icmp .ne 7, 3) := dk_o160 (by decide +kernel)
theorem dX12_reckons_93 : decode cX12_reckons 93 = .ok (.lconst 1, 1) := dk_o10 (by decide +kernel)
theorem dX12_reckons_94 : decode cX12_reckons 94 = .ok (.goto 11, 3) := dk_o167 (by decide +kernel)
theorem dX12_reckons_97 : decode cX12_reckons 97 = .ok (.aload_n 0, 1) := dk_o42 (by decide +kernel)
theorem dX12_reckons_98 : decode cX12_reckons 98 = .ok (.getfield 210, 3) := dk_o180 (by decide +kernel)
theorem dX12_reckons_101 : decode cX12_reckons 101 = .ok (.iload 4, 2) := dk_o21 (by decide +kernel)
theorem dX12_reckons_103 : decode cX12_reckons 103 = .ok (.iaload, 1) := dk_o46 (by decide +kernel)
theorem dX12_reckons_104 : decode cX12_reckons 104 = .ok (.i2l, 1) := dk_o133 (by decide +kernel)
theorem dX12_reckons_105 : decode cX12_reckons 105 = .ok (.lastore, 1) := dk_o80 (by decide +kernel)
theorem dX12_reckons_106 : decode cX12_reckons 106 = .ok (.iinc 2 1, 3) := dk_o132 (by decide +kernel)
theorem dX12_reckons_109 : decode cX12_reckons 109 = .ok (.goto 112, 3) := dk_o167 (by decide +kernel)
theorem dX12_reckons_112 : decode cX12_reckons 112 = .ok (.iload 4, 2) := dk_o21 (by decide +kernel)
theorem dX12_reckons_114 : decode cX12_reckons 114 = .ok (.bipush 43, 2) := dk_o16 (by decide +kernel)
theorem dX12_reckons_116 : decode cX12_reckons 116 = .ok (.if_icmp .ne 24, 3) := dk_o160 (by decide +kernel)
theorem dX12_reckons_119 : decode cX12_reckons 119 = .ok (.aload_n 0, 1) := dk_o42 (by decide +kernel)
theorem dX12_reckons_120 : decode cX12_reckons 120 = .ok (.getfield 207, 3) := dk_o180 (by decide +kernel)
theorem dX12_reckons_123 : decode cX12_reckons 123 = .ok (.iload_n 2, 1) := dk_o28 (by decide +kernel)
theorem dX12_reckons_124 : decode cX12_reckons 124 = .ok (.iconst 1, 1) := dk_o4 (by decide +kernel)
theorem dX12_reckons_125 : decode cX12_reckons 125 = .ok (.isub, 1) := dk_o100 (by decide +kernel)
theorem dX12_reckons_126 : decode cX12_reckons 126 = .ok (.lconst 1, 1) := dk_o10 (by decide +kernel)
theorem dX12_reckons_127 : decode cX12_reckons 127 = .ok (.aload_n 0, 1) := dk_o42 (by decide +kernel)
theorem dX12_reckons_128 : decode cX12_reckons 128 = .ok (.getfield 207, 3) := dk_o180 (by decide +kernel)
theorem dX12_reckons_131 : decode cX12_reckons 131 = .ok (.iload_n 2, 1) := dk_o28 (by decide +kernel)
theorem dX12_reckons_132 : decode cX12_reckons 132 = .ok (.iconst 1, 1) := dk_o4 (by decide +kernel)
theorem dX12_reckons_133 : decode cX12_reckons 133 = .ok (.isub, 1) := dk_o100 (by decide +kernel)
theorem dX12_reckons_134 : decode cX12_reckons 134 = .ok (.laload, 1) := dk_o47 (by decide +kernel)
theorem dX12_reckons_135 : decode cX12_reckons 135 = .ok (.lsub, 1) := dk_o101 (by decide +kernel)
theorem dX12_reckons_136 : decode cX12_reckons 136 = .ok (.lastore, 1) := dk_o80 (by decide +kernel)
theorem dX12_reckons_137 : decode cX12_reckons 137 = .ok (.goto 84, 3) := dk_o167 (by decide +kernel)
theorem dX12_reckons_140 : decode cX12_reckons 140 = .ok (.iload 4, 2) := dk_o21 (by decide +kernel)
theorem dX12_reckons_142 : decode cX12_reckons 142 = .ok (.bipush 44, 2) := dk_o16 (by decide +kernel)
theorem dX12_reckons_144 : decode cX12_reckons 144 = .ok (.if_icmp .ne 47, 3) := dk_o160 (by decide +kernel)
theorem dX12_reckons_147 : decode cX12_reckons 147 = .ok (.iinc 2 (-2), 3) := dk_o132 (by decide +kernel)
theorem dX12_reckons_150 : decode cX12_reckons 150 = .ok (.aload_n 0, 1) := dk_o42 (by decide +kernel)
theorem dX12_reckons_151 : decode cX12_reckons 151 = .ok (.getfield 207, 3) := dk_o180 (by decide +kernel)
theorem dX12_reckons_154 : decode cX12_reckons 154 = .ok (.iload_n 2, 1) := dk_o28 (by decide +kernel)
theorem dX12_reckons_155 : decode cX12_reckons 155 = .ok (.iconst 1, 1) := dk_o4 (by decide +kernel)
theorem dX12_reckons_156 : decode cX12_reckons 156 = .ok (.isub, 1) := dk_o100 (by decide +kernel)
theorem dX12_reckons_157 : decode cX12_reckons 157 = .ok (.aload_n 0, 1) := dk_o42 (by decide +kernel)
theorem dX12_reckons_158 : decode cX12_reckons 158 = .ok (.getfield 207, 3) := dk_o180 (by decide +kernel)
theorem dX12_reckons_161 : decode cX12_reckons 161 = .ok (.iload_n 2, 1) := dk_o28 (by decide +kernel)
theorem dX12_reckons_162 : decode cX12_reckons 162 = .ok (.iconst 1, 1) := dk_o4 (by decide +kernel)
theorem dX12_reckons_163 : decode cX12_reckons 163 = .ok (.isub, 1) := dk_o100 (by decide +kernel)
theorem dX12_reckons_164 : decode cX12_reckons 164 = .ok (.laload, 1) := dk_o47 (by decide +kernel)
theorem dX12_reckons_165 : decode cX12_reckons 165 = .ok (.lconst 1, 1) := dk_o10 (by decide +kernel)
theorem dX12_reckons_166 : decode cX12_reckons 166 = .ok (.lcmp, 1) := dk_o148 (by decide +kernel)
theorem dX12_reckons_167 : decode cX12_reckons 167 = .ok (.ifCond .ne 12, 3) := dk_o154 (by decide +kernel)
theorem dX12_reckons_170 : decode cX12_reckons 170 = .ok (.aload_n 0, 1) := dk_o42 (by decide +kernel)
theorem dX12_reckons_171 : decode cX12_reckons 171 = .ok (.getfield 207, 3) := dk_o180 (by decide +kernel)
theorem dX12_reckons_174 : decode cX12_reckons 174 = .ok (.iload_n 2, 1) := dk_o28 (by decide +kernel)
theorem dX12_reckons_175 : decode cX12_reckons 175 = .ok (.laload, 1) := dk_o47 (by decide +kernel)
theorem dX12_reckons_176 : decode cX12_reckons 176 = .ok (.goto 11, 3) := dk_o167 (by decide +kernel)
theorem dX12_reckons_179 : decode cX12_reckons 179 = .ok (.aload_n 0, 1) := dk_o42 (by decide +kernel)
theorem dX12_reckons_180 : decode cX12_reckons 180 = .ok (.getfield 207, 3) := dk_o180 (by decide +kernel)
theorem dX12_reckons_183 : decode cX12_reckons 183 = .ok (.iload_n 2, 1) := dk_o28 (by decide +kernel)
theorem dX12_reckons_184 : decode cX12_reckons 184 = .ok (.iconst 1, 1) := dk_o4 (by decide +kernel)
theorem dX12_reckons_185 : decode cX12_reckons 185 = .ok (.iadd, 1) := dk_o96 (by decide +kernel)
theorem dX12_reckons_186 : decode cX12_reckons 186 = .ok (.laload, 1) := dk_o47 (by decide +kernel)
theorem dX12_reckons_187 : decode cX12_reckons 187 = .ok (.lastore, 1) := dk_o80 (by decide +kernel)
theorem dX12_reckons_188 : decode cX12_reckons 188 = .ok (.goto 33, 3) := dk_o167 (by decide +kernel)
theorem dX12_reckons_191 : decode cX12_reckons 191 = .ok (.iinc 2 (-1), 3) := dk_o132 (by decide +kernel)
theorem dX12_reckons_194 : decode cX12_reckons 194 = .ok (.aload_n 0, 1) := dk_o42 (by decide +kernel)
theorem dX12_reckons_195 : decode cX12_reckons 195 = .ok (.getfield 207, 3) := dk_o180 (by decide +kernel)
theorem dX12_reckons_198 : decode cX12_reckons 198 = .ok (.iload_n 2, 1) := dk_o28 (by decide +kernel)
theorem dX12_reckons_199 : decode cX12_reckons 199 = .ok (.iconst 1, 1) := dk_o4 (by decide +kernel)
theorem dX12_reckons_200 : decode cX12_reckons 200 = .ok (.isub, 1) := dk_o100 (by decide +kernel)
theorem dX12_reckons_201 : decode cX12_reckons 201 = .ok (.iload 4, 2) := dk_o21 (by decide +kernel)
theorem dX12_reckons_203 : decode cX12_reckons 203 = .ok (.aload_n 0, 1) := dk_o42 (by decide +kernel)
theorem dX12_reckons_204 : decode cX12_reckons 204 = .ok (.getfield 207, 3) := dk_o180 (by decide +kernel)
theorem dX12_reckons_207 : decode cX12_reckons 207 = .ok (.iload_n 2, 1) := dk_o28 (by decide +kernel)
theorem dX12_reckons_208 : decode cX12_reckons 208 = .ok (.iconst 1, 1) := dk_o4 (by decide +kernel)
theorem dX12_reckons_209 : decode cX12_reckons 209 = .ok (.isub, 1) := dk_o100 (by decide +kernel)
theorem dX12_reckons_210 : decode cX12_reckons 210 = .ok (.laload, 1) := dk_o47 (by decide +kernel)
theorem dX12_reckons_211 : decode cX12_reckons 211 = .ok (.aload_n 0, 1) := dk_o42 (by decide +kernel)
theorem dX12_reckons_212 : decode cX12_reckons 212 = .ok (.getfield 207, 3) := dk_o180 (by decide +kernel)
theorem dX12_reckons_215 : decode cX12_reckons 215 = .ok (.iload_n 2, 1) := dk_o28 (by decide +kernel)
theorem dX12_reckons_216 : decode cX12_reckons 216 = .ok (.laload, 1) := dk_o47 (by decide +kernel)
theorem dX12_reckons_217 : decode cX12_reckons 217 = .ok (.invokestatic 448, 3) := dk_o184 (by decide +kernel)
theorem dX12_reckons_220 : decode cX12_reckons 220 = .ok (.lastore, 1) := dk_o80 (by decide +kernel)
theorem dX12_reckons_221 : decode cX12_reckons 221 = .ok (.iinc 3 1, 3) := dk_o132 (by decide +kernel)
theorem dX12_reckons_224 : decode cX12_reckons 224 = .ok (.goto (-199), 3) := dk_o167 (by decide +kernel)
theorem dX12_reckons_227 : decode cX12_reckons 227 = .ok (.aload_n 0, 1) := dk_o42 (by decide +kernel)
theorem dX12_reckons_228 : decode cX12_reckons 228 = .ok (.getfield 207, 3) := dk_o180 (by decide +kernel)
theorem dX12_reckons_231 : decode cX12_reckons 231 = .ok (.iconst 0, 1) := dk_o3 (by decide +kernel)
theorem dX12_reckons_232 : decode cX12_reckons 232 = .ok (.laload, 1) := dk_o47 (by decide +kernel)
theorem dX12_reckons_233 : decode cX12_reckons 233 = .ok (.lreturn, 1) := dk_o173 (by decide +kernel)
theorem dX12_measures_0 : decode cX12_measures 0 = .ok (.iconst 0, 1) := dk_o3 (by decide +kernel)
theorem dX12_measures_1 : decode cX12_measures 1 = .ok (.istore_n 2, 1) := dk_o61 (by decide +kernel)
theorem dX12_measures_2 : decode cX12_measures 2 = .ok (.iload_n 2, 1) := dk_o28 (by decide +kernel)
theorem dX12_measures_3 : decode cX12_measures 3 = .ok (.bipush 64, 2) := dk_o16 (by decide +kernel)
theorem dX12_measures_5 : decode cX12_measures 5 = .ok (.if_icmp .ge 35, 3) := dk_o162 (by decide +kernel)
theorem dX12_measures_8 : decode cX12_measures 8 = .ok (.aload_n 0, 1) := dk_o42 (by decide +kernel)
theorem dX12_measures_9 : decode cX12_measures 9 = .ok (.getfield 213, 3) := dk_o180 (by decide +kernel)
theorem dX12_measures_12 : decode cX12_measures 12 = .ok (.iload_n 2, 1) := dk_o28 (by decide +kernel)
theorem dX12_measures_13 : decode cX12_measures 13 = .ok (.iload_n 2, 1) := dk_o28 (by decide +kernel)
theorem dX12_measures_14 : decode cX12_measures 14 = .ok (.aload_n 0, 1) := dk_o42 (by decide +kernel)
theorem dX12_measures_15 : decode cX12_measures 15 = .ok (.getfield 60, 3) := dk_o180 (by decide +kernel)
theorem dX12_measures_18 : decode cX12_measures 18 = .ok (.aload_n 0, 1) := dk_o42 (by decide +kernel)
theorem dX12_measures_19 : decode cX12_measures 19 = .ok (.getfield 51, 3) := dk_o180 (by decide +kernel)
theorem dX12_measures_22 : decode cX12_measures 22 = .ok (.iaload, 1) := dk_o46 (by decide +kernel)
theorem dX12_measures_23 : decode cX12_measures 23 = .ok (.if_icmp .ne 7, 3) := dk_o160 (by decide +kernel)
theorem dX12_measures_26 : decode cX12_measures 26 = .ok (.iconst 0, 1) := dk_o3 (by decide +kernel)
theorem dX12_measures_27 : decode cX12_measures 27 = .ok (.goto 6, 3) := dk_o167 (by decide +kernel)
theorem dX12_measures_30 : decode cX12_measures 30 = .ok (.ldc_w 456, 3) := dk_o19 (by decide +kernel)
theorem dX12_measures_33 : decode cX12_measures 33 = .ok (.iastore, 1) := dk_o79 (by decide +kernel)
theorem dX12_measures_34 : decode cX12_measures 34 = .ok (.iinc 2 1, 3) := dk_o132 (by decide +kernel)
theorem dX12_measures_37 : decode cX12_measures 37 = .ok (.goto (-35), 3) := dk_o167 (by decide +kernel)
theorem dX12_measures_40 : decode cX12_measures 40 = .ok (.aload_n 0, 1) := dk_o42 (by decide +kernel)
theorem dX12_measures_41 : decode cX12_measures 41 = .ok (.getfield 216, 3) := dk_o180 (by decide +kernel)
theorem dX12_measures_44 : decode cX12_measures 44 = .ok (.iconst 0, 1) := dk_o3 (by decide +kernel)
theorem dX12_measures_45 : decode cX12_measures 45 = .ok (.aload_n 0, 1) := dk_o42 (by decide +kernel)
theorem dX12_measures_46 : decode cX12_measures 46 = .ok (.getfield 60, 3) := dk_o180 (by decide +kernel)
theorem dX12_measures_49 : decode cX12_measures 49 = .ok (.aload_n 0, 1) := dk_o42 (by decide +kernel)
theorem dX12_measures_50 : decode cX12_measures 50 = .ok (.getfield 51, 3) := dk_o180 (by decide +kernel)
theorem dX12_measures_53 : decode cX12_measures 53 = .ok (.iaload, 1) := dk_o46 (by decide +kernel)
theorem dX12_measures_54 : decode cX12_measures 54 = .ok (.iastore, 1) := dk_o79 (by decide +kernel)
theorem dX12_measures_55 : decode cX12_measures 55 = .ok (.iconst 1, 1) := dk_o4 (by decide +kernel)
theorem dX12_measures_56 : decode cX12_measures 56 = .ok (.istore_n 2, 1) := dk_o61 (by decide +kernel)
theorem dX12_measures_57 : decode cX12_measures 57 = .ok (.iconst 0, 1) := dk_o3 (by decide +kernel)
theorem dX12_measures_58 : decode cX12_measures 58 = .ok (.istore_n 3, 1) := dk_o62 (by decide +kernel)
theorem dX12_measures_59 : decode cX12_measures 59 = .ok (.iload_n 3, 1) := dk_o29 (by decide +kernel)
theorem dX12_measures_60 : decode cX12_measures 60 = .ok (.iload_n 2, 1) := dk_o28 (by decide +kernel)
theorem dX12_measures_61 : decode cX12_measures 61 = .ok (.if_icmp .ge 120, 3) := dk_o162 (by decide +kernel)
theorem dX12_measures_64 : decode cX12_measures 64 = .ok (.aload_n 0, 1) := dk_o42 (by decide +kernel)
theorem dX12_measures_65 : decode cX12_measures 65 = .ok (.getfield 216, 3) := dk_o180 (by decide +kernel)
theorem dX12_measures_68 : decode cX12_measures 68 = .ok (.iload_n 3, 1) := dk_o29 (by decide +kernel)
theorem dX12_measures_69 : decode cX12_measures 69 = .ok (.iaload, 1) := dk_o46 (by decide +kernel)
theorem dX12_measures_70 : decode cX12_measures 70 = .ok (.istore 4, 2) := dk_o54 (by decide +kernel)
theorem dX12_measures_72 : decode cX12_measures 72 = .ok (.aload_n 0, 1) := dk_o42 (by decide +kernel)
theorem dX12_measures_73 : decode cX12_measures 73 = .ok (.getfield 171, 3) := dk_o180 (by decide +kernel)
theorem dX12_measures_76 : decode cX12_measures 76 = .ok (.bipush 64, 2) := dk_o16 (by decide +kernel)
theorem dX12_measures_78 : decode cX12_measures 78 = .ok (.iload_n 1, 1) := dk_o27 (by decide +kernel)
theorem dX12_measures_79 : decode cX12_measures 79 = .ok (.imul, 1) := dk_o104 (by decide +kernel)
theorem dX12_measures_80 : decode cX12_measures 80 = .ok (.iload 4, 2) := dk_o21 (by decide +kernel)
theorem dX12_measures_82 : decode cX12_measures 82 = .ok (.iadd, 1) := dk_o96 (by decide +kernel)
theorem dX12_measures_83 : decode cX12_measures 83 = .ok (.iaload, 1) := dk_o46 (by decide +kernel)
theorem dX12_measures_84 : decode cX12_measures 84 = .ok (.iconst 1, 1) := dk_o4 (by decide +kernel)
theorem dX12_measures_85 : decode cX12_measures 85 = .ok (.if_icmp .ne 6, 3) := dk_o160 (by decide +kernel)
theorem dX12_measures_88 : decode cX12_measures 88 = .ok (.goto 87, 3) := dk_o167 (by decide +kernel)
theorem dX12_measures_91 : decode cX12_measures 91 = .ok (.iconst 0, 1) := dk_o3 (by decide +kernel)
theorem dX12_measures_92 : decode cX12_measures 92 = .ok (.istore 5, 2) := dk_o54 (by decide +kernel)
theorem dX12_measures_94 : decode cX12_measures 94 = .ok (.iload 5, 2) := dk_o21 (by decide +kernel)
theorem dX12_measures_96 : decode cX12_measures 96 = .ok (.iconst 4, 1) := dk_o7 (by decide +kernel)
theorem dX12_measures_97 : decode cX12_measures 97 = .ok (.if_icmp .ge 78, 3) := dk_o162 (by decide +kernel)
theorem dX12_measures_100 : decode cX12_measures 100 = .ok (.aload_n 0, 1) := dk_o42 (by decide +kernel)
theorem dX12_measures_101 : decode cX12_measures 101 = .ok (.iload 4, 2) := dk_o21 (by decide +kernel)
theorem dX12_measures_103 : decode cX12_measures 103 = .ok (.iload 5, 2) := dk_o21 (by decide +kernel)
theorem dX12_measures_105 : decode cX12_measures 105 = .ok (.invokevirtual 457, 3) := dk_o182 (by decide +kernel)
theorem dX12_measures_108 : decode cX12_measures 108 = .ok (.istore 6, 2) := dk_o54 (by decide +kernel)
theorem dX12_measures_110 : decode cX12_measures 110 = .ok (.iload 6, 2) := dk_o21 (by decide +kernel)
theorem dX12_measures_112 : decode cX12_measures 112 = .ok (.iconst (-1), 1) := dk_o2 (by decide +kernel)
theorem dX12_measures_113 : decode cX12_measures 113 = .ok (.if_icmp .eq 56, 3) := dk_o159 (by decide +kernel)
theorem dX12_measures_116 : decode cX12_measures 116 = .ok (.aload_n 0, 1) := dk_o42 (by decide +kernel)
theorem dX12_measures_117 : decode cX12_measures 117 = .ok (.iload_n 1, 1) := dk_o27 (by decide +kernel)
theorem dX12_measures_118 : decode cX12_measures 118 = .ok (.iload 6, 2) := dk_o21 (by decide +kernel)
theorem dX12_measures_120 : decode cX12_measures 120 = .ok (.invokevirtual 460, 3) := dk_o182 (by decide +kernel)
theorem dX12_measures_123 : decode cX12_measures 123 = .ok (.ifCond .eq 46, 3) := dk_o153 (by decide +kernel)
theorem dX12_measures_126 : decode cX12_measures 126 = .ok (.aload_n 0, 1) := dk_o42 (by decide +kernel)
theorem dX12_measures_127 : decode cX12_measures 127 = .ok (.getfield 213, 3) := dk_o180 (by decide +kernel)
theorem dX12_measures_130 : decode cX12_measures 130 = .ok (.iload 6, 2) := dk_o21 (by decide +kernel)
theorem dX12_measures_132 : decode cX12_measures 132 = .ok (.iaload, 1) := dk_o46 (by decide +kernel)
theorem dX12_measures_133 : decode cX12_measures 133 = .ok (.ldc_w 456, 3) := dk_o19 (by decide +kernel)
theorem dX12_measures_136 : decode cX12_measures 136 = .ok (.if_icmp .ge 6, 3) := dk_o162 (by decide +kernel)
theorem dX12_measures_139 : decode cX12_measures 139 = .ok (.goto 30, 3) := dk_o167 (by decide +kernel)
theorem dX12_measures_142 : decode cX12_measures 142 = .ok (.aload_n 0, 1) := dk_o42 (by decide +kernel)
theorem dX12_measures_143 : decode cX12_measures 143 = .ok (.getfield 213, 3) := dk_o180 (by decide +kernel)
theorem dX12_measures_146 : decode cX12_measures 146 = .ok (.iload 6, 2) := dk_o21 (by decide +kernel)
theorem dX12_measures_148 : decode cX12_measures 148 = .ok (.aload_n 0, 1) := dk_o42 (by decide +kernel)
theorem dX12_measures_149 : decode cX12_measures 149 = .ok (.getfield 213, 3) := dk_o180 (by decide +kernel)
theorem dX12_measures_152 : decode cX12_measures 152 = .ok (.iload 4, 2) := dk_o21 (by decide +kernel)
theorem dX12_measures_154 : decode cX12_measures 154 = .ok (.iaload, 1) := dk_o46 (by decide +kernel)
theorem dX12_measures_155 : decode cX12_measures 155 = .ok (.iconst 1, 1) := dk_o4 (by decide +kernel)
theorem dX12_measures_156 : decode cX12_measures 156 = .ok (.iadd, 1) := dk_o96 (by decide +kernel)
theorem dX12_measures_157 : decode cX12_measures 157 = .ok (.iastore, 1) := dk_o79 (by decide +kernel)
theorem dX12_measures_158 : decode cX12_measures 158 = .ok (.aload_n 0, 1) := dk_o42 (by decide +kernel)
theorem dX12_measures_159 : decode cX12_measures 159 = .ok (.getfield 216, 3) := dk_o180 (by decide +kernel)
theorem dX12_measures_162 : decode cX12_measures 162 = .ok (.iload_n 2, 1) := dk_o28 (by decide +kernel)
theorem dX12_measures_163 : decode cX12_measures 163 = .ok (.iload 6, 2) := dk_o21 (by decide +kernel)
theorem dX12_measures_165 : decode cX12_measures 165 = .ok (.iastore, 1) := dk_o79 (by decide +kernel)
theorem dX12_measures_166 : decode cX12_measures 166 = .ok (.iinc 2 1, 3) := dk_o132 (by decide +kernel)
theorem dX12_measures_169 : decode cX12_measures 169 = .ok (.iinc 5 1, 3) := dk_o132 (by decide +kernel)
theorem dX12_measures_172 : decode cX12_measures 172 = .ok (.goto (-78), 3) := dk_o167 (by decide +kernel)
theorem dX12_measures_175 : decode cX12_measures 175 = .ok (.iinc 3 1, 3) := dk_o132 (by decide +kernel)
theorem dX12_measures_178 : decode cX12_measures 178 = .ok (.goto (-119), 3) := dk_o167 (by decide +kernel)
theorem dX12_measures_181 : decode cX12_measures 181 = .ok (.return_, 1) := dk_o177 (by decide +kernel)
theorem dX12_isFalling_0 : decode cX12_isFalling 0 = .ok (.aload_n 0, 1) := dk_o42 (by decide +kernel)
theorem dX12_isFalling_1 : decode cX12_isFalling 1 = .ok (.iconst 1, 1) := dk_o4 (by decide +kernel)
theorem dX12_isFalling_2 : decode cX12_isFalling 2 = .ok (.invokevirtual 472, 3) := dk_o182 (by decide +kernel)
theorem dX12_isFalling_5 : decode cX12_isFalling 5 = .ok (.ifCond .ne 5, 3) := dk_o154 (by decide +kernel)
theorem dX12_isFalling_8 : decode cX12_isFalling 8 = .ok (.iconst 0, 1) := dk_o3 (by decide +kernel)
theorem dX12_isFalling_9 : decode cX12_isFalling 9 = .ok (.ireturn, 1) := dk_o172 (by decide +kernel)
theorem dX12_isFalling_10 : decode cX12_isFalling 10 = .ok (.aload_n 0, 1) := dk_o42 (by decide +kernel)
theorem dX12_isFalling_11 : decode cX12_isFalling 11 = .ok (.iload_n 1, 1) := dk_o27 (by decide +kernel)
theorem dX12_isFalling_12 : decode cX12_isFalling 12 = .ok (.iload_n 2, 1) := dk_o28 (by decide +kernel)
theorem dX12_isFalling_13 : decode cX12_isFalling 13 = .ok (.invokevirtual 475, 3) := dk_o182 (by decide +kernel)
theorem dX12_isFalling_16 : decode cX12_isFalling 16 = .ok (.aload_n 0, 1) := dk_o42 (by decide +kernel)
theorem dX12_isFalling_17 : decode cX12_isFalling 17 = .ok (.iconst 1, 1) := dk_o4 (by decide +kernel)
theorem dX12_isFalling_18 : decode cX12_isFalling 18 = .ok (.invokevirtual 478, 3) := dk_o182 (by decide +kernel)
theorem dX12_isFalling_21 : decode cX12_isFalling 21 = .ok (.lconst 1, 1) := dk_o10 (by decide +kernel)
theorem dX12_isFalling_22 : decode cX12_isFalling 22 = .ok (.lcmp, 1) := dk_o148 (by decide +kernel)
theorem dX12_isFalling_23 : decode cX12_isFalling 23 = .ok (.ifCond .ne 7, 3) := dk_o154 (by decide +kernel)
theorem dX12_isFalling_26 : decode cX12_isFalling 26 = .ok (.iconst 1, 1) := dk_o4 (by decide +kernel)
theorem dX12_isFalling_27 : decode cX12_isFalling 27 = .ok (.goto 4, 3) := dk_o167 (by decide +kernel)
theorem dX12_isFalling_30 : decode cX12_isFalling 30 = .ok (.iconst 0, 1) := dk_o3 (by decide +kernel)
theorem dX12_isFalling_31 : decode cX12_isFalling 31 = .ok (.ireturn, 1) := dk_o172 (by decide +kernel)
theorem dX12_got_0 : decode cX12_got 0 = .ok (.aload_n 0, 1) := dk_o42 (by decide +kernel)
theorem dX12_got_1 : decode cX12_got 1 = .ok (.iconst 2, 1) := dk_o5 (by decide +kernel)
theorem dX12_got_2 : decode cX12_got 2 = .ok (.invokevirtual 472, 3) := dk_o182 (by decide +kernel)
theorem dX12_got_5 : decode cX12_got 5 = .ok (.ifCond .ne 15, 3) := dk_o154 (by decide +kernel)
theorem dX12_got_8 : decode cX12_got 8 = .ok (.aload_n 0, 1) := dk_o42 (by decide +kernel)
theorem dX12_got_9 : decode cX12_got 9 = .ok (.getfield 168, 3) := dk_o180 (by decide +kernel)
theorem dX12_got_12 : decode cX12_got 12 = .ok (.bipush 64, 2) := dk_o16 (by decide +kernel)
theorem dX12_got_14 : decode cX12_got 14 = .ok (.iload_n 1, 1) := dk_o27 (by decide +kernel)
theorem dX12_got_15 : decode cX12_got 15 = .ok (.imul, 1) := dk_o104 (by decide +kernel)
theorem dX12_got_16 : decode cX12_got 16 = .ok (.iload_n 2, 1) := dk_o28 (by decide +kernel)
theorem dX12_got_17 : decode cX12_got 17 = .ok (.iadd, 1) := dk_o96 (by decide +kernel)
theorem dX12_got_18 : decode cX12_got 18 = .ok (.iaload, 1) := dk_o46 (by decide +kernel)
theorem dX12_got_19 : decode cX12_got 19 = .ok (.ireturn, 1) := dk_o172 (by decide +kernel)
theorem dX12_got_20 : decode cX12_got 20 = .ok (.aload_n 0, 1) := dk_o42 (by decide +kernel)
theorem dX12_got_21 : decode cX12_got 21 = .ok (.iload_n 1, 1) := dk_o27 (by decide +kernel)
theorem dX12_got_22 : decode cX12_got 22 = .ok (.iload_n 2, 1) := dk_o28 (by decide +kernel)
theorem dX12_got_23 : decode cX12_got 23 = .ok (.invokevirtual 475, 3) := dk_o182 (by decide +kernel)
theorem dX12_got_26 : decode cX12_got 26 = .ok (.aload_n 0, 1) := dk_o42 (by decide +kernel)
theorem dX12_got_27 : decode cX12_got 27 = .ok (.iconst 2, 1) := dk_o5 (by decide +kernel)
theorem dX12_got_28 : decode cX12_got 28 = .ok (.invokevirtual 478, 3) := dk_o182 (by decide +kernel)
theorem dX12_got_31 : decode cX12_got 31 = .ok (.lstore_n 3, 1) := dk_o66 (by decide +kernel)
theorem dX12_got_32 : decode cX12_got 32 = .ok (.lload_n 3, 1) := dk_o33 (by decide +kernel)
theorem dX12_got_33 : decode cX12_got 33 = .ok (.lconst 0, 1) := dk_o9 (by decide +kernel)
theorem dX12_got_34 : decode cX12_got 34 = .ok (.lcmp, 1) := dk_o148 (by decide +kernel)
theorem dX12_got_35 : decode cX12_got 35 = .ok (.ifCond .ge 7, 3) := dk_o156 (by decide +kernel)
theorem dX12_got_38 : decode cX12_got 38 = .ok (.iconst 0, 1) := dk_o3 (by decide +kernel)
theorem dX12_got_39 : decode cX12_got 39 = .ok (.goto 18, 3) := dk_o167 (by decide +kernel)
theorem dX12_got_42 : decode cX12_got 42 = .ok (.lload_n 3, 1) := dk_o33 (by decide +kernel)
theorem dX12_got_43 : decode cX12_got 43 = .ok (.ldc2_w 482, 3) := dk_o20 (by decide +kernel)
theorem dX12_got_46 : decode cX12_got 46 = .ok (.lcmp, 1) := dk_o148 (by decide +kernel)
theorem dX12_got_47 : decode cX12_got 47 = .ok (.ifCond .le 8, 3) := dk_o158 (by decide +kernel)
theorem dX12_got_50 : decode cX12_got 50 = .ok (.bipush 9, 2) := dk_o16 (by decide +kernel)
theorem dX12_got_52 : decode cX12_got 52 = .ok (.goto 5, 3) := dk_o167 (by decide +kernel)
theorem dX12_got_55 : decode cX12_got 55 = .ok (.lload_n 3, 1) := dk_o33 (by decide +kernel)
theorem dX12_got_56 : decode cX12_got 56 = .ok (.l2i, 1) := dk_o136 (by decide +kernel)
theorem dX12_got_57 : decode cX12_got 57 = .ok (.ireturn, 1) := dk_o172 (by decide +kernel)
theorem wB_1129 : Cond.fieldLink RX12 165 "DarkMineModel" "purseOf" "[I" ∈ dgB := List.mem_filter.mpr ⟨tbl_6 _ (List.mem_of_getElem? (i := 213) (by decide +kernel)), by decide +kernel⟩
theorem wB_1130 : Cond.fieldLink RX12 174 "DarkMineModel" "hurtOf" "[I" ∈ dgB := List.mem_filter.mpr ⟨tbl_6 _ (List.mem_of_getElem? (i := 216) (by decide +kernel)), by decide +kernel⟩
theorem wB_1131 : Cond.fieldLink RX12 177 "DarkMineModel" "soldOf" "[I" ∈ dgB := List.mem_filter.mpr ⟨tbl_6 _ (List.mem_of_getElem? (i := 217) (by decide +kernel)), by decide +kernel⟩
theorem wB_1132 : Cond.fieldLink RX12 180 "DarkMineModel" "minerOf" "[I" ∈ dgB := List.mem_filter.mpr ⟨tbl_6 _ (List.mem_of_getElem? (i := 218) (by decide +kernel)), by decide +kernel⟩
theorem wB_1133 : Cond.fieldLink RX12 183 "DarkMineModel" "digOf" "[I" ∈ dgB := List.mem_filter.mpr ⟨tbl_6 _ (List.mem_of_getElem? (i := 219) (by decide +kernel)), by decide +kernel⟩
theorem wB_1134 : Cond.constantLong RX12 436 (1000000) ∈ dgB := List.mem_filter.mpr ⟨tbl_8 _ (List.mem_of_getElem? (i := 218) (by decide +kernel)), by decide +kernel⟩
theorem wB_1135 : Cond.constantLong RX12 438 (-1000000) ∈ dgB := List.mem_filter.mpr ⟨tbl_8 _ (List.mem_of_getElem? (i := 219) (by decide +kernel)), by decide +kernel⟩
theorem wB_1136 : Cond.code yX12_within cX12_within 2 (some .long) ∈ dgB := List.mem_filter.mpr ⟨tbl_8 _ (List.mem_of_getElem? (i := 217) rfl), rfl⟩
theorem wB_1137 : Cond.methodLink RX12 440 yX12_within ∈ dgB := List.mem_filter.mpr ⟨tbl_8 _ (List.mem_of_getElem? (i := 215) (by decide +kernel)), by decide +kernel⟩
theorem wB_1138 : Cond.static yX12_within ∈ dgB := List.mem_filter.mpr ⟨tbl_8 _ (List.mem_of_getElem? (i := 216) (by decide +kernel)), by decide +kernel⟩
theorem wB_1139 : Cond.code yX12_floor cX12_floor 6 (some .long) ∈ dgB := List.mem_filter.mpr ⟨tbl_8 _ (List.mem_of_getElem? (i := 222) rfl), rfl⟩
theorem wB_1140 : Cond.methodLink RX12 444 yX12_floor ∈ dgB := List.mem_filter.mpr ⟨tbl_8 _ (List.mem_of_getElem? (i := 220) (by decide +kernel)), by decide +kernel⟩
theorem wB_1141 : Cond.static yX12_floor ∈ dgB := List.mem_filter.mpr ⟨tbl_8 _ (List.mem_of_getElem? (i := 221) (by decide +kernel)), by decide +kernel⟩
theorem wB_1142 : Cond.fieldLink RX12 216 "DarkMineModel" "queue" "[I" ∈ dgB := List.mem_filter.mpr ⟨tbl_6 _ (List.mem_of_getElem? (i := 230) (by decide +kernel)), by decide +kernel⟩
theorem wB_1143 : Cond.fieldLink RX12 207 "DarkMineModel" "stack" "[J" ∈ dgB := List.mem_filter.mpr ⟨tbl_6 _ (List.mem_of_getElem? (i := 227) (by decide +kernel)), by decide +kernel⟩
theorem wB_1144 : Cond.code yX12_two cX12_two 5 (some .long) ∈ dgB := List.mem_filter.mpr ⟨tbl_8 _ (List.mem_of_getElem? (i := 214) rfl), rfl⟩
theorem wB_1145 : Cond.methodLink RX12 448 yX12_two ∈ dgB := List.mem_filter.mpr ⟨tbl_8 _ (List.mem_of_getElem? (i := 212) (by decide +kernel)), by decide +kernel⟩
theorem wB_1146 : Cond.static yX12_two ∈ dgB := List.mem_filter.mpr ⟨tbl_8 _ (List.mem_of_getElem? (i := 213) (by decide +kernel)), by decide +kernel⟩
theorem wB_1147 : Cond.code yX12_isTold cX12_isTold 2 (some .boolean) ∈ dgB := List.mem_filter.mpr ⟨tbl_8 _ (List.mem_of_getElem? (i := 199) rfl), rfl⟩
theorem wB_1148 : Cond.methodLink RX12 472 yX12_isTold ∈ dgB := List.mem_filter.mpr ⟨tbl_8 _ (List.mem_of_getElem? (i := 196) (by decide +kernel)), by decide +kernel⟩
theorem wB_1149 : Cond.instanceMethod yX12_isTold ∈ dgB := List.mem_filter.mpr ⟨tbl_8 _ (List.mem_of_getElem? (i := 198) (by decide +kernel)), by decide +kernel⟩
theorem wB_1150 : Cond.selects RX12 yX12_isTold yX12_isTold ∈ dgB := List.mem_filter.mpr ⟨List.mem_of_getElem? (i := 130) (by decide +kernel), by decide +kernel⟩
theorem wB_1151 : Cond.code yX12_lays cX12_lays 3 none ∈ dgB := List.mem_filter.mpr ⟨tbl_8 _ (List.mem_of_getElem? (i := 203) rfl), rfl⟩
theorem wB_1152 : Cond.methodLink RX12 475 yX12_lays ∈ dgB := List.mem_filter.mpr ⟨tbl_8 _ (List.mem_of_getElem? (i := 200) (by decide +kernel)), by decide +kernel⟩
theorem wB_1153 : Cond.instanceMethod yX12_lays ∈ dgB := List.mem_filter.mpr ⟨tbl_8 _ (List.mem_of_getElem? (i := 202) (by decide +kernel)), by decide +kernel⟩
theorem wB_1154 : Cond.selects RX12 yX12_lays yX12_lays ∈ dgB := List.mem_filter.mpr ⟨List.mem_of_getElem? (i := 131) (by decide +kernel), by decide +kernel⟩
theorem wB_1155 : Cond.code yX12_reckons cX12_reckons 5 (some .long) ∈ dgB := List.mem_filter.mpr ⟨tbl_8 _ (List.mem_of_getElem? (i := 211) rfl), rfl⟩
theorem wB_1156 : Cond.methodLink RX12 478 yX12_reckons ∈ dgB := List.mem_filter.mpr ⟨tbl_8 _ (List.mem_of_getElem? (i := 208) (by decide +kernel)), by decide +kernel⟩
theorem wB_1157 : Cond.instanceMethod yX12_reckons ∈ dgB := List.mem_filter.mpr ⟨tbl_8 _ (List.mem_of_getElem? (i := 210) (by decide +kernel)), by decide +kernel⟩
theorem wB_1158 : Cond.selects RX12 yX12_reckons yX12_reckons ∈ dgB := List.mem_filter.mpr ⟨List.mem_of_getElem? (i := 133) (by decide +kernel), by decide +kernel⟩
theorem wB_1159 : Cond.constantLong RX12 482 (9) ∈ dgB := List.mem_filter.mpr ⟨tbl_9 _ (List.mem_of_getElem? (i := 41) (by decide +kernel)), by decide +kernel⟩
noncomputable def F_m_copies_B5 (a2 : Int32) (a1 : Int32) : (Int32 × dg_S) → (Int32 × dg_S) ⊕ (dg_S) := fun w9 => match w9 with | (x_907, S_908) => let x_911 : Int32 := S_908.2.1 38 (a2 : Int32).toNatClampNeg; let x_912 : Int32 := (4 : Int32) * x_911; (if x_912 ≤ x_907 then (Sum.inr ((S_908))) else let x_914 : Int32 := (160 : Int32) * a1; let x_915 : Int32 := x_914 + x_907; let x_916 : Int32 := (160 : Int32) * a2; let x_917 : Int32 := x_916 + x_907; let x_919 : Int32 := S_908.2.1 39 (x_917 : Int32).toNatClampNeg; let S_921 : dg_S := dg_uf S_908 39 (upd (S_908.2.1 39) (x_915 : Int32).toNatClampNeg x_919); let x_922 : Int32 := x_907 + 1; (Sum.inl (x_922, S_921)))
noncomputable def F_m_copies_J4 (S_829 : dg_S) (a2 : Int32) (a1 : Int32) (S : dg_S) : dg_S := let x_832 : Int32 := S_829.2.1 38 (a2 : Int32).toNatClampNeg; let S_834 : dg_S := dg_uf S_829 38 (upd (S_829.2.1 38) (a1 : Int32).toNatClampNeg x_832); (lp (F_m_copies_B5 a2 a1) S ((161 - ((0 : Int32)).toInt).toNat + 1) ((0 : Int32), S_834))
noncomputable def F_m_copies_B6 (a2 : Int32) (a1 : Int32) (S : dg_S) : (Int32 × dg_S) → (Int32 × dg_S) ⊕ (dg_S) := fun w9 => match w9 with | (x_979, S_980) => (if (10 : Int32) ≤ x_979 then (Sum.inr ((F_m_copies_J4 S_980 a2 a1 S))) else let x_984 : Int32 := (10 : Int32) * a1; let x_985 : Int32 := x_984 + x_979; let x_986 : Int32 := (10 : Int32) * a2; let x_987 : Int32 := x_986 + x_979; let x_989 : Int32 := S_980.2.1 37 (x_987 : Int32).toNatClampNeg; let S_991 : dg_S := dg_uf S_980 37 (upd (S_980.2.1 37) (x_985 : Int32).toNatClampNeg x_989); let x_992 : Int32 := x_979 + 1; (Sum.inl (x_992, S_991)))
noncomputable def F_m_copies_J3 (a2 : Int32) (a1 : Int32) (S : dg_S) (S_670 : dg_S) : dg_S := (lp (F_m_copies_B6 a2 a1 S) S ((11 - ((0 : Int32)).toInt).toNat + 1) ((0 : Int32), S_670))
noncomputable def F_m_copies_B7 (a2 : Int32) (a1 : Int32) (S : dg_S) : (Int32 × dg_S) → (Int32 × dg_S) ⊕ (dg_S) := fun w9 => match w9 with | (x_1087, S_1088) => (if (16 : Int32) ≤ x_1087 then (Sum.inr ((F_m_copies_J3 a2 a1 S S_1088))) else let x_1092 : Int32 := (16 : Int32) * a1; let x_1093 : Int32 := x_1092 + x_1087; let x_1094 : Int32 := (16 : Int32) * a2; let x_1095 : Int32 := x_1094 + x_1087; let x_1097 : Int32 := S_1088.2.1 35 (x_1095 : Int32).toNatClampNeg; let S_1099 : dg_S := dg_uf S_1088 35 (upd (S_1088.2.1 35) (x_1093 : Int32).toNatClampNeg x_1097); let x_1100 : Int32 := (16 : Int32) * a1; let x_1101 : Int32 := x_1100 + x_1087; let x_1102 : Int32 := (16 : Int32) * a2; let x_1103 : Int32 := x_1102 + x_1087; let x_1105 : Int32 := S_1099.2.1 36 (x_1103 : Int32).toNatClampNeg; let S_1107 : dg_S := dg_uf S_1099 36 (upd (S_1099.2.1 36) (x_1101 : Int32).toNatClampNeg x_1105); let x_1108 : Int32 := x_1087 + 1; (Sum.inl (x_1108, S_1107)))
noncomputable def F_m_copies_J2 (a2 : Int32) (a1 : Int32) (S : dg_S) (S_399 : dg_S) : dg_S := (lp (F_m_copies_B7 a2 a1 S) S ((17 - ((0 : Int32)).toInt).toNat + 1) ((0 : Int32), S_399))
noncomputable def F_m_copies_B8 (a2 : Int32) (a1 : Int32) (S : dg_S) : (Int32 × dg_S) → (Int32 × dg_S) ⊕ (dg_S) := fun w9 => match w9 with | (x_1203, S_1204) => (if (64 : Int32) ≤ x_1203 then (Sum.inr ((F_m_copies_J2 a2 a1 S S_1204))) else let x_1208 : Int32 := (64 : Int32) * a1; let x_1209 : Int32 := x_1208 + x_1203; let x_1210 : Int32 := (64 : Int32) * a2; let x_1211 : Int32 := x_1210 + x_1203; let x_1213 : Int32 := S_1204.2.1 31 (x_1211 : Int32).toNatClampNeg; let S_1215 : dg_S := dg_uf S_1204 31 (upd (S_1204.2.1 31) (x_1209 : Int32).toNatClampNeg x_1213); let x_1216 : Int32 := (64 : Int32) * a1; let x_1217 : Int32 := x_1216 + x_1203; let x_1218 : Int32 := (64 : Int32) * a2; let x_1219 : Int32 := x_1218 + x_1203; let x_1221 : Int32 := S_1215.2.1 32 (x_1219 : Int32).toNatClampNeg; let S_1223 : dg_S := dg_uf S_1215 32 (upd (S_1215.2.1 32) (x_1217 : Int32).toNatClampNeg x_1221); let x_1224 : Int32 := x_1203 + 1; (Sum.inl (x_1224, S_1223)))
noncomputable def F_m_copies_J1 (a2 : Int32) (a1 : Int32) (S : dg_S) (S_17 : dg_S) : dg_S := (lp (F_m_copies_B8 a2 a1 S) S ((65 - ((0 : Int32)).toInt).toNat + 1) ((0 : Int32), S_17))
noncomputable def F_m_copies (o : Nat) (S : dg_S) (a1 : Int32) (a2 : Int32) : dg_S := let s2 : Int32 := S.2.1 29 (a2 : Int32).toNatClampNeg; let z0 : Int32 := S.2.1 29 (0 : Int32).toNatClampNeg; let S_4 : dg_S := dg_uf S 29 (upd (S.2.1 29) (a1 : Int32).toNatClampNeg s2); let z_5 : Int32 := S_4.2.1 29 (0 : Int32).toNatClampNeg; let x_7 : Int32 := S_4.2.1 30 (a2 : Int32).toNatClampNeg; let S_9 : dg_S := dg_uf S_4 30 (upd (S_4.2.1 30) (a1 : Int32).toNatClampNeg x_7); let x_11 : Int32 := S_9.2.1 33 (a2 : Int32).toNatClampNeg; let S_13 : dg_S := dg_uf S_9 33 (upd (S_9.2.1 33) (a1 : Int32).toNatClampNeg x_11); let x_15 : Int32 := S_13.2.1 34 (a2 : Int32).toNatClampNeg; let S_17 : dg_S := dg_uf S_13 34 (upd (S_13.2.1 34) (a1 : Int32).toNatClampNeg x_15); (F_m_copies_J1 a2 a1 S S_17)
theorem F_m_copies_p0 {a2 : Int32} {a1 : Int32} {x_907 : Int32} {S_908 : dg_S} {x_911 : Int32} {x_912 : Int32} (h0 : x_911 = S_908.2.1 38 (a2 : Int32).toNatClampNeg) (h1 : x_912 = (4 : Int32) * x_911) (h2 : x_912 ≤ x_907) : (F_m_copies_B5 a2 a1) (x_907, S_908) = Sum.inr (S_908) := by
  replace h0 := Eq.symm h0
  subst h0
  replace h1 := Eq.symm h1
  subst h1
  exact (Eq.trans (if_pos h2) rfl)
theorem F_m_copies_p1 {a2 : Int32} {a1 : Int32} {x_907 : Int32} {S_908 : dg_S} {x_922 : Int32} {S_921 : dg_S} {x_911 : Int32} {x_912 : Int32} {x_914 : Int32} {x_915 : Int32} {x_916 : Int32} {x_917 : Int32} {x_919 : Int32} (h0 : x_911 = S_908.2.1 38 (a2 : Int32).toNatClampNeg) (h1 : x_912 = (4 : Int32) * x_911) (h2 : ¬ (x_912 ≤ x_907)) (h3 : x_914 = (160 : Int32) * a1) (h4 : x_915 = x_914 + x_907) (h5 : x_916 = (160 : Int32) * a2) (h6 : x_917 = x_916 + x_907) (h7 : x_919 = S_908.2.1 39 (x_917 : Int32).toNatClampNeg) (h8 : S_921 = dg_uf S_908 39 (upd (S_908.2.1 39) (x_915 : Int32).toNatClampNeg x_919)) (h9 : x_922 = x_907 + 1) : (F_m_copies_B5 a2 a1) (x_907, S_908) = Sum.inl (x_922, S_921) := by
  replace h0 := Eq.symm h0
  subst h0
  replace h1 := Eq.symm h1
  subst h1
  replace h3 := Eq.symm h3
  subst h3
  replace h4 := Eq.symm h4
  subst h4
  replace h5 := Eq.symm h5
  subst h5
  replace h6 := Eq.symm h6
  subst h6
  replace h7 := Eq.symm h7
  subst h7
  replace h8 := Eq.symm h8
  subst h8
  replace h9 := Eq.symm h9
  subst h9
  exact (Eq.trans (if_neg h2) rfl)
theorem F_m_copies_p2 {S_829 : dg_S} {a2 : Int32} {a1 : Int32} {S : dg_S} {S_834 : dg_S} {x_832 : Int32} (h0 : x_832 = S_829.2.1 38 (a2 : Int32).toNatClampNeg) (h1 : S_834 = dg_uf S_829 38 (upd (S_829.2.1 38) (a1 : Int32).toNatClampNeg x_832)) : F_m_copies_J4 S_829 a2 a1 S = lp (F_m_copies_B5 a2 a1) S ((161 - ((0 : Int32)).toInt).toNat + 1) ((0 : Int32), S_834) := by
  replace h0 := Eq.symm h0
  subst h0
  replace h1 := Eq.symm h1
  subst h1
  exact rfl
theorem F_m_copies_p3 {a2 : Int32} {a1 : Int32} {S : dg_S} {x_979 : Int32} {S_980 : dg_S} (h0 : (10 : Int32) ≤ x_979) : (F_m_copies_B6 a2 a1 S) (x_979, S_980) = Sum.inr (F_m_copies_J4 S_980 a2 a1 S) := (Eq.trans (if_pos h0) rfl)
theorem F_m_copies_p4 {a2 : Int32} {a1 : Int32} {S : dg_S} {x_979 : Int32} {S_980 : dg_S} {x_992 : Int32} {S_991 : dg_S} {x_984 : Int32} {x_985 : Int32} {x_986 : Int32} {x_987 : Int32} {x_989 : Int32} (h0 : ¬ ((10 : Int32) ≤ x_979)) (h1 : x_984 = (10 : Int32) * a1) (h2 : x_985 = x_984 + x_979) (h3 : x_986 = (10 : Int32) * a2) (h4 : x_987 = x_986 + x_979) (h5 : x_989 = S_980.2.1 37 (x_987 : Int32).toNatClampNeg) (h6 : S_991 = dg_uf S_980 37 (upd (S_980.2.1 37) (x_985 : Int32).toNatClampNeg x_989)) (h7 : x_992 = x_979 + 1) : (F_m_copies_B6 a2 a1 S) (x_979, S_980) = Sum.inl (x_992, S_991) := by
  replace h1 := Eq.symm h1
  subst h1
  replace h2 := Eq.symm h2
  subst h2
  replace h3 := Eq.symm h3
  subst h3
  replace h4 := Eq.symm h4
  subst h4
  replace h5 := Eq.symm h5
  subst h5
  replace h6 := Eq.symm h6
  subst h6
  replace h7 := Eq.symm h7
  subst h7
  exact (Eq.trans (if_neg h0) rfl)
theorem F_m_copies_p5 {a2 : Int32} {a1 : Int32} {S : dg_S} {S_670 : dg_S}  : F_m_copies_J3 a2 a1 S S_670 = lp (F_m_copies_B6 a2 a1 S) S ((11 - ((0 : Int32)).toInt).toNat + 1) ((0 : Int32), S_670) := rfl
theorem F_m_copies_p6 {a2 : Int32} {a1 : Int32} {S : dg_S} {x_1087 : Int32} {S_1088 : dg_S} (h0 : (16 : Int32) ≤ x_1087) : (F_m_copies_B7 a2 a1 S) (x_1087, S_1088) = Sum.inr (F_m_copies_J3 a2 a1 S S_1088) := (Eq.trans (if_pos h0) rfl)
theorem F_m_copies_p7 {a2 : Int32} {a1 : Int32} {S : dg_S} {x_1087 : Int32} {S_1088 : dg_S} {x_1108 : Int32} {S_1107 : dg_S} {x_1092 : Int32} {x_1093 : Int32} {x_1094 : Int32} {x_1095 : Int32} {x_1097 : Int32} {S_1099 : dg_S} {x_1100 : Int32} {x_1101 : Int32} {x_1102 : Int32} {x_1103 : Int32} {x_1105 : Int32} (h0 : ¬ ((16 : Int32) ≤ x_1087)) (h1 : x_1092 = (16 : Int32) * a1) (h2 : x_1093 = x_1092 + x_1087) (h3 : x_1094 = (16 : Int32) * a2) (h4 : x_1095 = x_1094 + x_1087) (h5 : x_1097 = S_1088.2.1 35 (x_1095 : Int32).toNatClampNeg) (h6 : S_1099 = dg_uf S_1088 35 (upd (S_1088.2.1 35) (x_1093 : Int32).toNatClampNeg x_1097)) (h7 : x_1100 = (16 : Int32) * a1) (h8 : x_1101 = x_1100 + x_1087) (h9 : x_1102 = (16 : Int32) * a2) (h10 : x_1103 = x_1102 + x_1087) (h11 : x_1105 = S_1099.2.1 36 (x_1103 : Int32).toNatClampNeg) (h12 : S_1107 = dg_uf S_1099 36 (upd (S_1099.2.1 36) (x_1101 : Int32).toNatClampNeg x_1105)) (h13 : x_1108 = x_1087 + 1) : (F_m_copies_B7 a2 a1 S) (x_1087, S_1088) = Sum.inl (x_1108, S_1107) := by
  replace h1 := Eq.symm h1
  subst h1
  replace h2 := Eq.symm h2
  subst h2
  replace h3 := Eq.symm h3
  subst h3
  replace h4 := Eq.symm h4
  subst h4
  replace h5 := Eq.symm h5
  subst h5
  replace h6 := Eq.symm h6
  subst h6
  replace h7 := Eq.symm h7
  subst h7
  replace h8 := Eq.symm h8
  subst h8
  replace h9 := Eq.symm h9
  subst h9
  replace h10 := Eq.symm h10
  subst h10
  replace h11 := Eq.symm h11
  subst h11
  replace h12 := Eq.symm h12
  subst h12
  replace h13 := Eq.symm h13
  subst h13
  exact (Eq.trans (if_neg h0) rfl)
theorem F_m_copies_p8 {a2 : Int32} {a1 : Int32} {S : dg_S} {S_399 : dg_S}  : F_m_copies_J2 a2 a1 S S_399 = lp (F_m_copies_B7 a2 a1 S) S ((17 - ((0 : Int32)).toInt).toNat + 1) ((0 : Int32), S_399) := rfl
theorem F_m_copies_p9 {a2 : Int32} {a1 : Int32} {S : dg_S} {x_1203 : Int32} {S_1204 : dg_S} (h0 : (64 : Int32) ≤ x_1203) : (F_m_copies_B8 a2 a1 S) (x_1203, S_1204) = Sum.inr (F_m_copies_J2 a2 a1 S S_1204) := (Eq.trans (if_pos h0) rfl)
theorem F_m_copies_p10 {a2 : Int32} {a1 : Int32} {S : dg_S} {x_1203 : Int32} {S_1204 : dg_S} {x_1224 : Int32} {S_1223 : dg_S} {x_1208 : Int32} {x_1209 : Int32} {x_1210 : Int32} {x_1211 : Int32} {x_1213 : Int32} {S_1215 : dg_S} {x_1216 : Int32} {x_1217 : Int32} {x_1218 : Int32} {x_1219 : Int32} {x_1221 : Int32} (h0 : ¬ ((64 : Int32) ≤ x_1203)) (h1 : x_1208 = (64 : Int32) * a1) (h2 : x_1209 = x_1208 + x_1203) (h3 : x_1210 = (64 : Int32) * a2) (h4 : x_1211 = x_1210 + x_1203) (h5 : x_1213 = S_1204.2.1 31 (x_1211 : Int32).toNatClampNeg) (h6 : S_1215 = dg_uf S_1204 31 (upd (S_1204.2.1 31) (x_1209 : Int32).toNatClampNeg x_1213)) (h7 : x_1216 = (64 : Int32) * a1) (h8 : x_1217 = x_1216 + x_1203) (h9 : x_1218 = (64 : Int32) * a2) (h10 : x_1219 = x_1218 + x_1203) (h11 : x_1221 = S_1215.2.1 32 (x_1219 : Int32).toNatClampNeg) (h12 : S_1223 = dg_uf S_1215 32 (upd (S_1215.2.1 32) (x_1217 : Int32).toNatClampNeg x_1221)) (h13 : x_1224 = x_1203 + 1) : (F_m_copies_B8 a2 a1 S) (x_1203, S_1204) = Sum.inl (x_1224, S_1223) := by
  replace h1 := Eq.symm h1
  subst h1
  replace h2 := Eq.symm h2
  subst h2
  replace h3 := Eq.symm h3
  subst h3
  replace h4 := Eq.symm h4
  subst h4
  replace h5 := Eq.symm h5
  subst h5
  replace h6 := Eq.symm h6
  subst h6
  replace h7 := Eq.symm h7
  subst h7
  replace h8 := Eq.symm h8
  subst h8
  replace h9 := Eq.symm h9
  subst h9
  replace h10 := Eq.symm h10
  subst h10
  replace h11 := Eq.symm h11
  subst h11
  replace h12 := Eq.symm h12
  subst h12
  replace h13 := Eq.symm h13
  subst h13
  exact (Eq.trans (if_neg h0) rfl)
theorem F_m_copies_p11 {a2 : Int32} {a1 : Int32} {S : dg_S} {S_17 : dg_S}  : F_m_copies_J1 a2 a1 S S_17 = lp (F_m_copies_B8 a2 a1 S) S ((65 - ((0 : Int32)).toInt).toNat + 1) ((0 : Int32), S_17) := rfl
theorem F_m_copies_p12 {o : Nat} {S : dg_S} {a1 : Int32} {a2 : Int32} {S_17 : dg_S} {s2 : Int32} {S_4 : dg_S} {x_7 : Int32} {S_9 : dg_S} {x_11 : Int32} {S_13 : dg_S} {x_15 : Int32} (h0 : s2 = S.2.1 29 (a2 : Int32).toNatClampNeg) (h1 : S_4 = dg_uf S 29 (upd (S.2.1 29) (a1 : Int32).toNatClampNeg s2)) (h2 : x_7 = S_4.2.1 30 (a2 : Int32).toNatClampNeg) (h3 : S_9 = dg_uf S_4 30 (upd (S_4.2.1 30) (a1 : Int32).toNatClampNeg x_7)) (h4 : x_11 = S_9.2.1 33 (a2 : Int32).toNatClampNeg) (h5 : S_13 = dg_uf S_9 33 (upd (S_9.2.1 33) (a1 : Int32).toNatClampNeg x_11)) (h6 : x_15 = S_13.2.1 34 (a2 : Int32).toNatClampNeg) (h7 : S_17 = dg_uf S_13 34 (upd (S_13.2.1 34) (a1 : Int32).toNatClampNeg x_15)) : F_m_copies o S a1 a2 = F_m_copies_J1 a2 a1 S S_17 := by
  replace h0 := Eq.symm h0
  subst h0
  replace h1 := Eq.symm h1
  subst h1
  replace h2 := Eq.symm h2
  subst h2
  replace h3 := Eq.symm h3
  subst h3
  replace h4 := Eq.symm h4
  subst h4
  replace h5 := Eq.symm h5
  subst h5
  replace h6 := Eq.symm h6
  subst h6
  replace h7 := Eq.symm h7
  subst h7
  exact rfl
set_option maxHeartbeats 8000000 in
set_option maxRecDepth 100000 in
theorem c_m_copies (l : Launch) (g : Nat → ClassId) (D : va_G) (o : Nat) (S : dg_S) (a1 : Int32) (b_a1 : 0 ≤ (a1).toInt ∧ (a1).toInt ≤ 21) (a2 : Int32) (b_a2 : 0 ≤ (a2).toInt ∧ (a2).toInt ≤ 21) (s2 : Int32) (f_s2 : S.2.1 29 (a2 : Int32).toNatClampNeg = s2) (b_s2 : 0 ≤ (s2).toInt ∧ (s2).toInt ≤ 2000) (z0 : Int32) (f_z0 : S.2.1 29 (0 : Int32).toNatClampNeg = z0) (b_z0 : 0 ≤ (z0).toInt ∧ (z0).toInt ≤ 2000) (hs2 : (a1).toInt ≠ 1 → (s2).toInt ≤ 999) (ZS : ZSM S) (I : CM o S) (sz : Nat) : Met l yX12_copies (bw yX12_copies cX12_copies 4 none) ({ frames := 1, cells := 0, slots := 0, locals := 32 } : Room) (dk_Pc g D (dg_w g shM o rfM S) sz [.ref (o + 0), .int a1, .int a2]) (va_Qv (fun S' => CM o S' ∧ dg_sm shM [] [29, 30, 31, 32, 33, 34, 35, 36, 37, 38, 39] S S' ∧ (∀ x9 : Int32, S'.2.1 29 (a1 : Int32).toNatClampNeg = x9 → ((x9).toInt = (s2).toInt)) ∧ (∀ x9 : Int32, S'.2.1 29 (0 : Int32).toNatClampNeg = x9 → ((a1).toInt ≠ 0 → (x9).toInt = (z0).toInt)) ∧ ZSM S' ∧ (S' = F_m_copies o S a1 a2) ∧ True) (dg_B g D shM o rfM) (dg_A o shM.length sz)) 0 0 (dg_A o shM.length sz) := by
  refine dg_met (cc := cX12_copies) (maxL := 4) (ret := none) (dk_dq rfl) rfl (Nat.le_of_ble_eq_true rfl) ?_
  intro p e s m args below meth c A hAe harg hx hb hr hml hts hown hlocks hin hP K hS hA1 hA ST hsz ls hl
  rw [← hAe]
  have F : CallFix p m c cX12_copies 4 s args (bw yX12_copies cX12_copies 4 none) RX12 := ⟨hx, hb, hml, hown, hts⟩
  have hl : lv_has ls 4 [(0, .ref (o + 0)), (1, .int a1), (2, .int a2)] := hl
  have M_0 : dg_sm shM [] [29, 30, 31, 32, 33, 34, 35, 36, 37, 38, 39] S S := dg_sm.rf
  refine lv_aload_n hx hb dX12_copies_0 rfl (lv_at hl 0 rfl) ?_
  refine dg_get (C := RX12) (T := TX12) (N := 77) hx hb hts (fun w h => bw_mem (wU_X12 w h)) hown K hP sM_0 rfl 49 (dk_dq rfl) (hts _ (bw_mem wB_1108)) (fun _ h9 => h9) (v := .ref (o + 29)) (show S.1 0 49 = .ref (o + 29) from dg_I.rel (d := 29) I sM_0 (by decide +kernel)) dX12_copies_1 ?_
  refine lv_iload_n hx hb dX12_copies_4 rfl (lv_at hl 1 rfl) ?_
  refine lv_aload_n hx hb dX12_copies_5 rfl (lv_at hl 0 rfl) ?_
  refine dg_get (C := RX12) (T := TX12) (N := 77) hx hb hts (fun w h => bw_mem (wU_X12 w h)) hown K hP sM_0 rfl 49 (dk_dq rfl) (hts _ (bw_mem wB_1108)) (fun _ h9 => h9) (v := .ref (o + 29)) (show S.1 0 49 = .ref (o + 29) from dg_I.rel (d := 29) I sM_0 (by decide +kernel)) dX12_copies_6 ?_
  refine lv_iload_n hx hb dX12_copies_9 rfl (lv_at hl 2 rfl) ?_
  have hin_1 : vp_in a2 22 := (dk_inv2 (by omega))
  refine dg_iald hx hb K hP sM_29 hin_1 dX12_copies_10 (fun y_2 ey_2 => ?_)
  obtain rfl : s2 = y_2 := (ey_2.trans f_s2).symm
  have hin_3 : vp_in a1 22 := (dk_inv2 (by omega))
  refine dg_iast hx hb K hP hS hA1 sM_29 hin_3 dX12_copies_11 (fun S_4 e_4 H locs hP hS => ?_)
  have I_4 := dg_I.ufu (lo := 0) (hi := 2000) I e_4 sM_29 (by decide +kernel) (show 0 ≤ (s2).toInt ∧ (s2).toInt ≤ 2000 from (by omega))
  have M_4 := dg_sm.uf M_0 e_4 sM_29 (dk_dq rfl)
  have ZS_4 := ZSM.up ZS hin_3 e_4 (by omega)
  obtain ⟨z_5, f_z_5⟩ : ∃ x, S_4.2.1 29 (0 : Int32).toNatClampNeg = x := ⟨_, rfl⟩
  have hz_z_5 : (a1).toInt ≠ 0 → (z_5).toInt = (z0).toInt := fun h => by rw [← f_z_5, dg_uf_at e_4, dg_upd_ne (by have h8 := (dk_inT hin_3).1; have h7 : ((0 : Int32).toNatClampNeg : Nat) = 0 := (by decide +kernel); omega)]; exact congrArg Int32.toInt (f_z0)
  have b_z_5 := dk_all_at (dg_I.row (lo := 0) (hi := 2000) I_4 sM_29 (by decide +kernel)) (dk_in (by decide +kernel) : vp_in (0 : Int32) 22) f_z_5.symm
  refine lv_aload_n hx hb dX12_copies_12 rfl (lv_at hl 0 rfl) ?_
  refine dg_get (C := RX12) (T := TX12) (N := 77) hx hb hts (fun w h => bw_mem (wU_X12 w h)) hown K hP sM_0 rfl 50 (dk_dq rfl) (hts _ (bw_mem wB_1129)) (fun _ h9 => h9) (v := .ref (o + 30)) (show S_4.1 0 50 = .ref (o + 30) from dg_I.rel (d := 30) I_4 sM_0 (by decide +kernel)) dX12_copies_13 ?_
  refine lv_iload_n hx hb dX12_copies_16 rfl (lv_at hl 1 rfl) ?_
  refine lv_aload_n hx hb dX12_copies_17 rfl (lv_at hl 0 rfl) ?_
  refine dg_get (C := RX12) (T := TX12) (N := 77) hx hb hts (fun w h => bw_mem (wU_X12 w h)) hown K hP sM_0 rfl 50 (dk_dq rfl) (hts _ (bw_mem wB_1129)) (fun _ h9 => h9) (v := .ref (o + 30)) (show S_4.1 0 50 = .ref (o + 30) from dg_I.rel (d := 30) I_4 sM_0 (by decide +kernel)) dX12_copies_18 ?_
  refine lv_iload_n hx hb dX12_copies_21 rfl (lv_at hl 2 rfl) ?_
  have hin_6 : vp_in a2 22 := (dk_inv2 (by omega))
  refine dg_iald hx hb K hP sM_30 hin_6 dX12_copies_22 (fun x_7 ex_7 => ?_)
  have hin_8 : vp_in a1 22 := (dk_inv2 (by omega))
  refine dg_iast hx hb K hP hS hA1 sM_30 hin_8 dX12_copies_23 (fun S_9 e_9 H locs hP hS => ?_)
  have I_9 := dg_I.uf0 I_4 e_9 sM_30 (by decide +kernel)
  have M_9 := dg_sm.uf M_4 e_9 sM_30 (dk_dq rfl)
  refine lv_aload_n hx hb dX12_copies_24 rfl (lv_at hl 0 rfl) ?_
  refine dg_get (C := RX12) (T := TX12) (N := 77) hx hb hts (fun w h => bw_mem (wU_X12 w h)) hown K hP sM_0 rfl 53 (dk_dq rfl) (hts _ (bw_mem wB_1130)) (fun _ h9 => h9) (v := .ref (o + 33)) (show S_9.1 0 53 = .ref (o + 33) from dg_I.rel (d := 33) I_9 sM_0 (by decide +kernel)) dX12_copies_25 ?_
  refine lv_iload_n hx hb dX12_copies_28 rfl (lv_at hl 1 rfl) ?_
  refine lv_aload_n hx hb dX12_copies_29 rfl (lv_at hl 0 rfl) ?_
  refine dg_get (C := RX12) (T := TX12) (N := 77) hx hb hts (fun w h => bw_mem (wU_X12 w h)) hown K hP sM_0 rfl 53 (dk_dq rfl) (hts _ (bw_mem wB_1130)) (fun _ h9 => h9) (v := .ref (o + 33)) (show S_9.1 0 53 = .ref (o + 33) from dg_I.rel (d := 33) I_9 sM_0 (by decide +kernel)) dX12_copies_30 ?_
  as_aux_lemma =>
    refine lv_iload_n hx hb dX12_copies_33 rfl (lv_at hl 2 rfl) ?_
    have hin_10 : vp_in a2 22 := (dk_inv2 (by omega))
    refine dg_iald hx hb K hP sM_33 hin_10 dX12_copies_34 (fun x_11 ex_11 => ?_)
    have hin_12 : vp_in a1 22 := (dk_inv2 (by omega))
    refine dg_iast hx hb K hP hS hA1 sM_33 hin_12 dX12_copies_35 (fun S_13 e_13 H locs hP hS => ?_)
    have I_13 := dg_I.uf0 I_9 e_13 sM_33 (by decide +kernel)
    have M_13 := dg_sm.uf M_9 e_13 sM_33 (dk_dq rfl)
    refine lv_aload_n hx hb dX12_copies_36 rfl (lv_at hl 0 rfl) ?_
    refine dg_get (C := RX12) (T := TX12) (N := 77) hx hb hts (fun w h => bw_mem (wU_X12 w h)) hown K hP sM_0 rfl 54 (dk_dq rfl) (hts _ (bw_mem wB_1131)) (fun _ h9 => h9) (v := .ref (o + 34)) (show S_13.1 0 54 = .ref (o + 34) from dg_I.rel (d := 34) I_13 sM_0 (by decide +kernel)) dX12_copies_37 ?_
    refine lv_iload_n hx hb dX12_copies_40 rfl (lv_at hl 1 rfl) ?_
    refine lv_aload_n hx hb dX12_copies_41 rfl (lv_at hl 0 rfl) ?_
    refine dg_get (C := RX12) (T := TX12) (N := 77) hx hb hts (fun w h => bw_mem (wU_X12 w h)) hown K hP sM_0 rfl 54 (dk_dq rfl) (hts _ (bw_mem wB_1131)) (fun _ h9 => h9) (v := .ref (o + 34)) (show S_13.1 0 54 = .ref (o + 34) from dg_I.rel (d := 34) I_13 sM_0 (by decide +kernel)) dX12_copies_42 ?_
    refine lv_iload_n hx hb dX12_copies_45 rfl (lv_at hl 2 rfl) ?_
    have hin_14 : vp_in a2 22 := (dk_inv2 (by omega))
    refine dg_iald hx hb K hP sM_34 hin_14 dX12_copies_46 (fun x_15 ex_15 => ?_)
    have hin_16 : vp_in a1 22 := (dk_inv2 (by omega))
    refine dg_iast hx hb K hP hS hA1 sM_34 hin_16 dX12_copies_47 (fun S_17 e_17 H locs hP hS => ?_)
    have I_17 := dg_I.uf0 I_13 e_17 sM_34 (by decide +kernel)
    have M_17 := dg_sm.uf M_13 e_17 sM_34 (dk_dq rfl)
    have hF_1 : F_m_copies o S a1 a2 = F_m_copies_J1 a2 a1 S S_17 := (F_m_copies_p12 (Eq.symm f_s2) e_4 (Eq.symm ex_7.symm) e_9 (Eq.symm ex_11.symm) e_13 (Eq.symm ex_15.symm) e_17)
    refine lv_iconst (v := 0) hx hb dX12_copies_48 (by decide +kernel) ?_
    refine lv_istore_n (lv' := [(3, .int 0), (0, .ref (o + 0)), (1, .int a1), (2, .int a2)]) hx hb dX12_copies_49 rfl hl (dk_dq rfl) rfl (fun ls hl => ?_)
    have J_400 : ∀ (x_128 : Int32), (64 ≤ (x_128).toInt ∧ (x_128).toInt ≤ 2147483647) → ∀ S_399 : dg_S, CM o S_399 → dg_sm shM [] [29, 30, 31, 32, 33, 34, 35, 36, 37, 38, 39] S S_399 → S_399.2.1 29 (0 : Int32).toNatClampNeg = z_5 → S_399.2.1 29 (a1 : Int32).toNatClampNeg = s2 → S_399.2.1 30 (a1 : Int32).toNatClampNeg = x_7 → S_399.2.1 33 (a1 : Int32).toNatClampNeg = x_11 → S_399.2.1 34 (a1 : Int32).toNatClampNeg = x_15 → ZSM S_399 → (F_m_copies o S a1 a2 = F_m_copies_J2 a2 a1 S S_399) → ∀ (H : Heap) (locs : List Loc), va_P D vwCl (dg_w g shM o rfM S_399) H → va_S A s.heap H locs → ∀ ls : Array Slot, lv_has ls 4 [(3, .int x_128), (0, .ref (o + 0)), (1, .int a1), (2, .int a2)] → W p l e ({ frames := 1, cells := 0, slots := 0, locals := 32 } : Room) s m args below meth c H locs 0 0 (MQ below (va_Qv (fun S' => CM o S' ∧ dg_sm shM [] [29, 30, 31, 32, 33, 34, 35, 36, 37, 38, 39] S S' ∧ (∀ x9 : Int32, S'.2.1 29 (a1 : Int32).toNatClampNeg = x9 → ((x9).toInt = (s2).toInt)) ∧ (∀ x9 : Int32, S'.2.1 29 (0 : Int32).toNatClampNeg = x9 → ((a1).toInt ≠ 0 → (x9).toInt = (z0).toInt)) ∧ ZSM S' ∧ (S' = F_m_copies o S a1 a2) ∧ True) (dg_B g D shM o rfM) A) args s 0 0 A) (F0 m 106 ls []) := by
      as_aux_lemma =>
        intro x_128 b_x_128 S_399 I_399 M_399 frw_399_0 frw_399_1 frw_399_2 frw_399_3 frw_399_4 ZS_399 hF_2 H locs hP hS ls hl
        refine lv_iconst (v := 0) hx hb dX12_copies_106 (by decide +kernel) ?_
        refine lv_istore_n (lv' := [(3, .int 0), (0, .ref (o + 0)), (1, .int a1), (2, .int a2)]) hx hb dX12_copies_107 rfl hl (dk_dq rfl) rfl (fun ls hl => ?_)
        have J_671 : ∀ (x_511 : Int32), (16 ≤ (x_511).toInt ∧ (x_511).toInt ≤ 2147483647) → ∀ S_670 : dg_S, CM o S_670 → dg_sm shM [] [29, 30, 31, 32, 33, 34, 35, 36, 37, 38, 39] S S_670 → S_670.2.1 29 (0 : Int32).toNatClampNeg = z_5 → S_670.2.1 29 (a1 : Int32).toNatClampNeg = s2 → S_670.2.1 30 (a1 : Int32).toNatClampNeg = x_7 → S_670.2.1 33 (a1 : Int32).toNatClampNeg = x_11 → S_670.2.1 34 (a1 : Int32).toNatClampNeg = x_15 → ZSM S_670 → (F_m_copies o S a1 a2 = F_m_copies_J3 a2 a1 S S_670) → ∀ (H : Heap) (locs : List Loc), va_P D vwCl (dg_w g shM o rfM S_670) H → va_S A s.heap H locs → ∀ ls : Array Slot, lv_has ls 4 [(3, .int x_511), (0, .ref (o + 0)), (1, .int a1), (2, .int a2)] → W p l e ({ frames := 1, cells := 0, slots := 0, locals := 32 } : Room) s m args below meth c H locs 0 0 (MQ below (va_Qv (fun S' => CM o S' ∧ dg_sm shM [] [29, 30, 31, 32, 33, 34, 35, 36, 37, 38, 39] S S' ∧ (∀ x9 : Int32, S'.2.1 29 (a1 : Int32).toNatClampNeg = x9 → ((x9).toInt = (s2).toInt)) ∧ (∀ x9 : Int32, S'.2.1 29 (0 : Int32).toNatClampNeg = x9 → ((a1).toInt ≠ 0 → (x9).toInt = (z0).toInt)) ∧ ZSM S' ∧ (S' = F_m_copies o S a1 a2) ∧ True) (dg_B g D shM o rfM) A) args s 0 0 A) (F0 m 164 ls []) := by
          as_aux_lemma =>
            intro x_511 b_x_511 S_670 I_670 M_670 frw_670_0 frw_670_1 frw_670_2 frw_670_3 frw_670_4 ZS_670 hF_3 H locs hP hS ls hl
            refine lv_iconst (v := 0) hx hb dX12_copies_164 (by decide +kernel) ?_
            refine lv_istore_n (lv' := [(3, .int 0), (0, .ref (o + 0)), (1, .int a1), (2, .int a2)]) hx hb dX12_copies_165 rfl hl (dk_dq rfl) rfl (fun ls hl => ?_)
            have J_830 : ∀ (x_736 : Int32), (10 ≤ (x_736).toInt ∧ (x_736).toInt ≤ 2147483647) → ∀ S_829 : dg_S, CM o S_829 → dg_sm shM [] [29, 30, 31, 32, 33, 34, 35, 36, 37, 38, 39] S S_829 → S_829.2.1 29 (0 : Int32).toNatClampNeg = z_5 → S_829.2.1 29 (a1 : Int32).toNatClampNeg = s2 → S_829.2.1 30 (a1 : Int32).toNatClampNeg = x_7 → S_829.2.1 33 (a1 : Int32).toNatClampNeg = x_11 → S_829.2.1 34 (a1 : Int32).toNatClampNeg = x_15 → ZSM S_829 → (F_m_copies o S a1 a2 = F_m_copies_J4 S_829 a2 a1 S) → ∀ (H : Heap) (locs : List Loc), va_P D vwCl (dg_w g shM o rfM S_829) H → va_S A s.heap H locs → ∀ ls : Array Slot, lv_has ls 4 [(3, .int x_736), (0, .ref (o + 0)), (1, .int a1), (2, .int a2)] → W p l e ({ frames := 1, cells := 0, slots := 0, locals := 32 } : Room) s m args below meth c H locs 0 0 (MQ below (va_Qv (fun S' => CM o S' ∧ dg_sm shM [] [29, 30, 31, 32, 33, 34, 35, 36, 37, 38, 39] S S' ∧ (∀ x9 : Int32, S'.2.1 29 (a1 : Int32).toNatClampNeg = x9 → ((x9).toInt = (s2).toInt)) ∧ (∀ x9 : Int32, S'.2.1 29 (0 : Int32).toNatClampNeg = x9 → ((a1).toInt ≠ 0 → (x9).toInt = (z0).toInt)) ∧ ZSM S' ∧ (S' = F_m_copies o S a1 a2) ∧ True) (dg_B g D shM o rfM) A) args s 0 0 A) (F0 m 200 ls []) := by
              as_aux_lemma =>
                intro x_736 b_x_736 S_829 I_829 M_829 frw_829_0 frw_829_1 frw_829_2 frw_829_3 frw_829_4 ZS_829 hF_4 H locs hP hS ls hl
                refine lv_aload_n hx hb dX12_copies_200 rfl (lv_at hl 1 rfl) ?_
                refine dg_get (C := RX12) (T := TX12) (N := 77) hx hb hts (fun w h => bw_mem (wU_X12 w h)) hown K hP sM_0 rfl 58 (dk_dq rfl) (hts _ (bw_mem wB_1127)) (fun _ h9 => h9) (v := .ref (o + 38)) (show S_829.1 0 58 = .ref (o + 38) from dg_I.rel (d := 38) I_829 sM_0 (by decide +kernel)) dX12_copies_201 ?_
                refine lv_iload_n hx hb dX12_copies_204 rfl (lv_at hl 2 rfl) ?_
                refine lv_aload_n hx hb dX12_copies_205 rfl (lv_at hl 1 rfl) ?_
                refine dg_get (C := RX12) (T := TX12) (N := 77) hx hb hts (fun w h => bw_mem (wU_X12 w h)) hown K hP sM_0 rfl 58 (dk_dq rfl) (hts _ (bw_mem wB_1127)) (fun _ h9 => h9) (v := .ref (o + 38)) (show S_829.1 0 58 = .ref (o + 38) from dg_I.rel (d := 38) I_829 sM_0 (by decide +kernel)) dX12_copies_206 ?_
                refine lv_iload_n hx hb dX12_copies_209 rfl (lv_at hl 3 rfl) ?_
                have hin_831 : vp_in a2 22 := (dk_inv2 (by omega))
                refine dg_iald hx hb K hP sM_38 hin_831 dX12_copies_210 (fun x_832 ex_832 => ?_)
                have b_x_832 := dk_all_at (dg_I.row (lo := 0) (hi := 40) I_829 sM_38 (by decide +kernel)) hin_831 ex_832
                have hin_833 : vp_in a1 22 := (dk_inv2 (by omega))
                refine dg_iast hx hb K hP hS hA1 sM_38 hin_833 dX12_copies_211 (fun S_834 e_834 H locs hP hS => ?_)
                have I_834 := dg_I.ufu (lo := 0) (hi := 40) I_829 e_834 sM_38 (by decide +kernel) (show 0 ≤ (x_832).toInt ∧ (x_832).toInt ≤ 40 from (by omega))
                have M_834 := dg_sm.uf M_829 e_834 sM_38 (dk_dq rfl)
                refine lv_iconst (v := 0) hx hb dX12_copies_212 (by decide +kernel) ?_
                refine lv_istore_n (lv' := [(3, .int 0), (0, .ref (o + 0)), (1, .int a1), (2, .int a2)]) hx hb dX12_copies_213 rfl hl (dk_dq rfl) rfl (fun ls hl => ?_)
                have L_909 : ∀ (n : Nat) (x_907 : Int32), (0 ≤ (x_907).toInt ∧ (x_907).toInt ≤ 160) → ((161 - (x_907).toInt).toNat < n) → ∀ S_908 : dg_S, CM o S_908 → dg_sm shM [] [29, 30, 31, 32, 33, 34, 35, 36, 37, 38, 39] S S_908 → S_908.2.1 29 (0 : Int32).toNatClampNeg = z_5 → S_908.2.1 29 (a1 : Int32).toNatClampNeg = s2 → S_908.2.1 30 (a1 : Int32).toNatClampNeg = x_7 → S_908.2.1 33 (a1 : Int32).toNatClampNeg = x_11 → S_908.2.1 34 (a1 : Int32).toNatClampNeg = x_15 → S_908.2.1 38 (a1 : Int32).toNatClampNeg = x_832 → ZSM S_908 → (F_m_copies o S a1 a2 = lp (F_m_copies_B5 a2 a1) S n (x_907, S_908)) → ∀ (H : Heap) (locs : List Loc), va_P D vwCl (dg_w g shM o rfM S_908) H → va_S A s.heap H locs → ∀ ls : Array Slot, lv_has ls 4 [(3, .int x_907), (0, .ref (o + 0)), (1, .int a1), (2, .int a2)] → W p l e ({ frames := 1, cells := 0, slots := 0, locals := 32 } : Room) s m args below meth c H locs 0 0 (MQ below (va_Qv (fun S' => CM o S' ∧ dg_sm shM [] [29, 30, 31, 32, 33, 34, 35, 36, 37, 38, 39] S S' ∧ (∀ x9 : Int32, S'.2.1 29 (a1 : Int32).toNatClampNeg = x9 → ((x9).toInt = (s2).toInt)) ∧ (∀ x9 : Int32, S'.2.1 29 (0 : Int32).toNatClampNeg = x9 → ((a1).toInt ≠ 0 → (x9).toInt = (z0).toInt)) ∧ ZSM S' ∧ (S' = F_m_copies o S a1 a2) ∧ True) (dg_B g D shM o rfM) A) args s 0 0 A) (F0 m 214 ls []) := by
                  as_aux_lemma =>
                    intro n
                    induction n with
                    | zero =>
                      intro x_907 b_x_907 hmu S_908 I_908 M_908 frw_908_0 frw_908_1 frw_908_2 frw_908_3 frw_908_4 frw_908_5 ZS_908 hF_5 H locs hP hS ls hl
                      omega
                    | succ n ih =>
                      as_aux_lemma =>
                        intro x_907 b_x_907 hmu S_908 I_908 M_908 frw_908_0 frw_908_1 frw_908_2 frw_908_3 frw_908_4 frw_908_5 ZS_908 hF_5 H locs hP hS ls hl
                        refine lv_iload_n hx hb dX12_copies_214 rfl (lv_at hl 0 rfl) ?_
                        refine lv_iconst (v := 4) hx hb dX12_copies_215 (by decide +kernel) ?_
                        refine lv_aload_n hx hb dX12_copies_216 rfl (lv_at hl 1 rfl) ?_
                        refine dg_get (C := RX12) (T := TX12) (N := 77) hx hb hts (fun w h => bw_mem (wU_X12 w h)) hown K hP sM_0 rfl 58 (dk_dq rfl) (hts _ (bw_mem wB_1127)) (fun _ h9 => h9) (v := .ref (o + 38)) (show S_908.1 0 58 = .ref (o + 38) from dg_I.rel (d := 38) I_908 sM_0 (by decide +kernel)) dX12_copies_217 ?_
                        refine lv_iload_n hx hb dX12_copies_220 rfl (lv_at hl 3 rfl) ?_
                        have hin_910 : vp_in a2 22 := (dk_inv2 (by omega))
                        refine dg_iald hx hb K hP sM_38 hin_910 dX12_copies_221 (fun x_911 ex_911 => ?_)
                        have b_x_911 := dk_all_at (dg_I.row (lo := 0) (hi := 40) I_908 sM_38 (by decide +kernel)) hin_910 ex_911
                        refine lv_imul hx hb dX12_copies_222 ?_
                        refine lv_topi (fun x_912 ex_912 => ?_)
                        have jx_912 : (x_912).toInt = 4 * (x_911).toInt := by rw [ex_912]; exact dk_mulT2 (by decide +kernel) rfl (by omega)
                        refine lv_icmp_ge (tgt := 256) hx hb dX12_copies_223 (dk_dq rfl) (fun c_913 => ?_) (fun c_913 => ?_)
                        · have jc_913 := dk_gec (k := (x_912).toInt) rfl c_913
                          refine W.widen (k := 0) (n := 0) (Nat.le_of_ble_eq_true rfl) (Nat.le_of_ble_eq_true rfl) ?_
                          exact dg_vret hx hb hr hlocks hP hS ⟨I_908, M_908, (fun x9 h9 => by obtain rfl := (frw_908_1).symm.trans h9; omega), (fun x9 h9 => by obtain rfl := (frw_908_0).symm.trans h9; omega), ZS_908, (Eq.symm (lp_r hF_5 (F_m_copies_p0 (Eq.symm ex_911.symm) ex_912 c_913))), trivial⟩ dX12_copies_256
                        · as_aux_lemma =>
                            have jc_913 := dk_ngec (k := (x_912).toInt) rfl c_913
                            refine lv_aload_n hx hb dX12_copies_226 rfl (lv_at hl 1 rfl) ?_
                            refine dg_get (C := RX12) (T := TX12) (N := 77) hx hb hts (fun w h => bw_mem (wU_X12 w h)) hown K hP sM_0 rfl 59 (dk_dq rfl) (hts _ (bw_mem wB_1128)) (fun _ h9 => h9) (v := .ref (o + 39)) (show S_908.1 0 59 = .ref (o + 39) from dg_I.rel (d := 39) I_908 sM_0 (by decide +kernel)) dX12_copies_227 ?_
                            refine lv_sipush (v := 160) hx hb dX12_copies_230 (by decide +kernel) ?_
                            refine lv_iload_n hx hb dX12_copies_233 rfl (lv_at hl 2 rfl) ?_
                            refine lv_imul hx hb dX12_copies_234 ?_
                            refine lv_topi (fun x_914 ex_914 => ?_)
                            have jx_914 : (x_914).toInt = 160 * (a1).toInt := by rw [ex_914]; exact dk_mulT2 (by decide +kernel) rfl (by omega)
                            refine lv_iload_n hx hb dX12_copies_235 rfl (lv_at hl 0 rfl) ?_
                            refine lv_iadd hx hb dX12_copies_236 ?_
                            refine lv_topi (fun x_915 ex_915 => ?_)
                            have jx_915 : (x_915).toInt = (x_914).toInt + (x_907).toInt := by rw [ex_915]; exact dk_addT2 rfl rfl (by omega)
                            refine lv_aload_n hx hb dX12_copies_237 rfl (lv_at hl 1 rfl) ?_
                            refine dg_get (C := RX12) (T := TX12) (N := 77) hx hb hts (fun w h => bw_mem (wU_X12 w h)) hown K hP sM_0 rfl 59 (dk_dq rfl) (hts _ (bw_mem wB_1128)) (fun _ h9 => h9) (v := .ref (o + 39)) (show S_908.1 0 59 = .ref (o + 39) from dg_I.rel (d := 39) I_908 sM_0 (by decide +kernel)) dX12_copies_238 ?_
                            refine lv_sipush (v := 160) hx hb dX12_copies_241 (by decide +kernel) ?_
                            refine lv_iload_n hx hb dX12_copies_244 rfl (lv_at hl 3 rfl) ?_
                            refine lv_imul hx hb dX12_copies_245 ?_
                            refine lv_topi (fun x_916 ex_916 => ?_)
                            have jx_916 : (x_916).toInt = 160 * (a2).toInt := by rw [ex_916]; exact dk_mulT2 (by decide +kernel) rfl (by omega)
                            refine lv_iload_n hx hb dX12_copies_246 rfl (lv_at hl 0 rfl) ?_
                            refine lv_iadd hx hb dX12_copies_247 ?_
                            refine lv_topi (fun x_917 ex_917 => ?_)
                            have jx_917 : (x_917).toInt = (x_916).toInt + (x_907).toInt := by rw [ex_917]; exact dk_addT2 rfl rfl (by omega)
                            have hin_918 : vp_in x_917 3520 := (dk_inv2 (by omega))
                            refine dg_iald hx hb K hP sM_39 hin_918 dX12_copies_248 (fun x_919 ex_919 => ?_)
                            have hin_920 : vp_in x_915 3520 := (dk_inv2 (by omega))
                            refine dg_iast hx hb K hP hS hA1 sM_39 hin_920 dX12_copies_249 (fun S_921 e_921 H locs hP hS => ?_)
                            have I_921 := dg_I.uf0 I_908 e_921 sM_39 (by decide +kernel)
                            have M_921 := dg_sm.uf M_908 e_921 sM_39 (dk_dq rfl)
                            obtain ⟨x_922, ex_922⟩ : ∃ z, z = x_907 + 1 := ⟨_, rfl⟩
                            have jx_922 : (x_922).toInt = (x_907).toInt + 1 := by rw [ex_922]; exact dk_addT2 rfl (by decide +kernel) (by omega)
                            refine lv_iinc (v := x_922) (lv' := [(3, .int x_922), (0, .ref (o + 0)), (1, .int a1), (2, .int a2)]) hx hb dX12_copies_250 hl (k := 0) rfl (by rw [ex_922]; rfl) (dk_dq rfl) rfl (fun ls hl => ?_)
                            refine lv_goto (tgt := 214) hx hb dX12_copies_253 (dk_dq rfl) ?_
                            exact ih x_922 (by omega) (by first | exact mu_lt hmu (by omega) (by omega) | omega) S_921 I_921 M_921 ((congrFun (dg_uf_ne e_921 (dk_dq rfl)) _).trans frw_908_0) ((congrFun (dg_uf_ne e_921 (dk_dq rfl)) _).trans frw_908_1) ((congrFun (dg_uf_ne e_921 (dk_dq rfl)) _).trans frw_908_2) ((congrFun (dg_uf_ne e_921 (dk_dq rfl)) _).trans frw_908_3) ((congrFun (dg_uf_ne e_921 (dk_dq rfl)) _).trans frw_908_4) ((congrFun (dg_uf_ne e_921 (dk_dq rfl)) _).trans frw_908_5) (ZSM.keep ZS_908 (dg_sm.uf (WF := []) (WA := [39]) dg_sm.rf e_921 sM_39 (dk_dq rfl)) (dk_dq rfl)) (lp_l hF_5 (F_m_copies_p1 (Eq.symm ex_911.symm) ex_912 c_913 ex_914 ex_915 ex_916 ex_917 (Eq.symm ex_919.symm) e_921 ex_922)) _ _ hP hS _ (lv_sub hl [0, 1, 2, 3] rfl)
                have hz_923 : (0 : Int32).toInt = 0 := by decide +kernel
                have hz_924 : (0 : Int32).toInt = 0 := by decide +kernel
                exact L_909 ((161 - ((0 : Int32)).toInt).toNat + 1) 0 (by decide +kernel) (by first | exact mu_lt hmu (by omega) (by omega) | omega) S_834 I_834 M_834 ((congrFun (dg_uf_ne e_834 (dk_dq rfl)) _).trans frw_829_0) ((congrFun (dg_uf_ne e_834 (dk_dq rfl)) _).trans frw_829_1) ((congrFun (dg_uf_ne e_834 (dk_dq rfl)) _).trans frw_829_2) ((congrFun (dg_uf_ne e_834 (dk_dq rfl)) _).trans frw_829_3) ((congrFun (dg_uf_ne e_834 (dk_dq rfl)) _).trans frw_829_4) ((congrFun (dg_uf_at e_834) _).trans (dg_upd_at rfl)) (ZSM.keep ZS_829 (dg_sm.uf (WF := []) (WA := [38]) dg_sm.rf e_834 sM_38 (dk_dq rfl)) (dk_dq rfl)) (Eq.trans hF_4 (F_m_copies_p2 (Eq.symm ex_832.symm) e_834)) _ _ hP hS _ (lv_sub hl [0, 1, 2, 3] rfl)
            have L_981 : ∀ (n : Nat) (x_979 : Int32), (0 ≤ (x_979).toInt ∧ (x_979).toInt ≤ 10) → ((11 - (x_979).toInt).toNat < n) → ∀ S_980 : dg_S, CM o S_980 → dg_sm shM [] [29, 30, 31, 32, 33, 34, 35, 36, 37, 38, 39] S S_980 → S_980.2.1 29 (0 : Int32).toNatClampNeg = z_5 → S_980.2.1 29 (a1 : Int32).toNatClampNeg = s2 → S_980.2.1 30 (a1 : Int32).toNatClampNeg = x_7 → S_980.2.1 33 (a1 : Int32).toNatClampNeg = x_11 → S_980.2.1 34 (a1 : Int32).toNatClampNeg = x_15 → ZSM S_980 → (F_m_copies o S a1 a2 = lp (F_m_copies_B6 a2 a1 S) S n (x_979, S_980)) → ∀ (H : Heap) (locs : List Loc), va_P D vwCl (dg_w g shM o rfM S_980) H → va_S A s.heap H locs → ∀ ls : Array Slot, lv_has ls 4 [(3, .int x_979), (0, .ref (o + 0)), (1, .int a1), (2, .int a2)] → W p l e ({ frames := 1, cells := 0, slots := 0, locals := 32 } : Room) s m args below meth c H locs 0 0 (MQ below (va_Qv (fun S' => CM o S' ∧ dg_sm shM [] [29, 30, 31, 32, 33, 34, 35, 36, 37, 38, 39] S S' ∧ (∀ x9 : Int32, S'.2.1 29 (a1 : Int32).toNatClampNeg = x9 → ((x9).toInt = (s2).toInt)) ∧ (∀ x9 : Int32, S'.2.1 29 (0 : Int32).toNatClampNeg = x9 → ((a1).toInt ≠ 0 → (x9).toInt = (z0).toInt)) ∧ ZSM S' ∧ (S' = F_m_copies o S a1 a2) ∧ True) (dg_B g D shM o rfM) A) args s 0 0 A) (F0 m 166 ls []) := by
              as_aux_lemma =>
                intro n
                induction n with
                | zero =>
                  intro x_979 b_x_979 hmu S_980 I_980 M_980 frw_980_0 frw_980_1 frw_980_2 frw_980_3 frw_980_4 ZS_980 hF_6 H locs hP hS ls hl
                  omega
                | succ n ih =>
                  as_aux_lemma =>
                    intro x_979 b_x_979 hmu S_980 I_980 M_980 frw_980_0 frw_980_1 frw_980_2 frw_980_3 frw_980_4 ZS_980 hF_6 H locs hP hS ls hl
                    refine lv_iload_n hx hb dX12_copies_166 rfl (lv_at hl 0 rfl) ?_
                    refine lv_bipush (v := 10) hx hb dX12_copies_167 (by decide +kernel) ?_
                    refine lv_icmp_ge (tgt := 200) hx hb dX12_copies_169 (dk_dq rfl) (fun c_982 => ?_) (fun c_982 => ?_)
                    · have jc_982 := dk_gec (k := 10) (by decide +kernel) c_982
                      have hf_982 := dk_full x_979
                      exact J_830 x_979 (by omega) S_980 I_980 M_980 frw_980_0 frw_980_1 frw_980_2 frw_980_3 frw_980_4 ZS_980 (lp_r hF_6 (F_m_copies_p3 c_982)) _ _ hP hS _ (lv_sub hl [0, 1, 2, 3] rfl)
                    · as_aux_lemma =>
                        have jc_982 := dk_ngec (k := 10) (by decide +kernel) c_982
                        refine lv_aload_n hx hb dX12_copies_172 rfl (lv_at hl 1 rfl) ?_
                        refine dg_get (C := RX12) (T := TX12) (N := 77) hx hb hts (fun w h => bw_mem (wU_X12 w h)) hown K hP sM_0 rfl 57 (dk_dq rfl) (hts _ (bw_mem wB_1117)) (fun _ h9 => h9) (v := .ref (o + 37)) (show S_980.1 0 57 = .ref (o + 37) from dg_I.rel (d := 37) I_980 sM_0 (by decide +kernel)) dX12_copies_173 ?_
                        refine lv_bipush (v := 10) hx hb dX12_copies_176 (by decide +kernel) ?_
                        refine lv_iload_n hx hb dX12_copies_178 rfl (lv_at hl 2 rfl) ?_
                        refine lv_imul hx hb dX12_copies_179 ?_
                        refine lv_topi (fun x_984 ex_984 => ?_)
                        have jx_984 : (x_984).toInt = 10 * (a1).toInt := by rw [ex_984]; exact dk_mulT2 (by decide +kernel) rfl (by omega)
                        refine lv_iload_n hx hb dX12_copies_180 rfl (lv_at hl 0 rfl) ?_
                        refine lv_iadd hx hb dX12_copies_181 ?_
                        refine lv_topi (fun x_985 ex_985 => ?_)
                        have jx_985 : (x_985).toInt = (x_984).toInt + (x_979).toInt := by rw [ex_985]; exact dk_addT2 rfl rfl (by omega)
                        refine lv_aload_n hx hb dX12_copies_182 rfl (lv_at hl 1 rfl) ?_
                        refine dg_get (C := RX12) (T := TX12) (N := 77) hx hb hts (fun w h => bw_mem (wU_X12 w h)) hown K hP sM_0 rfl 57 (dk_dq rfl) (hts _ (bw_mem wB_1117)) (fun _ h9 => h9) (v := .ref (o + 37)) (show S_980.1 0 57 = .ref (o + 37) from dg_I.rel (d := 37) I_980 sM_0 (by decide +kernel)) dX12_copies_183 ?_
                        refine lv_bipush (v := 10) hx hb dX12_copies_186 (by decide +kernel) ?_
                        refine lv_iload_n hx hb dX12_copies_188 rfl (lv_at hl 3 rfl) ?_
                        refine lv_imul hx hb dX12_copies_189 ?_
                        refine lv_topi (fun x_986 ex_986 => ?_)
                        have jx_986 : (x_986).toInt = 10 * (a2).toInt := by rw [ex_986]; exact dk_mulT2 (by decide +kernel) rfl (by omega)
                        refine lv_iload_n hx hb dX12_copies_190 rfl (lv_at hl 0 rfl) ?_
                        refine lv_iadd hx hb dX12_copies_191 ?_
                        refine lv_topi (fun x_987 ex_987 => ?_)
                        have jx_987 : (x_987).toInt = (x_986).toInt + (x_979).toInt := by rw [ex_987]; exact dk_addT2 rfl rfl (by omega)
                        have hin_988 : vp_in x_987 220 := (dk_inv2 (by omega))
                        refine dg_iald hx hb K hP sM_37 hin_988 dX12_copies_192 (fun x_989 ex_989 => ?_)
                        have hin_990 : vp_in x_985 220 := (dk_inv2 (by omega))
                        refine dg_iast hx hb K hP hS hA1 sM_37 hin_990 dX12_copies_193 (fun S_991 e_991 H locs hP hS => ?_)
                        have I_991 := dg_I.uf0 I_980 e_991 sM_37 (by decide +kernel)
                        have M_991 := dg_sm.uf M_980 e_991 sM_37 (dk_dq rfl)
                        obtain ⟨x_992, ex_992⟩ : ∃ z, z = x_979 + 1 := ⟨_, rfl⟩
                        have jx_992 : (x_992).toInt = (x_979).toInt + 1 := by rw [ex_992]; exact dk_addT2 rfl (by decide +kernel) (by omega)
                        refine lv_iinc (v := x_992) (lv' := [(3, .int x_992), (0, .ref (o + 0)), (1, .int a1), (2, .int a2)]) hx hb dX12_copies_194 hl (k := 0) rfl (by rw [ex_992]; rfl) (dk_dq rfl) rfl (fun ls hl => ?_)
                        refine lv_goto (tgt := 166) hx hb dX12_copies_197 (dk_dq rfl) ?_
                        exact ih x_992 (by omega) (by first | exact mu_lt hmu (by omega) (by omega) | omega) S_991 I_991 M_991 ((congrFun (dg_uf_ne e_991 (dk_dq rfl)) _).trans frw_980_0) ((congrFun (dg_uf_ne e_991 (dk_dq rfl)) _).trans frw_980_1) ((congrFun (dg_uf_ne e_991 (dk_dq rfl)) _).trans frw_980_2) ((congrFun (dg_uf_ne e_991 (dk_dq rfl)) _).trans frw_980_3) ((congrFun (dg_uf_ne e_991 (dk_dq rfl)) _).trans frw_980_4) (ZSM.keep ZS_980 (dg_sm.uf (WF := []) (WA := [37]) dg_sm.rf e_991 sM_37 (dk_dq rfl)) (dk_dq rfl)) (lp_l hF_6 (F_m_copies_p4 c_982 ex_984 ex_985 ex_986 ex_987 (Eq.symm ex_989.symm) e_991 ex_992)) _ _ hP hS _ (lv_sub hl [0, 1, 2, 3] rfl)
            have hz_993 : (0 : Int32).toInt = 0 := by decide +kernel
            have hz_994 : (0 : Int32).toInt = 0 := by decide +kernel
            exact L_981 ((11 - ((0 : Int32)).toInt).toNat + 1) 0 (by decide +kernel) (by first | exact mu_lt hmu (by omega) (by omega) | omega) S_670 I_670 M_670 frw_670_0 frw_670_1 frw_670_2 frw_670_3 frw_670_4 ZS_670 (Eq.trans hF_3 (F_m_copies_p5)) _ _ hP hS _ (lv_sub hl [0, 1, 2, 3] rfl)
        have L_1089 : ∀ (n : Nat) (x_1087 : Int32), (0 ≤ (x_1087).toInt ∧ (x_1087).toInt ≤ 16) → ((17 - (x_1087).toInt).toNat < n) → ∀ S_1088 : dg_S, CM o S_1088 → dg_sm shM [] [29, 30, 31, 32, 33, 34, 35, 36, 37, 38, 39] S S_1088 → S_1088.2.1 29 (0 : Int32).toNatClampNeg = z_5 → S_1088.2.1 29 (a1 : Int32).toNatClampNeg = s2 → S_1088.2.1 30 (a1 : Int32).toNatClampNeg = x_7 → S_1088.2.1 33 (a1 : Int32).toNatClampNeg = x_11 → S_1088.2.1 34 (a1 : Int32).toNatClampNeg = x_15 → ZSM S_1088 → (F_m_copies o S a1 a2 = lp (F_m_copies_B7 a2 a1 S) S n (x_1087, S_1088)) → ∀ (H : Heap) (locs : List Loc), va_P D vwCl (dg_w g shM o rfM S_1088) H → va_S A s.heap H locs → ∀ ls : Array Slot, lv_has ls 4 [(3, .int x_1087), (0, .ref (o + 0)), (1, .int a1), (2, .int a2)] → W p l e ({ frames := 1, cells := 0, slots := 0, locals := 32 } : Room) s m args below meth c H locs 0 0 (MQ below (va_Qv (fun S' => CM o S' ∧ dg_sm shM [] [29, 30, 31, 32, 33, 34, 35, 36, 37, 38, 39] S S' ∧ (∀ x9 : Int32, S'.2.1 29 (a1 : Int32).toNatClampNeg = x9 → ((x9).toInt = (s2).toInt)) ∧ (∀ x9 : Int32, S'.2.1 29 (0 : Int32).toNatClampNeg = x9 → ((a1).toInt ≠ 0 → (x9).toInt = (z0).toInt)) ∧ ZSM S' ∧ (S' = F_m_copies o S a1 a2) ∧ True) (dg_B g D shM o rfM) A) args s 0 0 A) (F0 m 108 ls []) := by
          as_aux_lemma =>
            intro n
            induction n with
            | zero =>
              intro x_1087 b_x_1087 hmu S_1088 I_1088 M_1088 frw_1088_0 frw_1088_1 frw_1088_2 frw_1088_3 frw_1088_4 ZS_1088 hF_7 H locs hP hS ls hl
              omega
            | succ n ih =>
              as_aux_lemma =>
                intro x_1087 b_x_1087 hmu S_1088 I_1088 M_1088 frw_1088_0 frw_1088_1 frw_1088_2 frw_1088_3 frw_1088_4 ZS_1088 hF_7 H locs hP hS ls hl
                refine lv_iload_n hx hb dX12_copies_108 rfl (lv_at hl 0 rfl) ?_
                refine lv_bipush (v := 16) hx hb dX12_copies_109 (by decide +kernel) ?_
                refine lv_icmp_ge (tgt := 164) hx hb dX12_copies_111 (dk_dq rfl) (fun c_1090 => ?_) (fun c_1090 => ?_)
                · have jc_1090 := dk_gec (k := 16) (by decide +kernel) c_1090
                  have hf_1090 := dk_full x_1087
                  exact J_671 x_1087 (by omega) S_1088 I_1088 M_1088 frw_1088_0 frw_1088_1 frw_1088_2 frw_1088_3 frw_1088_4 ZS_1088 (lp_r hF_7 (F_m_copies_p6 c_1090)) _ _ hP hS _ (lv_sub hl [0, 1, 2, 3] rfl)
                · as_aux_lemma =>
                    have jc_1090 := dk_ngec (k := 16) (by decide +kernel) c_1090
                    refine lv_aload_n hx hb dX12_copies_114 rfl (lv_at hl 1 rfl) ?_
                    refine dg_get (C := RX12) (T := TX12) (N := 77) hx hb hts (fun w h => bw_mem (wU_X12 w h)) hown K hP sM_0 rfl 55 (dk_dq rfl) (hts _ (bw_mem wB_1132)) (fun _ h9 => h9) (v := .ref (o + 35)) (show S_1088.1 0 55 = .ref (o + 35) from dg_I.rel (d := 35) I_1088 sM_0 (by decide +kernel)) dX12_copies_115 ?_
                    refine lv_bipush (v := 16) hx hb dX12_copies_118 (by decide +kernel) ?_
                    refine lv_iload_n hx hb dX12_copies_120 rfl (lv_at hl 2 rfl) ?_
                    refine lv_imul hx hb dX12_copies_121 ?_
                    refine lv_topi (fun x_1092 ex_1092 => ?_)
                    have jx_1092 : (x_1092).toInt = 16 * (a1).toInt := by rw [ex_1092]; exact dk_mulT2 (by decide +kernel) rfl (by omega)
                    refine lv_iload_n hx hb dX12_copies_122 rfl (lv_at hl 0 rfl) ?_
                    refine lv_iadd hx hb dX12_copies_123 ?_
                    refine lv_topi (fun x_1093 ex_1093 => ?_)
                    have jx_1093 : (x_1093).toInt = (x_1092).toInt + (x_1087).toInt := by rw [ex_1093]; exact dk_addT2 rfl rfl (by omega)
                    refine lv_aload_n hx hb dX12_copies_124 rfl (lv_at hl 1 rfl) ?_
                    refine dg_get (C := RX12) (T := TX12) (N := 77) hx hb hts (fun w h => bw_mem (wU_X12 w h)) hown K hP sM_0 rfl 55 (dk_dq rfl) (hts _ (bw_mem wB_1132)) (fun _ h9 => h9) (v := .ref (o + 35)) (show S_1088.1 0 55 = .ref (o + 35) from dg_I.rel (d := 35) I_1088 sM_0 (by decide +kernel)) dX12_copies_125 ?_
                    refine lv_bipush (v := 16) hx hb dX12_copies_128 (by decide +kernel) ?_
                    refine lv_iload_n hx hb dX12_copies_130 rfl (lv_at hl 3 rfl) ?_
                    refine lv_imul hx hb dX12_copies_131 ?_
                    refine lv_topi (fun x_1094 ex_1094 => ?_)
                    have jx_1094 : (x_1094).toInt = 16 * (a2).toInt := by rw [ex_1094]; exact dk_mulT2 (by decide +kernel) rfl (by omega)
                    refine lv_iload_n hx hb dX12_copies_132 rfl (lv_at hl 0 rfl) ?_
                    refine lv_iadd hx hb dX12_copies_133 ?_
                    refine lv_topi (fun x_1095 ex_1095 => ?_)
                    have jx_1095 : (x_1095).toInt = (x_1094).toInt + (x_1087).toInt := by rw [ex_1095]; exact dk_addT2 rfl rfl (by omega)
                    have hin_1096 : vp_in x_1095 352 := (dk_inv2 (by omega))
                    refine dg_iald hx hb K hP sM_35 hin_1096 dX12_copies_134 (fun x_1097 ex_1097 => ?_)
                    have hin_1098 : vp_in x_1093 352 := (dk_inv2 (by omega))
                    refine dg_iast hx hb K hP hS hA1 sM_35 hin_1098 dX12_copies_135 (fun S_1099 e_1099 H locs hP hS => ?_)
                    have I_1099 := dg_I.uf0 I_1088 e_1099 sM_35 (by decide +kernel)
                    have M_1099 := dg_sm.uf M_1088 e_1099 sM_35 (dk_dq rfl)
                    refine lv_aload_n hx hb dX12_copies_136 rfl (lv_at hl 1 rfl) ?_
                    refine dg_get (C := RX12) (T := TX12) (N := 77) hx hb hts (fun w h => bw_mem (wU_X12 w h)) hown K hP sM_0 rfl 56 (dk_dq rfl) (hts _ (bw_mem wB_1133)) (fun _ h9 => h9) (v := .ref (o + 36)) (show S_1099.1 0 56 = .ref (o + 36) from dg_I.rel (d := 36) I_1099 sM_0 (by decide +kernel)) dX12_copies_137 ?_
                    refine lv_bipush (v := 16) hx hb dX12_copies_140 (by decide +kernel) ?_
                    refine lv_iload_n hx hb dX12_copies_142 rfl (lv_at hl 2 rfl) ?_
                    refine lv_imul hx hb dX12_copies_143 ?_
                    refine lv_topi (fun x_1100 ex_1100 => ?_)
                    have jx_1100 : (x_1100).toInt = 16 * (a1).toInt := by rw [ex_1100]; exact dk_mulT2 (by decide +kernel) rfl (by omega)
                    refine lv_iload_n hx hb dX12_copies_144 rfl (lv_at hl 0 rfl) ?_
                    refine lv_iadd hx hb dX12_copies_145 ?_
                    refine lv_topi (fun x_1101 ex_1101 => ?_)
                    have jx_1101 : (x_1101).toInt = (x_1100).toInt + (x_1087).toInt := by rw [ex_1101]; exact dk_addT2 rfl rfl (by omega)
                    as_aux_lemma =>
                      refine lv_aload_n hx hb dX12_copies_146 rfl (lv_at hl 1 rfl) ?_
                      refine dg_get (C := RX12) (T := TX12) (N := 77) hx hb hts (fun w h => bw_mem (wU_X12 w h)) hown K hP sM_0 rfl 56 (dk_dq rfl) (hts _ (bw_mem wB_1133)) (fun _ h9 => h9) (v := .ref (o + 36)) (show S_1099.1 0 56 = .ref (o + 36) from dg_I.rel (d := 36) I_1099 sM_0 (by decide +kernel)) dX12_copies_147 ?_
                      refine lv_bipush (v := 16) hx hb dX12_copies_150 (by decide +kernel) ?_
                      refine lv_iload_n hx hb dX12_copies_152 rfl (lv_at hl 3 rfl) ?_
                      refine lv_imul hx hb dX12_copies_153 ?_
                      refine lv_topi (fun x_1102 ex_1102 => ?_)
                      have jx_1102 : (x_1102).toInt = 16 * (a2).toInt := by rw [ex_1102]; exact dk_mulT2 (by decide +kernel) rfl (by omega)
                      refine lv_iload_n hx hb dX12_copies_154 rfl (lv_at hl 0 rfl) ?_
                      refine lv_iadd hx hb dX12_copies_155 ?_
                      refine lv_topi (fun x_1103 ex_1103 => ?_)
                      have jx_1103 : (x_1103).toInt = (x_1102).toInt + (x_1087).toInt := by rw [ex_1103]; exact dk_addT2 rfl rfl (by omega)
                      have hin_1104 : vp_in x_1103 352 := (dk_inv2 (by omega))
                      refine dg_iald hx hb K hP sM_36 hin_1104 dX12_copies_156 (fun x_1105 ex_1105 => ?_)
                      have b_x_1105 := dk_all_at (dg_I.row (lo := 0) (hi := 63) I_1099 sM_36 (by decide +kernel)) hin_1104 ex_1105
                      have hin_1106 : vp_in x_1101 352 := (dk_inv2 (by omega))
                      refine dg_iast hx hb K hP hS hA1 sM_36 hin_1106 dX12_copies_157 (fun S_1107 e_1107 H locs hP hS => ?_)
                      have I_1107 := dg_I.ufu (lo := 0) (hi := 63) I_1099 e_1107 sM_36 (by decide +kernel) (show 0 ≤ (x_1105).toInt ∧ (x_1105).toInt ≤ 63 from (by omega))
                      have M_1107 := dg_sm.uf M_1099 e_1107 sM_36 (dk_dq rfl)
                      obtain ⟨x_1108, ex_1108⟩ : ∃ z, z = x_1087 + 1 := ⟨_, rfl⟩
                      have jx_1108 : (x_1108).toInt = (x_1087).toInt + 1 := by rw [ex_1108]; exact dk_addT2 rfl (by decide +kernel) (by omega)
                      refine lv_iinc (v := x_1108) (lv' := [(3, .int x_1108), (0, .ref (o + 0)), (1, .int a1), (2, .int a2)]) hx hb dX12_copies_158 hl (k := 0) rfl (by rw [ex_1108]; rfl) (dk_dq rfl) rfl (fun ls hl => ?_)
                      refine lv_goto (tgt := 108) hx hb dX12_copies_161 (dk_dq rfl) ?_
                      exact ih x_1108 (by omega) (by first | exact mu_lt hmu (by omega) (by omega) | omega) S_1107 I_1107 M_1107 ((congrFun ((dg_uf_ne e_1107 (dk_dq rfl)).trans (dg_uf_ne e_1099 (dk_dq rfl))) _).trans frw_1088_0) ((congrFun ((dg_uf_ne e_1107 (dk_dq rfl)).trans (dg_uf_ne e_1099 (dk_dq rfl))) _).trans frw_1088_1) ((congrFun ((dg_uf_ne e_1107 (dk_dq rfl)).trans (dg_uf_ne e_1099 (dk_dq rfl))) _).trans frw_1088_2) ((congrFun ((dg_uf_ne e_1107 (dk_dq rfl)).trans (dg_uf_ne e_1099 (dk_dq rfl))) _).trans frw_1088_3) ((congrFun ((dg_uf_ne e_1107 (dk_dq rfl)).trans (dg_uf_ne e_1099 (dk_dq rfl))) _).trans frw_1088_4) (ZSM.keep (ZSM.keep ZS_1088 (dg_sm.uf (WF := []) (WA := [35]) dg_sm.rf e_1099 sM_35 (dk_dq rfl)) (dk_dq rfl)) (dg_sm.uf (WF := []) (WA := [36]) dg_sm.rf e_1107 sM_36 (dk_dq rfl)) (dk_dq rfl)) (lp_l hF_7 (F_m_copies_p7 c_1090 ex_1092 ex_1093 ex_1094 ex_1095 (Eq.symm ex_1097.symm) e_1099 ex_1100 ex_1101 ex_1102 ex_1103 (Eq.symm ex_1105.symm) e_1107 ex_1108)) _ _ hP hS _ (lv_sub hl [0, 1, 2, 3] rfl)
        have hz_1109 : (0 : Int32).toInt = 0 := by decide +kernel
        have hz_1110 : (0 : Int32).toInt = 0 := by decide +kernel
        exact L_1089 ((17 - ((0 : Int32)).toInt).toNat + 1) 0 (by decide +kernel) (by first | exact mu_lt hmu (by omega) (by omega) | omega) S_399 I_399 M_399 frw_399_0 frw_399_1 frw_399_2 frw_399_3 frw_399_4 ZS_399 (Eq.trans hF_2 (F_m_copies_p8)) _ _ hP hS _ (lv_sub hl [0, 1, 2, 3] rfl)
    have L_1205 : ∀ (n : Nat) (x_1203 : Int32), (0 ≤ (x_1203).toInt ∧ (x_1203).toInt ≤ 64) → ((65 - (x_1203).toInt).toNat < n) → ∀ S_1204 : dg_S, CM o S_1204 → dg_sm shM [] [29, 30, 31, 32, 33, 34, 35, 36, 37, 38, 39] S S_1204 → S_1204.2.1 29 (0 : Int32).toNatClampNeg = z_5 → S_1204.2.1 29 (a1 : Int32).toNatClampNeg = s2 → S_1204.2.1 30 (a1 : Int32).toNatClampNeg = x_7 → S_1204.2.1 33 (a1 : Int32).toNatClampNeg = x_11 → S_1204.2.1 34 (a1 : Int32).toNatClampNeg = x_15 → ZSM S_1204 → (F_m_copies o S a1 a2 = lp (F_m_copies_B8 a2 a1 S) S n (x_1203, S_1204)) → ∀ (H : Heap) (locs : List Loc), va_P D vwCl (dg_w g shM o rfM S_1204) H → va_S A s.heap H locs → ∀ ls : Array Slot, lv_has ls 4 [(3, .int x_1203), (0, .ref (o + 0)), (1, .int a1), (2, .int a2)] → W p l e ({ frames := 1, cells := 0, slots := 0, locals := 32 } : Room) s m args below meth c H locs 0 0 (MQ below (va_Qv (fun S' => CM o S' ∧ dg_sm shM [] [29, 30, 31, 32, 33, 34, 35, 36, 37, 38, 39] S S' ∧ (∀ x9 : Int32, S'.2.1 29 (a1 : Int32).toNatClampNeg = x9 → ((x9).toInt = (s2).toInt)) ∧ (∀ x9 : Int32, S'.2.1 29 (0 : Int32).toNatClampNeg = x9 → ((a1).toInt ≠ 0 → (x9).toInt = (z0).toInt)) ∧ ZSM S' ∧ (S' = F_m_copies o S a1 a2) ∧ True) (dg_B g D shM o rfM) A) args s 0 0 A) (F0 m 50 ls []) := by
      as_aux_lemma =>
        intro n
        induction n with
        | zero =>
          intro x_1203 b_x_1203 hmu S_1204 I_1204 M_1204 frw_1204_0 frw_1204_1 frw_1204_2 frw_1204_3 frw_1204_4 ZS_1204 hF_8 H locs hP hS ls hl
          omega
        | succ n ih =>
          as_aux_lemma =>
            intro x_1203 b_x_1203 hmu S_1204 I_1204 M_1204 frw_1204_0 frw_1204_1 frw_1204_2 frw_1204_3 frw_1204_4 ZS_1204 hF_8 H locs hP hS ls hl
            refine lv_iload_n hx hb dX12_copies_50 rfl (lv_at hl 0 rfl) ?_
            refine lv_bipush (v := 64) hx hb dX12_copies_51 (by decide +kernel) ?_
            refine lv_icmp_ge (tgt := 106) hx hb dX12_copies_53 (dk_dq rfl) (fun c_1206 => ?_) (fun c_1206 => ?_)
            · have jc_1206 := dk_gec (k := 64) (by decide +kernel) c_1206
              have hf_1206 := dk_full x_1203
              exact J_400 x_1203 (by omega) S_1204 I_1204 M_1204 frw_1204_0 frw_1204_1 frw_1204_2 frw_1204_3 frw_1204_4 ZS_1204 (lp_r hF_8 (F_m_copies_p9 c_1206)) _ _ hP hS _ (lv_sub hl [0, 1, 2, 3] rfl)
            · as_aux_lemma =>
                have jc_1206 := dk_ngec (k := 64) (by decide +kernel) c_1206
                refine lv_aload_n hx hb dX12_copies_56 rfl (lv_at hl 1 rfl) ?_
                refine dg_get (C := RX12) (T := TX12) (N := 77) hx hb hts (fun w h => bw_mem (wU_X12 w h)) hown K hP sM_0 rfl 51 (dk_dq rfl) (hts _ (bw_mem wB_1090)) (fun _ h9 => h9) (v := .ref (o + 31)) (show S_1204.1 0 51 = .ref (o + 31) from dg_I.rel (d := 31) I_1204 sM_0 (by decide +kernel)) dX12_copies_57 ?_
                refine lv_bipush (v := 64) hx hb dX12_copies_60 (by decide +kernel) ?_
                refine lv_iload_n hx hb dX12_copies_62 rfl (lv_at hl 2 rfl) ?_
                refine lv_imul hx hb dX12_copies_63 ?_
                refine lv_topi (fun x_1208 ex_1208 => ?_)
                have jx_1208 : (x_1208).toInt = 64 * (a1).toInt := by rw [ex_1208]; exact dk_mulT2 (by decide +kernel) rfl (by omega)
                refine lv_iload_n hx hb dX12_copies_64 rfl (lv_at hl 0 rfl) ?_
                refine lv_iadd hx hb dX12_copies_65 ?_
                refine lv_topi (fun x_1209 ex_1209 => ?_)
                have jx_1209 : (x_1209).toInt = (x_1208).toInt + (x_1203).toInt := by rw [ex_1209]; exact dk_addT2 rfl rfl (by omega)
                refine lv_aload_n hx hb dX12_copies_66 rfl (lv_at hl 1 rfl) ?_
                refine dg_get (C := RX12) (T := TX12) (N := 77) hx hb hts (fun w h => bw_mem (wU_X12 w h)) hown K hP sM_0 rfl 51 (dk_dq rfl) (hts _ (bw_mem wB_1090)) (fun _ h9 => h9) (v := .ref (o + 31)) (show S_1204.1 0 51 = .ref (o + 31) from dg_I.rel (d := 31) I_1204 sM_0 (by decide +kernel)) dX12_copies_67 ?_
                refine lv_bipush (v := 64) hx hb dX12_copies_70 (by decide +kernel) ?_
                refine lv_iload_n hx hb dX12_copies_72 rfl (lv_at hl 3 rfl) ?_
                refine lv_imul hx hb dX12_copies_73 ?_
                refine lv_topi (fun x_1210 ex_1210 => ?_)
                have jx_1210 : (x_1210).toInt = 64 * (a2).toInt := by rw [ex_1210]; exact dk_mulT2 (by decide +kernel) rfl (by omega)
                refine lv_iload_n hx hb dX12_copies_74 rfl (lv_at hl 0 rfl) ?_
                refine lv_iadd hx hb dX12_copies_75 ?_
                refine lv_topi (fun x_1211 ex_1211 => ?_)
                have jx_1211 : (x_1211).toInt = (x_1210).toInt + (x_1203).toInt := by rw [ex_1211]; exact dk_addT2 rfl rfl (by omega)
                have hin_1212 : vp_in x_1211 1408 := (dk_inv2 (by omega))
                refine dg_iald hx hb K hP sM_31 hin_1212 dX12_copies_76 (fun x_1213 ex_1213 => ?_)
                have b_x_1213 := dk_all_at (dg_I.row (lo := (-1)) (hi := 9) I_1204 sM_31 (by decide +kernel)) hin_1212 ex_1213
                have hin_1214 : vp_in x_1209 1408 := (dk_inv2 (by omega))
                refine dg_iast hx hb K hP hS hA1 sM_31 hin_1214 dX12_copies_77 (fun S_1215 e_1215 H locs hP hS => ?_)
                have I_1215 := dg_I.ufu (lo := (-1)) (hi := 9) I_1204 e_1215 sM_31 (by decide +kernel) (show (-1) ≤ (x_1213).toInt ∧ (x_1213).toInt ≤ 9 from (by omega))
                have M_1215 := dg_sm.uf M_1204 e_1215 sM_31 (dk_dq rfl)
                refine lv_aload_n hx hb dX12_copies_78 rfl (lv_at hl 1 rfl) ?_
                refine dg_get (C := RX12) (T := TX12) (N := 77) hx hb hts (fun w h => bw_mem (wU_X12 w h)) hown K hP sM_0 rfl 52 (dk_dq rfl) (hts _ (bw_mem wB_1097)) (fun _ h9 => h9) (v := .ref (o + 32)) (show S_1215.1 0 52 = .ref (o + 32) from dg_I.rel (d := 32) I_1215 sM_0 (by decide +kernel)) dX12_copies_79 ?_
                refine lv_bipush (v := 64) hx hb dX12_copies_82 (by decide +kernel) ?_
                refine lv_iload_n hx hb dX12_copies_84 rfl (lv_at hl 2 rfl) ?_
                refine lv_imul hx hb dX12_copies_85 ?_
                refine lv_topi (fun x_1216 ex_1216 => ?_)
                have jx_1216 : (x_1216).toInt = 64 * (a1).toInt := by rw [ex_1216]; exact dk_mulT2 (by decide +kernel) rfl (by omega)
                refine lv_iload_n hx hb dX12_copies_86 rfl (lv_at hl 0 rfl) ?_
                refine lv_iadd hx hb dX12_copies_87 ?_
                refine lv_topi (fun x_1217 ex_1217 => ?_)
                have jx_1217 : (x_1217).toInt = (x_1216).toInt + (x_1203).toInt := by rw [ex_1217]; exact dk_addT2 rfl rfl (by omega)
                as_aux_lemma =>
                  refine lv_aload_n hx hb dX12_copies_88 rfl (lv_at hl 1 rfl) ?_
                  refine dg_get (C := RX12) (T := TX12) (N := 77) hx hb hts (fun w h => bw_mem (wU_X12 w h)) hown K hP sM_0 rfl 52 (dk_dq rfl) (hts _ (bw_mem wB_1097)) (fun _ h9 => h9) (v := .ref (o + 32)) (show S_1215.1 0 52 = .ref (o + 32) from dg_I.rel (d := 32) I_1215 sM_0 (by decide +kernel)) dX12_copies_89 ?_
                  refine lv_bipush (v := 64) hx hb dX12_copies_92 (by decide +kernel) ?_
                  refine lv_iload_n hx hb dX12_copies_94 rfl (lv_at hl 3 rfl) ?_
                  refine lv_imul hx hb dX12_copies_95 ?_
                  refine lv_topi (fun x_1218 ex_1218 => ?_)
                  have jx_1218 : (x_1218).toInt = 64 * (a2).toInt := by rw [ex_1218]; exact dk_mulT2 (by decide +kernel) rfl (by omega)
                  refine lv_iload_n hx hb dX12_copies_96 rfl (lv_at hl 0 rfl) ?_
                  refine lv_iadd hx hb dX12_copies_97 ?_
                  refine lv_topi (fun x_1219 ex_1219 => ?_)
                  have jx_1219 : (x_1219).toInt = (x_1218).toInt + (x_1203).toInt := by rw [ex_1219]; exact dk_addT2 rfl rfl (by omega)
                  have hin_1220 : vp_in x_1219 1408 := (dk_inv2 (by omega))
                  refine dg_iald hx hb K hP sM_32 hin_1220 dX12_copies_98 (fun x_1221 ex_1221 => ?_)
                  have hin_1222 : vp_in x_1217 1408 := (dk_inv2 (by omega))
                  refine dg_iast hx hb K hP hS hA1 sM_32 hin_1222 dX12_copies_99 (fun S_1223 e_1223 H locs hP hS => ?_)
                  have I_1223 := dg_I.uf0 I_1215 e_1223 sM_32 (by decide +kernel)
                  have M_1223 := dg_sm.uf M_1215 e_1223 sM_32 (dk_dq rfl)
                  obtain ⟨x_1224, ex_1224⟩ : ∃ z, z = x_1203 + 1 := ⟨_, rfl⟩
                  have jx_1224 : (x_1224).toInt = (x_1203).toInt + 1 := by rw [ex_1224]; exact dk_addT2 rfl (by decide +kernel) (by omega)
                  refine lv_iinc (v := x_1224) (lv' := [(3, .int x_1224), (0, .ref (o + 0)), (1, .int a1), (2, .int a2)]) hx hb dX12_copies_100 hl (k := 0) rfl (by rw [ex_1224]; rfl) (dk_dq rfl) rfl (fun ls hl => ?_)
                  refine lv_goto (tgt := 50) hx hb dX12_copies_103 (dk_dq rfl) ?_
                  exact ih x_1224 (by omega) (by first | exact mu_lt hmu (by omega) (by omega) | omega) S_1223 I_1223 M_1223 ((congrFun ((dg_uf_ne e_1223 (dk_dq rfl)).trans (dg_uf_ne e_1215 (dk_dq rfl))) _).trans frw_1204_0) ((congrFun ((dg_uf_ne e_1223 (dk_dq rfl)).trans (dg_uf_ne e_1215 (dk_dq rfl))) _).trans frw_1204_1) ((congrFun ((dg_uf_ne e_1223 (dk_dq rfl)).trans (dg_uf_ne e_1215 (dk_dq rfl))) _).trans frw_1204_2) ((congrFun ((dg_uf_ne e_1223 (dk_dq rfl)).trans (dg_uf_ne e_1215 (dk_dq rfl))) _).trans frw_1204_3) ((congrFun ((dg_uf_ne e_1223 (dk_dq rfl)).trans (dg_uf_ne e_1215 (dk_dq rfl))) _).trans frw_1204_4) (ZSM.keep (ZSM.keep ZS_1204 (dg_sm.uf (WF := []) (WA := [31]) dg_sm.rf e_1215 sM_31 (dk_dq rfl)) (dk_dq rfl)) (dg_sm.uf (WF := []) (WA := [32]) dg_sm.rf e_1223 sM_32 (dk_dq rfl)) (dk_dq rfl)) (lp_l hF_8 (F_m_copies_p10 c_1206 ex_1208 ex_1209 ex_1210 ex_1211 (Eq.symm ex_1213.symm) e_1215 ex_1216 ex_1217 ex_1218 ex_1219 (Eq.symm ex_1221.symm) e_1223 ex_1224)) _ _ hP hS _ (lv_sub hl [0, 1, 2, 3] rfl)
    have hz_1225 : (0 : Int32).toInt = 0 := by decide +kernel
    have hz_1226 : (0 : Int32).toInt = 0 := by decide +kernel
    exact L_1205 ((65 - ((0 : Int32)).toInt).toNat + 1) 0 (by decide +kernel) (by first | exact mu_lt hmu (by omega) (by omega) | omega) S_17 I_17 M_17 ((congrFun ((dg_uf_ne e_17 (dk_dq rfl)).trans ((dg_uf_ne e_13 (dk_dq rfl)).trans (dg_uf_ne e_9 (dk_dq rfl)))) _).trans f_z_5) ((congrFun ((dg_uf_ne e_17 (dk_dq rfl)).trans ((dg_uf_ne e_13 (dk_dq rfl)).trans (dg_uf_ne e_9 (dk_dq rfl)))) _).trans ((congrFun (dg_uf_at e_4) _).trans (dg_upd_at rfl))) ((congrFun ((dg_uf_ne e_17 (dk_dq rfl)).trans (dg_uf_ne e_13 (dk_dq rfl))) _).trans ((congrFun (dg_uf_at e_9) _).trans (dg_upd_at rfl))) ((congrFun (dg_uf_ne e_17 (dk_dq rfl)) _).trans ((congrFun (dg_uf_at e_13) _).trans (dg_upd_at rfl))) ((congrFun (dg_uf_at e_17) _).trans (dg_upd_at rfl)) (ZSM.keep (ZSM.keep (ZSM.keep ZS_4 (dg_sm.uf (WF := []) (WA := [30]) dg_sm.rf e_9 sM_30 (dk_dq rfl)) (dk_dq rfl)) (dg_sm.uf (WF := []) (WA := [33]) dg_sm.rf e_13 sM_33 (dk_dq rfl)) (dk_dq rfl)) (dg_sm.uf (WF := []) (WA := [34]) dg_sm.rf e_17 sM_34 (dk_dq rfl)) (dk_dq rfl)) (Eq.trans hF_1 (F_m_copies_p11)) _ _ hP hS _ (lv_sub hl [0, 1, 2, 3] rfl)
noncomputable def F_m_within (o : Nat) (S : dg_S) (b1 : Int64) : Int64 := let x_1 : Int32 := lg_cmp b1 (1000000 : Int64); (if x_1 ≤ (0 : Int32) then let x_4 : Int32 := lg_cmp b1 (-1000000 : Int64); (if (0 : Int32) ≤ x_4 then b1 else (-1000000 : Int64)) else (1000000 : Int64))
theorem F_m_within_p0 {o : Nat} {S : dg_S} {b1 : Int64} {x_1 : Int32} {x_4 : Int32} (h0 : x_1 = lg_cmp b1 (1000000 : Int64)) (h1 : x_1 ≤ (0 : Int32)) (h2 : x_4 = lg_cmp b1 (-1000000 : Int64)) (h3 : (0 : Int32) ≤ x_4) : F_m_within o S b1 = b1 := by
  replace h0 := Eq.symm h0
  subst h0
  replace h2 := Eq.symm h2
  subst h2
  exact (Eq.trans (if_pos h1) (Eq.trans (if_pos h3) rfl))
theorem F_m_within_p1 {o : Nat} {S : dg_S} {b1 : Int64} {x_1 : Int32} {x_4 : Int32} (h0 : x_1 = lg_cmp b1 (1000000 : Int64)) (h1 : x_1 ≤ (0 : Int32)) (h2 : x_4 = lg_cmp b1 (-1000000 : Int64)) (h3 : ¬ ((0 : Int32) ≤ x_4)) : F_m_within o S b1 = (-1000000 : Int64) := by
  replace h0 := Eq.symm h0
  subst h0
  replace h2 := Eq.symm h2
  subst h2
  exact (Eq.trans (if_pos h1) (Eq.trans (if_neg h3) rfl))
theorem F_m_within_p2 {o : Nat} {S : dg_S} {b1 : Int64} {x_1 : Int32} (h0 : x_1 = lg_cmp b1 (1000000 : Int64)) (h1 : ¬ (x_1 ≤ (0 : Int32))) : F_m_within o S b1 = (1000000 : Int64) := by
  replace h0 := Eq.symm h0
  subst h0
  exact (Eq.trans (if_neg h1) rfl)
set_option maxHeartbeats 8000000 in
set_option maxRecDepth 100000 in
theorem c_m_within (l : Launch) (g : Nat → ClassId) (D : va_G) (o : Nat) (S : dg_S) (b1 : Int64) (I : CM o S) (sz : Nat) : Met l yX12_within (bw yX12_within cX12_within 2 (some .long)) ({ frames := 1, cells := 0, slots := 0, locals := 32 } : Room) (dk_Pc g D (dg_w g shM o rfM S) sz [.long b1]) (va_Ql (fun (r : Int64) S' => S' = S ∧ (r = F_m_within o S b1) ∧ True) (dg_B g D shM o rfM) (dg_A o shM.length sz)) 0 0 (dg_A o shM.length sz) := by
  refine dg_met (cc := cX12_within) (maxL := 2) (ret := (some .long)) (dk_dq rfl) rfl (Nat.le_of_ble_eq_true rfl) ?_
  intro p e s m args below meth c A hAe harg hx hb hr hml hts hown hlocks hin hP K hS hA1 hA ST hsz ls hl
  rw [← hAe]
  have F : CallFix p m c cX12_within 2 s args (bw yX12_within cX12_within 2 (some .long)) RX12 := ⟨hx, hb, hml, hown, hts⟩
  have hl : lv_has ls 2 [(0, .long b1)] := hl
  have M_0 : dg_sm shM [] [] S S := dg_sm.rf
  refine lv_lload_n hx hb dX12_within_0 rfl (lv_at hl 0 rfl) ?_
  refine lv_ldc2 hx hb hown (hts _ (bw_mem wB_1134)) dX12_within_1 ?_
  refine W.lcmp hx hb dX12_within_4 ?_
  refine lv_topi (fun x_1 ex_1 => ?_)
  have hz_1 : (1000000 : Int64).toInt = 1000000 := by decide +kernel
  have hlc_x_1 := dk_lcmp ex_1
  refine lv_if_le (tgt := 14) hx hb dX12_within_5 (dk_dq rfl) (fun c_3 => ?_) (fun c_3 => ?_)
  · have jc_3 := dk_lec (k := 0) (by decide +kernel) c_3
    refine lv_lload_n hx hb dX12_within_14 rfl (lv_at hl 0 rfl) ?_
    refine lv_ldc2 hx hb hown (hts _ (bw_mem wB_1135)) dX12_within_15 ?_
    refine W.lcmp hx hb dX12_within_18 ?_
    refine lv_topi (fun x_4 ex_4 => ?_)
    have hz_4 : ((-1000000) : Int64).toInt = (-1000000) := by decide +kernel
    have hlc_x_4 := dk_lcmp ex_4
    refine lv_if_ge (tgt := 28) hx hb dX12_within_19 (dk_dq rfl) (fun c_6 => ?_) (fun c_6 => ?_)
    · have jc_6 := dk_gec (k := 0) (by decide +kernel) c_6
      refine lv_lload_n hx hb dX12_within_28 rfl (lv_at hl 0 rfl) ?_
      refine W.widen (k := 0) (n := 0) (Nat.le_of_ble_eq_true rfl) (Nat.le_of_ble_eq_true rfl) ?_
      exact dg_lret hx hb hr hlocks hP hS ⟨rfl, (Eq.symm (F_m_within_p0 ex_1 c_3 ex_4 c_6)), trivial⟩ dX12_within_29
    · have jc_6 := dk_ngec (k := 0) (by decide +kernel) c_6
      refine lv_ldc2 hx hb hown (hts _ (bw_mem wB_1135)) dX12_within_22 ?_
      refine lv_goto (tgt := 29) hx hb dX12_within_25 (dk_dq rfl) ?_
      refine W.widen (k := 0) (n := 0) (Nat.le_of_ble_eq_true rfl) (Nat.le_of_ble_eq_true rfl) ?_
      exact dg_lret hx hb hr hlocks hP hS ⟨rfl, (Eq.symm (F_m_within_p1 ex_1 c_3 ex_4 c_6)), trivial⟩ dX12_within_29
  · have jc_3 := dk_nlec (k := 0) (by decide +kernel) c_3
    refine lv_ldc2 hx hb hown (hts _ (bw_mem wB_1134)) dX12_within_8 ?_
    refine lv_goto (tgt := 29) hx hb dX12_within_11 (dk_dq rfl) ?_
    refine W.widen (k := 0) (n := 0) (Nat.le_of_ble_eq_true rfl) (Nat.le_of_ble_eq_true rfl) ?_
    exact dg_lret hx hb hr hlocks hP hS ⟨rfl, (Eq.symm (F_m_within_p2 ex_1 c_3)), trivial⟩ dX12_within_29
noncomputable def F_m_floor_J1 (b2 : Int64) (x_12 : Int32) (x_4 : Int64) : Int64 := let x_21 : Int32 := lg_cmp b2 (0 : Int64); (if (0 : Int32) ≤ x_21 then (if x_12 = (0 : Int32) then x_4 else let x_25 : Int64 := x_4 - (1 : Int64); x_25) else (if x_12 = (1 : Int32) then x_4 else let x_27 : Int64 := x_4 - (1 : Int64); x_27))
noncomputable def F_m_floor (o : Nat) (S : dg_S) (b1 : Int64) (b2 : Int64) : Int64 := let x_1 : Int32 := lg_cmp b2 (0 : Int64); (if x_1 = (0 : Int32) then (0 : Int64) else let x_4 : Int64 := b1 / b2; let x_5 : Int64 := b1 - b1 / b2 * b2; let x_6 : Int32 := lg_cmp x_5 (0 : Int64); (if x_6 = (0 : Int32) then x_4 else let x_9 : Int32 := lg_cmp b1 (0 : Int64); (if (0 : Int32) ≤ x_9 then (F_m_floor_J1 b2 (0 : Int32) x_4) else (F_m_floor_J1 b2 (1 : Int32) x_4))))
theorem F_m_floor_p0 {o : Nat} {S : dg_S} {b1 : Int64} {b2 : Int64} {x_4 : Int64} {x_1 : Int32} {x_5 : Int64} {x_6 : Int32} (h0 : x_1 = lg_cmp b2 (0 : Int64)) (h1 : ¬ (x_1 = (0 : Int32))) (h2 : x_4 = b1 / b2) (h3 : x_5 = b1 - b1 / b2 * b2) (h4 : x_6 = lg_cmp x_5 (0 : Int64)) (h5 : x_6 = (0 : Int32)) : F_m_floor o S b1 b2 = x_4 := by
  replace h0 := Eq.symm h0
  subst h0
  replace h2 := Eq.symm h2
  subst h2
  replace h3 := Eq.symm h3
  subst h3
  replace h4 := Eq.symm h4
  subst h4
  exact (Eq.trans (if_neg h1) (Eq.trans (if_pos h5) rfl))
theorem F_m_floor_p1 {b2 : Int64} {x_12 : Int32} {x_4 : Int64} {x_21 : Int32} (h0 : x_21 = lg_cmp b2 (0 : Int64)) (h1 : (0 : Int32) ≤ x_21) (h2 : x_12 = (0 : Int32)) : F_m_floor_J1 b2 x_12 x_4 = x_4 := by
  replace h0 := Eq.symm h0
  subst h0
  exact (Eq.trans (if_pos h1) (Eq.trans (if_pos h2) rfl))
theorem F_m_floor_p2 {b2 : Int64} {x_12 : Int32} {x_4 : Int64} {x_25 : Int64} {x_21 : Int32} (h0 : x_21 = lg_cmp b2 (0 : Int64)) (h1 : (0 : Int32) ≤ x_21) (h2 : ¬ (x_12 = (0 : Int32))) (h3 : x_25 = x_4 - (1 : Int64)) : F_m_floor_J1 b2 x_12 x_4 = x_25 := by
  replace h0 := Eq.symm h0
  subst h0
  replace h3 := Eq.symm h3
  subst h3
  exact (Eq.trans (if_pos h1) (Eq.trans (if_neg h2) rfl))
theorem F_m_floor_p3 {b2 : Int64} {x_12 : Int32} {x_4 : Int64} {x_21 : Int32} (h0 : x_21 = lg_cmp b2 (0 : Int64)) (h1 : ¬ ((0 : Int32) ≤ x_21)) (h2 : x_12 = (1 : Int32)) : F_m_floor_J1 b2 x_12 x_4 = x_4 := by
  replace h0 := Eq.symm h0
  subst h0
  exact (Eq.trans (if_neg h1) (Eq.trans (if_pos h2) rfl))
theorem F_m_floor_p4 {b2 : Int64} {x_12 : Int32} {x_4 : Int64} {x_27 : Int64} {x_21 : Int32} (h0 : x_21 = lg_cmp b2 (0 : Int64)) (h1 : ¬ ((0 : Int32) ≤ x_21)) (h2 : ¬ (x_12 = (1 : Int32))) (h3 : x_27 = x_4 - (1 : Int64)) : F_m_floor_J1 b2 x_12 x_4 = x_27 := by
  replace h0 := Eq.symm h0
  subst h0
  replace h3 := Eq.symm h3
  subst h3
  exact (Eq.trans (if_neg h1) (Eq.trans (if_neg h2) rfl))
theorem F_m_floor_p5 {o : Nat} {S : dg_S} {b1 : Int64} {b2 : Int64} {x_4 : Int64} {x_1 : Int32} {x_5 : Int64} {x_6 : Int32} {x_9 : Int32} (h0 : x_1 = lg_cmp b2 (0 : Int64)) (h1 : ¬ (x_1 = (0 : Int32))) (h2 : x_4 = b1 / b2) (h3 : x_5 = b1 - b1 / b2 * b2) (h4 : x_6 = lg_cmp x_5 (0 : Int64)) (h5 : ¬ (x_6 = (0 : Int32))) (h6 : x_9 = lg_cmp b1 (0 : Int64)) (h7 : (0 : Int32) ≤ x_9) : F_m_floor o S b1 b2 = F_m_floor_J1 b2 (0 : Int32) x_4 := by
  replace h0 := Eq.symm h0
  subst h0
  replace h2 := Eq.symm h2
  subst h2
  replace h3 := Eq.symm h3
  subst h3
  replace h4 := Eq.symm h4
  subst h4
  replace h6 := Eq.symm h6
  subst h6
  exact (Eq.trans (if_neg h1) (Eq.trans (if_neg h5) (Eq.trans (if_pos h7) rfl)))
theorem F_m_floor_p6 {o : Nat} {S : dg_S} {b1 : Int64} {b2 : Int64} {x_4 : Int64} {x_1 : Int32} {x_5 : Int64} {x_6 : Int32} {x_9 : Int32} (h0 : x_1 = lg_cmp b2 (0 : Int64)) (h1 : ¬ (x_1 = (0 : Int32))) (h2 : x_4 = b1 / b2) (h3 : x_5 = b1 - b1 / b2 * b2) (h4 : x_6 = lg_cmp x_5 (0 : Int64)) (h5 : ¬ (x_6 = (0 : Int32))) (h6 : x_9 = lg_cmp b1 (0 : Int64)) (h7 : ¬ ((0 : Int32) ≤ x_9)) : F_m_floor o S b1 b2 = F_m_floor_J1 b2 (1 : Int32) x_4 := by
  replace h0 := Eq.symm h0
  subst h0
  replace h2 := Eq.symm h2
  subst h2
  replace h3 := Eq.symm h3
  subst h3
  replace h4 := Eq.symm h4
  subst h4
  replace h6 := Eq.symm h6
  subst h6
  exact (Eq.trans (if_neg h1) (Eq.trans (if_neg h5) (Eq.trans (if_neg h7) rfl)))
theorem F_m_floor_p7 {o : Nat} {S : dg_S} {b1 : Int64} {b2 : Int64} {x_1 : Int32} (h0 : x_1 = lg_cmp b2 (0 : Int64)) (h1 : x_1 = (0 : Int32)) : F_m_floor o S b1 b2 = (0 : Int64) := by
  replace h0 := Eq.symm h0
  subst h0
  exact (Eq.trans (if_pos h1) rfl)
set_option maxHeartbeats 8000000 in
set_option maxRecDepth 100000 in
theorem c_m_floor (l : Launch) (g : Nat → ClassId) (D : va_G) (o : Nat) (S : dg_S) (b1 : Int64) (b2 : Int64) (I : CM o S) (sz : Nat) : Met l yX12_floor (bw yX12_floor cX12_floor 6 (some .long)) ({ frames := 1, cells := 0, slots := 0, locals := 32 } : Room) (dk_Pc g D (dg_w g shM o rfM S) sz [.long b1, .long b2]) (va_Ql (fun (r : Int64) S' => S' = S ∧ (r = F_m_floor o S b1 b2) ∧ True) (dg_B g D shM o rfM) (dg_A o shM.length sz)) 0 0 (dg_A o shM.length sz) := by
  refine dg_met (cc := cX12_floor) (maxL := 6) (ret := (some .long)) (dk_dq rfl) rfl (Nat.le_of_ble_eq_true rfl) ?_
  intro p e s m args below meth c A hAe harg hx hb hr hml hts hown hlocks hin hP K hS hA1 hA ST hsz ls hl
  rw [← hAe]
  have F : CallFix p m c cX12_floor 6 s args (bw yX12_floor cX12_floor 6 (some .long)) RX12 := ⟨hx, hb, hml, hown, hts⟩
  have hl : lv_has ls 6 [(0, .long b1), (2, .long b2)] := hl
  have M_0 : dg_sm shM [] [] S S := dg_sm.rf
  refine lv_lload_n hx hb dX12_floor_0 rfl (lv_at hl 1 rfl) ?_
  refine lv_lconst (v := 0) hx hb dX12_floor_1 (by decide +kernel) ?_
  refine W.lcmp hx hb dX12_floor_2 ?_
  refine lv_topi (fun x_1 ex_1 => ?_)
  have hz_1 : (0 : Int64).toInt = 0 := by decide +kernel
  have hlc_x_1 := dk_lcmp ex_1
  refine lv_if_ne (tgt := 8) hx hb dX12_floor_3 (dk_dq rfl) (fun c_3 => ?_) (fun c_3 => ?_)
  · as_aux_lemma =>
      have jc_3 := dk_neqc (k := 0) (by decide +kernel) c_3
      refine lv_lload_n hx hb dX12_floor_8 rfl (lv_at hl 0 rfl) ?_
      refine lv_lload_n hx hb dX12_floor_9 rfl (lv_at hl 1 rfl) ?_
      refine lv_ldiv hx hb dX12_floor_10 (fun q => absurd (show (x_1).toInt = 0 by rw [ex_1, q]; decide +kernel) (by omega)) ?_
      refine lv_topl (fun x_4 ex_4 => ?_)
      refine lv_lstore (lv' := [(4, .long x_4), (0, .long b1), (2, .long b2)]) hx hb dX12_floor_11 hl (dk_dq rfl) rfl (fun ls hl => ?_)
      refine lv_lload_n hx hb dX12_floor_13 rfl (lv_at hl 1 rfl) ?_
      refine lv_lload_n hx hb dX12_floor_14 rfl (lv_at hl 2 rfl) ?_
      refine lv_lrem hx hb dX12_floor_15 (fun q => absurd (show (x_1).toInt = 0 by rw [ex_1, q]; decide +kernel) (by omega)) ?_
      refine lv_topl (fun x_5 ex_5 => ?_)
      refine lv_lconst (v := 0) hx hb dX12_floor_16 (by decide +kernel) ?_
      refine W.lcmp hx hb dX12_floor_17 ?_
      refine lv_topi (fun x_6 ex_6 => ?_)
      have hz_6 : (0 : Int64).toInt = 0 := by decide +kernel
      have hlc_x_6 := dk_lcmp ex_6
      refine lv_if_eq (tgt := 53) hx hb dX12_floor_18 (dk_dq rfl) (fun c_8 => ?_) (fun c_8 => ?_)
      · have jc_8 := dk_eqc (k := 0) (by decide +kernel) c_8
        refine lv_lload hx hb dX12_floor_53 (lv_at hl 0 rfl) ?_
        refine W.widen (k := 0) (n := 0) (Nat.le_of_ble_eq_true rfl) (Nat.le_of_ble_eq_true rfl) ?_
        exact dg_lret hx hb hr hlocks hP hS ⟨rfl, (Eq.symm (F_m_floor_p0 ex_1 c_3 ex_4 ex_5 ex_6 c_8)), trivial⟩ dX12_floor_55
      · as_aux_lemma =>
          have jc_8 := dk_neqc (k := 0) (by decide +kernel) c_8
          refine lv_lload_n hx hb dX12_floor_21 rfl (lv_at hl 1 rfl) ?_
          refine lv_lconst (v := 0) hx hb dX12_floor_22 (by decide +kernel) ?_
          refine W.lcmp hx hb dX12_floor_23 ?_
          refine lv_topi (fun x_9 ex_9 => ?_)
          have hz_9 : (0 : Int64).toInt = 0 := by decide +kernel
          have hlc_x_9 := dk_lcmp ex_9
          have J_20 : ∀ (x_12 : Int32), (0 ≤ (x_12).toInt ∧ (x_12).toInt ≤ 1) → (F_m_floor o S b1 b2 = F_m_floor_J1 b2 x_12 x_4) → ∀ (H : Heap) (locs : List Loc), va_P D vwCl (dg_w g shM o rfM S) H → va_S A s.heap H locs → ∀ ls : Array Slot, lv_has ls 6 [(4, .long x_4), (0, .long b1), (2, .long b2)] → W p l e ({ frames := 1, cells := 0, slots := 0, locals := 32 } : Room) s m args below meth c H locs 0 0 (MQ below (va_Ql (fun (r : Int64) S' => S' = S ∧ (r = F_m_floor o S b1 b2) ∧ True) (dg_B g D shM o rfM) A) args s 0 0 A) (F0 m 32 ls [.int x_12]) := by
            as_aux_lemma =>
              intro x_12 b_x_12 hF_1 H locs hP hS ls hl
              refine lv_lload_n hx hb dX12_floor_32 rfl (lv_at hl 2 rfl) ?_
              refine lv_lconst (v := 0) hx hb dX12_floor_33 (by decide +kernel) ?_
              refine W.lcmp hx hb dX12_floor_34 ?_
              refine lv_topi (fun x_21 ex_21 => ?_)
              have hz_21 : (0 : Int64).toInt = 0 := by decide +kernel
              have hlc_x_21 := dk_lcmp ex_21
              refine lv_if_ge (tgt := 42) hx hb dX12_floor_35 (dk_dq rfl) (fun c_23 => ?_) (fun c_23 => ?_)
              · have jc_23 := dk_gec (k := 0) (by decide +kernel) c_23
                refine lv_iconst (v := 0) hx hb dX12_floor_42 (by decide +kernel) ?_
                refine lv_icmp_eq (tgt := 53) hx hb dX12_floor_43 (dk_dq rfl) (fun c_24 => ?_) (fun c_24 => ?_)
                · have jc_24 := dk_eqc (k := 0) (by decide +kernel) c_24
                  refine lv_lload hx hb dX12_floor_53 (lv_at hl 0 rfl) ?_
                  refine W.widen (k := 0) (n := 0) (Nat.le_of_ble_eq_true rfl) (Nat.le_of_ble_eq_true rfl) ?_
                  exact dg_lret hx hb hr hlocks hP hS ⟨rfl, (Eq.symm (Eq.trans hF_1 (F_m_floor_p1 ex_21 c_23 c_24))), trivial⟩ dX12_floor_55
                · have jc_24 := dk_neqc (k := 0) (by decide +kernel) c_24
                  refine lv_lload hx hb dX12_floor_46 (lv_at hl 0 rfl) ?_
                  refine lv_lconst (v := 1) hx hb dX12_floor_48 (by decide +kernel) ?_
                  refine lv_lsub hx hb dX12_floor_49 ?_
                  refine lv_topl (fun x_25 ex_25 => ?_)
                  refine lv_goto (tgt := 55) hx hb dX12_floor_50 (dk_dq rfl) ?_
                  refine W.widen (k := 0) (n := 0) (Nat.le_of_ble_eq_true rfl) (Nat.le_of_ble_eq_true rfl) ?_
                  exact dg_lret hx hb hr hlocks hP hS ⟨rfl, (Eq.symm (Eq.trans hF_1 (F_m_floor_p2 ex_21 c_23 c_24 ex_25))), trivial⟩ dX12_floor_55
              · as_aux_lemma =>
                  have jc_23 := dk_ngec (k := 0) (by decide +kernel) c_23
                  refine lv_iconst (v := 1) hx hb dX12_floor_38 (by decide +kernel) ?_
                  refine lv_goto (tgt := 43) hx hb dX12_floor_39 (dk_dq rfl) ?_
                  refine lv_icmp_eq (tgt := 53) hx hb dX12_floor_43 (dk_dq rfl) (fun c_26 => ?_) (fun c_26 => ?_)
                  · have jc_26 := dk_eqc (k := 1) (by decide +kernel) c_26
                    refine lv_lload hx hb dX12_floor_53 (lv_at hl 0 rfl) ?_
                    refine W.widen (k := 0) (n := 0) (Nat.le_of_ble_eq_true rfl) (Nat.le_of_ble_eq_true rfl) ?_
                    exact dg_lret hx hb hr hlocks hP hS ⟨rfl, (Eq.symm (Eq.trans hF_1 (F_m_floor_p3 ex_21 c_23 c_26))), trivial⟩ dX12_floor_55
                  · have jc_26 := dk_neqc (k := 1) (by decide +kernel) c_26
                    refine lv_lload hx hb dX12_floor_46 (lv_at hl 0 rfl) ?_
                    refine lv_lconst (v := 1) hx hb dX12_floor_48 (by decide +kernel) ?_
                    refine lv_lsub hx hb dX12_floor_49 ?_
                    refine lv_topl (fun x_27 ex_27 => ?_)
                    refine lv_goto (tgt := 55) hx hb dX12_floor_50 (dk_dq rfl) ?_
                    refine W.widen (k := 0) (n := 0) (Nat.le_of_ble_eq_true rfl) (Nat.le_of_ble_eq_true rfl) ?_
                    exact dg_lret hx hb hr hlocks hP hS ⟨rfl, (Eq.symm (Eq.trans hF_1 (F_m_floor_p4 ex_21 c_23 c_26 ex_27))), trivial⟩ dX12_floor_55
          refine lv_if_ge (tgt := 31) hx hb dX12_floor_24 (dk_dq rfl) (fun c_28 => ?_) (fun c_28 => ?_)
          · have jc_28 := dk_gec (k := 0) (by decide +kernel) c_28
            refine lv_iconst (v := 0) hx hb dX12_floor_31 (by decide +kernel) ?_
            have hz_29 : (0 : Int32).toInt = 0 := by decide +kernel
            exact J_20 0 (by decide +kernel) (F_m_floor_p5 ex_1 c_3 ex_4 ex_5 ex_6 c_8 ex_9 c_28) _ _ hP hS _ (lv_sub hl [0, 1, 2] rfl)
          · have jc_28 := dk_ngec (k := 0) (by decide +kernel) c_28
            refine lv_iconst (v := 1) hx hb dX12_floor_27 (by decide +kernel) ?_
            refine lv_goto (tgt := 32) hx hb dX12_floor_28 (dk_dq rfl) ?_
            have hz_30 : (1 : Int32).toInt = 1 := by decide +kernel
            exact J_20 1 (by decide +kernel) (F_m_floor_p6 ex_1 c_3 ex_4 ex_5 ex_6 c_8 ex_9 c_28) _ _ hP hS _ (lv_sub hl [0, 1, 2] rfl)
  · have jc_3 := dk_eqc (k := 0) (by decide +kernel) c_3
    refine lv_lconst (v := 0) hx hb dX12_floor_6 (by decide +kernel) ?_
    refine W.widen (k := 0) (n := 0) (Nat.le_of_ble_eq_true rfl) (Nat.le_of_ble_eq_true rfl) ?_
    exact dg_lret hx hb hr hlocks hP hS ⟨rfl, (Eq.symm (F_m_floor_p7 ex_1 c_3)), trivial⟩ dX12_floor_7
noncomputable def F_m_two (o : Nat) (S : dg_S) (a1 : Int32) (b1 : Int64) (b2 : Int64) : Int64 := (if a1 = (31 : Int32) then let x_3 : Int64 := b1 + b2; let x_4 : Int64 := F_m_within o S x_3; x_4 else (if a1 = (32 : Int32) then let x_6 : Int64 := b1 - b2; let x_7 : Int64 := F_m_within o S x_6; x_7 else (if a1 = (33 : Int32) then let x_9 : Int64 := b1 * b2; let x_10 : Int64 := F_m_within o S x_9; x_10 else (if a1 = (34 : Int32) then let x_12 : Int64 := F_m_floor o S b1 b2; let x_14 : Int64 := F_m_within o S x_12; x_14 else (if a1 = (35 : Int32) then let x_16 : Int32 := lg_cmp b2 (0 : Int64); (if x_16 = (0 : Int32) then (0 : Int64) else let x_19 : Int64 := F_m_floor o S b1 b2; let x_21 : Int64 := b2 * x_19; let x_22 : Int64 := b1 - x_21; let x_23 : Int64 := F_m_within o S x_22; x_23) else (if a1 = (36 : Int32) then let x_25 : Int32 := lg_cmp b1 b2; (if (0 : Int32) ≤ x_25 then b2 else b1) else (if a1 = (37 : Int32) then let x_27 : Int32 := lg_cmp b1 b2; (if x_27 ≤ (0 : Int32) then b2 else b1) else (if a1 = (38 : Int32) then let x_29 : Int32 := lg_cmp b1 b2; (if (0 : Int32) ≤ x_29 then (0 : Int64) else (1 : Int64)) else (if a1 = (39 : Int32) then let x_31 : Int32 := lg_cmp b1 b2; (if x_31 ≤ (0 : Int32) then (0 : Int64) else (1 : Int64)) else (if a1 = (40 : Int32) then let x_33 : Int32 := lg_cmp b1 b2; (if x_33 = (0 : Int32) then (1 : Int64) else (0 : Int64)) else (if a1 = (41 : Int32) then let x_35 : Int64 := b1 &&& b2; x_35 else let x_2 : Int64 := b1 ||| b2; x_2)))))))))))
theorem F_m_two_p0 {o : Nat} {S : dg_S} {a1 : Int32} {b1 : Int64} {b2 : Int64} {x_2 : Int64} (h0 : ¬ (a1 = (31 : Int32))) (h1 : ¬ (a1 = (32 : Int32))) (h2 : ¬ (a1 = (33 : Int32))) (h3 : ¬ (a1 = (34 : Int32))) (h4 : ¬ (a1 = (35 : Int32))) (h5 : ¬ (a1 = (36 : Int32))) (h6 : ¬ (a1 = (37 : Int32))) (h7 : ¬ (a1 = (38 : Int32))) (h8 : ¬ (a1 = (39 : Int32))) (h9 : ¬ (a1 = (40 : Int32))) (h10 : ¬ (a1 = (41 : Int32))) (h11 : x_2 = b1 ||| b2) : F_m_two o S a1 b1 b2 = x_2 := by
  replace h11 := Eq.symm h11
  subst h11
  exact (Eq.trans (if_neg h0) (Eq.trans (if_neg h1) (Eq.trans (if_neg h2) (Eq.trans (if_neg h3) (Eq.trans (if_neg h4) (Eq.trans (if_neg h5) (Eq.trans (if_neg h6) (Eq.trans (if_neg h7) (Eq.trans (if_neg h8) (Eq.trans (if_neg h9) (Eq.trans (if_neg h10) rfl)))))))))))
theorem F_m_two_p1 {o : Nat} {S : dg_S} {a1 : Int32} {b1 : Int64} {b2 : Int64} {x_4 : Int64} {x_3 : Int64} (h0 : a1 = (31 : Int32)) (h1 : x_3 = b1 + b2) (h2 : x_4 = F_m_within o S x_3) : F_m_two o S a1 b1 b2 = x_4 := by
  replace h1 := Eq.symm h1
  subst h1
  replace h2 := Eq.symm h2
  subst h2
  exact (Eq.trans (if_pos h0) rfl)
theorem F_m_two_p2 {o : Nat} {S : dg_S} {a1 : Int32} {b1 : Int64} {b2 : Int64} {x_7 : Int64} {x_6 : Int64} (h0 : ¬ (a1 = (31 : Int32))) (h1 : a1 = (32 : Int32)) (h2 : x_6 = b1 - b2) (h3 : x_7 = F_m_within o S x_6) : F_m_two o S a1 b1 b2 = x_7 := by
  replace h2 := Eq.symm h2
  subst h2
  replace h3 := Eq.symm h3
  subst h3
  exact (Eq.trans (if_neg h0) (Eq.trans (if_pos h1) rfl))
theorem F_m_two_p3 {o : Nat} {S : dg_S} {a1 : Int32} {b1 : Int64} {b2 : Int64} {x_10 : Int64} {x_9 : Int64} (h0 : ¬ (a1 = (31 : Int32))) (h1 : ¬ (a1 = (32 : Int32))) (h2 : a1 = (33 : Int32)) (h3 : x_9 = b1 * b2) (h4 : x_10 = F_m_within o S x_9) : F_m_two o S a1 b1 b2 = x_10 := by
  replace h3 := Eq.symm h3
  subst h3
  replace h4 := Eq.symm h4
  subst h4
  exact (Eq.trans (if_neg h0) (Eq.trans (if_neg h1) (Eq.trans (if_pos h2) rfl)))
theorem F_m_two_p4 {o : Nat} {S : dg_S} {a1 : Int32} {b1 : Int64} {b2 : Int64} {x_14 : Int64} {x_12 : Int64} (h0 : ¬ (a1 = (31 : Int32))) (h1 : ¬ (a1 = (32 : Int32))) (h2 : ¬ (a1 = (33 : Int32))) (h3 : a1 = (34 : Int32)) (h4 : x_12 = F_m_floor o S b1 b2) (h5 : x_14 = F_m_within o S x_12) : F_m_two o S a1 b1 b2 = x_14 := by
  replace h4 := Eq.symm h4
  subst h4
  replace h5 := Eq.symm h5
  subst h5
  exact (Eq.trans (if_neg h0) (Eq.trans (if_neg h1) (Eq.trans (if_neg h2) (Eq.trans (if_pos h3) rfl))))
theorem F_m_two_p5 {o : Nat} {S : dg_S} {a1 : Int32} {b1 : Int64} {b2 : Int64} {x_23 : Int64} {x_16 : Int32} {x_19 : Int64} {x_21 : Int64} {x_22 : Int64} (h0 : ¬ (a1 = (31 : Int32))) (h1 : ¬ (a1 = (32 : Int32))) (h2 : ¬ (a1 = (33 : Int32))) (h3 : ¬ (a1 = (34 : Int32))) (h4 : a1 = (35 : Int32)) (h5 : x_16 = lg_cmp b2 (0 : Int64)) (h6 : ¬ (x_16 = (0 : Int32))) (h7 : x_19 = F_m_floor o S b1 b2) (h8 : x_21 = b2 * x_19) (h9 : x_22 = b1 - x_21) (h10 : x_23 = F_m_within o S x_22) : F_m_two o S a1 b1 b2 = x_23 := by
  replace h5 := Eq.symm h5
  subst h5
  replace h7 := Eq.symm h7
  subst h7
  replace h8 := Eq.symm h8
  subst h8
  replace h9 := Eq.symm h9
  subst h9
  replace h10 := Eq.symm h10
  subst h10
  exact (Eq.trans (if_neg h0) (Eq.trans (if_neg h1) (Eq.trans (if_neg h2) (Eq.trans (if_neg h3) (Eq.trans (if_pos h4) (Eq.trans (if_neg h6) rfl))))))
theorem F_m_two_p6 {o : Nat} {S : dg_S} {a1 : Int32} {b1 : Int64} {b2 : Int64} {x_16 : Int32} (h0 : ¬ (a1 = (31 : Int32))) (h1 : ¬ (a1 = (32 : Int32))) (h2 : ¬ (a1 = (33 : Int32))) (h3 : ¬ (a1 = (34 : Int32))) (h4 : a1 = (35 : Int32)) (h5 : x_16 = lg_cmp b2 (0 : Int64)) (h6 : x_16 = (0 : Int32)) : F_m_two o S a1 b1 b2 = (0 : Int64) := by
  replace h5 := Eq.symm h5
  subst h5
  exact (Eq.trans (if_neg h0) (Eq.trans (if_neg h1) (Eq.trans (if_neg h2) (Eq.trans (if_neg h3) (Eq.trans (if_pos h4) (Eq.trans (if_pos h6) rfl))))))
theorem F_m_two_p7 {o : Nat} {S : dg_S} {a1 : Int32} {b1 : Int64} {b2 : Int64} {x_25 : Int32} (h0 : ¬ (a1 = (31 : Int32))) (h1 : ¬ (a1 = (32 : Int32))) (h2 : ¬ (a1 = (33 : Int32))) (h3 : ¬ (a1 = (34 : Int32))) (h4 : ¬ (a1 = (35 : Int32))) (h5 : a1 = (36 : Int32)) (h6 : x_25 = lg_cmp b1 b2) (h7 : (0 : Int32) ≤ x_25) : F_m_two o S a1 b1 b2 = b2 := by
  replace h6 := Eq.symm h6
  subst h6
  exact (Eq.trans (if_neg h0) (Eq.trans (if_neg h1) (Eq.trans (if_neg h2) (Eq.trans (if_neg h3) (Eq.trans (if_neg h4) (Eq.trans (if_pos h5) (Eq.trans (if_pos h7) rfl)))))))
theorem F_m_two_p8 {o : Nat} {S : dg_S} {a1 : Int32} {b1 : Int64} {b2 : Int64} {x_25 : Int32} (h0 : ¬ (a1 = (31 : Int32))) (h1 : ¬ (a1 = (32 : Int32))) (h2 : ¬ (a1 = (33 : Int32))) (h3 : ¬ (a1 = (34 : Int32))) (h4 : ¬ (a1 = (35 : Int32))) (h5 : a1 = (36 : Int32)) (h6 : x_25 = lg_cmp b1 b2) (h7 : ¬ ((0 : Int32) ≤ x_25)) : F_m_two o S a1 b1 b2 = b1 := by
  replace h6 := Eq.symm h6
  subst h6
  exact (Eq.trans (if_neg h0) (Eq.trans (if_neg h1) (Eq.trans (if_neg h2) (Eq.trans (if_neg h3) (Eq.trans (if_neg h4) (Eq.trans (if_pos h5) (Eq.trans (if_neg h7) rfl)))))))
theorem F_m_two_p9 {o : Nat} {S : dg_S} {a1 : Int32} {b1 : Int64} {b2 : Int64} {x_27 : Int32} (h0 : ¬ (a1 = (31 : Int32))) (h1 : ¬ (a1 = (32 : Int32))) (h2 : ¬ (a1 = (33 : Int32))) (h3 : ¬ (a1 = (34 : Int32))) (h4 : ¬ (a1 = (35 : Int32))) (h5 : ¬ (a1 = (36 : Int32))) (h6 : a1 = (37 : Int32)) (h7 : x_27 = lg_cmp b1 b2) (h8 : x_27 ≤ (0 : Int32)) : F_m_two o S a1 b1 b2 = b2 := by
  replace h7 := Eq.symm h7
  subst h7
  exact (Eq.trans (if_neg h0) (Eq.trans (if_neg h1) (Eq.trans (if_neg h2) (Eq.trans (if_neg h3) (Eq.trans (if_neg h4) (Eq.trans (if_neg h5) (Eq.trans (if_pos h6) (Eq.trans (if_pos h8) rfl))))))))
theorem F_m_two_p10 {o : Nat} {S : dg_S} {a1 : Int32} {b1 : Int64} {b2 : Int64} {x_27 : Int32} (h0 : ¬ (a1 = (31 : Int32))) (h1 : ¬ (a1 = (32 : Int32))) (h2 : ¬ (a1 = (33 : Int32))) (h3 : ¬ (a1 = (34 : Int32))) (h4 : ¬ (a1 = (35 : Int32))) (h5 : ¬ (a1 = (36 : Int32))) (h6 : a1 = (37 : Int32)) (h7 : x_27 = lg_cmp b1 b2) (h8 : ¬ (x_27 ≤ (0 : Int32))) : F_m_two o S a1 b1 b2 = b1 := by
  replace h7 := Eq.symm h7
  subst h7
  exact (Eq.trans (if_neg h0) (Eq.trans (if_neg h1) (Eq.trans (if_neg h2) (Eq.trans (if_neg h3) (Eq.trans (if_neg h4) (Eq.trans (if_neg h5) (Eq.trans (if_pos h6) (Eq.trans (if_neg h8) rfl))))))))
theorem F_m_two_p11 {o : Nat} {S : dg_S} {a1 : Int32} {b1 : Int64} {b2 : Int64} {x_29 : Int32} (h0 : ¬ (a1 = (31 : Int32))) (h1 : ¬ (a1 = (32 : Int32))) (h2 : ¬ (a1 = (33 : Int32))) (h3 : ¬ (a1 = (34 : Int32))) (h4 : ¬ (a1 = (35 : Int32))) (h5 : ¬ (a1 = (36 : Int32))) (h6 : ¬ (a1 = (37 : Int32))) (h7 : a1 = (38 : Int32)) (h8 : x_29 = lg_cmp b1 b2) (h9 : (0 : Int32) ≤ x_29) : F_m_two o S a1 b1 b2 = (0 : Int64) := by
  replace h8 := Eq.symm h8
  subst h8
  exact (Eq.trans (if_neg h0) (Eq.trans (if_neg h1) (Eq.trans (if_neg h2) (Eq.trans (if_neg h3) (Eq.trans (if_neg h4) (Eq.trans (if_neg h5) (Eq.trans (if_neg h6) (Eq.trans (if_pos h7) (Eq.trans (if_pos h9) rfl)))))))))
theorem F_m_two_p12 {o : Nat} {S : dg_S} {a1 : Int32} {b1 : Int64} {b2 : Int64} {x_29 : Int32} (h0 : ¬ (a1 = (31 : Int32))) (h1 : ¬ (a1 = (32 : Int32))) (h2 : ¬ (a1 = (33 : Int32))) (h3 : ¬ (a1 = (34 : Int32))) (h4 : ¬ (a1 = (35 : Int32))) (h5 : ¬ (a1 = (36 : Int32))) (h6 : ¬ (a1 = (37 : Int32))) (h7 : a1 = (38 : Int32)) (h8 : x_29 = lg_cmp b1 b2) (h9 : ¬ ((0 : Int32) ≤ x_29)) : F_m_two o S a1 b1 b2 = (1 : Int64) := by
  replace h8 := Eq.symm h8
  subst h8
  exact (Eq.trans (if_neg h0) (Eq.trans (if_neg h1) (Eq.trans (if_neg h2) (Eq.trans (if_neg h3) (Eq.trans (if_neg h4) (Eq.trans (if_neg h5) (Eq.trans (if_neg h6) (Eq.trans (if_pos h7) (Eq.trans (if_neg h9) rfl)))))))))
theorem F_m_two_p13 {o : Nat} {S : dg_S} {a1 : Int32} {b1 : Int64} {b2 : Int64} {x_31 : Int32} (h0 : ¬ (a1 = (31 : Int32))) (h1 : ¬ (a1 = (32 : Int32))) (h2 : ¬ (a1 = (33 : Int32))) (h3 : ¬ (a1 = (34 : Int32))) (h4 : ¬ (a1 = (35 : Int32))) (h5 : ¬ (a1 = (36 : Int32))) (h6 : ¬ (a1 = (37 : Int32))) (h7 : ¬ (a1 = (38 : Int32))) (h8 : a1 = (39 : Int32)) (h9 : x_31 = lg_cmp b1 b2) (h10 : x_31 ≤ (0 : Int32)) : F_m_two o S a1 b1 b2 = (0 : Int64) := by
  replace h9 := Eq.symm h9
  subst h9
  exact (Eq.trans (if_neg h0) (Eq.trans (if_neg h1) (Eq.trans (if_neg h2) (Eq.trans (if_neg h3) (Eq.trans (if_neg h4) (Eq.trans (if_neg h5) (Eq.trans (if_neg h6) (Eq.trans (if_neg h7) (Eq.trans (if_pos h8) (Eq.trans (if_pos h10) rfl))))))))))
theorem F_m_two_p14 {o : Nat} {S : dg_S} {a1 : Int32} {b1 : Int64} {b2 : Int64} {x_31 : Int32} (h0 : ¬ (a1 = (31 : Int32))) (h1 : ¬ (a1 = (32 : Int32))) (h2 : ¬ (a1 = (33 : Int32))) (h3 : ¬ (a1 = (34 : Int32))) (h4 : ¬ (a1 = (35 : Int32))) (h5 : ¬ (a1 = (36 : Int32))) (h6 : ¬ (a1 = (37 : Int32))) (h7 : ¬ (a1 = (38 : Int32))) (h8 : a1 = (39 : Int32)) (h9 : x_31 = lg_cmp b1 b2) (h10 : ¬ (x_31 ≤ (0 : Int32))) : F_m_two o S a1 b1 b2 = (1 : Int64) := by
  replace h9 := Eq.symm h9
  subst h9
  exact (Eq.trans (if_neg h0) (Eq.trans (if_neg h1) (Eq.trans (if_neg h2) (Eq.trans (if_neg h3) (Eq.trans (if_neg h4) (Eq.trans (if_neg h5) (Eq.trans (if_neg h6) (Eq.trans (if_neg h7) (Eq.trans (if_pos h8) (Eq.trans (if_neg h10) rfl))))))))))
theorem F_m_two_p15 {o : Nat} {S : dg_S} {a1 : Int32} {b1 : Int64} {b2 : Int64} {x_33 : Int32} (h0 : ¬ (a1 = (31 : Int32))) (h1 : ¬ (a1 = (32 : Int32))) (h2 : ¬ (a1 = (33 : Int32))) (h3 : ¬ (a1 = (34 : Int32))) (h4 : ¬ (a1 = (35 : Int32))) (h5 : ¬ (a1 = (36 : Int32))) (h6 : ¬ (a1 = (37 : Int32))) (h7 : ¬ (a1 = (38 : Int32))) (h8 : ¬ (a1 = (39 : Int32))) (h9 : a1 = (40 : Int32)) (h10 : x_33 = lg_cmp b1 b2) (h11 : ¬ (x_33 = (0 : Int32))) : F_m_two o S a1 b1 b2 = (0 : Int64) := by
  replace h10 := Eq.symm h10
  subst h10
  exact (Eq.trans (if_neg h0) (Eq.trans (if_neg h1) (Eq.trans (if_neg h2) (Eq.trans (if_neg h3) (Eq.trans (if_neg h4) (Eq.trans (if_neg h5) (Eq.trans (if_neg h6) (Eq.trans (if_neg h7) (Eq.trans (if_neg h8) (Eq.trans (if_pos h9) (Eq.trans (if_neg h11) rfl)))))))))))
theorem F_m_two_p16 {o : Nat} {S : dg_S} {a1 : Int32} {b1 : Int64} {b2 : Int64} {x_33 : Int32} (h0 : ¬ (a1 = (31 : Int32))) (h1 : ¬ (a1 = (32 : Int32))) (h2 : ¬ (a1 = (33 : Int32))) (h3 : ¬ (a1 = (34 : Int32))) (h4 : ¬ (a1 = (35 : Int32))) (h5 : ¬ (a1 = (36 : Int32))) (h6 : ¬ (a1 = (37 : Int32))) (h7 : ¬ (a1 = (38 : Int32))) (h8 : ¬ (a1 = (39 : Int32))) (h9 : a1 = (40 : Int32)) (h10 : x_33 = lg_cmp b1 b2) (h11 : x_33 = (0 : Int32)) : F_m_two o S a1 b1 b2 = (1 : Int64) := by
  replace h10 := Eq.symm h10
  subst h10
  exact (Eq.trans (if_neg h0) (Eq.trans (if_neg h1) (Eq.trans (if_neg h2) (Eq.trans (if_neg h3) (Eq.trans (if_neg h4) (Eq.trans (if_neg h5) (Eq.trans (if_neg h6) (Eq.trans (if_neg h7) (Eq.trans (if_neg h8) (Eq.trans (if_pos h9) (Eq.trans (if_pos h11) rfl)))))))))))
theorem F_m_two_p17 {o : Nat} {S : dg_S} {a1 : Int32} {b1 : Int64} {b2 : Int64} {x_35 : Int64} (h0 : ¬ (a1 = (31 : Int32))) (h1 : ¬ (a1 = (32 : Int32))) (h2 : ¬ (a1 = (33 : Int32))) (h3 : ¬ (a1 = (34 : Int32))) (h4 : ¬ (a1 = (35 : Int32))) (h5 : ¬ (a1 = (36 : Int32))) (h6 : ¬ (a1 = (37 : Int32))) (h7 : ¬ (a1 = (38 : Int32))) (h8 : ¬ (a1 = (39 : Int32))) (h9 : ¬ (a1 = (40 : Int32))) (h10 : a1 = (41 : Int32)) (h11 : x_35 = b1 &&& b2) : F_m_two o S a1 b1 b2 = x_35 := by
  replace h11 := Eq.symm h11
  subst h11
  exact (Eq.trans (if_neg h0) (Eq.trans (if_neg h1) (Eq.trans (if_neg h2) (Eq.trans (if_neg h3) (Eq.trans (if_neg h4) (Eq.trans (if_neg h5) (Eq.trans (if_neg h6) (Eq.trans (if_neg h7) (Eq.trans (if_neg h8) (Eq.trans (if_neg h9) (Eq.trans (if_pos h10) rfl)))))))))))
set_option maxHeartbeats 8000000 in
set_option maxRecDepth 100000 in
theorem c_m_two (l : Launch) (g : Nat → ClassId) (D : va_G) (o : Nat) (S : dg_S) (a1 : Int32) (b1 : Int64) (b2 : Int64) (I : CM o S) (sz : Nat) : Met l yX12_two (bw yX12_two cX12_two 5 (some .long)) ({ frames := 2, cells := 0, slots := 0, locals := 57 } : Room) (dk_Pc g D (dg_w g shM o rfM S) sz [.int a1, .long b1, .long b2]) (va_Ql (fun (r : Int64) S' => S' = S ∧ (r = F_m_two o S a1 b1 b2) ∧ True) (dg_B g D shM o rfM) (dg_A o shM.length sz)) 0 0 (dg_A o shM.length sz) := by
  refine dg_met (cc := cX12_two) (maxL := 5) (ret := (some .long)) (dk_dq rfl) rfl (Nat.le_of_ble_eq_true rfl) ?_
  intro p e s m args below meth c A hAe harg hx hb hr hml hts hown hlocks hin hP K hS hA1 hA ST hsz ls hl
  rw [← hAe]
  have F : CallFix p m c cX12_two 5 s args (bw yX12_two cX12_two 5 (some .long)) RX12 := ⟨hx, hb, hml, hown, hts⟩
  have hl : lv_has ls 5 [(0, .int a1), (1, .long b1), (3, .long b2)] := hl
  have M_0 : dg_sm shM [] [] S S := dg_sm.rf
  refine lv_iload_n hx hb dX12_two_0 rfl (lv_at hl 0 rfl) ?_
  rcases (show ((a1).toInt < 31 ∨ 41 < (a1).toInt) ∨ (a1).toInt = 31 ∨ (a1).toInt = 32 ∨ (a1).toInt = 33 ∨ (a1).toInt = 34 ∨ (a1).toInt = 35 ∨ (a1).toInt = 36 ∨ (a1).toInt = 37 ∨ (a1).toInt = 38 ∨ (a1).toInt = 39 ∨ (a1).toInt = 40 ∨ (a1).toInt = 41 by omega) with jc_1 | jc_1 | jc_1 | jc_1 | jc_1 | jc_1 | jc_1 | jc_1 | jc_1 | jc_1 | jc_1 | jc_1
  · refine lv_tableOut (tgt := 177) hx hb dX12_two_1 jc_1 (dk_dq rfl) ?_
    refine lv_lload_n hx hb dX12_two_177 rfl (lv_at hl 1 rfl) ?_
    refine lv_lload_n hx hb dX12_two_178 rfl (lv_at hl 2 rfl) ?_
    refine lv_lor hx hb dX12_two_179 ?_
    refine lv_topl (fun x_2 ex_2 => ?_)
    refine W.widen (k := 0) (n := 0) (Nat.le_of_ble_eq_true rfl) (Nat.le_of_ble_eq_true rfl) ?_
    exact dg_lret hx hb hr hlocks hP hS ⟨rfl, (Eq.symm (F_m_two_p0 (dk_neO jc_1 (k := 31) (b := 31) (by decide +kernel) (dk_dq rfl)) (dk_neO jc_1 (k := 32) (b := 32) (by decide +kernel) (dk_dq rfl)) (dk_neO jc_1 (k := 33) (b := 33) (by decide +kernel) (dk_dq rfl)) (dk_neO jc_1 (k := 34) (b := 34) (by decide +kernel) (dk_dq rfl)) (dk_neO jc_1 (k := 35) (b := 35) (by decide +kernel) (dk_dq rfl)) (dk_neO jc_1 (k := 36) (b := 36) (by decide +kernel) (dk_dq rfl)) (dk_neO jc_1 (k := 37) (b := 37) (by decide +kernel) (dk_dq rfl)) (dk_neO jc_1 (k := 38) (b := 38) (by decide +kernel) (dk_dq rfl)) (dk_neO jc_1 (k := 39) (b := 39) (by decide +kernel) (dk_dq rfl)) (dk_neO jc_1 (k := 40) (b := 40) (by decide +kernel) (dk_dq rfl)) (dk_neO jc_1 (k := 41) (b := 41) (by decide +kernel) (dk_dq rfl)) ex_2)), trivial⟩ dX12_two_180
  · refine lv_tableIn (off := 59) (tgt := 60) hx hb dX12_two_1 (by rw [jc_1]; decide) (by rw [jc_1]; decide) (by rw [jc_1]; decide +kernel) (dk_dq rfl) ?_
    refine lv_lload_n hx hb dX12_two_60 rfl (lv_at hl 1 rfl) ?_
    refine lv_lload_n hx hb dX12_two_61 rfl (lv_at hl 2 rfl) ?_
    refine lv_ladd hx hb dX12_two_62 ?_
    refine lv_topl (fun x_3 ex_3 => ?_)
    refine dg_calll hS hA1 hA (va_runS (As := [.long x_3]) (rest := []) F (c_m_within l g D o S x_3 I s.heap.size) (va_cwS 1 hts (bw_S wB_1137 wB_1138 wB_297 wB_1136) rfl rfl rfl (by decide +kernel) ⟨Nat.le_of_ble_eq_true rfl, Nat.le_of_ble_eq_true rfl⟩) (dg_preS K ST hP hS hA1 hA) rfl rfl hl.1 rfl (lv_room (Nat.le_of_ble_eq_true rfl)) dX12_two_63 ⟨Nat.le_of_ble_eq_true rfl, Nat.le_of_ble_eq_true rfl⟩) (fun x_4 S_5 hw_5 H locs hP hS => ?_)
    rw [hw_5.1] at hP
    obtain ⟨hq_5, w_5_0, -⟩ := hw_5
    refine W.widen (k := 0) (n := 0) (Nat.le_of_ble_eq_true rfl) (Nat.le_of_ble_eq_true rfl) ?_
    exact dg_lret hx hb hr hlocks hP hS ⟨rfl, (Eq.symm (F_m_two_p1 (dk_eqT jc_1 (k := 31) (by decide +kernel)) ex_3 w_5_0)), trivial⟩ dX12_two_66
  · refine lv_tableIn (off := 66) (tgt := 67) hx hb dX12_two_1 (by rw [jc_1]; decide) (by rw [jc_1]; decide) (by rw [jc_1]; decide +kernel) (dk_dq rfl) ?_
    refine lv_lload_n hx hb dX12_two_67 rfl (lv_at hl 1 rfl) ?_
    refine lv_lload_n hx hb dX12_two_68 rfl (lv_at hl 2 rfl) ?_
    refine lv_lsub hx hb dX12_two_69 ?_
    refine lv_topl (fun x_6 ex_6 => ?_)
    refine dg_calll hS hA1 hA (va_runS (As := [.long x_6]) (rest := []) F (c_m_within l g D o S x_6 I s.heap.size) (va_cwS 1 hts (bw_S wB_1137 wB_1138 wB_297 wB_1136) rfl rfl rfl (by decide +kernel) ⟨Nat.le_of_ble_eq_true rfl, Nat.le_of_ble_eq_true rfl⟩) (dg_preS K ST hP hS hA1 hA) rfl rfl hl.1 rfl (lv_room (Nat.le_of_ble_eq_true rfl)) dX12_two_70 ⟨Nat.le_of_ble_eq_true rfl, Nat.le_of_ble_eq_true rfl⟩) (fun x_7 S_8 hw_8 H locs hP hS => ?_)
    rw [hw_8.1] at hP
    obtain ⟨hq_8, w_8_0, -⟩ := hw_8
    refine W.widen (k := 0) (n := 0) (Nat.le_of_ble_eq_true rfl) (Nat.le_of_ble_eq_true rfl) ?_
    exact dg_lret hx hb hr hlocks hP hS ⟨rfl, (Eq.symm (F_m_two_p2 (dk_neT jc_1 (k := 31) (b := 31) (by decide +kernel) (dk_dq rfl)) (dk_eqT jc_1 (k := 32) (by decide +kernel)) ex_6 w_8_0)), trivial⟩ dX12_two_73
  · refine lv_tableIn (off := 73) (tgt := 74) hx hb dX12_two_1 (by rw [jc_1]; decide) (by rw [jc_1]; decide) (by rw [jc_1]; decide +kernel) (dk_dq rfl) ?_
    refine lv_lload_n hx hb dX12_two_74 rfl (lv_at hl 1 rfl) ?_
    refine lv_lload_n hx hb dX12_two_75 rfl (lv_at hl 2 rfl) ?_
    refine lv_lmul hx hb dX12_two_76 ?_
    refine lv_topl (fun x_9 ex_9 => ?_)
    refine dg_calll hS hA1 hA (va_runS (As := [.long x_9]) (rest := []) F (c_m_within l g D o S x_9 I s.heap.size) (va_cwS 1 hts (bw_S wB_1137 wB_1138 wB_297 wB_1136) rfl rfl rfl (by decide +kernel) ⟨Nat.le_of_ble_eq_true rfl, Nat.le_of_ble_eq_true rfl⟩) (dg_preS K ST hP hS hA1 hA) rfl rfl hl.1 rfl (lv_room (Nat.le_of_ble_eq_true rfl)) dX12_two_77 ⟨Nat.le_of_ble_eq_true rfl, Nat.le_of_ble_eq_true rfl⟩) (fun x_10 S_11 hw_11 H locs hP hS => ?_)
    rw [hw_11.1] at hP
    obtain ⟨hq_11, w_11_0, -⟩ := hw_11
    refine W.widen (k := 0) (n := 0) (Nat.le_of_ble_eq_true rfl) (Nat.le_of_ble_eq_true rfl) ?_
    exact dg_lret hx hb hr hlocks hP hS ⟨rfl, (Eq.symm (F_m_two_p3 (dk_neT jc_1 (k := 31) (b := 31) (by decide +kernel) (dk_dq rfl)) (dk_neT jc_1 (k := 32) (b := 32) (by decide +kernel) (dk_dq rfl)) (dk_eqT jc_1 (k := 33) (by decide +kernel)) ex_9 w_11_0)), trivial⟩ dX12_two_80
  · refine lv_tableIn (off := 80) (tgt := 81) hx hb dX12_two_1 (by rw [jc_1]; decide) (by rw [jc_1]; decide) (by rw [jc_1]; decide +kernel) (dk_dq rfl) ?_
    refine lv_lload_n hx hb dX12_two_81 rfl (lv_at hl 1 rfl) ?_
    refine lv_lload_n hx hb dX12_two_82 rfl (lv_at hl 2 rfl) ?_
    refine dg_calll hS hA1 hA (va_runS (As := [.long b1, .long b2]) (rest := []) F (c_m_floor l g D o S b1 b2 I s.heap.size) (va_cwS 2 hts (bw_S wB_1140 wB_1141 wB_297 wB_1139) rfl rfl rfl (by decide +kernel) ⟨Nat.le_of_ble_eq_true rfl, Nat.le_of_ble_eq_true rfl⟩) (dg_preS K ST hP hS hA1 hA) rfl rfl hl.1 rfl (lv_room (Nat.le_of_ble_eq_true rfl)) dX12_two_83 ⟨Nat.le_of_ble_eq_true rfl, Nat.le_of_ble_eq_true rfl⟩) (fun x_12 S_13 hw_13 H locs hP hS => ?_)
    rw [hw_13.1] at hP
    obtain ⟨hq_13, w_13_0, -⟩ := hw_13
    refine dg_calll hS hA1 hA (va_runS (As := [.long x_12]) (rest := []) F (c_m_within l g D o S x_12 I H.size) (va_cwS 1 hts (bw_S wB_1137 wB_1138 wB_297 wB_1136) rfl rfl rfl (by decide +kernel) ⟨Nat.le_of_ble_eq_true rfl, Nat.le_of_ble_eq_true rfl⟩) (dg_preS K ST hP hS hA1 hA) rfl rfl hl.1 rfl (lv_room (Nat.le_of_ble_eq_true rfl)) dX12_two_86 ⟨Nat.le_of_ble_eq_true rfl, Nat.le_of_ble_eq_true rfl⟩) (fun x_14 S_15 hw_15 H locs hP hS => ?_)
    rw [hw_15.1] at hP
    obtain ⟨hq_15, w_15_0, -⟩ := hw_15
    refine W.widen (k := 0) (n := 0) (Nat.le_of_ble_eq_true rfl) (Nat.le_of_ble_eq_true rfl) ?_
    exact dg_lret hx hb hr hlocks hP hS ⟨rfl, (Eq.symm (F_m_two_p4 (dk_neT jc_1 (k := 31) (b := 31) (by decide +kernel) (dk_dq rfl)) (dk_neT jc_1 (k := 32) (b := 32) (by decide +kernel) (dk_dq rfl)) (dk_neT jc_1 (k := 33) (b := 33) (by decide +kernel) (dk_dq rfl)) (dk_eqT jc_1 (k := 34) (by decide +kernel)) w_13_0 w_15_0)), trivial⟩ dX12_two_89
  · as_aux_lemma =>
      refine lv_tableIn (off := 89) (tgt := 90) hx hb dX12_two_1 (by rw [jc_1]; decide) (by rw [jc_1]; decide) (by rw [jc_1]; decide +kernel) (dk_dq rfl) ?_
      refine lv_lload_n hx hb dX12_two_90 rfl (lv_at hl 2 rfl) ?_
      refine lv_lconst (v := 0) hx hb dX12_two_91 (by decide +kernel) ?_
      refine W.lcmp hx hb dX12_two_92 ?_
      refine lv_topi (fun x_16 ex_16 => ?_)
      have hz_16 : (0 : Int64).toInt = 0 := by decide +kernel
      have hlc_x_16 := dk_lcmp ex_16
      refine lv_if_ne (tgt := 100) hx hb dX12_two_93 (dk_dq rfl) (fun c_18 => ?_) (fun c_18 => ?_)
      · as_aux_lemma =>
          have jc_18 := dk_neqc (k := 0) (by decide +kernel) c_18
          refine lv_lload_n hx hb dX12_two_100 rfl (lv_at hl 1 rfl) ?_
          refine lv_lload_n hx hb dX12_two_101 rfl (lv_at hl 2 rfl) ?_
          refine lv_lload_n hx hb dX12_two_102 rfl (lv_at hl 1 rfl) ?_
          refine lv_lload_n hx hb dX12_two_103 rfl (lv_at hl 2 rfl) ?_
          refine dg_calll hS hA1 hA (va_runS (As := [.long b1, .long b2]) (rest := [.long b2, .long b1]) F (c_m_floor l g D o S b1 b2 I s.heap.size) (va_cwS 2 hts (bw_S wB_1140 wB_1141 wB_297 wB_1139) rfl rfl rfl (by decide +kernel) ⟨Nat.le_of_ble_eq_true rfl, Nat.le_of_ble_eq_true rfl⟩) (dg_preS K ST hP hS hA1 hA) rfl rfl hl.1 rfl (lv_room (Nat.le_of_ble_eq_true rfl)) dX12_two_104 ⟨Nat.le_of_ble_eq_true rfl, Nat.le_of_ble_eq_true rfl⟩) (fun x_19 S_20 hw_20 H locs hP hS => ?_)
          rw [hw_20.1] at hP
          obtain ⟨hq_20, w_20_0, -⟩ := hw_20
          refine lv_lmul hx hb dX12_two_107 ?_
          refine lv_topl (fun x_21 ex_21 => ?_)
          refine lv_lsub hx hb dX12_two_108 ?_
          refine lv_topl (fun x_22 ex_22 => ?_)
          refine dg_calll hS hA1 hA (va_runS (As := [.long x_22]) (rest := []) F (c_m_within l g D o S x_22 I H.size) (va_cwS 1 hts (bw_S wB_1137 wB_1138 wB_297 wB_1136) rfl rfl rfl (by decide +kernel) ⟨Nat.le_of_ble_eq_true rfl, Nat.le_of_ble_eq_true rfl⟩) (dg_preS K ST hP hS hA1 hA) rfl rfl hl.1 rfl (lv_room (Nat.le_of_ble_eq_true rfl)) dX12_two_109 ⟨Nat.le_of_ble_eq_true rfl, Nat.le_of_ble_eq_true rfl⟩) (fun x_23 S_24 hw_24 H locs hP hS => ?_)
          rw [hw_24.1] at hP
          obtain ⟨hq_24, w_24_0, -⟩ := hw_24
          refine W.widen (k := 0) (n := 0) (Nat.le_of_ble_eq_true rfl) (Nat.le_of_ble_eq_true rfl) ?_
          exact dg_lret hx hb hr hlocks hP hS ⟨rfl, (Eq.symm (F_m_two_p5 (dk_neT jc_1 (k := 31) (b := 31) (by decide +kernel) (dk_dq rfl)) (dk_neT jc_1 (k := 32) (b := 32) (by decide +kernel) (dk_dq rfl)) (dk_neT jc_1 (k := 33) (b := 33) (by decide +kernel) (dk_dq rfl)) (dk_neT jc_1 (k := 34) (b := 34) (by decide +kernel) (dk_dq rfl)) (dk_eqT jc_1 (k := 35) (by decide +kernel)) ex_16 c_18 w_20_0 ex_21 ex_22 w_24_0)), trivial⟩ dX12_two_112
      · have jc_18 := dk_eqc (k := 0) (by decide +kernel) c_18
        refine lv_lconst (v := 0) hx hb dX12_two_96 (by decide +kernel) ?_
        refine lv_goto (tgt := 112) hx hb dX12_two_97 (dk_dq rfl) ?_
        refine W.widen (k := 0) (n := 0) (Nat.le_of_ble_eq_true rfl) (Nat.le_of_ble_eq_true rfl) ?_
        exact dg_lret hx hb hr hlocks hP hS ⟨rfl, (Eq.symm (F_m_two_p6 (dk_neT jc_1 (k := 31) (b := 31) (by decide +kernel) (dk_dq rfl)) (dk_neT jc_1 (k := 32) (b := 32) (by decide +kernel) (dk_dq rfl)) (dk_neT jc_1 (k := 33) (b := 33) (by decide +kernel) (dk_dq rfl)) (dk_neT jc_1 (k := 34) (b := 34) (by decide +kernel) (dk_dq rfl)) (dk_eqT jc_1 (k := 35) (by decide +kernel)) ex_16 c_18)), trivial⟩ dX12_two_112
  · as_aux_lemma =>
      refine lv_tableIn (off := 112) (tgt := 113) hx hb dX12_two_1 (by rw [jc_1]; decide) (by rw [jc_1]; decide) (by rw [jc_1]; decide +kernel) (dk_dq rfl) ?_
      refine lv_lload_n hx hb dX12_two_113 rfl (lv_at hl 1 rfl) ?_
      refine lv_lload_n hx hb dX12_two_114 rfl (lv_at hl 2 rfl) ?_
      refine W.lcmp hx hb dX12_two_115 ?_
      refine lv_topi (fun x_25 ex_25 => ?_)
      have hlc_x_25 := dk_lcmp ex_25
      refine lv_if_ge (tgt := 123) hx hb dX12_two_116 (dk_dq rfl) (fun c_26 => ?_) (fun c_26 => ?_)
      · have jc_26 := dk_gec (k := 0) (by decide +kernel) c_26
        refine lv_lload_n hx hb dX12_two_123 rfl (lv_at hl 2 rfl) ?_
        refine W.widen (k := 0) (n := 0) (Nat.le_of_ble_eq_true rfl) (Nat.le_of_ble_eq_true rfl) ?_
        exact dg_lret hx hb hr hlocks hP hS ⟨rfl, (Eq.symm (F_m_two_p7 (dk_neT jc_1 (k := 31) (b := 31) (by decide +kernel) (dk_dq rfl)) (dk_neT jc_1 (k := 32) (b := 32) (by decide +kernel) (dk_dq rfl)) (dk_neT jc_1 (k := 33) (b := 33) (by decide +kernel) (dk_dq rfl)) (dk_neT jc_1 (k := 34) (b := 34) (by decide +kernel) (dk_dq rfl)) (dk_neT jc_1 (k := 35) (b := 35) (by decide +kernel) (dk_dq rfl)) (dk_eqT jc_1 (k := 36) (by decide +kernel)) ex_25 c_26)), trivial⟩ dX12_two_124
      · have jc_26 := dk_ngec (k := 0) (by decide +kernel) c_26
        refine lv_lload_n hx hb dX12_two_119 rfl (lv_at hl 1 rfl) ?_
        refine lv_goto (tgt := 124) hx hb dX12_two_120 (dk_dq rfl) ?_
        refine W.widen (k := 0) (n := 0) (Nat.le_of_ble_eq_true rfl) (Nat.le_of_ble_eq_true rfl) ?_
        exact dg_lret hx hb hr hlocks hP hS ⟨rfl, (Eq.symm (F_m_two_p8 (dk_neT jc_1 (k := 31) (b := 31) (by decide +kernel) (dk_dq rfl)) (dk_neT jc_1 (k := 32) (b := 32) (by decide +kernel) (dk_dq rfl)) (dk_neT jc_1 (k := 33) (b := 33) (by decide +kernel) (dk_dq rfl)) (dk_neT jc_1 (k := 34) (b := 34) (by decide +kernel) (dk_dq rfl)) (dk_neT jc_1 (k := 35) (b := 35) (by decide +kernel) (dk_dq rfl)) (dk_eqT jc_1 (k := 36) (by decide +kernel)) ex_25 c_26)), trivial⟩ dX12_two_124
  · as_aux_lemma =>
      refine lv_tableIn (off := 124) (tgt := 125) hx hb dX12_two_1 (by rw [jc_1]; decide) (by rw [jc_1]; decide) (by rw [jc_1]; decide +kernel) (dk_dq rfl) ?_
      refine lv_lload_n hx hb dX12_two_125 rfl (lv_at hl 1 rfl) ?_
      refine lv_lload_n hx hb dX12_two_126 rfl (lv_at hl 2 rfl) ?_
      refine W.lcmp hx hb dX12_two_127 ?_
      refine lv_topi (fun x_27 ex_27 => ?_)
      have hlc_x_27 := dk_lcmp ex_27
      refine lv_if_le (tgt := 135) hx hb dX12_two_128 (dk_dq rfl) (fun c_28 => ?_) (fun c_28 => ?_)
      · have jc_28 := dk_lec (k := 0) (by decide +kernel) c_28
        refine lv_lload_n hx hb dX12_two_135 rfl (lv_at hl 2 rfl) ?_
        refine W.widen (k := 0) (n := 0) (Nat.le_of_ble_eq_true rfl) (Nat.le_of_ble_eq_true rfl) ?_
        exact dg_lret hx hb hr hlocks hP hS ⟨rfl, (Eq.symm (F_m_two_p9 (dk_neT jc_1 (k := 31) (b := 31) (by decide +kernel) (dk_dq rfl)) (dk_neT jc_1 (k := 32) (b := 32) (by decide +kernel) (dk_dq rfl)) (dk_neT jc_1 (k := 33) (b := 33) (by decide +kernel) (dk_dq rfl)) (dk_neT jc_1 (k := 34) (b := 34) (by decide +kernel) (dk_dq rfl)) (dk_neT jc_1 (k := 35) (b := 35) (by decide +kernel) (dk_dq rfl)) (dk_neT jc_1 (k := 36) (b := 36) (by decide +kernel) (dk_dq rfl)) (dk_eqT jc_1 (k := 37) (by decide +kernel)) ex_27 c_28)), trivial⟩ dX12_two_136
      · have jc_28 := dk_nlec (k := 0) (by decide +kernel) c_28
        refine lv_lload_n hx hb dX12_two_131 rfl (lv_at hl 1 rfl) ?_
        refine lv_goto (tgt := 136) hx hb dX12_two_132 (dk_dq rfl) ?_
        refine W.widen (k := 0) (n := 0) (Nat.le_of_ble_eq_true rfl) (Nat.le_of_ble_eq_true rfl) ?_
        exact dg_lret hx hb hr hlocks hP hS ⟨rfl, (Eq.symm (F_m_two_p10 (dk_neT jc_1 (k := 31) (b := 31) (by decide +kernel) (dk_dq rfl)) (dk_neT jc_1 (k := 32) (b := 32) (by decide +kernel) (dk_dq rfl)) (dk_neT jc_1 (k := 33) (b := 33) (by decide +kernel) (dk_dq rfl)) (dk_neT jc_1 (k := 34) (b := 34) (by decide +kernel) (dk_dq rfl)) (dk_neT jc_1 (k := 35) (b := 35) (by decide +kernel) (dk_dq rfl)) (dk_neT jc_1 (k := 36) (b := 36) (by decide +kernel) (dk_dq rfl)) (dk_eqT jc_1 (k := 37) (by decide +kernel)) ex_27 c_28)), trivial⟩ dX12_two_136
  · as_aux_lemma =>
      refine lv_tableIn (off := 136) (tgt := 137) hx hb dX12_two_1 (by rw [jc_1]; decide) (by rw [jc_1]; decide) (by rw [jc_1]; decide +kernel) (dk_dq rfl) ?_
      refine lv_lload_n hx hb dX12_two_137 rfl (lv_at hl 1 rfl) ?_
      refine lv_lload_n hx hb dX12_two_138 rfl (lv_at hl 2 rfl) ?_
      refine W.lcmp hx hb dX12_two_139 ?_
      refine lv_topi (fun x_29 ex_29 => ?_)
      have hlc_x_29 := dk_lcmp ex_29
      refine lv_if_ge (tgt := 147) hx hb dX12_two_140 (dk_dq rfl) (fun c_30 => ?_) (fun c_30 => ?_)
      · have jc_30 := dk_gec (k := 0) (by decide +kernel) c_30
        refine lv_lconst (v := 0) hx hb dX12_two_147 (by decide +kernel) ?_
        refine W.widen (k := 0) (n := 0) (Nat.le_of_ble_eq_true rfl) (Nat.le_of_ble_eq_true rfl) ?_
        exact dg_lret hx hb hr hlocks hP hS ⟨rfl, (Eq.symm (F_m_two_p11 (dk_neT jc_1 (k := 31) (b := 31) (by decide +kernel) (dk_dq rfl)) (dk_neT jc_1 (k := 32) (b := 32) (by decide +kernel) (dk_dq rfl)) (dk_neT jc_1 (k := 33) (b := 33) (by decide +kernel) (dk_dq rfl)) (dk_neT jc_1 (k := 34) (b := 34) (by decide +kernel) (dk_dq rfl)) (dk_neT jc_1 (k := 35) (b := 35) (by decide +kernel) (dk_dq rfl)) (dk_neT jc_1 (k := 36) (b := 36) (by decide +kernel) (dk_dq rfl)) (dk_neT jc_1 (k := 37) (b := 37) (by decide +kernel) (dk_dq rfl)) (dk_eqT jc_1 (k := 38) (by decide +kernel)) ex_29 c_30)), trivial⟩ dX12_two_148
      · have jc_30 := dk_ngec (k := 0) (by decide +kernel) c_30
        refine lv_lconst (v := 1) hx hb dX12_two_143 (by decide +kernel) ?_
        refine lv_goto (tgt := 148) hx hb dX12_two_144 (dk_dq rfl) ?_
        refine W.widen (k := 0) (n := 0) (Nat.le_of_ble_eq_true rfl) (Nat.le_of_ble_eq_true rfl) ?_
        exact dg_lret hx hb hr hlocks hP hS ⟨rfl, (Eq.symm (F_m_two_p12 (dk_neT jc_1 (k := 31) (b := 31) (by decide +kernel) (dk_dq rfl)) (dk_neT jc_1 (k := 32) (b := 32) (by decide +kernel) (dk_dq rfl)) (dk_neT jc_1 (k := 33) (b := 33) (by decide +kernel) (dk_dq rfl)) (dk_neT jc_1 (k := 34) (b := 34) (by decide +kernel) (dk_dq rfl)) (dk_neT jc_1 (k := 35) (b := 35) (by decide +kernel) (dk_dq rfl)) (dk_neT jc_1 (k := 36) (b := 36) (by decide +kernel) (dk_dq rfl)) (dk_neT jc_1 (k := 37) (b := 37) (by decide +kernel) (dk_dq rfl)) (dk_eqT jc_1 (k := 38) (by decide +kernel)) ex_29 c_30)), trivial⟩ dX12_two_148
  · as_aux_lemma =>
      refine lv_tableIn (off := 148) (tgt := 149) hx hb dX12_two_1 (by rw [jc_1]; decide) (by rw [jc_1]; decide) (by rw [jc_1]; decide +kernel) (dk_dq rfl) ?_
      refine lv_lload_n hx hb dX12_two_149 rfl (lv_at hl 1 rfl) ?_
      refine lv_lload_n hx hb dX12_two_150 rfl (lv_at hl 2 rfl) ?_
      refine W.lcmp hx hb dX12_two_151 ?_
      refine lv_topi (fun x_31 ex_31 => ?_)
      have hlc_x_31 := dk_lcmp ex_31
      refine lv_if_le (tgt := 159) hx hb dX12_two_152 (dk_dq rfl) (fun c_32 => ?_) (fun c_32 => ?_)
      · have jc_32 := dk_lec (k := 0) (by decide +kernel) c_32
        refine lv_lconst (v := 0) hx hb dX12_two_159 (by decide +kernel) ?_
        refine W.widen (k := 0) (n := 0) (Nat.le_of_ble_eq_true rfl) (Nat.le_of_ble_eq_true rfl) ?_
        exact dg_lret hx hb hr hlocks hP hS ⟨rfl, (Eq.symm (F_m_two_p13 (dk_neT jc_1 (k := 31) (b := 31) (by decide +kernel) (dk_dq rfl)) (dk_neT jc_1 (k := 32) (b := 32) (by decide +kernel) (dk_dq rfl)) (dk_neT jc_1 (k := 33) (b := 33) (by decide +kernel) (dk_dq rfl)) (dk_neT jc_1 (k := 34) (b := 34) (by decide +kernel) (dk_dq rfl)) (dk_neT jc_1 (k := 35) (b := 35) (by decide +kernel) (dk_dq rfl)) (dk_neT jc_1 (k := 36) (b := 36) (by decide +kernel) (dk_dq rfl)) (dk_neT jc_1 (k := 37) (b := 37) (by decide +kernel) (dk_dq rfl)) (dk_neT jc_1 (k := 38) (b := 38) (by decide +kernel) (dk_dq rfl)) (dk_eqT jc_1 (k := 39) (by decide +kernel)) ex_31 c_32)), trivial⟩ dX12_two_160
      · have jc_32 := dk_nlec (k := 0) (by decide +kernel) c_32
        refine lv_lconst (v := 1) hx hb dX12_two_155 (by decide +kernel) ?_
        refine lv_goto (tgt := 160) hx hb dX12_two_156 (dk_dq rfl) ?_
        refine W.widen (k := 0) (n := 0) (Nat.le_of_ble_eq_true rfl) (Nat.le_of_ble_eq_true rfl) ?_
        exact dg_lret hx hb hr hlocks hP hS ⟨rfl, (Eq.symm (F_m_two_p14 (dk_neT jc_1 (k := 31) (b := 31) (by decide +kernel) (dk_dq rfl)) (dk_neT jc_1 (k := 32) (b := 32) (by decide +kernel) (dk_dq rfl)) (dk_neT jc_1 (k := 33) (b := 33) (by decide +kernel) (dk_dq rfl)) (dk_neT jc_1 (k := 34) (b := 34) (by decide +kernel) (dk_dq rfl)) (dk_neT jc_1 (k := 35) (b := 35) (by decide +kernel) (dk_dq rfl)) (dk_neT jc_1 (k := 36) (b := 36) (by decide +kernel) (dk_dq rfl)) (dk_neT jc_1 (k := 37) (b := 37) (by decide +kernel) (dk_dq rfl)) (dk_neT jc_1 (k := 38) (b := 38) (by decide +kernel) (dk_dq rfl)) (dk_eqT jc_1 (k := 39) (by decide +kernel)) ex_31 c_32)), trivial⟩ dX12_two_160
  · as_aux_lemma =>
      refine lv_tableIn (off := 160) (tgt := 161) hx hb dX12_two_1 (by rw [jc_1]; decide) (by rw [jc_1]; decide) (by rw [jc_1]; decide +kernel) (dk_dq rfl) ?_
      refine lv_lload_n hx hb dX12_two_161 rfl (lv_at hl 1 rfl) ?_
      refine lv_lload_n hx hb dX12_two_162 rfl (lv_at hl 2 rfl) ?_
      refine W.lcmp hx hb dX12_two_163 ?_
      refine lv_topi (fun x_33 ex_33 => ?_)
      have hlc_x_33 := dk_lcmp ex_33
      refine lv_if_ne (tgt := 171) hx hb dX12_two_164 (dk_dq rfl) (fun c_34 => ?_) (fun c_34 => ?_)
      · have jc_34 := dk_neqc (k := 0) (by decide +kernel) c_34
        refine lv_lconst (v := 0) hx hb dX12_two_171 (by decide +kernel) ?_
        refine W.widen (k := 0) (n := 0) (Nat.le_of_ble_eq_true rfl) (Nat.le_of_ble_eq_true rfl) ?_
        exact dg_lret hx hb hr hlocks hP hS ⟨rfl, (Eq.symm (F_m_two_p15 (dk_neT jc_1 (k := 31) (b := 31) (by decide +kernel) (dk_dq rfl)) (dk_neT jc_1 (k := 32) (b := 32) (by decide +kernel) (dk_dq rfl)) (dk_neT jc_1 (k := 33) (b := 33) (by decide +kernel) (dk_dq rfl)) (dk_neT jc_1 (k := 34) (b := 34) (by decide +kernel) (dk_dq rfl)) (dk_neT jc_1 (k := 35) (b := 35) (by decide +kernel) (dk_dq rfl)) (dk_neT jc_1 (k := 36) (b := 36) (by decide +kernel) (dk_dq rfl)) (dk_neT jc_1 (k := 37) (b := 37) (by decide +kernel) (dk_dq rfl)) (dk_neT jc_1 (k := 38) (b := 38) (by decide +kernel) (dk_dq rfl)) (dk_neT jc_1 (k := 39) (b := 39) (by decide +kernel) (dk_dq rfl)) (dk_eqT jc_1 (k := 40) (by decide +kernel)) ex_33 c_34)), trivial⟩ dX12_two_172
      · have jc_34 := dk_eqc (k := 0) (by decide +kernel) c_34
        refine lv_lconst (v := 1) hx hb dX12_two_167 (by decide +kernel) ?_
        refine lv_goto (tgt := 172) hx hb dX12_two_168 (dk_dq rfl) ?_
        refine W.widen (k := 0) (n := 0) (Nat.le_of_ble_eq_true rfl) (Nat.le_of_ble_eq_true rfl) ?_
        exact dg_lret hx hb hr hlocks hP hS ⟨rfl, (Eq.symm (F_m_two_p16 (dk_neT jc_1 (k := 31) (b := 31) (by decide +kernel) (dk_dq rfl)) (dk_neT jc_1 (k := 32) (b := 32) (by decide +kernel) (dk_dq rfl)) (dk_neT jc_1 (k := 33) (b := 33) (by decide +kernel) (dk_dq rfl)) (dk_neT jc_1 (k := 34) (b := 34) (by decide +kernel) (dk_dq rfl)) (dk_neT jc_1 (k := 35) (b := 35) (by decide +kernel) (dk_dq rfl)) (dk_neT jc_1 (k := 36) (b := 36) (by decide +kernel) (dk_dq rfl)) (dk_neT jc_1 (k := 37) (b := 37) (by decide +kernel) (dk_dq rfl)) (dk_neT jc_1 (k := 38) (b := 38) (by decide +kernel) (dk_dq rfl)) (dk_neT jc_1 (k := 39) (b := 39) (by decide +kernel) (dk_dq rfl)) (dk_eqT jc_1 (k := 40) (by decide +kernel)) ex_33 c_34)), trivial⟩ dX12_two_172
  · refine lv_tableIn (off := 172) (tgt := 173) hx hb dX12_two_1 (by rw [jc_1]; decide) (by rw [jc_1]; decide) (by rw [jc_1]; decide +kernel) (dk_dq rfl) ?_
    refine lv_lload_n hx hb dX12_two_173 rfl (lv_at hl 1 rfl) ?_
    refine lv_lload_n hx hb dX12_two_174 rfl (lv_at hl 2 rfl) ?_
    refine lv_land hx hb dX12_two_175 ?_
    refine lv_topl (fun x_35 ex_35 => ?_)
    refine W.widen (k := 0) (n := 0) (Nat.le_of_ble_eq_true rfl) (Nat.le_of_ble_eq_true rfl) ?_
    exact dg_lret hx hb hr hlocks hP hS ⟨rfl, (Eq.symm (F_m_two_p17 (dk_neT jc_1 (k := 31) (b := 31) (by decide +kernel) (dk_dq rfl)) (dk_neT jc_1 (k := 32) (b := 32) (by decide +kernel) (dk_dq rfl)) (dk_neT jc_1 (k := 33) (b := 33) (by decide +kernel) (dk_dq rfl)) (dk_neT jc_1 (k := 34) (b := 34) (by decide +kernel) (dk_dq rfl)) (dk_neT jc_1 (k := 35) (b := 35) (by decide +kernel) (dk_dq rfl)) (dk_neT jc_1 (k := 36) (b := 36) (by decide +kernel) (dk_dq rfl)) (dk_neT jc_1 (k := 37) (b := 37) (by decide +kernel) (dk_dq rfl)) (dk_neT jc_1 (k := 38) (b := 38) (by decide +kernel) (dk_dq rfl)) (dk_neT jc_1 (k := 39) (b := 39) (by decide +kernel) (dk_dq rfl)) (dk_neT jc_1 (k := 40) (b := 40) (by decide +kernel) (dk_dq rfl)) (dk_eqT jc_1 (k := 41) (by decide +kernel)) ex_35)), trivial⟩ dX12_two_176
noncomputable def F_m_measures_J3 (x_2114 : Int32) (x_2299 : Int32) (S_2302 : dg_S) : (Int32 × Int32 × dg_S) ⊕ (dg_S) := let x_2304 : Int32 := x_2114 + 1; (Sum.inl (x_2304, x_2299, S_2302))
noncomputable def F_m_measures_B4 (x_2114 : Int32) (S : dg_S) (bk : Int32) (o : Nat) (x_2120 : Int32) (a1 : Int32) : (Int32 × Int32 × dg_S) → (Int32 × Int32 × dg_S) ⊕ ((Int32 × Int32 × dg_S) ⊕ (dg_S)) := fun w9 => match w9 with | (x_2449, x_2450, S_2451) => (if (4 : Int32) ≤ x_2449 then (Sum.inr ((F_m_measures_J3 x_2114 x_2450 S_2451))) else let x_2455 : Int32 := zI S 0 47; let x_2456 : Int32 := S_2451.2.1 2 (bk : Int32).toNatClampNeg; let x_2458 : Int32 := S_2451.2.1 3 (bk : Int32).toNatClampNeg; let x_2460 : Int32 := F_m_besideOf o S_2451 x_2120 x_2449; (if x_2460 = (-1 : Int32) then let x_2463 : Int32 := x_2449 + 1; (Sum.inl (x_2463, x_2450, S_2451)) else let x_2464 : Int32 := F_m_isOpen o S_2451 a1 x_2460; (if x_2464 = (0 : Int32) then let x_2467 : Int32 := x_2449 + 1; (Sum.inl (x_2467, x_2450, S_2451)) else let x_2469 : Int32 := S_2451.2.1 42 (x_2460 : Int32).toNatClampNeg; (if (100000000 : Int32) ≤ x_2469 then let x_2472 : Int32 := S_2451.2.1 42 (x_2120 : Int32).toNatClampNeg; let x_2473 : Int32 := x_2472 + (1 : Int32); let S_2475 : dg_S := dg_uf S_2451 42 (upd (S_2451.2.1 42) (x_2460 : Int32).toNatClampNeg x_2473); let S_2477 : dg_S := dg_uf S_2475 43 (upd (S_2475.2.1 43) (x_2450 : Int32).toNatClampNeg x_2460); let x_2478 : Int32 := x_2450 + 1; let x_2479 : Int32 := x_2449 + 1; (Sum.inl (x_2479, x_2478, S_2477)) else let x_2480 : Int32 := x_2449 + 1; (Sum.inl (x_2480, x_2450, S_2451))))))
noncomputable def F_m_measures_B2 (a1 : Int32) (S : dg_S) (bk : Int32) (o : Nat) : (Int32 × Int32 × dg_S) → (Int32 × Int32 × dg_S) ⊕ (dg_S) := fun w9 => match w9 with | (x_2114, x_2115, S_2116) => (if x_2115 ≤ x_2114 then (Sum.inr ((S_2116))) else let x_2120 : Int32 := S_2116.2.1 43 (x_2114 : Int32).toNatClampNeg; let x_2121 : Int32 := (64 : Int32) * a1; let x_2122 : Int32 := x_2121 + x_2120; let x_2124 : Int32 := S_2116.2.1 32 (x_2122 : Int32).toNatClampNeg; (if x_2124 = (1 : Int32) then let x_2483 : Int32 := x_2114 + 1; (Sum.inl (x_2483, x_2115, S_2116)) else (lp (F_m_measures_B4 x_2114 S bk o x_2120 a1) (Sum.inr S) ((5 - ((0 : Int32)).toInt).toNat + 1) ((0 : Int32), x_2115, S_2116))))
noncomputable def F_m_measures_J1 (S_1171 : dg_S) (sh : Int32) (a1 : Int32) (S : dg_S) (bk : Int32) (o : Nat) : dg_S := let S_1176 : dg_S := dg_uf S_1171 43 (upd (S_1171.2.1 43) (0 : Int32).toNatClampNeg sh); (lp (F_m_measures_B2 a1 S bk o) S ((65 - ((0 : Int32)).toInt).toNat + 1) ((0 : Int32), (1 : Int32), S_1176))
noncomputable def F_m_measures_B5 (sh : Int32) (a1 : Int32) (S : dg_S) (bk : Int32) (o : Nat) : (Int32 × dg_S) → (Int32 × dg_S) ⊕ (dg_S) := fun w9 => match w9 with | (x_2513, S_2514) => (if (64 : Int32) ≤ x_2513 then (Sum.inr ((F_m_measures_J1 S_2514 sh a1 S bk o))) else (if x_2513 = sh then let S_2525 : dg_S := dg_uf S_2514 42 (upd (S_2514.2.1 42) (x_2513 : Int32).toNatClampNeg (0 : Int32)); let x_2527 : Int32 := x_2513 + 1; (Sum.inl (x_2527, S_2525)) else let S_2521 : dg_S := dg_uf S_2514 42 (upd (S_2514.2.1 42) (x_2513 : Int32).toNatClampNeg (100000000 : Int32)); let x_2523 : Int32 := x_2513 + 1; (Sum.inl (x_2523, S_2521))))
noncomputable def F_m_measures (o : Nat) (S : dg_S) (a1 : Int32) : dg_S := let bk : Int32 := zI S 0 13; let sh : Int32 := S.2.1 4 (bk : Int32).toNatClampNeg; (lp (F_m_measures_B5 sh a1 S bk o) S ((65 - ((0 : Int32)).toInt).toNat + 1) ((0 : Int32), S))
theorem F_m_measures_p0 {a1 : Int32} {S : dg_S} {bk : Int32} {o : Nat} {x_2114 : Int32} {x_2115 : Int32} {S_2116 : dg_S} (h0 : x_2115 ≤ x_2114) : (F_m_measures_B2 a1 S bk o) (x_2114, x_2115, S_2116) = Sum.inr (S_2116) := (Eq.trans (if_pos h0) rfl)
theorem F_m_measures_p1 {x_2114 : Int32} {x_2299 : Int32} {S_2302 : dg_S} {x_2304 : Int32} (h0 : x_2304 = x_2114 + 1) : F_m_measures_J3 x_2114 x_2299 S_2302 = Sum.inl (x_2304, x_2299, S_2302) := by
  replace h0 := Eq.symm h0
  subst h0
  exact rfl
theorem F_m_measures_p2 {x_2114 : Int32} {S : dg_S} {bk : Int32} {o : Nat} {x_2120 : Int32} {a1 : Int32} {x_2449 : Int32} {x_2450 : Int32} {S_2451 : dg_S} (h0 : (4 : Int32) ≤ x_2449) : (F_m_measures_B4 x_2114 S bk o x_2120 a1) (x_2449, x_2450, S_2451) = Sum.inr (F_m_measures_J3 x_2114 x_2450 S_2451) := (Eq.trans (if_pos h0) rfl)
theorem F_m_measures_p3 {x_2114 : Int32} {S : dg_S} {bk : Int32} {o : Nat} {x_2120 : Int32} {a1 : Int32} {x_2449 : Int32} {x_2450 : Int32} {S_2451 : dg_S} {x_2463 : Int32} {x_2460 : Int32} (h0 : ¬ ((4 : Int32) ≤ x_2449)) (h1 : x_2460 = F_m_besideOf o S_2451 x_2120 x_2449) (h2 : x_2460 = (-1 : Int32)) (h3 : x_2463 = x_2449 + 1) : (F_m_measures_B4 x_2114 S bk o x_2120 a1) (x_2449, x_2450, S_2451) = Sum.inl (x_2463, x_2450, S_2451) := by
  replace h1 := Eq.symm h1
  subst h1
  replace h3 := Eq.symm h3
  subst h3
  exact (Eq.trans (if_neg h0) (Eq.trans (if_pos h2) rfl))
theorem F_m_measures_p4 {x_2114 : Int32} {S : dg_S} {bk : Int32} {o : Nat} {x_2120 : Int32} {a1 : Int32} {x_2449 : Int32} {x_2450 : Int32} {S_2451 : dg_S} {x_2467 : Int32} {x_2460 : Int32} {x_2464 : Int32} (h0 : ¬ ((4 : Int32) ≤ x_2449)) (h1 : x_2460 = F_m_besideOf o S_2451 x_2120 x_2449) (h2 : ¬ (x_2460 = (-1 : Int32))) (h3 : x_2464 = F_m_isOpen o S_2451 a1 x_2460) (h4 : x_2464 = (0 : Int32)) (h5 : x_2467 = x_2449 + 1) : (F_m_measures_B4 x_2114 S bk o x_2120 a1) (x_2449, x_2450, S_2451) = Sum.inl (x_2467, x_2450, S_2451) := by
  replace h1 := Eq.symm h1
  subst h1
  replace h3 := Eq.symm h3
  subst h3
  replace h5 := Eq.symm h5
  subst h5
  exact (Eq.trans (if_neg h0) (Eq.trans (if_neg h2) (Eq.trans (if_pos h4) rfl)))
theorem F_m_measures_p5 {x_2114 : Int32} {S : dg_S} {bk : Int32} {o : Nat} {x_2120 : Int32} {a1 : Int32} {x_2449 : Int32} {x_2450 : Int32} {S_2451 : dg_S} {x_2479 : Int32} {x_2478 : Int32} {S_2477 : dg_S} {x_2460 : Int32} {x_2464 : Int32} {x_2469 : Int32} {x_2472 : Int32} {x_2473 : Int32} {S_2475 : dg_S} (h0 : ¬ ((4 : Int32) ≤ x_2449)) (h1 : x_2460 = F_m_besideOf o S_2451 x_2120 x_2449) (h2 : ¬ (x_2460 = (-1 : Int32))) (h3 : x_2464 = F_m_isOpen o S_2451 a1 x_2460) (h4 : ¬ (x_2464 = (0 : Int32))) (h5 : x_2469 = S_2451.2.1 42 (x_2460 : Int32).toNatClampNeg) (h6 : (100000000 : Int32) ≤ x_2469) (h7 : x_2472 = S_2451.2.1 42 (x_2120 : Int32).toNatClampNeg) (h8 : x_2473 = x_2472 + (1 : Int32)) (h9 : S_2475 = dg_uf S_2451 42 (upd (S_2451.2.1 42) (x_2460 : Int32).toNatClampNeg x_2473)) (h10 : S_2477 = dg_uf S_2475 43 (upd (S_2475.2.1 43) (x_2450 : Int32).toNatClampNeg x_2460)) (h11 : x_2478 = x_2450 + 1) (h12 : x_2479 = x_2449 + 1) : (F_m_measures_B4 x_2114 S bk o x_2120 a1) (x_2449, x_2450, S_2451) = Sum.inl (x_2479, x_2478, S_2477) := by
  replace h1 := Eq.symm h1
  subst h1
  replace h3 := Eq.symm h3
  subst h3
  replace h5 := Eq.symm h5
  subst h5
  replace h7 := Eq.symm h7
  subst h7
  replace h8 := Eq.symm h8
  subst h8
  replace h9 := Eq.symm h9
  subst h9
  replace h10 := Eq.symm h10
  subst h10
  replace h11 := Eq.symm h11
  subst h11
  replace h12 := Eq.symm h12
  subst h12
  exact (Eq.trans (if_neg h0) (Eq.trans (if_neg h2) (Eq.trans (if_neg h4) (Eq.trans (if_pos h6) rfl))))
theorem F_m_measures_p6 {x_2114 : Int32} {S : dg_S} {bk : Int32} {o : Nat} {x_2120 : Int32} {a1 : Int32} {x_2449 : Int32} {x_2450 : Int32} {S_2451 : dg_S} {x_2480 : Int32} {x_2460 : Int32} {x_2464 : Int32} {x_2469 : Int32} (h0 : ¬ ((4 : Int32) ≤ x_2449)) (h1 : x_2460 = F_m_besideOf o S_2451 x_2120 x_2449) (h2 : ¬ (x_2460 = (-1 : Int32))) (h3 : x_2464 = F_m_isOpen o S_2451 a1 x_2460) (h4 : ¬ (x_2464 = (0 : Int32))) (h5 : x_2469 = S_2451.2.1 42 (x_2460 : Int32).toNatClampNeg) (h6 : ¬ ((100000000 : Int32) ≤ x_2469)) (h7 : x_2480 = x_2449 + 1) : (F_m_measures_B4 x_2114 S bk o x_2120 a1) (x_2449, x_2450, S_2451) = Sum.inl (x_2480, x_2450, S_2451) := by
  replace h1 := Eq.symm h1
  subst h1
  replace h3 := Eq.symm h3
  subst h3
  replace h5 := Eq.symm h5
  subst h5
  replace h7 := Eq.symm h7
  subst h7
  exact (Eq.trans (if_neg h0) (Eq.trans (if_neg h2) (Eq.trans (if_neg h4) (Eq.trans (if_neg h6) rfl))))
theorem F_m_measures_p7 {a1 : Int32} {S : dg_S} {bk : Int32} {o : Nat} {x_2114 : Int32} {x_2115 : Int32} {S_2116 : dg_S} {x_2120 : Int32} {x_2121 : Int32} {x_2122 : Int32} {x_2124 : Int32} (h0 : ¬ (x_2115 ≤ x_2114)) (h1 : x_2120 = S_2116.2.1 43 (x_2114 : Int32).toNatClampNeg) (h2 : x_2121 = (64 : Int32) * a1) (h3 : x_2122 = x_2121 + x_2120) (h4 : x_2124 = S_2116.2.1 32 (x_2122 : Int32).toNatClampNeg) (h5 : ¬ (x_2124 = (1 : Int32))) : (F_m_measures_B2 a1 S bk o) (x_2114, x_2115, S_2116) = lp (F_m_measures_B4 x_2114 S bk o x_2120 a1) (Sum.inr S) ((5 - ((0 : Int32)).toInt).toNat + 1) ((0 : Int32), x_2115, S_2116) := by
  replace h1 := Eq.symm h1
  subst h1
  replace h2 := Eq.symm h2
  subst h2
  replace h3 := Eq.symm h3
  subst h3
  replace h4 := Eq.symm h4
  subst h4
  exact (Eq.trans (if_neg h0) (Eq.trans (if_neg h5) rfl))
theorem F_m_measures_p8 {a1 : Int32} {S : dg_S} {bk : Int32} {o : Nat} {x_2114 : Int32} {x_2115 : Int32} {S_2116 : dg_S} {x_2483 : Int32} {x_2120 : Int32} {x_2121 : Int32} {x_2122 : Int32} {x_2124 : Int32} (h0 : ¬ (x_2115 ≤ x_2114)) (h1 : x_2120 = S_2116.2.1 43 (x_2114 : Int32).toNatClampNeg) (h2 : x_2121 = (64 : Int32) * a1) (h3 : x_2122 = x_2121 + x_2120) (h4 : x_2124 = S_2116.2.1 32 (x_2122 : Int32).toNatClampNeg) (h5 : x_2124 = (1 : Int32)) (h6 : x_2483 = x_2114 + 1) : (F_m_measures_B2 a1 S bk o) (x_2114, x_2115, S_2116) = Sum.inl (x_2483, x_2115, S_2116) := by
  replace h1 := Eq.symm h1
  subst h1
  replace h2 := Eq.symm h2
  subst h2
  replace h3 := Eq.symm h3
  subst h3
  replace h4 := Eq.symm h4
  subst h4
  replace h6 := Eq.symm h6
  subst h6
  exact (Eq.trans (if_neg h0) (Eq.trans (if_pos h5) rfl))
theorem F_m_measures_p9 {S_1171 : dg_S} {sh : Int32} {a1 : Int32} {S : dg_S} {bk : Int32} {o : Nat} {S_1176 : dg_S} (h0 : S_1176 = dg_uf S_1171 43 (upd (S_1171.2.1 43) (0 : Int32).toNatClampNeg sh)) : F_m_measures_J1 S_1171 sh a1 S bk o = lp (F_m_measures_B2 a1 S bk o) S ((65 - ((0 : Int32)).toInt).toNat + 1) ((0 : Int32), (1 : Int32), S_1176) := by
  replace h0 := Eq.symm h0
  subst h0
  exact rfl
theorem F_m_measures_p10 {sh : Int32} {a1 : Int32} {S : dg_S} {bk : Int32} {o : Nat} {x_2513 : Int32} {S_2514 : dg_S} (h0 : (64 : Int32) ≤ x_2513) : (F_m_measures_B5 sh a1 S bk o) (x_2513, S_2514) = Sum.inr (F_m_measures_J1 S_2514 sh a1 S bk o) := (Eq.trans (if_pos h0) rfl)
theorem F_m_measures_p11 {sh : Int32} {a1 : Int32} {S : dg_S} {bk : Int32} {o : Nat} {x_2513 : Int32} {S_2514 : dg_S} {x_2523 : Int32} {S_2521 : dg_S} (h0 : ¬ ((64 : Int32) ≤ x_2513)) (h1 : ¬ (x_2513 = sh)) (h2 : S_2521 = dg_uf S_2514 42 (upd (S_2514.2.1 42) (x_2513 : Int32).toNatClampNeg (100000000 : Int32))) (h3 : x_2523 = x_2513 + 1) : (F_m_measures_B5 sh a1 S bk o) (x_2513, S_2514) = Sum.inl (x_2523, S_2521) := by
  replace h2 := Eq.symm h2
  subst h2
  replace h3 := Eq.symm h3
  subst h3
  exact (Eq.trans (if_neg h0) (Eq.trans (if_neg h1) rfl))
theorem F_m_measures_p12 {sh : Int32} {a1 : Int32} {S : dg_S} {bk : Int32} {o : Nat} {x_2513 : Int32} {S_2514 : dg_S} {x_2527 : Int32} {S_2525 : dg_S} (h0 : ¬ ((64 : Int32) ≤ x_2513)) (h1 : x_2513 = sh) (h2 : S_2525 = dg_uf S_2514 42 (upd (S_2514.2.1 42) (x_2513 : Int32).toNatClampNeg (0 : Int32))) (h3 : x_2527 = x_2513 + 1) : (F_m_measures_B5 sh a1 S bk o) (x_2513, S_2514) = Sum.inl (x_2527, S_2525) := by
  replace h2 := Eq.symm h2
  subst h2
  replace h3 := Eq.symm h3
  subst h3
  exact (Eq.trans (if_neg h0) (Eq.trans (if_pos h1) rfl))
theorem F_m_measures_p13 {o : Nat} {S : dg_S} {a1 : Int32} {sh : Int32} {bk : Int32} (h0 : bk = zI S 0 13) (h1 : sh = S.2.1 4 (bk : Int32).toNatClampNeg) : F_m_measures o S a1 = lp (F_m_measures_B5 sh a1 S bk o) S ((65 - ((0 : Int32)).toInt).toNat + 1) ((0 : Int32), S) := by
  replace h0 := Eq.symm h0
  subst h0
  replace h1 := Eq.symm h1
  subst h1
  exact rfl
set_option maxHeartbeats 8000000 in
set_option maxRecDepth 100000 in
theorem c_m_measures (l : Launch) (g : Nat → ClassId) (D : va_G) (o : Nat) (S : dg_S) (a1 : Int32) (b_a1 : 0 ≤ (a1).toInt ∧ (a1).toInt ≤ 21) (bk : Int32) (f_bk : S.1 0 13 = .int bk) (b_bk : 0 ≤ (bk).toInt ∧ (bk).toInt ≤ 1) (sh : Int32) (f_sh : S.2.1 4 (bk : Int32).toNatClampNeg = sh) (b_sh : 0 ≤ (sh).toInt ∧ (sh).toInt ≤ 63) (ZB : ZBM S) (I : CM o S) (sz : Nat) : Met l yX12_measures (bw yX12_measures cX12_measures 7 none) ({ frames := 4, cells := 0, slots := 0, locals := 100 } : Room) (dk_Pc g D (dg_w g shM o rfM S) sz [.ref (o + 0), .int a1]) (va_Qv (fun S' => CM o S' ∧ dg_sm shM [] [42, 43] S S' ∧ (S' = F_m_measures o S a1) ∧ True) (dg_B g D shM o rfM) (dg_A o shM.length sz)) 0 0 (dg_A o shM.length sz) := by
  refine dg_met (cc := cX12_measures) (maxL := 7) (ret := none) (dk_dq rfl) rfl (Nat.le_of_ble_eq_true rfl) ?_
  intro p e s m args below meth c A hAe harg hx hb hr hml hts hown hlocks hin hP K hS hA1 hA ST hsz ls hl
  rw [← hAe]
  have F : CallFix p m c cX12_measures 7 s args (bw yX12_measures cX12_measures 7 none) RX12 := ⟨hx, hb, hml, hown, hts⟩
  have hl : lv_has ls 7 [(0, .ref (o + 0)), (1, .int a1)] := hl
  have M_0 : dg_sm shM [] [42, 43] S S := dg_sm.rf
  refine lv_iconst (v := 0) hx hb dX12_measures_0 (by decide +kernel) ?_
  refine lv_istore_n (lv' := [(2, .int 0), (0, .ref (o + 0)), (1, .int a1)]) hx hb dX12_measures_1 rfl hl (dk_dq rfl) rfl (fun ls hl => ?_)
  have J_1172 : ∀ (x_40 : Int32), (64 ≤ (x_40).toInt ∧ (x_40).toInt ≤ 64) → ∀ S_1171 : dg_S, CM o S_1171 → dg_sm shM [] [42, 43] S S_1171 → (ZF0 S_1171 (sh).toInt 64) → (F_m_measures o S a1 = F_m_measures_J1 S_1171 sh a1 S bk o) → ∀ (H : Heap) (locs : List Loc), va_P D vwCl (dg_w g shM o rfM S_1171) H → va_S A s.heap H locs → ∀ ls : Array Slot, lv_has ls 7 [(2, .int x_40), (0, .ref (o + 0)), (1, .int a1)] → W p l e ({ frames := 4, cells := 0, slots := 0, locals := 100 } : Room) s m args below meth c H locs 0 0 (MQ below (va_Qv (fun S' => CM o S' ∧ dg_sm shM [] [42, 43] S S' ∧ (S' = F_m_measures o S a1) ∧ True) (dg_B g D shM o rfM) A) args s 0 0 A) (F0 m 40 ls []) := by
    as_aux_lemma =>
      intro x_40 b_x_40 S_1171 I_1171 M_1171 srel_1171_0 hF_1 H locs hP hS ls hl
      refine lv_aload_n hx hb dX12_measures_40 rfl (lv_at hl 1 rfl) ?_
      refine dg_get (C := RX12) (T := TX12) (N := 77) hx hb hts (fun w h => bw_mem (wU_X12 w h)) hown K hP sM_0 rfl 67 (dk_dq rfl) (hts _ (bw_mem wB_1142)) (fun _ h9 => h9) (v := .ref (o + 43)) (show S_1171.1 0 67 = .ref (o + 43) from dg_I.rel (d := 43) I_1171 sM_0 (by decide +kernel)) dX12_measures_41 ?_
      refine lv_iconst (v := 0) hx hb dX12_measures_44 (by decide +kernel) ?_
      refine lv_aload_n hx hb dX12_measures_45 rfl (lv_at hl 1 rfl) ?_
      refine dg_get (C := RX12) (T := TX12) (N := 77) hx hb hts (fun w h => bw_mem (wU_X12 w h)) hown K hP sM_0 rfl 16 (dk_dq rfl) (hts _ (bw_mem wB_481)) (fun _ h9 => h9) (v := .ref (o + 4)) (show S_1171.1 0 16 = .ref (o + 4) from dg_I.rel (d := 4) I_1171 sM_0 (by decide +kernel)) dX12_measures_46 ?_
      refine lv_aload_n hx hb dX12_measures_49 rfl (lv_at hl 1 rfl) ?_
      refine dg_get (C := RX12) (T := TX12) (N := 77) hx hb hts (fun w h => bw_mem (wU_X12 w h)) hown K hP sM_0 rfl 13 (dk_dq rfl) (hts _ (bw_mem wB_1085)) (fun _ h9 => h9) (v := .int bk) ((M_1171.1 0 13 _ sM_0 (dk_dq rfl)).trans f_bk) dX12_measures_50 ?_
      have hin_1173 : vp_in bk 2 := (dk_inv2 (by omega))
      refine dg_iald hx hb K hP sM_4 hin_1173 dX12_measures_53 (fun y_1174 ey_1174 => ?_)
      obtain rfl : sh = y_1174 := ((ey_1174.trans (congrFun (M_1171.2 4 _ sM_4 (dk_dq rfl)).1 _)).trans f_sh).symm
      have hin_1175 : vp_in (0 : Int32) 64 := (dk_in (by decide +kernel))
      have hz_1177 : (0 : Int32).toInt = 0 := by decide +kernel
      refine dg_iast hx hb K hP hS hA1 sM_43 hin_1175 dX12_measures_54 (fun S_1176 e_1176 H locs hP hS => ?_)
      have I_1176 := dg_I.ufu (lo := 0) (hi := 63) I_1171 e_1176 sM_43 (by decide +kernel) (show 0 ≤ (sh).toInt ∧ (sh).toInt ≤ 63 from (by omega))
      have M_1176 := dg_sm.uf M_1171 e_1176 sM_43 (dk_dq rfl)
      refine lv_iconst (v := 1) hx hb dX12_measures_55 (by decide +kernel) ?_
      refine lv_istore_n (lv' := [(2, .int 1), (0, .ref (o + 0)), (1, .int a1)]) hx hb dX12_measures_56 rfl hl (dk_dq rfl) rfl (fun ls hl => ?_)
      refine lv_iconst (v := 0) hx hb dX12_measures_57 (by decide +kernel) ?_
      refine lv_istore_n (lv' := [(3, .int 0), (2, .int 1), (0, .ref (o + 0)), (1, .int a1)]) hx hb dX12_measures_58 rfl hl (dk_dq rfl) rfl (fun ls hl => ?_)
      have L_2117 : ∀ (n : Nat) (x_2114 : Int32) (x_2115 : Int32), (0 ≤ (x_2114).toInt ∧ (x_2114).toInt ≤ 64) → (1 ≤ (x_2115).toInt ∧ (x_2115).toInt ≤ 64) → ((65 - (x_2114).toInt).toNat < n) → ∀ S_2116 : dg_S, CM o S_2116 → dg_sm shM [] [42, 43] S S_2116 → (ZQM S_2116 (x_2115 : Int32).toInt) → (F_m_measures o S a1 = lp (F_m_measures_B2 a1 S bk o) S n (x_2114, x_2115, S_2116)) → ∀ (H : Heap) (locs : List Loc), va_P D vwCl (dg_w g shM o rfM S_2116) H → va_S A s.heap H locs → ∀ ls : Array Slot, lv_has ls 7 [(3, .int x_2114), (2, .int x_2115), (0, .ref (o + 0)), (1, .int a1)] → W p l e ({ frames := 4, cells := 0, slots := 0, locals := 100 } : Room) s m args below meth c H locs 0 0 (MQ below (va_Qv (fun S' => CM o S' ∧ dg_sm shM [] [42, 43] S S' ∧ (S' = F_m_measures o S a1) ∧ True) (dg_B g D shM o rfM) A) args s 0 0 A) (F0 m 59 ls []) := by
        as_aux_lemma =>
          intro n
          induction n with
          | zero =>
            intro x_2114 x_2115 b_x_2114 b_x_2115 hmu S_2116 I_2116 M_2116 srel_2116_0 hF_2 H locs hP hS ls hl
            omega
          | succ n ih =>
            as_aux_lemma =>
              intro x_2114 x_2115 b_x_2114 b_x_2115 hmu S_2116 I_2116 M_2116 srel_2116_0 hF_2 H locs hP hS ls hl
              refine lv_iload_n hx hb dX12_measures_59 rfl (lv_at hl 0 rfl) ?_
              refine lv_iload_n hx hb dX12_measures_60 rfl (lv_at hl 1 rfl) ?_
              refine lv_icmp_ge (tgt := 181) hx hb dX12_measures_61 (dk_dq rfl) (fun c_2118 => ?_) (fun c_2118 => ?_)
              · have jc_2118 := dk_gec (k := (x_2115).toInt) rfl c_2118
                refine W.widen (k := 0) (n := 0) (Nat.le_of_ble_eq_true rfl) (Nat.le_of_ble_eq_true rfl) ?_
                exact dg_vret hx hb hr hlocks hP hS ⟨I_2116, M_2116, (Eq.symm (lp_r hF_2 (F_m_measures_p0 c_2118))), trivial⟩ dX12_measures_181
              · as_aux_lemma =>
                  have jc_2118 := dk_ngec (k := (x_2115).toInt) rfl c_2118
                  refine lv_aload_n hx hb dX12_measures_64 rfl (lv_at hl 2 rfl) ?_
                  refine dg_get (C := RX12) (T := TX12) (N := 77) hx hb hts (fun w h => bw_mem (wU_X12 w h)) hown K hP sM_0 rfl 67 (dk_dq rfl) (hts _ (bw_mem wB_1142)) (fun _ h9 => h9) (v := .ref (o + 43)) (show S_2116.1 0 67 = .ref (o + 43) from dg_I.rel (d := 43) I_2116 sM_0 (by decide +kernel)) dX12_measures_65 ?_
                  refine lv_iload_n hx hb dX12_measures_68 rfl (lv_at hl 0 rfl) ?_
                  have hin_2119 : vp_in x_2114 64 := (dk_inv2 (by omega))
                  refine dg_iald hx hb K hP sM_43 hin_2119 dX12_measures_69 (fun x_2120 ex_2120 => ?_)
                  have b_x_2120 := dk_all_at (dg_I.row (lo := 0) (hi := 63) I_2116 sM_43 (by decide +kernel)) hin_2119 ex_2120
                  have qf_x_2120 : (S_2116.2.1 42 (x_2120).toNatClampNeg).toInt ≠ 100000000 := by rw [ex_2120]; exact srel_2116_0.2.1 _ (dk_inT hin_2119).2 (by have h9 := (dk_inT hin_2119).1; omega)
                  refine lv_istore (lv' := [(4, .int x_2120), (3, .int x_2114), (2, .int x_2115), (0, .ref (o + 0)), (1, .int a1)]) hx hb dX12_measures_70 hl (dk_dq rfl) rfl (fun ls hl => ?_)
                  refine lv_aload_n hx hb dX12_measures_72 rfl (lv_at hl 3 rfl) ?_
                  refine dg_get (C := RX12) (T := TX12) (N := 77) hx hb hts (fun w h => bw_mem (wU_X12 w h)) hown K hP sM_0 rfl 52 (dk_dq rfl) (hts _ (bw_mem wB_1097)) (fun _ h9 => h9) (v := .ref (o + 32)) (show S_2116.1 0 52 = .ref (o + 32) from dg_I.rel (d := 32) I_2116 sM_0 (by decide +kernel)) dX12_measures_73 ?_
                  refine lv_bipush (v := 64) hx hb dX12_measures_76 (by decide +kernel) ?_
                  refine lv_iload_n hx hb dX12_measures_78 rfl (lv_at hl 4 rfl) ?_
                  refine lv_imul hx hb dX12_measures_79 ?_
                  refine lv_topi (fun x_2121 ex_2121 => ?_)
                  have jx_2121 : (x_2121).toInt = 64 * (a1).toInt := by rw [ex_2121]; exact dk_mulT2 (by decide +kernel) rfl (by omega)
                  refine lv_iload hx hb dX12_measures_80 (lv_at hl 0 rfl) ?_
                  refine lv_iadd hx hb dX12_measures_82 ?_
                  refine lv_topi (fun x_2122 ex_2122 => ?_)
                  have jx_2122 : (x_2122).toInt = (x_2121).toInt + (x_2120).toInt := by rw [ex_2122]; exact dk_addT2 rfl rfl (by omega)
                  have hin_2123 : vp_in x_2122 1408 := (dk_inv2 (by omega))
                  refine dg_iald hx hb K hP sM_32 hin_2123 dX12_measures_83 (fun x_2124 ex_2124 => ?_)
                  refine lv_iconst (v := 1) hx hb dX12_measures_84 (by decide +kernel) ?_
                  refine lv_icmp_ne (tgt := 91) hx hb dX12_measures_85 (dk_dq rfl) (fun c_2125 => ?_) (fun c_2125 => ?_)
                  · as_aux_lemma =>
                      have jc_2125 := dk_neqc (k := 1) (by decide +kernel) c_2125
                      refine lv_iconst (v := 0) hx hb dX12_measures_91 (by decide +kernel) ?_
                      refine lv_istore (lv' := [(5, .int 0), (4, .int x_2120), (3, .int x_2114), (2, .int x_2115), (0, .ref (o + 0)), (1, .int a1)]) hx hb dX12_measures_92 hl (dk_dq rfl) rfl (fun ls hl => ?_)
                      have J_2303 : ∀ (x_2298 : Int32) (x_2299 : Int32), (4 ≤ (x_2298).toInt ∧ (x_2298).toInt ≤ 2147483647) → (1 ≤ (x_2299).toInt ∧ (x_2299).toInt ≤ 64) → ∀ S_2302 : dg_S, CM o S_2302 → dg_sm shM [] [42, 43] S S_2302 → (ZQM S_2302 (x_2299 : Int32).toInt) → ((F_m_measures_B2 a1 S bk o) (x_2114, x_2115, S_2116) = F_m_measures_J3 x_2114 x_2299 S_2302) → ∀ (H : Heap) (locs : List Loc), va_P D vwCl (dg_w g shM o rfM S_2302) H → va_S A s.heap H locs → ∀ ls : Array Slot, lv_has ls 7 [(5, .int x_2298), (4, .int x_2120), (3, .int x_2114), (2, .int x_2299), (0, .ref (o + 0)), (1, .int a1)] → W p l e ({ frames := 4, cells := 0, slots := 0, locals := 100 } : Room) s m args below meth c H locs 0 0 (MQ below (va_Qv (fun S' => CM o S' ∧ dg_sm shM [] [42, 43] S S' ∧ (S' = F_m_measures o S a1) ∧ True) (dg_B g D shM o rfM) A) args s 0 0 A) (F0 m 175 ls []) := by
                        intro x_2298 x_2299 b_x_2298 b_x_2299 S_2302 I_2302 M_2302 srel_2302_0 hF_3 H locs hP hS ls hl
                        obtain ⟨x_2304, ex_2304⟩ : ∃ z, z = x_2114 + 1 := ⟨_, rfl⟩
                        have jx_2304 : (x_2304).toInt = (x_2114).toInt + 1 := by rw [ex_2304]; exact dk_addT2 rfl (by decide +kernel) (by omega)
                        refine lv_iinc (v := x_2304) (lv' := [(3, .int x_2304), (5, .int x_2298), (4, .int x_2120), (2, .int x_2299), (0, .ref (o + 0)), (1, .int a1)]) hx hb dX12_measures_175 hl (k := 2) rfl (by rw [ex_2304]; rfl) (dk_dq rfl) rfl (fun ls hl => ?_)
                        refine lv_goto (tgt := 59) hx hb dX12_measures_178 (dk_dq rfl) ?_
                        exact ih x_2304 x_2299 (by omega) (by omega) (by first | exact mu_lt hmu (by omega) (by omega) | omega) S_2302 I_2302 M_2302 srel_2302_0 (lp_l hF_2 (Eq.trans hF_3 (F_m_measures_p1 ex_2304))) _ _ hP hS _ (lv_sub hl [0, 3, 4, 5] rfl)
                      have L_2452 : ∀ (n : Nat) (x_2449 : Int32) (x_2450 : Int32), (0 ≤ (x_2449).toInt ∧ (x_2449).toInt ≤ 4) → (1 ≤ (x_2450).toInt ∧ (x_2450).toInt ≤ 64) → ((5 - (x_2449).toInt).toNat < n) → ∀ S_2451 : dg_S, CM o S_2451 → dg_sm shM [] [42, 43] S S_2451 → (ZQM S_2451 (x_2450 : Int32).toInt) → ((S_2451.2.1 42 (x_2120 : Int32).toNatClampNeg).toInt ≠ 100000000) → ((F_m_measures_B2 a1 S bk o) (x_2114, x_2115, S_2116) = lp (F_m_measures_B4 x_2114 S bk o x_2120 a1) (Sum.inr S) n (x_2449, x_2450, S_2451)) → ∀ (H : Heap) (locs : List Loc), va_P D vwCl (dg_w g shM o rfM S_2451) H → va_S A s.heap H locs → ∀ ls : Array Slot, lv_has ls 7 [(5, .int x_2449), (4, .int x_2120), (3, .int x_2114), (2, .int x_2450), (0, .ref (o + 0)), (1, .int a1)] → W p l e ({ frames := 4, cells := 0, slots := 0, locals := 100 } : Room) s m args below meth c H locs 0 0 (MQ below (va_Qv (fun S' => CM o S' ∧ dg_sm shM [] [42, 43] S S' ∧ (S' = F_m_measures o S a1) ∧ True) (dg_B g D shM o rfM) A) args s 0 0 A) (F0 m 94 ls []) := by
                        as_aux_lemma =>
                          intro n
                          induction n with
                          | zero =>
                            intro x_2449 x_2450 b_x_2449 b_x_2450 hmu S_2451 I_2451 M_2451 srel_2451_0 srel_2451_1 hF_4 H locs hP hS ls hl
                            omega
                          | succ n ih =>
                            as_aux_lemma =>
                              intro x_2449 x_2450 b_x_2449 b_x_2450 hmu S_2451 I_2451 M_2451 srel_2451_0 srel_2451_1 hF_4 H locs hP hS ls hl
                              refine lv_iload hx hb dX12_measures_94 (lv_at hl 0 rfl) ?_
                              refine lv_iconst (v := 4) hx hb dX12_measures_96 (by decide +kernel) ?_
                              refine lv_icmp_ge (tgt := 175) hx hb dX12_measures_97 (dk_dq rfl) (fun c_2453 => ?_) (fun c_2453 => ?_)
                              · have jc_2453 := dk_gec (k := 4) (by decide +kernel) c_2453
                                have hf_2453 := dk_full x_2449
                                exact J_2303 x_2449 x_2450 (by omega) (by omega) S_2451 I_2451 M_2451 srel_2451_0 (lp_r hF_4 (F_m_measures_p2 c_2453)) _ _ hP hS _ (lv_sub hl [0, 1, 2, 3, 4, 5] rfl)
                              · as_aux_lemma =>
                                  have jc_2453 := dk_ngec (k := 4) (by decide +kernel) c_2453
                                  refine lv_aload_n hx hb dX12_measures_100 rfl (lv_at hl 4 rfl) ?_
                                  refine lv_iload hx hb dX12_measures_101 (lv_at hl 1 rfl) ?_
                                  refine lv_iload hx hb dX12_measures_103 (lv_at hl 0 rfl) ?_
                                  obtain ⟨x_2455, f_x_2455, b_x_2455⟩ := dg_I.int (i := 0) (k := 47) (lo := 0) (hi := 1) I sM_0 (by decide +kernel)
                                  obtain ⟨x_2456, f_x_2456⟩ : ∃ x, S_2451.2.1 2 (bk : Int32).toNatClampNeg = x := ⟨_, rfl⟩
                                  have hin_2457 : vp_in (bk : Int32) 2 := (dk_inv2 (by omega))
                                  have b_x_2456 := dk_all_at (dg_I.row (lo := 0) (hi := 9999) I_2451 sM_2 (by decide +kernel)) hin_2457 f_x_2456.symm
                                  have ex_2456 := f_x_2456.symm
                                  have zb_x_2456 : (x_2456).toInt ≤ 7 ∧ ((x_2455 : Int32).toInt = 1 → 3 ≤ (x_2456).toInt) := by rw [ex_2456]; exact ⟨((ZBM.keep ZB M_2451 (dk_dq rfl) (dk_dq rfl) (dk_dq rfl) (dk_dq rfl) (dk_dq rfl)) bk x_2455 ((M_2451.1 0 13 _ sM_0 (dk_dq rfl)).trans f_bk) ((M_2451.1 0 47 _ sM_0 (dk_dq rfl)).trans f_x_2455)).1, fun h9 => (((ZBM.keep ZB M_2451 (dk_dq rfl) (dk_dq rfl) (dk_dq rfl) (dk_dq rfl) (dk_dq rfl)) bk x_2455 ((M_2451.1 0 13 _ sM_0 (dk_dq rfl)).trans f_bk) ((M_2451.1 0 47 _ sM_0 (dk_dq rfl)).trans f_x_2455)).2.2.2 h9).1⟩
                                  obtain ⟨x_2458, f_x_2458⟩ : ∃ x, S_2451.2.1 3 (bk : Int32).toNatClampNeg = x := ⟨_, rfl⟩
                                  have hin_2459 : vp_in (bk : Int32) 2 := (dk_inv2 (by omega))
                                  have b_x_2458 := dk_all_at (dg_I.row (lo := 0) (hi := 9999) I_2451 sM_3 (by decide +kernel)) hin_2459 f_x_2458.symm
                                  have ex_2458 := f_x_2458.symm
                                  have zb_x_2458 : (x_2458).toInt ≤ 7 ∧ ((x_2455 : Int32).toInt = 1 → 3 ≤ (x_2458).toInt) := by rw [ex_2458]; exact ⟨((ZBM.keep ZB M_2451 (dk_dq rfl) (dk_dq rfl) (dk_dq rfl) (dk_dq rfl) (dk_dq rfl)) bk x_2455 ((M_2451.1 0 13 _ sM_0 (dk_dq rfl)).trans f_bk) ((M_2451.1 0 47 _ sM_0 (dk_dq rfl)).trans f_x_2455)).2.1, fun h9 => (((ZBM.keep ZB M_2451 (dk_dq rfl) (dk_dq rfl) (dk_dq rfl) (dk_dq rfl) (dk_dq rfl)) bk x_2455 ((M_2451.1 0 13 _ sM_0 (dk_dq rfl)).trans f_bk) ((M_2451.1 0 47 _ sM_0 (dk_dq rfl)).trans f_x_2455)).2.2.2 h9).2⟩
                                  refine dg_calli hS hA1 hA (va_runV (As := [.int x_2120, .int x_2449]) (rest := []) F (c_m_besideOf l g D o S_2451 x_2120 (by omega) x_2449 (by omega) bk ((M_2451.1 0 13 _ sM_0 (dk_dq rfl)).trans f_bk) (by omega) x_2455 ((M_2451.1 0 47 _ sM_0 (dk_dq rfl)).trans f_x_2455) (by omega) x_2456 f_x_2456 (by omega) x_2458 f_x_2458 (by omega) (ZBM.keep ZB M_2451 (dk_dq rfl) (dk_dq rfl) (dk_dq rfl) (dk_dq rfl) (dk_dq rfl)) I_2451 H.size) (cwV 2 hts (bw_V wB_1099 wB_1100 wB_1101 wB_297 wB_1098) rfl rfl rfl (by decide +kernel) ⟨Nat.le_of_ble_eq_true rfl, Nat.le_of_ble_eq_true rfl⟩) (dg_preV sM_0 rfl K ST hP hS hA1 hA) rfl rfl hl.1 rfl (lv_room (Nat.le_of_ble_eq_true rfl)) dX12_measures_105 ⟨Nat.le_of_ble_eq_true rfl, Nat.le_of_ble_eq_true rfl⟩) (fun x_2460 S_2461 hw_2461 H locs hP hS => ?_)
                                  rw [hw_2461.1] at hP
                                  obtain ⟨hq_2461, w_2461_0, w_2461_1, w_2461_2, -⟩ := hw_2461
                                  have w_2461_0 : ((-1) ≤ (x_2460).toInt ∧ (x_2460).toInt ≤ 54) ∧ ((x_2460).toInt ≤ (-1) ∨ 0 ≤ (x_2460).toInt) := w_2461_0
                                  have w_2461_1 : (x_2460).toInt ≠ -1 ↔ ((x_2455).toInt = 1 ∧ 0 ≤ (x_2120).toInt % 8 + dk_dC (x_2449).toInt ∧ (x_2120).toInt % 8 + dk_dC (x_2449).toInt < (x_2456).toInt ∧ 0 ≤ (x_2120).toInt / 8 + dk_dR (x_2449).toInt ∧ (x_2120).toInt / 8 + dk_dR (x_2449).toInt < (x_2458).toInt) := w_2461_1
                                  refine lv_istore (lv' := [(6, .int x_2460), (5, .int x_2449), (4, .int x_2120), (3, .int x_2114), (2, .int x_2450), (0, .ref (o + 0)), (1, .int a1)]) hx hb dX12_measures_108 hl (dk_dq rfl) rfl (fun ls hl => ?_)
                                  refine lv_iload hx hb dX12_measures_110 (lv_at hl 0 rfl) ?_
                                  refine lv_iconst (v := (-1)) hx hb dX12_measures_112 (by decide +kernel) ?_
                                  refine lv_icmp_eq (tgt := 169) hx hb dX12_measures_113 (dk_dq rfl) (fun c_2462 => ?_) (fun c_2462 => ?_)
                                  · have jc_2462 := dk_eqc (k := (-1)) (by decide +kernel) c_2462
                                    obtain ⟨x_2463, ex_2463⟩ : ∃ z, z = x_2449 + 1 := ⟨_, rfl⟩
                                    have jx_2463 : (x_2463).toInt = (x_2449).toInt + 1 := by rw [ex_2463]; exact dk_addT2 rfl (by decide +kernel) (by omega)
                                    refine lv_iinc (v := x_2463) (lv' := [(5, .int x_2463), (6, .int x_2460), (4, .int x_2120), (3, .int x_2114), (2, .int x_2450), (0, .ref (o + 0)), (1, .int a1)]) hx hb dX12_measures_169 hl (k := 1) rfl (by rw [ex_2463]; rfl) (dk_dq rfl) rfl (fun ls hl => ?_)
                                    refine lv_goto (tgt := 94) hx hb dX12_measures_172 (dk_dq rfl) ?_
                                    exact ih x_2463 x_2450 (by omega) (by omega) (by first | exact mu_lt hmu (by omega) (by omega) | omega) S_2451 I_2451 M_2451 srel_2451_0 srel_2451_1 (lp_l hF_4 (F_m_measures_p3 c_2453 w_2461_2 c_2462 ex_2463)) _ _ hP hS _ (lv_sub hl [0, 2, 3, 4, 5, 6] rfl)
                                  · as_aux_lemma =>
                                      have jc_2462 := dk_neqc (k := (-1)) (by decide +kernel) c_2462
                                      refine lv_aload_n hx hb dX12_measures_116 rfl (lv_at hl 5 rfl) ?_
                                      refine lv_iload_n hx hb dX12_measures_117 rfl (lv_at hl 6 rfl) ?_
                                      refine lv_iload hx hb dX12_measures_118 (lv_at hl 0 rfl) ?_
                                      refine dg_calli hS hA1 hA (va_runV (As := [.int a1, .int x_2460]) (rest := []) F (c_m_isOpen l g D o S_2451 a1 (by omega) x_2460 (by omega) I_2451 H.size) (cwV 2 hts (bw_V wB_1092 wB_1093 wB_1094 wB_297 wB_1091) rfl rfl rfl (by decide +kernel) ⟨Nat.le_of_ble_eq_true rfl, Nat.le_of_ble_eq_true rfl⟩) (dg_preV sM_0 rfl K ST hP hS hA1 hA) rfl rfl hl.1 rfl (lv_room (Nat.le_of_ble_eq_true rfl)) dX12_measures_120 ⟨Nat.le_of_ble_eq_true rfl, Nat.le_of_ble_eq_true rfl⟩) (fun x_2464 S_2465 hw_2465 H locs hP hS => ?_)
                                      rw [hw_2465.1] at hP
                                      obtain ⟨hq_2465, w_2465_0, w_2465_1, -⟩ := hw_2465
                                      have w_2465_0 : 0 ≤ (x_2464).toInt ∧ (x_2464).toInt ≤ 1 := w_2465_0
                                      refine lv_if_eq (tgt := 169) hx hb dX12_measures_123 (dk_dq rfl) (fun c_2466 => ?_) (fun c_2466 => ?_)
                                      · have jc_2466 := dk_eqc (k := 0) (by decide +kernel) c_2466
                                        obtain ⟨x_2467, ex_2467⟩ : ∃ z, z = x_2449 + 1 := ⟨_, rfl⟩
                                        have jx_2467 : (x_2467).toInt = (x_2449).toInt + 1 := by rw [ex_2467]; exact dk_addT2 rfl (by decide +kernel) (by omega)
                                        refine lv_iinc (v := x_2467) (lv' := [(5, .int x_2467), (6, .int x_2460), (4, .int x_2120), (3, .int x_2114), (2, .int x_2450), (0, .ref (o + 0)), (1, .int a1)]) hx hb dX12_measures_169 hl (k := 1) rfl (by rw [ex_2467]; rfl) (dk_dq rfl) rfl (fun ls hl => ?_)
                                        refine lv_goto (tgt := 94) hx hb dX12_measures_172 (dk_dq rfl) ?_
                                        exact ih x_2467 x_2450 (by omega) (by omega) (by first | exact mu_lt hmu (by omega) (by omega) | omega) S_2451 I_2451 M_2451 srel_2451_0 srel_2451_1 (lp_l hF_4 (F_m_measures_p4 c_2453 w_2461_2 c_2462 w_2465_1 c_2466 ex_2467)) _ _ hP hS _ (lv_sub hl [0, 2, 3, 4, 5, 6] rfl)
                                      · as_aux_lemma =>
                                          have jc_2466 := dk_neqc (k := 0) (by decide +kernel) c_2466
                                          refine lv_aload_n hx hb dX12_measures_126 rfl (lv_at hl 5 rfl) ?_
                                          refine dg_get (C := RX12) (T := TX12) (N := 77) hx hb hts (fun w h => bw_mem (wU_X12 w h)) hown K hP sM_0 rfl 66 (dk_dq rfl) (hts _ (bw_mem wB_1095)) (fun _ h9 => h9) (v := .ref (o + 42)) (show S_2451.1 0 66 = .ref (o + 42) from dg_I.rel (d := 42) I_2451 sM_0 (by decide +kernel)) dX12_measures_127 ?_
                                          refine lv_iload hx hb dX12_measures_130 (lv_at hl 0 rfl) ?_
                                          have hin_2468 : vp_in x_2460 64 := (dk_inv2 (by omega))
                                          refine dg_iald hx hb K hP sM_42 hin_2468 dX12_measures_132 (fun x_2469 ex_2469 => ?_)
                                          refine lv_ldcw hx hb hown (hts _ (bw_mem wB_1102)) dX12_measures_133 ?_
                                          refine lv_icmp_ge (tgt := 142) hx hb dX12_measures_136 (dk_dq rfl) (fun c_2470 => ?_) (fun c_2470 => ?_)
                                          · as_aux_lemma =>
                                              have jc_2470 := dk_gec (k := 100000000) (by decide +kernel) c_2470
                                              refine lv_aload_n hx hb dX12_measures_142 rfl (lv_at hl 5 rfl) ?_
                                              refine dg_get (C := RX12) (T := TX12) (N := 77) hx hb hts (fun w h => bw_mem (wU_X12 w h)) hown K hP sM_0 rfl 66 (dk_dq rfl) (hts _ (bw_mem wB_1095)) (fun _ h9 => h9) (v := .ref (o + 42)) (show S_2451.1 0 66 = .ref (o + 42) from dg_I.rel (d := 42) I_2451 sM_0 (by decide +kernel)) dX12_measures_143 ?_
                                              refine lv_iload hx hb dX12_measures_146 (lv_at hl 0 rfl) ?_
                                              refine lv_aload_n hx hb dX12_measures_148 rfl (lv_at hl 5 rfl) ?_
                                              refine dg_get (C := RX12) (T := TX12) (N := 77) hx hb hts (fun w h => bw_mem (wU_X12 w h)) hown K hP sM_0 rfl 66 (dk_dq rfl) (hts _ (bw_mem wB_1095)) (fun _ h9 => h9) (v := .ref (o + 42)) (show S_2451.1 0 66 = .ref (o + 42) from dg_I.rel (d := 42) I_2451 sM_0 (by decide +kernel)) dX12_measures_149 ?_
                                              refine lv_iload hx hb dX12_measures_152 (lv_at hl 2 rfl) ?_
                                              have hin_2471 : vp_in x_2120 64 := (dk_inv2 (by omega))
                                              refine dg_iald hx hb K hP sM_42 hin_2471 dX12_measures_154 (fun x_2472 ex_2472 => ?_)
                                              have hb_x_2472 : 0 ≤ (x_2472).toInt ∧ (x_2472).toInt ≤ 64 := by have h9 := srel_2451_0.1 _ (dk_inT hin_2471).2; rw [← ex_2472] at h9; have h8 := srel_2451_1; rw [← ex_2472] at h8; omega
                                              refine lv_iconst (v := 1) hx hb dX12_measures_155 (by decide +kernel) ?_
                                              refine lv_iadd hx hb dX12_measures_156 ?_
                                              refine lv_topi (fun x_2473 ex_2473 => ?_)
                                              have jx_2473 : (x_2473).toInt = (x_2472).toInt + 1 := by rw [ex_2473]; exact dk_addT2 rfl (by decide +kernel) (by omega)
                                              have hin_2474 : vp_in x_2460 64 := (dk_inv2 (by omega))
                                              refine dg_iast hx hb K hP hS hA1 sM_42 hin_2474 dX12_measures_157 (fun S_2475 e_2475 H locs hP hS => ?_)
                                              have I_2475 := dg_I.uf0 I_2451 e_2475 sM_42 (by decide +kernel)
                                              have M_2475 := dg_sm.uf M_2451 e_2475 sM_42 (dk_dq rfl)
                                              have hm_2475 := ZQM.room srel_2451_0 hin_2474 ex_2469 (by omega)
                                              refine lv_aload_n hx hb dX12_measures_158 rfl (lv_at hl 5 rfl) ?_
                                              refine dg_get (C := RX12) (T := TX12) (N := 77) hx hb hts (fun w h => bw_mem (wU_X12 w h)) hown K hP sM_0 rfl 67 (dk_dq rfl) (hts _ (bw_mem wB_1142)) (fun _ h9 => h9) (v := .ref (o + 43)) (show S_2475.1 0 67 = .ref (o + 43) from dg_I.rel (d := 43) I_2475 sM_0 (by decide +kernel)) dX12_measures_159 ?_
                                              refine lv_iload_n hx hb dX12_measures_162 rfl (lv_at hl 4 rfl) ?_
                                              refine lv_iload hx hb dX12_measures_163 (lv_at hl 0 rfl) ?_
                                              have hin_2476 : vp_in x_2450 64 := (dk_inv2 (by omega))
                                              refine dg_iast hx hb K hP hS hA1 sM_43 hin_2476 dX12_measures_165 (fun S_2477 e_2477 H locs hP hS => ?_)
                                              have I_2477 := dg_I.ufu (lo := 0) (hi := 63) I_2475 e_2477 sM_43 (by decide +kernel) (show 0 ≤ (x_2460).toInt ∧ (x_2460).toInt ≤ 63 from (by omega))
                                              have M_2477 := dg_sm.uf M_2475 e_2477 sM_43 (dk_dq rfl)
                                              have zq_2477 := ZQM.push srel_2451_0 hin_2474 hin_2471 hin_2476 ex_2469 (by omega) ex_2472 (by rw [ex_2472]; exact srel_2451_1) (by omega) e_2475 e_2477
                                              have zc_2477 := ZQM.cf (z := x_2460) srel_2451_1 (show (x_2473).toInt ≠ 100000000 by omega) e_2475 e_2477
                                              obtain ⟨x_2478, ex_2478⟩ : ∃ z, z = x_2450 + 1 := ⟨_, rfl⟩
                                              have jx_2478 : (x_2478).toInt = (x_2450).toInt + 1 := by rw [ex_2478]; exact dk_addT2 rfl (by decide +kernel) (by omega)
                                              refine lv_iinc (v := x_2478) (lv' := [(2, .int x_2478), (6, .int x_2460), (5, .int x_2449), (4, .int x_2120), (3, .int x_2114), (0, .ref (o + 0)), (1, .int a1)]) hx hb dX12_measures_166 hl (k := 4) rfl (by rw [ex_2478]; rfl) (dk_dq rfl) rfl (fun ls hl => ?_)
                                              obtain ⟨x_2479, ex_2479⟩ : ∃ z, z = x_2449 + 1 := ⟨_, rfl⟩
                                              have jx_2479 : (x_2479).toInt = (x_2449).toInt + 1 := by rw [ex_2479]; exact dk_addT2 rfl (by decide +kernel) (by omega)
                                              refine lv_iinc (v := x_2479) (lv' := [(5, .int x_2479), (2, .int x_2478), (6, .int x_2460), (4, .int x_2120), (3, .int x_2114), (0, .ref (o + 0)), (1, .int a1)]) hx hb dX12_measures_169 hl (k := 2) rfl (by rw [ex_2479]; rfl) (dk_dq rfl) rfl (fun ls hl => ?_)
                                              refine lv_goto (tgt := 94) hx hb dX12_measures_172 (dk_dq rfl) ?_
                                              exact ih x_2479 x_2478 (by omega) (by omega) (by first | exact mu_lt hmu (by omega) (by omega) | omega) S_2477 I_2477 M_2477 (by have h9 := zq_2477; rw [show (x_2450).toInt + 1 = (x_2478 : Int32).toInt from by omega] at h9; exact h9) zc_2477 (lp_l hF_4 (F_m_measures_p5 c_2453 w_2461_2 c_2462 w_2465_1 c_2466 (Eq.symm ex_2469.symm) c_2470 (Eq.symm ex_2472.symm) ex_2473 e_2475 e_2477 ex_2478 ex_2479)) _ _ hP hS _ (lv_sub hl [0, 3, 4, 1, 5, 6] rfl)
                                          · have jc_2470 := dk_ngec (k := 100000000) (by decide +kernel) c_2470
                                            refine lv_goto (tgt := 169) hx hb dX12_measures_139 (dk_dq rfl) ?_
                                            obtain ⟨x_2480, ex_2480⟩ : ∃ z, z = x_2449 + 1 := ⟨_, rfl⟩
                                            have jx_2480 : (x_2480).toInt = (x_2449).toInt + 1 := by rw [ex_2480]; exact dk_addT2 rfl (by decide +kernel) (by omega)
                                            refine lv_iinc (v := x_2480) (lv' := [(5, .int x_2480), (6, .int x_2460), (4, .int x_2120), (3, .int x_2114), (2, .int x_2450), (0, .ref (o + 0)), (1, .int a1)]) hx hb dX12_measures_169 hl (k := 1) rfl (by rw [ex_2480]; rfl) (dk_dq rfl) rfl (fun ls hl => ?_)
                                            refine lv_goto (tgt := 94) hx hb dX12_measures_172 (dk_dq rfl) ?_
                                            exact ih x_2480 x_2450 (by omega) (by omega) (by first | exact mu_lt hmu (by omega) (by omega) | omega) S_2451 I_2451 M_2451 srel_2451_0 srel_2451_1 (lp_l hF_4 (F_m_measures_p6 c_2453 w_2461_2 c_2462 w_2465_1 c_2466 (Eq.symm ex_2469.symm) c_2470 ex_2480)) _ _ hP hS _ (lv_sub hl [0, 2, 3, 4, 5, 6] rfl)
                      have hz_2481 : (0 : Int32).toInt = 0 := by decide +kernel
                      have hz_2482 : (0 : Int32).toInt = 0 := by decide +kernel
                      exact L_2452 ((5 - ((0 : Int32)).toInt).toNat + 1) 0 x_2115 (by decide +kernel) (by omega) (by first | exact mu_lt hmu (by omega) (by omega) | omega) S_2116 I_2116 M_2116 srel_2116_0 qf_x_2120 (F_m_measures_p7 c_2118 (Eq.symm ex_2120.symm) ex_2121 ex_2122 (Eq.symm ex_2124.symm) c_2125) _ _ hP hS _ (lv_sub hl [0, 1, 2, 3, 4, 5] rfl)
                  · have jc_2125 := dk_eqc (k := 1) (by decide +kernel) c_2125
                    refine lv_goto (tgt := 175) hx hb dX12_measures_88 (dk_dq rfl) ?_
                    obtain ⟨x_2483, ex_2483⟩ : ∃ z, z = x_2114 + 1 := ⟨_, rfl⟩
                    have jx_2483 : (x_2483).toInt = (x_2114).toInt + 1 := by rw [ex_2483]; exact dk_addT2 rfl (by decide +kernel) (by omega)
                    refine lv_iinc (v := x_2483) (lv' := [(3, .int x_2483), (4, .int x_2120), (2, .int x_2115), (0, .ref (o + 0)), (1, .int a1)]) hx hb dX12_measures_175 hl (k := 1) rfl (by rw [ex_2483]; rfl) (dk_dq rfl) rfl (fun ls hl => ?_)
                    refine lv_goto (tgt := 59) hx hb dX12_measures_178 (dk_dq rfl) ?_
                    exact ih x_2483 x_2115 (by omega) (by omega) (by first | exact mu_lt hmu (by omega) (by omega) | omega) S_2116 I_2116 M_2116 srel_2116_0 (lp_l hF_2 (F_m_measures_p8 c_2118 (Eq.symm ex_2120.symm) ex_2121 ex_2122 (Eq.symm ex_2124.symm) c_2125 ex_2483)) _ _ hP hS _ (lv_sub hl [0, 2, 3, 4] rfl)
      have hz_2484 : (0 : Int32).toInt = 0 := by decide +kernel
      have hz_2485 : (1 : Int32).toInt = 1 := by decide +kernel
      have hz_2486 : (0 : Int32).toInt = 0 := by decide +kernel
      have hz_2487 : (1 : Int32).toInt = 1 := by decide +kernel
      exact L_2117 ((65 - ((0 : Int32)).toInt).toNat + 1) 0 1 (by decide +kernel) (by decide +kernel) (by first | exact mu_lt hmu (by omega) (by omega) | omega) S_1176 I_1176 M_1176 (by rw [show (1 : Int32).toInt = 1 from by decide +kernel]; exact ZQM.first srel_1171_0 (by omega) (by decide +kernel) e_1176) (Eq.trans hF_1 (F_m_measures_p9 e_1176)) _ _ hP hS _ (lv_sub hl [0, 1, 2, 3] rfl)
  have L_2515 : ∀ (n : Nat) (x_2513 : Int32), (0 ≤ (x_2513).toInt ∧ (x_2513).toInt ≤ 64) → ((65 - (x_2513).toInt).toNat < n) → ∀ S_2514 : dg_S, CM o S_2514 → dg_sm shM [] [42, 43] S S_2514 → (ZF0 S_2514 (sh).toInt (x_2513 : Int32).toInt) → (F_m_measures o S a1 = lp (F_m_measures_B5 sh a1 S bk o) S n (x_2513, S_2514)) → ∀ (H : Heap) (locs : List Loc), va_P D vwCl (dg_w g shM o rfM S_2514) H → va_S A s.heap H locs → ∀ ls : Array Slot, lv_has ls 7 [(2, .int x_2513), (0, .ref (o + 0)), (1, .int a1)] → W p l e ({ frames := 4, cells := 0, slots := 0, locals := 100 } : Room) s m args below meth c H locs 0 0 (MQ below (va_Qv (fun S' => CM o S' ∧ dg_sm shM [] [42, 43] S S' ∧ (S' = F_m_measures o S a1) ∧ True) (dg_B g D shM o rfM) A) args s 0 0 A) (F0 m 2 ls []) := by
    as_aux_lemma =>
      intro n
      induction n with
      | zero =>
        intro x_2513 b_x_2513 hmu S_2514 I_2514 M_2514 srel_2514_0 hF_5 H locs hP hS ls hl
        omega
      | succ n ih =>
        as_aux_lemma =>
          intro x_2513 b_x_2513 hmu S_2514 I_2514 M_2514 srel_2514_0 hF_5 H locs hP hS ls hl
          refine lv_iload_n hx hb dX12_measures_2 rfl (lv_at hl 0 rfl) ?_
          refine lv_bipush (v := 64) hx hb dX12_measures_3 (by decide +kernel) ?_
          refine lv_icmp_ge (tgt := 40) hx hb dX12_measures_5 (dk_dq rfl) (fun c_2516 => ?_) (fun c_2516 => ?_)
          · have jc_2516 := dk_gec (k := 64) (by decide +kernel) c_2516
            exact J_1172 x_2513 (by omega) S_2514 I_2514 M_2514 (by have h9 := srel_2514_0; rw [show (x_2513 : Int32).toInt = 64 from by omega] at h9; exact h9) (lp_r hF_5 (F_m_measures_p10 c_2516)) _ _ hP hS _ (lv_sub hl [0, 1, 2] rfl)
          · as_aux_lemma =>
              have jc_2516 := dk_ngec (k := 64) (by decide +kernel) c_2516
              refine lv_aload_n hx hb dX12_measures_8 rfl (lv_at hl 1 rfl) ?_
              refine dg_get (C := RX12) (T := TX12) (N := 77) hx hb hts (fun w h => bw_mem (wU_X12 w h)) hown K hP sM_0 rfl 66 (dk_dq rfl) (hts _ (bw_mem wB_1095)) (fun _ h9 => h9) (v := .ref (o + 42)) (show S_2514.1 0 66 = .ref (o + 42) from dg_I.rel (d := 42) I_2514 sM_0 (by decide +kernel)) dX12_measures_9 ?_
              refine lv_iload_n hx hb dX12_measures_12 rfl (lv_at hl 0 rfl) ?_
              refine lv_iload_n hx hb dX12_measures_13 rfl (lv_at hl 0 rfl) ?_
              refine lv_aload_n hx hb dX12_measures_14 rfl (lv_at hl 1 rfl) ?_
              refine dg_get (C := RX12) (T := TX12) (N := 77) hx hb hts (fun w h => bw_mem (wU_X12 w h)) hown K hP sM_0 rfl 16 (dk_dq rfl) (hts _ (bw_mem wB_481)) (fun _ h9 => h9) (v := .ref (o + 4)) (show S_2514.1 0 16 = .ref (o + 4) from dg_I.rel (d := 4) I_2514 sM_0 (by decide +kernel)) dX12_measures_15 ?_
              refine lv_aload_n hx hb dX12_measures_18 rfl (lv_at hl 1 rfl) ?_
              refine dg_get (C := RX12) (T := TX12) (N := 77) hx hb hts (fun w h => bw_mem (wU_X12 w h)) hown K hP sM_0 rfl 13 (dk_dq rfl) (hts _ (bw_mem wB_1085)) (fun _ h9 => h9) (v := .int bk) ((M_2514.1 0 13 _ sM_0 (dk_dq rfl)).trans f_bk) dX12_measures_19 ?_
              have hin_2517 : vp_in bk 2 := (dk_inv2 (by omega))
              refine dg_iald hx hb K hP sM_4 hin_2517 dX12_measures_22 (fun y_2518 ey_2518 => ?_)
              obtain rfl : sh = y_2518 := ((ey_2518.trans (congrFun (M_2514.2 4 _ sM_4 (dk_dq rfl)).1 _)).trans f_sh).symm
              refine lv_icmp_ne (tgt := 30) hx hb dX12_measures_23 (dk_dq rfl) (fun c_2519 => ?_) (fun c_2519 => ?_)
              · have jc_2519 := dk_neqc (k := (sh).toInt) rfl c_2519
                refine lv_ldcw hx hb hown (hts _ (bw_mem wB_1102)) dX12_measures_30 ?_
                have hin_2520 : vp_in x_2513 64 := (dk_inv2 (by omega))
                have hz_2522 : (100000000 : Int32).toInt = 100000000 := by decide +kernel
                refine dg_iast hx hb K hP hS hA1 sM_42 hin_2520 dX12_measures_33 (fun S_2521 e_2521 H locs hP hS => ?_)
                have I_2521 := dg_I.uf0 I_2514 e_2521 sM_42 (by decide +kernel)
                have M_2521 := dg_sm.uf M_2514 e_2521 sM_42 (dk_dq rfl)
                obtain ⟨x_2523, ex_2523⟩ : ∃ z, z = x_2513 + 1 := ⟨_, rfl⟩
                have jx_2523 : (x_2523).toInt = (x_2513).toInt + 1 := by rw [ex_2523]; exact dk_addT2 rfl (by decide +kernel) (by omega)
                refine lv_iinc (v := x_2523) (lv' := [(2, .int x_2523), (0, .ref (o + 0)), (1, .int a1)]) hx hb dX12_measures_34 hl (k := 0) rfl (by rw [ex_2523]; rfl) (dk_dq rfl) rfl (fun ls hl => ?_)
                refine lv_goto (tgt := 2) hx hb dX12_measures_37 (dk_dq rfl) ?_
                exact ih x_2523 (by omega) (by first | exact mu_lt hmu (by omega) (by omega) | omega) S_2521 I_2521 M_2521 (ZF0.step srel_2514_0 hin_2520 e_2521 (by omega) (by omega) (by omega)) (lp_l hF_5 (F_m_measures_p11 c_2516 c_2519 e_2521 ex_2523)) _ _ hP hS _ (lv_sub hl [0, 1, 2] rfl)
              · have jc_2519 := dk_eqc (k := (sh).toInt) rfl c_2519
                refine lv_iconst (v := 0) hx hb dX12_measures_26 (by decide +kernel) ?_
                refine lv_goto (tgt := 33) hx hb dX12_measures_27 (dk_dq rfl) ?_
                have hin_2524 : vp_in x_2513 64 := (dk_inv2 (by omega))
                have hz_2526 : (0 : Int32).toInt = 0 := by decide +kernel
                refine dg_iast hx hb K hP hS hA1 sM_42 hin_2524 dX12_measures_33 (fun S_2525 e_2525 H locs hP hS => ?_)
                have I_2525 := dg_I.uf0 I_2514 e_2525 sM_42 (by decide +kernel)
                have M_2525 := dg_sm.uf M_2514 e_2525 sM_42 (dk_dq rfl)
                obtain ⟨x_2527, ex_2527⟩ : ∃ z, z = x_2513 + 1 := ⟨_, rfl⟩
                have jx_2527 : (x_2527).toInt = (x_2513).toInt + 1 := by rw [ex_2527]; exact dk_addT2 rfl (by decide +kernel) (by omega)
                refine lv_iinc (v := x_2527) (lv' := [(2, .int x_2527), (0, .ref (o + 0)), (1, .int a1)]) hx hb dX12_measures_34 hl (k := 0) rfl (by rw [ex_2527]; rfl) (dk_dq rfl) rfl (fun ls hl => ?_)
                refine lv_goto (tgt := 2) hx hb dX12_measures_37 (dk_dq rfl) ?_
                exact ih x_2527 (by omega) (by first | exact mu_lt hmu (by omega) (by omega) | omega) S_2525 I_2525 M_2525 (ZF0.step srel_2514_0 hin_2524 e_2525 (by omega) (by omega) (by omega)) (lp_l hF_5 (F_m_measures_p12 c_2516 c_2519 e_2525 ex_2527)) _ _ hP hS _ (lv_sub hl [0, 1, 2] rfl)
  have hz_2528 : (0 : Int32).toInt = 0 := by decide +kernel
  have hz_2529 : (0 : Int32).toInt = 0 := by decide +kernel
  exact L_2515 ((65 - ((0 : Int32)).toInt).toNat + 1) 0 (by decide +kernel) (by first | exact mu_lt hmu (by omega) (by omega) | omega) S I M_0 (fun j hj => absurd hj (by omega)) (F_m_measures_p13 (zI_eq f_bk) (Eq.symm f_sh)) _ _ hP hS _ (lv_sub hl [0, 1, 2] rfl)
noncomputable def F_m_reckons_0_B1 (x_1 : Int32) (o : Nat) : (Int32 × Int32 × dg_S) → (Int32 × Int32 × dg_S) ⊕ (dg_S × Int64) := fun w9 => match w9 with | (x_149, x_150, S_151) => let x_153 : Int32 := (1600 : Int32) * x_1; let x_154 : Int32 := (3 : Int32) * x_1; let x_156 : Int32 := S_151.2.1 17 (x_154 : Int32).toNatClampNeg; let x_157 : Int32 := x_153 + x_156; (if x_157 ≤ x_149 then (Sum.inr (let x_160 : Int64 := S_151.2.2 40 (0 : Int32).toNatClampNeg; (S_151, x_160))) else let x_162 : Int32 := S_151.2.1 18 (x_149 : Int32).toNatClampNeg; (if (30 : Int32) < x_162 then (if x_162 = (43 : Int32) then let x_197 : Int32 := x_150 - (1 : Int32); let x_198 : Int32 := x_150 - (1 : Int32); let x_200 : Int64 := S_151.2.2 40 (x_198 : Int32).toNatClampNeg; let x_201 : Int64 := (1 : Int64) - x_200; let S_203 : dg_S := dg_ul S_151 40 (vp_updL (S_151.2.2 40) (x_197 : Int32).toNatClampNeg x_201); let x_204 : Int32 := x_149 + 1; (Sum.inl (x_204, x_150, S_203)) else (if x_162 = (44 : Int32) then let x_178 : Int32 := x_150 + (-2); let x_179 : Int32 := x_178 - (1 : Int32); let x_180 : Int32 := x_178 - (1 : Int32); let x_182 : Int64 := S_151.2.2 40 (x_180 : Int32).toNatClampNeg; let x_183 : Int32 := lg_cmp x_182 (1 : Int64); (if x_183 = (0 : Int32) then let x_193 : Int64 := S_151.2.2 40 (x_178 : Int32).toNatClampNeg; let S_195 : dg_S := dg_ul S_151 40 (vp_updL (S_151.2.2 40) (x_179 : Int32).toNatClampNeg x_193); let x_196 : Int32 := x_149 + 1; (Sum.inl (x_196, x_178, S_195)) else let x_186 : Int32 := x_178 + (1 : Int32); let x_188 : Int64 := S_151.2.2 40 (x_186 : Int32).toNatClampNeg; let S_190 : dg_S := dg_ul S_151 40 (vp_updL (S_151.2.2 40) (x_179 : Int32).toNatClampNeg x_188); let x_191 : Int32 := x_149 + 1; (Sum.inl (x_191, x_178, S_190))) else let x_166 : Int32 := x_150 + (-1); let x_167 : Int32 := x_166 - (1 : Int32); let x_168 : Int32 := x_166 - (1 : Int32); let x_170 : Int64 := S_151.2.2 40 (x_168 : Int32).toNatClampNeg; let x_172 : Int64 := S_151.2.2 40 (x_166 : Int32).toNatClampNeg; let x_173 : Int64 := F_m_two o S_151 x_162 x_170 x_172; let S_176 : dg_S := dg_ul S_151 40 (vp_updL (S_151.2.2 40) (x_167 : Int32).toNatClampNeg x_173); let x_177 : Int32 := x_149 + 1; (Sum.inl (x_177, x_166, S_176)))) else (if x_162 = (0 : Int32) then let x_219 : Int32 := S_151.2.1 19 (x_149 : Int32).toNatClampNeg; let x_220 : Int64 := Int32.toInt64 x_219; let S_222 : dg_S := dg_ul S_151 40 (vp_updL (S_151.2.2 40) (x_150 : Int32).toNatClampNeg x_220); let x_223 : Int32 := x_150 + 1; let x_224 : Int32 := x_149 + 1; (Sum.inl (x_224, x_223, S_222)) else (if x_162 = (30 : Int32) then let S_215 : dg_S := dg_ul S_151 40 (vp_updL (S_151.2.2 40) (x_150 : Int32).toNatClampNeg (1 : Int64)); let x_216 : Int32 := x_150 + 1; let x_217 : Int32 := x_149 + 1; (Sum.inl (x_217, x_216, S_215)) else let x_208 : Int32 := S_151.2.1 41 (x_162 : Int32).toNatClampNeg; let x_209 : Int64 := Int32.toInt64 x_208; let S_211 : dg_S := dg_ul S_151 40 (vp_updL (S_151.2.2 40) (x_150 : Int32).toNatClampNeg x_209); let x_212 : Int32 := x_150 + 1; let x_213 : Int32 := x_149 + 1; (Sum.inl (x_213, x_212, S_211))))))
noncomputable def F_m_reckons_0 (o : Nat) (S : dg_S) : dg_S × Int64 := let x_1 : Int32 := zI S 0 13; let x_2 : Int32 := (1600 : Int32) * x_1; let x_3 : Int32 := (3 : Int32) * x_1; let x_5 : Int32 := S.2.1 16 (x_3 : Int32).toNatClampNeg; let x_6 : Int32 := x_2 + x_5; (lp (F_m_reckons_0_B1 x_1 o) (S, (0 : Int64)) ((3201 - ((x_6 : Int32)).toInt).toNat + 1) (x_6, (0 : Int32), S))
theorem F_m_reckons_0_p0 {x_1 : Int32} {o : Nat} {x_149 : Int32} {x_150 : Int32} {S_151 : dg_S} {x_160 : Int64} {x_153 : Int32} {x_154 : Int32} {x_156 : Int32} {x_157 : Int32} (h0 : x_153 = (1600 : Int32) * x_1) (h1 : x_154 = (3 : Int32) * x_1) (h2 : x_156 = S_151.2.1 17 (x_154 : Int32).toNatClampNeg) (h3 : x_157 = x_153 + x_156) (h4 : x_157 ≤ x_149) (h6 : x_160 = S_151.2.2 40 (0 : Int32).toNatClampNeg) : (F_m_reckons_0_B1 x_1 o) (x_149, x_150, S_151) = Sum.inr ((S_151, x_160)) := by
  replace h0 := Eq.symm h0
  subst h0
  replace h1 := Eq.symm h1
  subst h1
  replace h2 := Eq.symm h2
  subst h2
  replace h3 := Eq.symm h3
  subst h3
  replace h6 := Eq.symm h6
  subst h6
  exact (Eq.trans (if_pos h4) rfl)
theorem F_m_reckons_0_p1 {x_1 : Int32} {o : Nat} {x_149 : Int32} {x_150 : Int32} {S_151 : dg_S} {x_177 : Int32} {x_166 : Int32} {S_176 : dg_S} {x_153 : Int32} {x_154 : Int32} {x_156 : Int32} {x_157 : Int32} {x_162 : Int32} {x_167 : Int32} {x_168 : Int32} {x_170 : Int64} {x_172 : Int64} {x_173 : Int64} (h0 : x_153 = (1600 : Int32) * x_1) (h1 : x_154 = (3 : Int32) * x_1) (h2 : x_156 = S_151.2.1 17 (x_154 : Int32).toNatClampNeg) (h3 : x_157 = x_153 + x_156) (h4 : ¬ (x_157 ≤ x_149)) (h5 : x_162 = S_151.2.1 18 (x_149 : Int32).toNatClampNeg) (h6 : (30 : Int32) < x_162) (h7 : ¬ (x_162 = (43 : Int32))) (h8 : ¬ (x_162 = (44 : Int32))) (h9 : x_166 = x_150 + (-1)) (h10 : x_167 = x_166 - (1 : Int32)) (h11 : x_168 = x_166 - (1 : Int32)) (h12 : x_170 = S_151.2.2 40 (x_168 : Int32).toNatClampNeg) (h13 : x_172 = S_151.2.2 40 (x_166 : Int32).toNatClampNeg) (h14 : x_173 = F_m_two o S_151 x_162 x_170 x_172) (h15 : S_176 = dg_ul S_151 40 (vp_updL (S_151.2.2 40) (x_167 : Int32).toNatClampNeg x_173)) (h16 : x_177 = x_149 + 1) : (F_m_reckons_0_B1 x_1 o) (x_149, x_150, S_151) = Sum.inl (x_177, x_166, S_176) := by
  replace h0 := Eq.symm h0
  subst h0
  replace h1 := Eq.symm h1
  subst h1
  replace h2 := Eq.symm h2
  subst h2
  replace h3 := Eq.symm h3
  subst h3
  replace h5 := Eq.symm h5
  subst h5
  replace h9 := Eq.symm h9
  subst h9
  replace h10 := Eq.symm h10
  subst h10
  replace h11 := Eq.symm h11
  subst h11
  replace h12 := Eq.symm h12
  subst h12
  replace h13 := Eq.symm h13
  subst h13
  replace h14 := Eq.symm h14
  subst h14
  replace h15 := Eq.symm h15
  subst h15
  replace h16 := Eq.symm h16
  subst h16
  exact (Eq.trans (if_neg h4) (Eq.trans (if_pos h6) (Eq.trans (if_neg h7) (Eq.trans (if_neg h8) rfl))))
theorem F_m_reckons_0_p2 {x_1 : Int32} {o : Nat} {x_149 : Int32} {x_150 : Int32} {S_151 : dg_S} {x_191 : Int32} {x_178 : Int32} {S_190 : dg_S} {x_153 : Int32} {x_154 : Int32} {x_156 : Int32} {x_157 : Int32} {x_162 : Int32} {x_179 : Int32} {x_180 : Int32} {x_182 : Int64} {x_183 : Int32} {x_186 : Int32} {x_188 : Int64} (h0 : x_153 = (1600 : Int32) * x_1) (h1 : x_154 = (3 : Int32) * x_1) (h2 : x_156 = S_151.2.1 17 (x_154 : Int32).toNatClampNeg) (h3 : x_157 = x_153 + x_156) (h4 : ¬ (x_157 ≤ x_149)) (h5 : x_162 = S_151.2.1 18 (x_149 : Int32).toNatClampNeg) (h6 : (30 : Int32) < x_162) (h7 : ¬ (x_162 = (43 : Int32))) (h8 : x_162 = (44 : Int32)) (h9 : x_178 = x_150 + (-2)) (h10 : x_179 = x_178 - (1 : Int32)) (h11 : x_180 = x_178 - (1 : Int32)) (h12 : x_182 = S_151.2.2 40 (x_180 : Int32).toNatClampNeg) (h13 : x_183 = lg_cmp x_182 (1 : Int64)) (h14 : ¬ (x_183 = (0 : Int32))) (h15 : x_186 = x_178 + (1 : Int32)) (h16 : x_188 = S_151.2.2 40 (x_186 : Int32).toNatClampNeg) (h17 : S_190 = dg_ul S_151 40 (vp_updL (S_151.2.2 40) (x_179 : Int32).toNatClampNeg x_188)) (h18 : x_191 = x_149 + 1) : (F_m_reckons_0_B1 x_1 o) (x_149, x_150, S_151) = Sum.inl (x_191, x_178, S_190) := by
  replace h0 := Eq.symm h0
  subst h0
  replace h1 := Eq.symm h1
  subst h1
  replace h2 := Eq.symm h2
  subst h2
  replace h3 := Eq.symm h3
  subst h3
  replace h5 := Eq.symm h5
  subst h5
  replace h9 := Eq.symm h9
  subst h9
  replace h10 := Eq.symm h10
  subst h10
  replace h11 := Eq.symm h11
  subst h11
  replace h12 := Eq.symm h12
  subst h12
  replace h13 := Eq.symm h13
  subst h13
  replace h15 := Eq.symm h15
  subst h15
  replace h16 := Eq.symm h16
  subst h16
  replace h17 := Eq.symm h17
  subst h17
  replace h18 := Eq.symm h18
  subst h18
  exact (Eq.trans (if_neg h4) (Eq.trans (if_pos h6) (Eq.trans (if_neg h7) (Eq.trans (if_pos h8) (Eq.trans (if_neg h14) rfl)))))
theorem F_m_reckons_0_p3 {x_1 : Int32} {o : Nat} {x_149 : Int32} {x_150 : Int32} {S_151 : dg_S} {x_196 : Int32} {x_178 : Int32} {S_195 : dg_S} {x_153 : Int32} {x_154 : Int32} {x_156 : Int32} {x_157 : Int32} {x_162 : Int32} {x_179 : Int32} {x_180 : Int32} {x_182 : Int64} {x_183 : Int32} {x_193 : Int64} (h0 : x_153 = (1600 : Int32) * x_1) (h1 : x_154 = (3 : Int32) * x_1) (h2 : x_156 = S_151.2.1 17 (x_154 : Int32).toNatClampNeg) (h3 : x_157 = x_153 + x_156) (h4 : ¬ (x_157 ≤ x_149)) (h5 : x_162 = S_151.2.1 18 (x_149 : Int32).toNatClampNeg) (h6 : (30 : Int32) < x_162) (h7 : ¬ (x_162 = (43 : Int32))) (h8 : x_162 = (44 : Int32)) (h9 : x_178 = x_150 + (-2)) (h10 : x_179 = x_178 - (1 : Int32)) (h11 : x_180 = x_178 - (1 : Int32)) (h12 : x_182 = S_151.2.2 40 (x_180 : Int32).toNatClampNeg) (h13 : x_183 = lg_cmp x_182 (1 : Int64)) (h14 : x_183 = (0 : Int32)) (h15 : x_193 = S_151.2.2 40 (x_178 : Int32).toNatClampNeg) (h16 : S_195 = dg_ul S_151 40 (vp_updL (S_151.2.2 40) (x_179 : Int32).toNatClampNeg x_193)) (h17 : x_196 = x_149 + 1) : (F_m_reckons_0_B1 x_1 o) (x_149, x_150, S_151) = Sum.inl (x_196, x_178, S_195) := by
  replace h0 := Eq.symm h0
  subst h0
  replace h1 := Eq.symm h1
  subst h1
  replace h2 := Eq.symm h2
  subst h2
  replace h3 := Eq.symm h3
  subst h3
  replace h5 := Eq.symm h5
  subst h5
  replace h9 := Eq.symm h9
  subst h9
  replace h10 := Eq.symm h10
  subst h10
  replace h11 := Eq.symm h11
  subst h11
  replace h12 := Eq.symm h12
  subst h12
  replace h13 := Eq.symm h13
  subst h13
  replace h15 := Eq.symm h15
  subst h15
  replace h16 := Eq.symm h16
  subst h16
  replace h17 := Eq.symm h17
  subst h17
  exact (Eq.trans (if_neg h4) (Eq.trans (if_pos h6) (Eq.trans (if_neg h7) (Eq.trans (if_pos h8) (Eq.trans (if_pos h14) rfl)))))
theorem F_m_reckons_0_p4 {x_1 : Int32} {o : Nat} {x_149 : Int32} {x_150 : Int32} {S_151 : dg_S} {x_204 : Int32} {S_203 : dg_S} {x_153 : Int32} {x_154 : Int32} {x_156 : Int32} {x_157 : Int32} {x_162 : Int32} {x_197 : Int32} {x_198 : Int32} {x_200 : Int64} {x_201 : Int64} (h0 : x_153 = (1600 : Int32) * x_1) (h1 : x_154 = (3 : Int32) * x_1) (h2 : x_156 = S_151.2.1 17 (x_154 : Int32).toNatClampNeg) (h3 : x_157 = x_153 + x_156) (h4 : ¬ (x_157 ≤ x_149)) (h5 : x_162 = S_151.2.1 18 (x_149 : Int32).toNatClampNeg) (h6 : (30 : Int32) < x_162) (h7 : x_162 = (43 : Int32)) (h8 : x_197 = x_150 - (1 : Int32)) (h9 : x_198 = x_150 - (1 : Int32)) (h10 : x_200 = S_151.2.2 40 (x_198 : Int32).toNatClampNeg) (h11 : x_201 = (1 : Int64) - x_200) (h12 : S_203 = dg_ul S_151 40 (vp_updL (S_151.2.2 40) (x_197 : Int32).toNatClampNeg x_201)) (h13 : x_204 = x_149 + 1) : (F_m_reckons_0_B1 x_1 o) (x_149, x_150, S_151) = Sum.inl (x_204, x_150, S_203) := by
  replace h0 := Eq.symm h0
  subst h0
  replace h1 := Eq.symm h1
  subst h1
  replace h2 := Eq.symm h2
  subst h2
  replace h3 := Eq.symm h3
  subst h3
  replace h5 := Eq.symm h5
  subst h5
  replace h8 := Eq.symm h8
  subst h8
  replace h9 := Eq.symm h9
  subst h9
  replace h10 := Eq.symm h10
  subst h10
  replace h11 := Eq.symm h11
  subst h11
  replace h12 := Eq.symm h12
  subst h12
  replace h13 := Eq.symm h13
  subst h13
  exact (Eq.trans (if_neg h4) (Eq.trans (if_pos h6) (Eq.trans (if_pos h7) rfl)))
theorem F_m_reckons_0_p5 {x_1 : Int32} {o : Nat} {x_149 : Int32} {x_150 : Int32} {S_151 : dg_S} {x_213 : Int32} {x_212 : Int32} {S_211 : dg_S} {x_153 : Int32} {x_154 : Int32} {x_156 : Int32} {x_157 : Int32} {x_162 : Int32} {x_208 : Int32} {x_209 : Int64} (h0 : x_153 = (1600 : Int32) * x_1) (h1 : x_154 = (3 : Int32) * x_1) (h2 : x_156 = S_151.2.1 17 (x_154 : Int32).toNatClampNeg) (h3 : x_157 = x_153 + x_156) (h4 : ¬ (x_157 ≤ x_149)) (h5 : x_162 = S_151.2.1 18 (x_149 : Int32).toNatClampNeg) (h6 : ¬ ((30 : Int32) < x_162)) (h7 : ¬ (x_162 = (0 : Int32))) (h8 : ¬ (x_162 = (30 : Int32))) (h9 : x_208 = S_151.2.1 41 (x_162 : Int32).toNatClampNeg) (h10 : x_209 = Int32.toInt64 x_208) (h11 : S_211 = dg_ul S_151 40 (vp_updL (S_151.2.2 40) (x_150 : Int32).toNatClampNeg x_209)) (h12 : x_212 = x_150 + 1) (h13 : x_213 = x_149 + 1) : (F_m_reckons_0_B1 x_1 o) (x_149, x_150, S_151) = Sum.inl (x_213, x_212, S_211) := by
  replace h0 := Eq.symm h0
  subst h0
  replace h1 := Eq.symm h1
  subst h1
  replace h2 := Eq.symm h2
  subst h2
  replace h3 := Eq.symm h3
  subst h3
  replace h5 := Eq.symm h5
  subst h5
  replace h9 := Eq.symm h9
  subst h9
  replace h10 := Eq.symm h10
  subst h10
  replace h11 := Eq.symm h11
  subst h11
  replace h12 := Eq.symm h12
  subst h12
  replace h13 := Eq.symm h13
  subst h13
  exact (Eq.trans (if_neg h4) (Eq.trans (if_neg h6) (Eq.trans (if_neg h7) (Eq.trans (if_neg h8) rfl))))
theorem F_m_reckons_0_p6 {x_1 : Int32} {o : Nat} {x_149 : Int32} {x_150 : Int32} {S_151 : dg_S} {x_217 : Int32} {x_216 : Int32} {S_215 : dg_S} {x_153 : Int32} {x_154 : Int32} {x_156 : Int32} {x_157 : Int32} {x_162 : Int32} (h0 : x_153 = (1600 : Int32) * x_1) (h1 : x_154 = (3 : Int32) * x_1) (h2 : x_156 = S_151.2.1 17 (x_154 : Int32).toNatClampNeg) (h3 : x_157 = x_153 + x_156) (h4 : ¬ (x_157 ≤ x_149)) (h5 : x_162 = S_151.2.1 18 (x_149 : Int32).toNatClampNeg) (h6 : ¬ ((30 : Int32) < x_162)) (h7 : ¬ (x_162 = (0 : Int32))) (h8 : x_162 = (30 : Int32)) (h9 : S_215 = dg_ul S_151 40 (vp_updL (S_151.2.2 40) (x_150 : Int32).toNatClampNeg (1 : Int64))) (h10 : x_216 = x_150 + 1) (h11 : x_217 = x_149 + 1) : (F_m_reckons_0_B1 x_1 o) (x_149, x_150, S_151) = Sum.inl (x_217, x_216, S_215) := by
  replace h0 := Eq.symm h0
  subst h0
  replace h1 := Eq.symm h1
  subst h1
  replace h2 := Eq.symm h2
  subst h2
  replace h3 := Eq.symm h3
  subst h3
  replace h5 := Eq.symm h5
  subst h5
  replace h9 := Eq.symm h9
  subst h9
  replace h10 := Eq.symm h10
  subst h10
  replace h11 := Eq.symm h11
  subst h11
  exact (Eq.trans (if_neg h4) (Eq.trans (if_neg h6) (Eq.trans (if_neg h7) (Eq.trans (if_pos h8) rfl))))
theorem F_m_reckons_0_p7 {x_1 : Int32} {o : Nat} {x_149 : Int32} {x_150 : Int32} {S_151 : dg_S} {x_224 : Int32} {x_223 : Int32} {S_222 : dg_S} {x_153 : Int32} {x_154 : Int32} {x_156 : Int32} {x_157 : Int32} {x_162 : Int32} {x_219 : Int32} {x_220 : Int64} (h0 : x_153 = (1600 : Int32) * x_1) (h1 : x_154 = (3 : Int32) * x_1) (h2 : x_156 = S_151.2.1 17 (x_154 : Int32).toNatClampNeg) (h3 : x_157 = x_153 + x_156) (h4 : ¬ (x_157 ≤ x_149)) (h5 : x_162 = S_151.2.1 18 (x_149 : Int32).toNatClampNeg) (h6 : ¬ ((30 : Int32) < x_162)) (h7 : x_162 = (0 : Int32)) (h8 : x_219 = S_151.2.1 19 (x_149 : Int32).toNatClampNeg) (h9 : x_220 = Int32.toInt64 x_219) (h10 : S_222 = dg_ul S_151 40 (vp_updL (S_151.2.2 40) (x_150 : Int32).toNatClampNeg x_220)) (h11 : x_223 = x_150 + 1) (h12 : x_224 = x_149 + 1) : (F_m_reckons_0_B1 x_1 o) (x_149, x_150, S_151) = Sum.inl (x_224, x_223, S_222) := by
  replace h0 := Eq.symm h0
  subst h0
  replace h1 := Eq.symm h1
  subst h1
  replace h2 := Eq.symm h2
  subst h2
  replace h3 := Eq.symm h3
  subst h3
  replace h5 := Eq.symm h5
  subst h5
  replace h8 := Eq.symm h8
  subst h8
  replace h9 := Eq.symm h9
  subst h9
  replace h10 := Eq.symm h10
  subst h10
  replace h11 := Eq.symm h11
  subst h11
  replace h12 := Eq.symm h12
  subst h12
  exact (Eq.trans (if_neg h4) (Eq.trans (if_neg h6) (Eq.trans (if_pos h7) rfl)))
theorem F_m_reckons_0_p8 {o : Nat} {S : dg_S} {x_1 : Int32} {x_6 : Int32} {x_2 : Int32} {x_3 : Int32} {x_5 : Int32} (h0 : x_1 = zI S 0 13) (h1 : x_2 = (1600 : Int32) * x_1) (h2 : x_3 = (3 : Int32) * x_1) (h3 : x_5 = S.2.1 16 (x_3 : Int32).toNatClampNeg) (h4 : x_6 = x_2 + x_5) : F_m_reckons_0 o S = lp (F_m_reckons_0_B1 x_1 o) (S, (0 : Int64)) ((3201 - ((x_6 : Int32)).toInt).toNat + 1) (x_6, (0 : Int32), S) := by
  replace h0 := Eq.symm h0
  subst h0
  replace h1 := Eq.symm h1
  subst h1
  replace h2 := Eq.symm h2
  subst h2
  replace h3 := Eq.symm h3
  subst h3
  replace h4 := Eq.symm h4
  subst h4
  exact rfl
set_option maxHeartbeats 8000000 in
set_option maxRecDepth 100000 in
theorem c_m_reckons_0 (l : Launch) (g : Nat → ClassId) (D : va_G) (o : Nat) (S : dg_S) (ZW : ZWM S) (T0 : ZT0M S) (I : CM o S) (sz : Nat) : Met l yX12_reckons (bw yX12_reckons cX12_reckons 5 (some .long)) ({ frames := 3, cells := 0, slots := 0, locals := 81 } : Room) (dk_Pc g D (dg_w g shM o rfM S) sz [.ref (o + 0), .int 0]) (va_Ql (fun (r : Int64) S' => CM o S' ∧ dg_sm shM [] [40] S S' ∧ (S' = (F_m_reckons_0 o S).1 ∧ r = (F_m_reckons_0 o S).2) ∧ True) (dg_B g D shM o rfM) (dg_A o shM.length sz)) 0 0 (dg_A o shM.length sz) := by
  refine dg_met (cc := cX12_reckons) (maxL := 5) (ret := (some .long)) (dk_dq rfl) rfl (Nat.le_of_ble_eq_true rfl) ?_
  intro p e s m args below meth c A hAe harg hx hb hr hml hts hown hlocks hin hP K hS hA1 hA ST hsz ls hl
  rw [← hAe]
  have F : CallFix p m c cX12_reckons 5 s args (bw yX12_reckons cX12_reckons 5 (some .long)) RX12 := ⟨hx, hb, hml, hown, hts⟩
  have hl : lv_has ls 5 [(0, .ref (o + 0)), (1, .int 0)] := hl
  have M_0 : dg_sm shM [] [40] S S := dg_sm.rf
  obtain ⟨x_1, f_x_1, b_x_1⟩ := dg_I.int (i := 0) (k := 13) (lo := 0) (hi := 1) I sM_0 (by decide +kernel)
  obtain ⟨fr, f_fr⟩ : ∃ x, S.2.1 16 (3 * (x_1).toNatClampNeg + 0) = x := ⟨_, rfl⟩
  obtain ⟨bh, f_bh⟩ : ∃ x, S.2.1 17 (3 * (x_1).toNatClampNeg + 0) = x := ⟨_, rfl⟩
  obtain ⟨hfr0, hfr1, hbh, h_rk⟩ := ZWM.at ZW f_x_1 (k := 0) (dk_dq rfl) f_fr f_bh (T0 _ f_x_1)
  refine lv_iconst (v := 0) hx hb dX12_reckons_0 (by decide +kernel) ?_
  refine lv_istore_n (lv' := [(2, .int 0), (0, .ref (o + 0)), (1, .int 0)]) hx hb dX12_reckons_1 rfl hl (dk_dq rfl) rfl (fun ls hl => ?_)
  refine lv_sipush (v := 1600) hx hb dX12_reckons_2 (by decide +kernel) ?_
  refine lv_aload_n hx hb dX12_reckons_5 rfl (lv_at hl 1 rfl) ?_
  refine dg_get (C := RX12) (T := TX12) (N := 77) hx hb hts (fun w h => bw_mem (wU_X12 w h)) hown K hP sM_0 rfl 13 (dk_dq rfl) (hts _ (bw_mem wB_1085)) (fun _ h9 => h9) (v := .int x_1) f_x_1 dX12_reckons_6 ?_
  refine lv_imul hx hb dX12_reckons_9 ?_
  refine lv_topi (fun x_2 ex_2 => ?_)
  have jx_2 : (x_2).toInt = 1600 * (x_1).toInt := by rw [ex_2]; exact dk_mulT2 (by decide +kernel) rfl (by omega)
  refine lv_aload_n hx hb dX12_reckons_10 rfl (lv_at hl 1 rfl) ?_
  refine dg_get (C := RX12) (T := TX12) (N := 77) hx hb hts (fun w h => bw_mem (wU_X12 w h)) hown K hP sM_0 rfl 28 (dk_dq rfl) (hts _ (bw_mem wB_449)) (fun _ h9 => h9) (v := .ref (o + 16)) (show S.1 0 28 = .ref (o + 16) from dg_I.rel (d := 16) I sM_0 (by decide +kernel)) dX12_reckons_11 ?_
  refine lv_iconst (v := 3) hx hb dX12_reckons_14 (by decide +kernel) ?_
  refine lv_aload_n hx hb dX12_reckons_15 rfl (lv_at hl 1 rfl) ?_
  refine dg_get (C := RX12) (T := TX12) (N := 77) hx hb hts (fun w h => bw_mem (wU_X12 w h)) hown K hP sM_0 rfl 13 (dk_dq rfl) (hts _ (bw_mem wB_1085)) (fun _ h9 => h9) (v := .int x_1) f_x_1 dX12_reckons_16 ?_
  refine lv_imul hx hb dX12_reckons_19 ?_
  refine lv_topi (fun x_3 ex_3 => ?_)
  have jx_3 : (x_3).toInt = 3 * (x_1).toInt := by rw [ex_3]; exact dk_mulT2 (by decide +kernel) rfl (by omega)
  refine lv_iload_n hx hb dX12_reckons_20 rfl (lv_at hl 2 rfl) ?_
  refine lv_iadd hx hb dX12_reckons_21 ?_
  refine dk_top (y := x_3) (by simp) ?_
  have hin_4 : vp_in x_3 6 := (dk_inv2 (by omega))
  refine dg_iald hx hb K hP sM_16 hin_4 dX12_reckons_22 (fun x_5 ex_5 => ?_)
  have b_x_5 := dk_all_at (dg_I.row (lo := (-1)) (hi := 1600) I sM_16 (by decide +kernel)) hin_4 ex_5
  have hk_x_5 : (x_5).toInt = (fr).toInt := by rw [ex_5, (show (x_3 : Int32).toNatClampNeg = 3 * (x_1).toNatClampNeg + 0 from by have h8 := (dk_inT hin_4).1; rw [dk_clN x_1]; omega), f_fr]
  refine lv_iadd hx hb dX12_reckons_23 ?_
  refine lv_topi (fun x_6 ex_6 => ?_)
  have jx_6 : (x_6).toInt = (x_2).toInt + (x_5).toInt := by rw [ex_6]; exact dk_addT2 rfl rfl (by omega)
  refine lv_istore_n (lv' := [(3, .int x_6), (2, .int 0), (0, .ref (o + 0)), (1, .int 0)]) hx hb dX12_reckons_24 rfl hl (dk_dq rfl) rfl (fun ls hl => ?_)
  have L_152 : ∀ (n : Nat) (x_149 : Int32) (x_150 : Int32), (0 ≤ (x_149).toInt ∧ (x_149).toInt ≤ 3200) → (0 ≤ (x_150).toInt ∧ (x_150).toInt ≤ 401) → (∃ m9, dk_ok (S.2.1 18) (1600 * (x_1).toInt + (bh).toInt - (x_149).toInt).toNat (x_149).toNatClampNeg (x_150).toInt m9) → ((3201 - (x_149).toInt).toNat < n) → ∀ S_151 : dg_S, CM o S_151 → dg_sm shM [] [40] S S_151 → (F_m_reckons_0 o S = lp (F_m_reckons_0_B1 x_1 o) (S, (0 : Int64)) n (x_149, x_150, S_151)) → ∀ (H : Heap) (locs : List Loc), va_P D vwCl (dg_w g shM o rfM S_151) H → va_S A s.heap H locs → ∀ ls : Array Slot, lv_has ls 5 [(3, .int x_149), (2, .int x_150), (0, .ref (o + 0)), (1, .int 0)] → W p l e ({ frames := 3, cells := 0, slots := 0, locals := 81 } : Room) s m args below meth c H locs 0 0 (MQ below (va_Ql (fun (r : Int64) S' => CM o S' ∧ dg_sm shM [] [40] S S' ∧ (S' = (F_m_reckons_0 o S).1 ∧ r = (F_m_reckons_0 o S).2) ∧ True) (dg_B g D shM o rfM) A) args s 0 0 A) (F0 m 25 ls []) := by
    as_aux_lemma =>
      intro n
      induction n with
      | zero =>
        intro x_149 x_150 b_x_149 b_x_150 rel_0 hmu S_151 I_151 M_151 hF_1 H locs hP hS ls hl
        omega
      | succ n ih =>
        as_aux_lemma =>
          intro x_149 x_150 b_x_149 b_x_150 rel_0 hmu S_151 I_151 M_151 hF_1 H locs hP hS ls hl
          refine lv_iload_n hx hb dX12_reckons_25 rfl (lv_at hl 0 rfl) ?_
          refine lv_sipush (v := 1600) hx hb dX12_reckons_26 (by decide +kernel) ?_
          refine lv_aload_n hx hb dX12_reckons_29 rfl (lv_at hl 2 rfl) ?_
          refine dg_get (C := RX12) (T := TX12) (N := 77) hx hb hts (fun w h => bw_mem (wU_X12 w h)) hown K hP sM_0 rfl 13 (dk_dq rfl) (hts _ (bw_mem wB_1085)) (fun _ h9 => h9) (v := .int x_1) ((M_151.1 0 13 _ sM_0 (dk_dq rfl)).trans f_x_1) dX12_reckons_30 ?_
          refine lv_imul hx hb dX12_reckons_33 ?_
          refine lv_topi (fun x_153 ex_153 => ?_)
          have jx_153 : (x_153).toInt = 1600 * (x_1).toInt := by rw [ex_153]; exact dk_mulT2 (by decide +kernel) rfl (by omega)
          refine lv_aload_n hx hb dX12_reckons_34 rfl (lv_at hl 2 rfl) ?_
          refine dg_get (C := RX12) (T := TX12) (N := 77) hx hb hts (fun w h => bw_mem (wU_X12 w h)) hown K hP sM_0 rfl 29 (dk_dq rfl) (hts _ (bw_mem wB_454)) (fun _ h9 => h9) (v := .ref (o + 17)) (show S_151.1 0 29 = .ref (o + 17) from dg_I.rel (d := 17) I_151 sM_0 (by decide +kernel)) dX12_reckons_35 ?_
          refine lv_iconst (v := 3) hx hb dX12_reckons_38 (by decide +kernel) ?_
          refine lv_aload_n hx hb dX12_reckons_39 rfl (lv_at hl 2 rfl) ?_
          refine dg_get (C := RX12) (T := TX12) (N := 77) hx hb hts (fun w h => bw_mem (wU_X12 w h)) hown K hP sM_0 rfl 13 (dk_dq rfl) (hts _ (bw_mem wB_1085)) (fun _ h9 => h9) (v := .int x_1) ((M_151.1 0 13 _ sM_0 (dk_dq rfl)).trans f_x_1) dX12_reckons_40 ?_
          refine lv_imul hx hb dX12_reckons_43 ?_
          refine lv_topi (fun x_154 ex_154 => ?_)
          have jx_154 : (x_154).toInt = 3 * (x_1).toInt := by rw [ex_154]; exact dk_mulT2 (by decide +kernel) rfl (by omega)
          refine lv_iload_n hx hb dX12_reckons_44 rfl (lv_at hl 3 rfl) ?_
          refine lv_iadd hx hb dX12_reckons_45 ?_
          refine dk_top (y := x_154) (by simp) ?_
          have hin_155 : vp_in x_154 6 := (dk_inv2 (by omega))
          refine dg_iald hx hb K hP sM_17 hin_155 dX12_reckons_46 (fun x_156 ex_156 => ?_)
          have b_x_156 := dk_all_at (dg_I.row (lo := 0) (hi := 1600) I_151 sM_17 (by decide +kernel)) hin_155 ex_156
          have hk_x_156 : (x_156).toInt = (bh).toInt := by rw [ex_156, ((M_151.2 17 _ sM_17 (dk_dq rfl)).1), (show (x_154 : Int32).toNatClampNeg = 3 * (x_1).toNatClampNeg + 0 from by have h8 := (dk_inT hin_155).1; rw [dk_clN x_1]; omega), f_bh]
          refine lv_iadd hx hb dX12_reckons_47 ?_
          refine lv_topi (fun x_157 ex_157 => ?_)
          have jx_157 : (x_157).toInt = (x_153).toInt + (x_156).toInt := by rw [ex_157]; exact dk_addT2 rfl rfl (by omega)
          refine lv_icmp_ge (tgt := 227) hx hb dX12_reckons_48 (dk_dq rfl) (fun c_158 => ?_) (fun c_158 => ?_)
          · have jc_158 := dk_gec (k := (x_157).toInt) rfl c_158
            refine lv_aload_n hx hb dX12_reckons_227 rfl (lv_at hl 2 rfl) ?_
            refine dg_get (C := RX12) (T := TX12) (N := 77) hx hb hts (fun w h => bw_mem (wU_X12 w h)) hown K hP sM_0 rfl 64 (dk_dq rfl) (hts _ (bw_mem wB_1143)) (fun _ h9 => h9) (v := .ref (o + 40)) (show S_151.1 0 64 = .ref (o + 40) from dg_I.rel (d := 40) I_151 sM_0 (by decide +kernel)) dX12_reckons_228 ?_
            refine lv_iconst (v := 0) hx hb dX12_reckons_231 (by decide +kernel) ?_
            have hin_159 : vp_in (0 : Int32) 500 := (dk_in (by decide +kernel))
            refine dg_lald hx hb K hP sM_40 hin_159 dX12_reckons_232 (fun x_160 ex_160 => ?_)
            refine W.widen (k := 0) (n := 0) (Nat.le_of_ble_eq_true rfl) (Nat.le_of_ble_eq_true rfl) ?_
            exact dg_lret hx hb hr hlocks hP hS ⟨I_151, M_151, ⟨congrArg Prod.fst (Eq.symm (lp_r hF_1 (F_m_reckons_0_p0 ex_153 ex_154 (Eq.symm ex_156.symm) ex_157 c_158 (Eq.symm ex_160.symm)))), congrArg Prod.snd (Eq.symm (lp_r hF_1 (F_m_reckons_0_p0 ex_153 ex_154 (Eq.symm ex_156.symm) ex_157 c_158 (Eq.symm ex_160.symm))))⟩, trivial⟩ dX12_reckons_233
          · as_aux_lemma =>
              have jc_158 := dk_ngec (k := (x_157).toInt) rfl c_158
              refine lv_aload_n hx hb dX12_reckons_51 rfl (lv_at hl 2 rfl) ?_
              refine dg_get (C := RX12) (T := TX12) (N := 77) hx hb hts (fun w h => bw_mem (wU_X12 w h)) hown K hP sM_0 rfl 30 (dk_dq rfl) (hts _ (bw_mem wB_401)) (fun _ h9 => h9) (v := .ref (o + 18)) (show S_151.1 0 30 = .ref (o + 18) from dg_I.rel (d := 18) I_151 sM_0 (by decide +kernel)) dX12_reckons_52 ?_
              refine lv_iload_n hx hb dX12_reckons_55 rfl (lv_at hl 0 rfl) ?_
              have hin_161 : vp_in x_149 3200 := (dk_inv2 (by omega))
              refine dg_iald hx hb K hP sM_18 hin_161 dX12_reckons_56 (fun x_162 ex_162 => ?_)
              have b_x_162 := dk_all_at (dg_I.row (lo := 0) (hi := 44) I_151 sM_18 (by decide +kernel)) hin_161 ex_162
              obtain ⟨n9_x_162, hst_x_162, hok_x_162⟩ := dk_ok.next rel_0 (by omega) (by omega) (show x_162 = S.2.1 18 (x_149 : Int32).toNatClampNeg from by rw [ex_162, ((M_151.2 18 _ sM_18 (dk_dq rfl)).1)])
              unfold dk_st at hst_x_162
              refine lv_istore (lv' := [(4, .int x_162), (3, .int x_149), (2, .int x_150), (0, .ref (o + 0)), (1, .int 0)]) hx hb dX12_reckons_57 hl (dk_dq rfl) rfl (fun ls hl => ?_)
              refine lv_iload hx hb dX12_reckons_59 (lv_at hl 0 rfl) ?_
              refine lv_bipush (v := 30) hx hb dX12_reckons_61 (by decide +kernel) ?_
              refine lv_icmp_gt (tgt := 112) hx hb dX12_reckons_63 (dk_dq rfl) (fun c_163 => ?_) (fun c_163 => ?_)
              · as_aux_lemma =>
                  have jc_163 := dk_gtc (k := 30) (by decide +kernel) c_163
                  refine lv_iload hx hb dX12_reckons_112 (lv_at hl 0 rfl) ?_
                  refine lv_bipush (v := 43) hx hb dX12_reckons_114 (by decide +kernel) ?_
                  refine lv_icmp_ne (tgt := 140) hx hb dX12_reckons_116 (dk_dq rfl) (fun c_164 => ?_) (fun c_164 => ?_)
                  · as_aux_lemma =>
                      have jc_164 := dk_neqc (k := 43) (by decide +kernel) c_164
                      refine lv_iload hx hb dX12_reckons_140 (lv_at hl 0 rfl) ?_
                      refine lv_bipush (v := 44) hx hb dX12_reckons_142 (by decide +kernel) ?_
                      refine lv_icmp_ne (tgt := 191) hx hb dX12_reckons_144 (dk_dq rfl) (fun c_165 => ?_) (fun c_165 => ?_)
                      · as_aux_lemma =>
                          have jc_165 := dk_neqc (k := 44) (by decide +kernel) c_165
                          obtain ⟨x_166, ex_166⟩ : ∃ z, z = x_150 + (-1) := ⟨_, rfl⟩
                          have jx_166 : (x_166).toInt = (x_150).toInt + (-1) := by rw [ex_166]; exact dk_addT2 rfl (by decide +kernel) (by omega)
                          refine lv_iinc (v := x_166) (lv' := [(2, .int x_166), (4, .int x_162), (3, .int x_149), (0, .ref (o + 0)), (1, .int 0)]) hx hb dX12_reckons_191 hl (k := 2) rfl (by rw [ex_166]; rfl) (dk_dq rfl) rfl (fun ls hl => ?_)
                          refine lv_aload_n hx hb dX12_reckons_194 rfl (lv_at hl 3 rfl) ?_
                          refine dg_get (C := RX12) (T := TX12) (N := 77) hx hb hts (fun w h => bw_mem (wU_X12 w h)) hown K hP sM_0 rfl 64 (dk_dq rfl) (hts _ (bw_mem wB_1143)) (fun _ h9 => h9) (v := .ref (o + 40)) (show S_151.1 0 64 = .ref (o + 40) from dg_I.rel (d := 40) I_151 sM_0 (by decide +kernel)) dX12_reckons_195 ?_
                          refine lv_iload_n hx hb dX12_reckons_198 rfl (lv_at hl 0 rfl) ?_
                          refine lv_iconst (v := 1) hx hb dX12_reckons_199 (by decide +kernel) ?_
                          refine lv_isub hx hb dX12_reckons_200 ?_
                          refine lv_topi (fun x_167 ex_167 => ?_)
                          have jx_167 : (x_167).toInt = (x_166).toInt - 1 := by rw [ex_167]; exact dk_subT2 rfl (by decide +kernel) (by omega)
                          refine lv_iload hx hb dX12_reckons_201 (lv_at hl 1 rfl) ?_
                          refine lv_aload_n hx hb dX12_reckons_203 rfl (lv_at hl 3 rfl) ?_
                          refine dg_get (C := RX12) (T := TX12) (N := 77) hx hb hts (fun w h => bw_mem (wU_X12 w h)) hown K hP sM_0 rfl 64 (dk_dq rfl) (hts _ (bw_mem wB_1143)) (fun _ h9 => h9) (v := .ref (o + 40)) (show S_151.1 0 64 = .ref (o + 40) from dg_I.rel (d := 40) I_151 sM_0 (by decide +kernel)) dX12_reckons_204 ?_
                          refine lv_iload_n hx hb dX12_reckons_207 rfl (lv_at hl 0 rfl) ?_
                          refine lv_iconst (v := 1) hx hb dX12_reckons_208 (by decide +kernel) ?_
                          refine lv_isub hx hb dX12_reckons_209 ?_
                          refine lv_topi (fun x_168 ex_168 => ?_)
                          have jx_168 : (x_168).toInt = (x_166).toInt - 1 := by rw [ex_168]; exact dk_subT2 rfl (by decide +kernel) (by omega)
                          have hin_169 : vp_in x_168 500 := (dk_inv2 (by omega))
                          refine dg_lald hx hb K hP sM_40 hin_169 dX12_reckons_210 (fun x_170 ex_170 => ?_)
                          refine lv_aload_n hx hb dX12_reckons_211 rfl (lv_at hl 3 rfl) ?_
                          refine dg_get (C := RX12) (T := TX12) (N := 77) hx hb hts (fun w h => bw_mem (wU_X12 w h)) hown K hP sM_0 rfl 64 (dk_dq rfl) (hts _ (bw_mem wB_1143)) (fun _ h9 => h9) (v := .ref (o + 40)) (show S_151.1 0 64 = .ref (o + 40) from dg_I.rel (d := 40) I_151 sM_0 (by decide +kernel)) dX12_reckons_212 ?_
                          refine lv_iload_n hx hb dX12_reckons_215 rfl (lv_at hl 0 rfl) ?_
                          have hin_171 : vp_in x_166 500 := (dk_inv2 (by omega))
                          refine dg_lald hx hb K hP sM_40 hin_171 dX12_reckons_216 (fun x_172 ex_172 => ?_)
                          refine dg_calll hS hA1 hA (va_runS (As := [.int x_162, .long x_170, .long x_172]) (rest := [.int x_167, .ref (o + 40)]) F (c_m_two l g D o S_151 x_162 x_170 x_172 I_151 H.size) (va_cwS 3 hts (bw_S wB_1145 wB_1146 wB_297 wB_1144) rfl rfl rfl (by decide +kernel) ⟨Nat.le_of_ble_eq_true rfl, Nat.le_of_ble_eq_true rfl⟩) (dg_preS K ST hP hS hA1 hA) rfl rfl hl.1 rfl (lv_room (Nat.le_of_ble_eq_true rfl)) dX12_reckons_217 ⟨Nat.le_of_ble_eq_true rfl, Nat.le_of_ble_eq_true rfl⟩) (fun x_173 S_174 hw_174 H locs hP hS => ?_)
                          rw [hw_174.1] at hP
                          obtain ⟨hq_174, w_174_0, -⟩ := hw_174
                          have hin_175 : vp_in x_167 500 := (dk_inv2 (by omega))
                          refine dg_last hx hb K hP hS hA1 sM_40 hin_175 dX12_reckons_220 (fun S_176 e_176 H locs hP hS => ?_)
                          have I_176 := dg_I.ul I_151 e_176
                          have M_176 := dg_sm.ul M_151 e_176 sM_40 (dk_dq rfl)
                          obtain ⟨x_177, ex_177⟩ : ∃ z, z = x_149 + 1 := ⟨_, rfl⟩
                          have jx_177 : (x_177).toInt = (x_149).toInt + 1 := by rw [ex_177]; exact dk_addT2 rfl (by decide +kernel) (by omega)
                          refine lv_iinc (v := x_177) (lv' := [(3, .int x_177), (2, .int x_166), (4, .int x_162), (0, .ref (o + 0)), (1, .int 0)]) hx hb dX12_reckons_221 hl (k := 2) rfl (by rw [ex_177]; rfl) (dk_dq rfl) rfl (fun ls hl => ?_)
                          refine lv_goto (tgt := 25) hx hb dX12_reckons_224 (dk_dq rfl) ?_
                          exact ih x_177 x_166 (by omega) (by omega) (dk_ok.go hok_x_162 (by omega) (by omega) (by omega)) (by first | exact mu_lt hmu (by omega) (by omega) | omega) S_176 I_176 M_176  (lp_l hF_1 (F_m_reckons_0_p1 ex_153 ex_154 (Eq.symm ex_156.symm) ex_157 c_158 (Eq.symm ex_162.symm) c_163 c_164 c_165 ex_166 ex_167 ex_168 (Eq.symm ex_170.symm) (Eq.symm ex_172.symm) w_174_0 e_176 ex_177)) _ _ hP hS _ (lv_sub hl [0, 1, 3, 4] rfl)
                      · as_aux_lemma =>
                          have jc_165 := dk_eqc (k := 44) (by decide +kernel) c_165
                          obtain ⟨x_178, ex_178⟩ : ∃ z, z = x_150 + (-2) := ⟨_, rfl⟩
                          have jx_178 : (x_178).toInt = (x_150).toInt + (-2) := by rw [ex_178]; exact dk_addT2 rfl (by decide +kernel) (by omega)
                          refine lv_iinc (v := x_178) (lv' := [(2, .int x_178), (4, .int x_162), (3, .int x_149), (0, .ref (o + 0)), (1, .int 0)]) hx hb dX12_reckons_147 hl (k := 2) rfl (by rw [ex_178]; rfl) (dk_dq rfl) rfl (fun ls hl => ?_)
                          refine lv_aload_n hx hb dX12_reckons_150 rfl (lv_at hl 3 rfl) ?_
                          refine dg_get (C := RX12) (T := TX12) (N := 77) hx hb hts (fun w h => bw_mem (wU_X12 w h)) hown K hP sM_0 rfl 64 (dk_dq rfl) (hts _ (bw_mem wB_1143)) (fun _ h9 => h9) (v := .ref (o + 40)) (show S_151.1 0 64 = .ref (o + 40) from dg_I.rel (d := 40) I_151 sM_0 (by decide +kernel)) dX12_reckons_151 ?_
                          refine lv_iload_n hx hb dX12_reckons_154 rfl (lv_at hl 0 rfl) ?_
                          refine lv_iconst (v := 1) hx hb dX12_reckons_155 (by decide +kernel) ?_
                          refine lv_isub hx hb dX12_reckons_156 ?_
                          refine lv_topi (fun x_179 ex_179 => ?_)
                          have jx_179 : (x_179).toInt = (x_178).toInt - 1 := by rw [ex_179]; exact dk_subT2 rfl (by decide +kernel) (by omega)
                          refine lv_aload_n hx hb dX12_reckons_157 rfl (lv_at hl 3 rfl) ?_
                          refine dg_get (C := RX12) (T := TX12) (N := 77) hx hb hts (fun w h => bw_mem (wU_X12 w h)) hown K hP sM_0 rfl 64 (dk_dq rfl) (hts _ (bw_mem wB_1143)) (fun _ h9 => h9) (v := .ref (o + 40)) (show S_151.1 0 64 = .ref (o + 40) from dg_I.rel (d := 40) I_151 sM_0 (by decide +kernel)) dX12_reckons_158 ?_
                          refine lv_iload_n hx hb dX12_reckons_161 rfl (lv_at hl 0 rfl) ?_
                          refine lv_iconst (v := 1) hx hb dX12_reckons_162 (by decide +kernel) ?_
                          refine lv_isub hx hb dX12_reckons_163 ?_
                          refine lv_topi (fun x_180 ex_180 => ?_)
                          have jx_180 : (x_180).toInt = (x_178).toInt - 1 := by rw [ex_180]; exact dk_subT2 rfl (by decide +kernel) (by omega)
                          have hin_181 : vp_in x_180 500 := (dk_inv2 (by omega))
                          refine dg_lald hx hb K hP sM_40 hin_181 dX12_reckons_164 (fun x_182 ex_182 => ?_)
                          refine lv_lconst (v := 1) hx hb dX12_reckons_165 (by decide +kernel) ?_
                          refine W.lcmp hx hb dX12_reckons_166 ?_
                          refine lv_topi (fun x_183 ex_183 => ?_)
                          have hz_183 : (1 : Int64).toInt = 1 := by decide +kernel
                          have hlc_x_183 := dk_lcmp ex_183
                          refine lv_if_ne (tgt := 179) hx hb dX12_reckons_167 (dk_dq rfl) (fun c_185 => ?_) (fun c_185 => ?_)
                          · as_aux_lemma =>
                              have jc_185 := dk_neqc (k := 0) (by decide +kernel) c_185
                              refine lv_aload_n hx hb dX12_reckons_179 rfl (lv_at hl 3 rfl) ?_
                              refine dg_get (C := RX12) (T := TX12) (N := 77) hx hb hts (fun w h => bw_mem (wU_X12 w h)) hown K hP sM_0 rfl 64 (dk_dq rfl) (hts _ (bw_mem wB_1143)) (fun _ h9 => h9) (v := .ref (o + 40)) (show S_151.1 0 64 = .ref (o + 40) from dg_I.rel (d := 40) I_151 sM_0 (by decide +kernel)) dX12_reckons_180 ?_
                              refine lv_iload_n hx hb dX12_reckons_183 rfl (lv_at hl 0 rfl) ?_
                              refine lv_iconst (v := 1) hx hb dX12_reckons_184 (by decide +kernel) ?_
                              refine lv_iadd hx hb dX12_reckons_185 ?_
                              refine lv_topi (fun x_186 ex_186 => ?_)
                              have jx_186 : (x_186).toInt = (x_178).toInt + 1 := by rw [ex_186]; exact dk_addT2 rfl (by decide +kernel) (by omega)
                              have hin_187 : vp_in x_186 500 := (dk_inv2 (by omega))
                              refine dg_lald hx hb K hP sM_40 hin_187 dX12_reckons_186 (fun x_188 ex_188 => ?_)
                              have hin_189 : vp_in x_179 500 := (dk_inv2 (by omega))
                              refine dg_last hx hb K hP hS hA1 sM_40 hin_189 dX12_reckons_187 (fun S_190 e_190 H locs hP hS => ?_)
                              have I_190 := dg_I.ul I_151 e_190
                              have M_190 := dg_sm.ul M_151 e_190 sM_40 (dk_dq rfl)
                              refine lv_goto (tgt := 221) hx hb dX12_reckons_188 (dk_dq rfl) ?_
                              obtain ⟨x_191, ex_191⟩ : ∃ z, z = x_149 + 1 := ⟨_, rfl⟩
                              have jx_191 : (x_191).toInt = (x_149).toInt + 1 := by rw [ex_191]; exact dk_addT2 rfl (by decide +kernel) (by omega)
                              refine lv_iinc (v := x_191) (lv' := [(3, .int x_191), (2, .int x_178), (4, .int x_162), (0, .ref (o + 0)), (1, .int 0)]) hx hb dX12_reckons_221 hl (k := 2) rfl (by rw [ex_191]; rfl) (dk_dq rfl) rfl (fun ls hl => ?_)
                              refine lv_goto (tgt := 25) hx hb dX12_reckons_224 (dk_dq rfl) ?_
                              exact ih x_191 x_178 (by omega) (by omega) (dk_ok.go hok_x_162 (by omega) (by omega) (by omega)) (by first | exact mu_lt hmu (by omega) (by omega) | omega) S_190 I_190 M_190  (lp_l hF_1 (F_m_reckons_0_p2 ex_153 ex_154 (Eq.symm ex_156.symm) ex_157 c_158 (Eq.symm ex_162.symm) c_163 c_164 c_165 ex_178 ex_179 ex_180 (Eq.symm ex_182.symm) ex_183 c_185 ex_186 (Eq.symm ex_188.symm) e_190 ex_191)) _ _ hP hS _ (lv_sub hl [0, 1, 3, 4] rfl)
                          · as_aux_lemma =>
                              have jc_185 := dk_eqc (k := 0) (by decide +kernel) c_185
                              refine lv_aload_n hx hb dX12_reckons_170 rfl (lv_at hl 3 rfl) ?_
                              refine dg_get (C := RX12) (T := TX12) (N := 77) hx hb hts (fun w h => bw_mem (wU_X12 w h)) hown K hP sM_0 rfl 64 (dk_dq rfl) (hts _ (bw_mem wB_1143)) (fun _ h9 => h9) (v := .ref (o + 40)) (show S_151.1 0 64 = .ref (o + 40) from dg_I.rel (d := 40) I_151 sM_0 (by decide +kernel)) dX12_reckons_171 ?_
                              refine lv_iload_n hx hb dX12_reckons_174 rfl (lv_at hl 0 rfl) ?_
                              have hin_192 : vp_in x_178 500 := (dk_inv2 (by omega))
                              refine dg_lald hx hb K hP sM_40 hin_192 dX12_reckons_175 (fun x_193 ex_193 => ?_)
                              refine lv_goto (tgt := 187) hx hb dX12_reckons_176 (dk_dq rfl) ?_
                              have hin_194 : vp_in x_179 500 := (dk_inv2 (by omega))
                              refine dg_last hx hb K hP hS hA1 sM_40 hin_194 dX12_reckons_187 (fun S_195 e_195 H locs hP hS => ?_)
                              have I_195 := dg_I.ul I_151 e_195
                              have M_195 := dg_sm.ul M_151 e_195 sM_40 (dk_dq rfl)
                              refine lv_goto (tgt := 221) hx hb dX12_reckons_188 (dk_dq rfl) ?_
                              obtain ⟨x_196, ex_196⟩ : ∃ z, z = x_149 + 1 := ⟨_, rfl⟩
                              have jx_196 : (x_196).toInt = (x_149).toInt + 1 := by rw [ex_196]; exact dk_addT2 rfl (by decide +kernel) (by omega)
                              refine lv_iinc (v := x_196) (lv' := [(3, .int x_196), (2, .int x_178), (4, .int x_162), (0, .ref (o + 0)), (1, .int 0)]) hx hb dX12_reckons_221 hl (k := 2) rfl (by rw [ex_196]; rfl) (dk_dq rfl) rfl (fun ls hl => ?_)
                              refine lv_goto (tgt := 25) hx hb dX12_reckons_224 (dk_dq rfl) ?_
                              exact ih x_196 x_178 (by omega) (by omega) (dk_ok.go hok_x_162 (by omega) (by omega) (by omega)) (by first | exact mu_lt hmu (by omega) (by omega) | omega) S_195 I_195 M_195  (lp_l hF_1 (F_m_reckons_0_p3 ex_153 ex_154 (Eq.symm ex_156.symm) ex_157 c_158 (Eq.symm ex_162.symm) c_163 c_164 c_165 ex_178 ex_179 ex_180 (Eq.symm ex_182.symm) ex_183 c_185 (Eq.symm ex_193.symm) e_195 ex_196)) _ _ hP hS _ (lv_sub hl [0, 1, 3, 4] rfl)
                  · as_aux_lemma =>
                      have jc_164 := dk_eqc (k := 43) (by decide +kernel) c_164
                      refine lv_aload_n hx hb dX12_reckons_119 rfl (lv_at hl 3 rfl) ?_
                      refine dg_get (C := RX12) (T := TX12) (N := 77) hx hb hts (fun w h => bw_mem (wU_X12 w h)) hown K hP sM_0 rfl 64 (dk_dq rfl) (hts _ (bw_mem wB_1143)) (fun _ h9 => h9) (v := .ref (o + 40)) (show S_151.1 0 64 = .ref (o + 40) from dg_I.rel (d := 40) I_151 sM_0 (by decide +kernel)) dX12_reckons_120 ?_
                      refine lv_iload_n hx hb dX12_reckons_123 rfl (lv_at hl 2 rfl) ?_
                      refine lv_iconst (v := 1) hx hb dX12_reckons_124 (by decide +kernel) ?_
                      refine lv_isub hx hb dX12_reckons_125 ?_
                      refine lv_topi (fun x_197 ex_197 => ?_)
                      have jx_197 : (x_197).toInt = (x_150).toInt - 1 := by rw [ex_197]; exact dk_subT2 rfl (by decide +kernel) (by omega)
                      refine lv_lconst (v := 1) hx hb dX12_reckons_126 (by decide +kernel) ?_
                      refine lv_aload_n hx hb dX12_reckons_127 rfl (lv_at hl 3 rfl) ?_
                      refine dg_get (C := RX12) (T := TX12) (N := 77) hx hb hts (fun w h => bw_mem (wU_X12 w h)) hown K hP sM_0 rfl 64 (dk_dq rfl) (hts _ (bw_mem wB_1143)) (fun _ h9 => h9) (v := .ref (o + 40)) (show S_151.1 0 64 = .ref (o + 40) from dg_I.rel (d := 40) I_151 sM_0 (by decide +kernel)) dX12_reckons_128 ?_
                      refine lv_iload_n hx hb dX12_reckons_131 rfl (lv_at hl 2 rfl) ?_
                      refine lv_iconst (v := 1) hx hb dX12_reckons_132 (by decide +kernel) ?_
                      refine lv_isub hx hb dX12_reckons_133 ?_
                      refine lv_topi (fun x_198 ex_198 => ?_)
                      have jx_198 : (x_198).toInt = (x_150).toInt - 1 := by rw [ex_198]; exact dk_subT2 rfl (by decide +kernel) (by omega)
                      have hin_199 : vp_in x_198 500 := (dk_inv2 (by omega))
                      refine dg_lald hx hb K hP sM_40 hin_199 dX12_reckons_134 (fun x_200 ex_200 => ?_)
                      refine lv_lsub hx hb dX12_reckons_135 ?_
                      refine lv_topl (fun x_201 ex_201 => ?_)
                      have hin_202 : vp_in x_197 500 := (dk_inv2 (by omega))
                      refine dg_last hx hb K hP hS hA1 sM_40 hin_202 dX12_reckons_136 (fun S_203 e_203 H locs hP hS => ?_)
                      have I_203 := dg_I.ul I_151 e_203
                      have M_203 := dg_sm.ul M_151 e_203 sM_40 (dk_dq rfl)
                      refine lv_goto (tgt := 221) hx hb dX12_reckons_137 (dk_dq rfl) ?_
                      obtain ⟨x_204, ex_204⟩ : ∃ z, z = x_149 + 1 := ⟨_, rfl⟩
                      have jx_204 : (x_204).toInt = (x_149).toInt + 1 := by rw [ex_204]; exact dk_addT2 rfl (by decide +kernel) (by omega)
                      refine lv_iinc (v := x_204) (lv' := [(3, .int x_204), (4, .int x_162), (2, .int x_150), (0, .ref (o + 0)), (1, .int 0)]) hx hb dX12_reckons_221 hl (k := 1) rfl (by rw [ex_204]; rfl) (dk_dq rfl) rfl (fun ls hl => ?_)
                      refine lv_goto (tgt := 25) hx hb dX12_reckons_224 (dk_dq rfl) ?_
                      exact ih x_204 x_150 (by omega) (by omega) (dk_ok.go hok_x_162 (by omega) (by omega) (by omega)) (by first | exact mu_lt hmu (by omega) (by omega) | omega) S_203 I_203 M_203  (lp_l hF_1 (F_m_reckons_0_p4 ex_153 ex_154 (Eq.symm ex_156.symm) ex_157 c_158 (Eq.symm ex_162.symm) c_163 c_164 ex_197 ex_198 (Eq.symm ex_200.symm) ex_201 e_203 ex_204)) _ _ hP hS _ (lv_sub hl [0, 2, 3, 4] rfl)
              · as_aux_lemma =>
                  have jc_163 := dk_ngtc (k := 30) (by decide +kernel) c_163
                  refine lv_aload_n hx hb dX12_reckons_66 rfl (lv_at hl 3 rfl) ?_
                  refine dg_get (C := RX12) (T := TX12) (N := 77) hx hb hts (fun w h => bw_mem (wU_X12 w h)) hown K hP sM_0 rfl 64 (dk_dq rfl) (hts _ (bw_mem wB_1143)) (fun _ h9 => h9) (v := .ref (o + 40)) (show S_151.1 0 64 = .ref (o + 40) from dg_I.rel (d := 40) I_151 sM_0 (by decide +kernel)) dX12_reckons_67 ?_
                  refine lv_iload_n hx hb dX12_reckons_70 rfl (lv_at hl 2 rfl) ?_
                  refine lv_iload hx hb dX12_reckons_71 (lv_at hl 0 rfl) ?_
                  refine lv_if_ne (tgt := 86) hx hb dX12_reckons_73 (dk_dq rfl) (fun c_205 => ?_) (fun c_205 => ?_)
                  · as_aux_lemma =>
                      have jc_205 := dk_neqc (k := 0) (by decide +kernel) c_205
                      refine lv_iload hx hb dX12_reckons_86 (lv_at hl 0 rfl) ?_
                      refine lv_bipush (v := 30) hx hb dX12_reckons_88 (by decide +kernel) ?_
                      refine lv_icmp_ne (tgt := 97) hx hb dX12_reckons_90 (dk_dq rfl) (fun c_206 => ?_) (fun c_206 => ?_)
                      · as_aux_lemma =>
                          have jc_206 := dk_neqc (k := 30) (by decide +kernel) c_206
                          refine lv_aload_n hx hb dX12_reckons_97 rfl (lv_at hl 3 rfl) ?_
                          refine dg_get (C := RX12) (T := TX12) (N := 77) hx hb hts (fun w h => bw_mem (wU_X12 w h)) hown K hP sM_0 rfl 65 (dk_dq rfl) (hts _ (bw_mem wB_1107)) (fun _ h9 => h9) (v := .ref (o + 41)) (show S_151.1 0 65 = .ref (o + 41) from dg_I.rel (d := 41) I_151 sM_0 (by decide +kernel)) dX12_reckons_98 ?_
                          refine lv_iload hx hb dX12_reckons_101 (lv_at hl 0 rfl) ?_
                          have hin_207 : vp_in x_162 10 := (dk_inv2 (by omega))
                          refine dg_iald hx hb K hP sM_41 hin_207 dX12_reckons_103 (fun x_208 ex_208 => ?_)
                          obtain ⟨x_209, ex_209⟩ : ∃ z, (x_208 : Int32).toInt64 = z := ⟨_, rfl⟩
                          refine lv_i2l (v := x_209) hx hb dX12_reckons_104 ex_209 ?_
                          have hin_210 : vp_in x_150 500 := (dk_inv2 (by omega))
                          refine dg_last hx hb K hP hS hA1 sM_40 hin_210 dX12_reckons_105 (fun S_211 e_211 H locs hP hS => ?_)
                          have I_211 := dg_I.ul I_151 e_211
                          have M_211 := dg_sm.ul M_151 e_211 sM_40 (dk_dq rfl)
                          obtain ⟨x_212, ex_212⟩ : ∃ z, z = x_150 + 1 := ⟨_, rfl⟩
                          have jx_212 : (x_212).toInt = (x_150).toInt + 1 := by rw [ex_212]; exact dk_addT2 rfl (by decide +kernel) (by omega)
                          refine lv_iinc (v := x_212) (lv' := [(2, .int x_212), (4, .int x_162), (3, .int x_149), (0, .ref (o + 0)), (1, .int 0)]) hx hb dX12_reckons_106 hl (k := 2) rfl (by rw [ex_212]; rfl) (dk_dq rfl) rfl (fun ls hl => ?_)
                          refine lv_goto (tgt := 221) hx hb dX12_reckons_109 (dk_dq rfl) ?_
                          obtain ⟨x_213, ex_213⟩ : ∃ z, z = x_149 + 1 := ⟨_, rfl⟩
                          have jx_213 : (x_213).toInt = (x_149).toInt + 1 := by rw [ex_213]; exact dk_addT2 rfl (by decide +kernel) (by omega)
                          refine lv_iinc (v := x_213) (lv' := [(3, .int x_213), (2, .int x_212), (4, .int x_162), (0, .ref (o + 0)), (1, .int 0)]) hx hb dX12_reckons_221 hl (k := 2) rfl (by rw [ex_213]; rfl) (dk_dq rfl) rfl (fun ls hl => ?_)
                          refine lv_goto (tgt := 25) hx hb dX12_reckons_224 (dk_dq rfl) ?_
                          exact ih x_213 x_212 (by omega) (by omega) (dk_ok.go hok_x_162 (by omega) (by omega) (by omega)) (by first | exact mu_lt hmu (by omega) (by omega) | omega) S_211 I_211 M_211  (lp_l hF_1 (F_m_reckons_0_p5 ex_153 ex_154 (Eq.symm ex_156.symm) ex_157 c_158 (Eq.symm ex_162.symm) c_163 c_205 c_206 (Eq.symm ex_208.symm) (Eq.symm ex_209) e_211 ex_212 ex_213)) _ _ hP hS _ (lv_sub hl [0, 1, 3, 4] rfl)
                      · as_aux_lemma =>
                          have jc_206 := dk_eqc (k := 30) (by decide +kernel) c_206
                          refine lv_lconst (v := 1) hx hb dX12_reckons_93 (by decide +kernel) ?_
                          refine lv_goto (tgt := 105) hx hb dX12_reckons_94 (dk_dq rfl) ?_
                          have hin_214 : vp_in x_150 500 := (dk_inv2 (by omega))
                          refine dg_last hx hb K hP hS hA1 sM_40 hin_214 dX12_reckons_105 (fun S_215 e_215 H locs hP hS => ?_)
                          have I_215 := dg_I.ul I_151 e_215
                          have M_215 := dg_sm.ul M_151 e_215 sM_40 (dk_dq rfl)
                          obtain ⟨x_216, ex_216⟩ : ∃ z, z = x_150 + 1 := ⟨_, rfl⟩
                          have jx_216 : (x_216).toInt = (x_150).toInt + 1 := by rw [ex_216]; exact dk_addT2 rfl (by decide +kernel) (by omega)
                          refine lv_iinc (v := x_216) (lv' := [(2, .int x_216), (4, .int x_162), (3, .int x_149), (0, .ref (o + 0)), (1, .int 0)]) hx hb dX12_reckons_106 hl (k := 2) rfl (by rw [ex_216]; rfl) (dk_dq rfl) rfl (fun ls hl => ?_)
                          refine lv_goto (tgt := 221) hx hb dX12_reckons_109 (dk_dq rfl) ?_
                          obtain ⟨x_217, ex_217⟩ : ∃ z, z = x_149 + 1 := ⟨_, rfl⟩
                          have jx_217 : (x_217).toInt = (x_149).toInt + 1 := by rw [ex_217]; exact dk_addT2 rfl (by decide +kernel) (by omega)
                          refine lv_iinc (v := x_217) (lv' := [(3, .int x_217), (2, .int x_216), (4, .int x_162), (0, .ref (o + 0)), (1, .int 0)]) hx hb dX12_reckons_221 hl (k := 2) rfl (by rw [ex_217]; rfl) (dk_dq rfl) rfl (fun ls hl => ?_)
                          refine lv_goto (tgt := 25) hx hb dX12_reckons_224 (dk_dq rfl) ?_
                          exact ih x_217 x_216 (by omega) (by omega) (dk_ok.go hok_x_162 (by omega) (by omega) (by omega)) (by first | exact mu_lt hmu (by omega) (by omega) | omega) S_215 I_215 M_215  (lp_l hF_1 (F_m_reckons_0_p6 ex_153 ex_154 (Eq.symm ex_156.symm) ex_157 c_158 (Eq.symm ex_162.symm) c_163 c_205 c_206 e_215 ex_216 ex_217)) _ _ hP hS _ (lv_sub hl [0, 1, 3, 4] rfl)
                  · as_aux_lemma =>
                      have jc_205 := dk_eqc (k := 0) (by decide +kernel) c_205
                      refine lv_aload_n hx hb dX12_reckons_76 rfl (lv_at hl 3 rfl) ?_
                      refine dg_get (C := RX12) (T := TX12) (N := 77) hx hb hts (fun w h => bw_mem (wU_X12 w h)) hown K hP sM_0 rfl 31 (dk_dq rfl) (hts _ (bw_mem wB_403)) (fun _ h9 => h9) (v := .ref (o + 19)) (show S_151.1 0 31 = .ref (o + 19) from dg_I.rel (d := 19) I_151 sM_0 (by decide +kernel)) dX12_reckons_77 ?_
                      refine lv_iload_n hx hb dX12_reckons_80 rfl (lv_at hl 1 rfl) ?_
                      have hin_218 : vp_in x_149 3200 := (dk_inv2 (by omega))
                      refine dg_iald hx hb K hP sM_19 hin_218 dX12_reckons_81 (fun x_219 ex_219 => ?_)
                      have b_x_219 := dk_all_at (dg_I.row (lo := 0) (hi := 9999) I_151 sM_19 (by decide +kernel)) hin_218 ex_219
                      obtain ⟨x_220, ex_220⟩ : ∃ z, (x_219 : Int32).toInt64 = z := ⟨_, rfl⟩
                      refine lv_i2l (v := x_220) hx hb dX12_reckons_82 ex_220 ?_
                      refine lv_goto (tgt := 105) hx hb dX12_reckons_83 (dk_dq rfl) ?_
                      have hin_221 : vp_in x_150 500 := (dk_inv2 (by omega))
                      refine dg_last hx hb K hP hS hA1 sM_40 hin_221 dX12_reckons_105 (fun S_222 e_222 H locs hP hS => ?_)
                      have I_222 := dg_I.ul I_151 e_222
                      have M_222 := dg_sm.ul M_151 e_222 sM_40 (dk_dq rfl)
                      obtain ⟨x_223, ex_223⟩ : ∃ z, z = x_150 + 1 := ⟨_, rfl⟩
                      have jx_223 : (x_223).toInt = (x_150).toInt + 1 := by rw [ex_223]; exact dk_addT2 rfl (by decide +kernel) (by omega)
                      refine lv_iinc (v := x_223) (lv' := [(2, .int x_223), (4, .int x_162), (3, .int x_149), (0, .ref (o + 0)), (1, .int 0)]) hx hb dX12_reckons_106 hl (k := 2) rfl (by rw [ex_223]; rfl) (dk_dq rfl) rfl (fun ls hl => ?_)
                      refine lv_goto (tgt := 221) hx hb dX12_reckons_109 (dk_dq rfl) ?_
                      obtain ⟨x_224, ex_224⟩ : ∃ z, z = x_149 + 1 := ⟨_, rfl⟩
                      have jx_224 : (x_224).toInt = (x_149).toInt + 1 := by rw [ex_224]; exact dk_addT2 rfl (by decide +kernel) (by omega)
                      refine lv_iinc (v := x_224) (lv' := [(3, .int x_224), (2, .int x_223), (4, .int x_162), (0, .ref (o + 0)), (1, .int 0)]) hx hb dX12_reckons_221 hl (k := 2) rfl (by rw [ex_224]; rfl) (dk_dq rfl) rfl (fun ls hl => ?_)
                      refine lv_goto (tgt := 25) hx hb dX12_reckons_224 (dk_dq rfl) ?_
                      exact ih x_224 x_223 (by omega) (by omega) (dk_ok.go hok_x_162 (by omega) (by omega) (by omega)) (by first | exact mu_lt hmu (by omega) (by omega) | omega) S_222 I_222 M_222  (lp_l hF_1 (F_m_reckons_0_p7 ex_153 ex_154 (Eq.symm ex_156.symm) ex_157 c_158 (Eq.symm ex_162.symm) c_163 c_205 (Eq.symm ex_219.symm) (Eq.symm ex_220) e_222 ex_223 ex_224)) _ _ hP hS _ (lv_sub hl [0, 1, 3, 4] rfl)
  have hz_225 : (0 : Int32).toInt = 0 := by decide +kernel
  have hz_226 : (0 : Int32).toInt = 0 := by decide +kernel
  have hz_227 : (0 : Int32).toInt = 0 := by decide +kernel
  exact L_152 ((3201 - ((x_6 : Int32)).toInt).toNat + 1) x_6 0 (by omega) (by decide +kernel) (dk_ok.init h_rk (by omega) (by omega) (by omega) (by omega)) (by first | exact mu_lt hmu (by omega) (by omega) | omega) S I M_0  (F_m_reckons_0_p8 (zI_eq f_x_1) ex_2 ex_3 (Eq.symm ex_5.symm) ex_6) _ _ hP hS _ (lv_sub hl [0, 1, 2, 3] rfl)
noncomputable def F_m_reckons_1_B1 (x_1 : Int32) (o : Nat) : (Int32 × Int32 × dg_S) → (Int32 × Int32 × dg_S) ⊕ (dg_S × Int64) := fun w9 => match w9 with | (x_152, x_153, S_154) => let x_156 : Int32 := (1600 : Int32) * x_1; let x_157 : Int32 := (3 : Int32) * x_1; let x_158 : Int32 := x_157 + (1 : Int32); let x_160 : Int32 := S_154.2.1 17 (x_158 : Int32).toNatClampNeg; let x_161 : Int32 := x_156 + x_160; (if x_161 ≤ x_152 then (Sum.inr (let x_164 : Int64 := S_154.2.2 40 (0 : Int32).toNatClampNeg; (S_154, x_164))) else let x_166 : Int32 := S_154.2.1 18 (x_152 : Int32).toNatClampNeg; (if (30 : Int32) < x_166 then (if x_166 = (43 : Int32) then let x_201 : Int32 := x_153 - (1 : Int32); let x_202 : Int32 := x_153 - (1 : Int32); let x_204 : Int64 := S_154.2.2 40 (x_202 : Int32).toNatClampNeg; let x_205 : Int64 := (1 : Int64) - x_204; let S_207 : dg_S := dg_ul S_154 40 (vp_updL (S_154.2.2 40) (x_201 : Int32).toNatClampNeg x_205); let x_208 : Int32 := x_152 + 1; (Sum.inl (x_208, x_153, S_207)) else (if x_166 = (44 : Int32) then let x_182 : Int32 := x_153 + (-2); let x_183 : Int32 := x_182 - (1 : Int32); let x_184 : Int32 := x_182 - (1 : Int32); let x_186 : Int64 := S_154.2.2 40 (x_184 : Int32).toNatClampNeg; let x_187 : Int32 := lg_cmp x_186 (1 : Int64); (if x_187 = (0 : Int32) then let x_197 : Int64 := S_154.2.2 40 (x_182 : Int32).toNatClampNeg; let S_199 : dg_S := dg_ul S_154 40 (vp_updL (S_154.2.2 40) (x_183 : Int32).toNatClampNeg x_197); let x_200 : Int32 := x_152 + 1; (Sum.inl (x_200, x_182, S_199)) else let x_190 : Int32 := x_182 + (1 : Int32); let x_192 : Int64 := S_154.2.2 40 (x_190 : Int32).toNatClampNeg; let S_194 : dg_S := dg_ul S_154 40 (vp_updL (S_154.2.2 40) (x_183 : Int32).toNatClampNeg x_192); let x_195 : Int32 := x_152 + 1; (Sum.inl (x_195, x_182, S_194))) else let x_170 : Int32 := x_153 + (-1); let x_171 : Int32 := x_170 - (1 : Int32); let x_172 : Int32 := x_170 - (1 : Int32); let x_174 : Int64 := S_154.2.2 40 (x_172 : Int32).toNatClampNeg; let x_176 : Int64 := S_154.2.2 40 (x_170 : Int32).toNatClampNeg; let x_177 : Int64 := F_m_two o S_154 x_166 x_174 x_176; let S_180 : dg_S := dg_ul S_154 40 (vp_updL (S_154.2.2 40) (x_171 : Int32).toNatClampNeg x_177); let x_181 : Int32 := x_152 + 1; (Sum.inl (x_181, x_170, S_180)))) else (if x_166 = (0 : Int32) then let x_223 : Int32 := S_154.2.1 19 (x_152 : Int32).toNatClampNeg; let x_224 : Int64 := Int32.toInt64 x_223; let S_226 : dg_S := dg_ul S_154 40 (vp_updL (S_154.2.2 40) (x_153 : Int32).toNatClampNeg x_224); let x_227 : Int32 := x_153 + 1; let x_228 : Int32 := x_152 + 1; (Sum.inl (x_228, x_227, S_226)) else (if x_166 = (30 : Int32) then let S_219 : dg_S := dg_ul S_154 40 (vp_updL (S_154.2.2 40) (x_153 : Int32).toNatClampNeg (1 : Int64)); let x_220 : Int32 := x_153 + 1; let x_221 : Int32 := x_152 + 1; (Sum.inl (x_221, x_220, S_219)) else let x_212 : Int32 := S_154.2.1 41 (x_166 : Int32).toNatClampNeg; let x_213 : Int64 := Int32.toInt64 x_212; let S_215 : dg_S := dg_ul S_154 40 (vp_updL (S_154.2.2 40) (x_153 : Int32).toNatClampNeg x_213); let x_216 : Int32 := x_153 + 1; let x_217 : Int32 := x_152 + 1; (Sum.inl (x_217, x_216, S_215))))))
noncomputable def F_m_reckons_1 (o : Nat) (S : dg_S) : dg_S × Int64 := let x_1 : Int32 := zI S 0 13; let x_2 : Int32 := (1600 : Int32) * x_1; let x_3 : Int32 := (3 : Int32) * x_1; let x_4 : Int32 := x_3 + (1 : Int32); let x_6 : Int32 := S.2.1 16 (x_4 : Int32).toNatClampNeg; let x_7 : Int32 := x_2 + x_6; (lp (F_m_reckons_1_B1 x_1 o) (S, (0 : Int64)) ((3201 - ((x_7 : Int32)).toInt).toNat + 1) (x_7, (0 : Int32), S))
theorem F_m_reckons_1_p0 {x_1 : Int32} {o : Nat} {x_152 : Int32} {x_153 : Int32} {S_154 : dg_S} {x_164 : Int64} {x_156 : Int32} {x_157 : Int32} {x_158 : Int32} {x_160 : Int32} {x_161 : Int32} (h0 : x_156 = (1600 : Int32) * x_1) (h1 : x_157 = (3 : Int32) * x_1) (h2 : x_158 = x_157 + (1 : Int32)) (h3 : x_160 = S_154.2.1 17 (x_158 : Int32).toNatClampNeg) (h4 : x_161 = x_156 + x_160) (h5 : x_161 ≤ x_152) (h7 : x_164 = S_154.2.2 40 (0 : Int32).toNatClampNeg) : (F_m_reckons_1_B1 x_1 o) (x_152, x_153, S_154) = Sum.inr ((S_154, x_164)) := by
  replace h0 := Eq.symm h0
  subst h0
  replace h1 := Eq.symm h1
  subst h1
  replace h2 := Eq.symm h2
  subst h2
  replace h3 := Eq.symm h3
  subst h3
  replace h4 := Eq.symm h4
  subst h4
  replace h7 := Eq.symm h7
  subst h7
  exact (Eq.trans (if_pos h5) rfl)
theorem F_m_reckons_1_p1 {x_1 : Int32} {o : Nat} {x_152 : Int32} {x_153 : Int32} {S_154 : dg_S} {x_181 : Int32} {x_170 : Int32} {S_180 : dg_S} {x_156 : Int32} {x_157 : Int32} {x_158 : Int32} {x_160 : Int32} {x_161 : Int32} {x_166 : Int32} {x_171 : Int32} {x_172 : Int32} {x_174 : Int64} {x_176 : Int64} {x_177 : Int64} (h0 : x_156 = (1600 : Int32) * x_1) (h1 : x_157 = (3 : Int32) * x_1) (h2 : x_158 = x_157 + (1 : Int32)) (h3 : x_160 = S_154.2.1 17 (x_158 : Int32).toNatClampNeg) (h4 : x_161 = x_156 + x_160) (h5 : ¬ (x_161 ≤ x_152)) (h6 : x_166 = S_154.2.1 18 (x_152 : Int32).toNatClampNeg) (h7 : (30 : Int32) < x_166) (h8 : ¬ (x_166 = (43 : Int32))) (h9 : ¬ (x_166 = (44 : Int32))) (h10 : x_170 = x_153 + (-1)) (h11 : x_171 = x_170 - (1 : Int32)) (h12 : x_172 = x_170 - (1 : Int32)) (h13 : x_174 = S_154.2.2 40 (x_172 : Int32).toNatClampNeg) (h14 : x_176 = S_154.2.2 40 (x_170 : Int32).toNatClampNeg) (h15 : x_177 = F_m_two o S_154 x_166 x_174 x_176) (h16 : S_180 = dg_ul S_154 40 (vp_updL (S_154.2.2 40) (x_171 : Int32).toNatClampNeg x_177)) (h17 : x_181 = x_152 + 1) : (F_m_reckons_1_B1 x_1 o) (x_152, x_153, S_154) = Sum.inl (x_181, x_170, S_180) := by
  replace h0 := Eq.symm h0
  subst h0
  replace h1 := Eq.symm h1
  subst h1
  replace h2 := Eq.symm h2
  subst h2
  replace h3 := Eq.symm h3
  subst h3
  replace h4 := Eq.symm h4
  subst h4
  replace h6 := Eq.symm h6
  subst h6
  replace h10 := Eq.symm h10
  subst h10
  replace h11 := Eq.symm h11
  subst h11
  replace h12 := Eq.symm h12
  subst h12
  replace h13 := Eq.symm h13
  subst h13
  replace h14 := Eq.symm h14
  subst h14
  replace h15 := Eq.symm h15
  subst h15
  replace h16 := Eq.symm h16
  subst h16
  replace h17 := Eq.symm h17
  subst h17
  exact (Eq.trans (if_neg h5) (Eq.trans (if_pos h7) (Eq.trans (if_neg h8) (Eq.trans (if_neg h9) rfl))))
theorem F_m_reckons_1_p2 {x_1 : Int32} {o : Nat} {x_152 : Int32} {x_153 : Int32} {S_154 : dg_S} {x_195 : Int32} {x_182 : Int32} {S_194 : dg_S} {x_156 : Int32} {x_157 : Int32} {x_158 : Int32} {x_160 : Int32} {x_161 : Int32} {x_166 : Int32} {x_183 : Int32} {x_184 : Int32} {x_186 : Int64} {x_187 : Int32} {x_190 : Int32} {x_192 : Int64} (h0 : x_156 = (1600 : Int32) * x_1) (h1 : x_157 = (3 : Int32) * x_1) (h2 : x_158 = x_157 + (1 : Int32)) (h3 : x_160 = S_154.2.1 17 (x_158 : Int32).toNatClampNeg) (h4 : x_161 = x_156 + x_160) (h5 : ¬ (x_161 ≤ x_152)) (h6 : x_166 = S_154.2.1 18 (x_152 : Int32).toNatClampNeg) (h7 : (30 : Int32) < x_166) (h8 : ¬ (x_166 = (43 : Int32))) (h9 : x_166 = (44 : Int32)) (h10 : x_182 = x_153 + (-2)) (h11 : x_183 = x_182 - (1 : Int32)) (h12 : x_184 = x_182 - (1 : Int32)) (h13 : x_186 = S_154.2.2 40 (x_184 : Int32).toNatClampNeg) (h14 : x_187 = lg_cmp x_186 (1 : Int64)) (h15 : ¬ (x_187 = (0 : Int32))) (h16 : x_190 = x_182 + (1 : Int32)) (h17 : x_192 = S_154.2.2 40 (x_190 : Int32).toNatClampNeg) (h18 : S_194 = dg_ul S_154 40 (vp_updL (S_154.2.2 40) (x_183 : Int32).toNatClampNeg x_192)) (h19 : x_195 = x_152 + 1) : (F_m_reckons_1_B1 x_1 o) (x_152, x_153, S_154) = Sum.inl (x_195, x_182, S_194) := by
  replace h0 := Eq.symm h0
  subst h0
  replace h1 := Eq.symm h1
  subst h1
  replace h2 := Eq.symm h2
  subst h2
  replace h3 := Eq.symm h3
  subst h3
  replace h4 := Eq.symm h4
  subst h4
  replace h6 := Eq.symm h6
  subst h6
  replace h10 := Eq.symm h10
  subst h10
  replace h11 := Eq.symm h11
  subst h11
  replace h12 := Eq.symm h12
  subst h12
  replace h13 := Eq.symm h13
  subst h13
  replace h14 := Eq.symm h14
  subst h14
  replace h16 := Eq.symm h16
  subst h16
  replace h17 := Eq.symm h17
  subst h17
  replace h18 := Eq.symm h18
  subst h18
  replace h19 := Eq.symm h19
  subst h19
  exact (Eq.trans (if_neg h5) (Eq.trans (if_pos h7) (Eq.trans (if_neg h8) (Eq.trans (if_pos h9) (Eq.trans (if_neg h15) rfl)))))
theorem F_m_reckons_1_p3 {x_1 : Int32} {o : Nat} {x_152 : Int32} {x_153 : Int32} {S_154 : dg_S} {x_200 : Int32} {x_182 : Int32} {S_199 : dg_S} {x_156 : Int32} {x_157 : Int32} {x_158 : Int32} {x_160 : Int32} {x_161 : Int32} {x_166 : Int32} {x_183 : Int32} {x_184 : Int32} {x_186 : Int64} {x_187 : Int32} {x_197 : Int64} (h0 : x_156 = (1600 : Int32) * x_1) (h1 : x_157 = (3 : Int32) * x_1) (h2 : x_158 = x_157 + (1 : Int32)) (h3 : x_160 = S_154.2.1 17 (x_158 : Int32).toNatClampNeg) (h4 : x_161 = x_156 + x_160) (h5 : ¬ (x_161 ≤ x_152)) (h6 : x_166 = S_154.2.1 18 (x_152 : Int32).toNatClampNeg) (h7 : (30 : Int32) < x_166) (h8 : ¬ (x_166 = (43 : Int32))) (h9 : x_166 = (44 : Int32)) (h10 : x_182 = x_153 + (-2)) (h11 : x_183 = x_182 - (1 : Int32)) (h12 : x_184 = x_182 - (1 : Int32)) (h13 : x_186 = S_154.2.2 40 (x_184 : Int32).toNatClampNeg) (h14 : x_187 = lg_cmp x_186 (1 : Int64)) (h15 : x_187 = (0 : Int32)) (h16 : x_197 = S_154.2.2 40 (x_182 : Int32).toNatClampNeg) (h17 : S_199 = dg_ul S_154 40 (vp_updL (S_154.2.2 40) (x_183 : Int32).toNatClampNeg x_197)) (h18 : x_200 = x_152 + 1) : (F_m_reckons_1_B1 x_1 o) (x_152, x_153, S_154) = Sum.inl (x_200, x_182, S_199) := by
  replace h0 := Eq.symm h0
  subst h0
  replace h1 := Eq.symm h1
  subst h1
  replace h2 := Eq.symm h2
  subst h2
  replace h3 := Eq.symm h3
  subst h3
  replace h4 := Eq.symm h4
  subst h4
  replace h6 := Eq.symm h6
  subst h6
  replace h10 := Eq.symm h10
  subst h10
  replace h11 := Eq.symm h11
  subst h11
  replace h12 := Eq.symm h12
  subst h12
  replace h13 := Eq.symm h13
  subst h13
  replace h14 := Eq.symm h14
  subst h14
  replace h16 := Eq.symm h16
  subst h16
  replace h17 := Eq.symm h17
  subst h17
  replace h18 := Eq.symm h18
  subst h18
  exact (Eq.trans (if_neg h5) (Eq.trans (if_pos h7) (Eq.trans (if_neg h8) (Eq.trans (if_pos h9) (Eq.trans (if_pos h15) rfl)))))
theorem F_m_reckons_1_p4 {x_1 : Int32} {o : Nat} {x_152 : Int32} {x_153 : Int32} {S_154 : dg_S} {x_208 : Int32} {S_207 : dg_S} {x_156 : Int32} {x_157 : Int32} {x_158 : Int32} {x_160 : Int32} {x_161 : Int32} {x_166 : Int32} {x_201 : Int32} {x_202 : Int32} {x_204 : Int64} {x_205 : Int64} (h0 : x_156 = (1600 : Int32) * x_1) (h1 : x_157 = (3 : Int32) * x_1) (h2 : x_158 = x_157 + (1 : Int32)) (h3 : x_160 = S_154.2.1 17 (x_158 : Int32).toNatClampNeg) (h4 : x_161 = x_156 + x_160) (h5 : ¬ (x_161 ≤ x_152)) (h6 : x_166 = S_154.2.1 18 (x_152 : Int32).toNatClampNeg) (h7 : (30 : Int32) < x_166) (h8 : x_166 = (43 : Int32)) (h9 : x_201 = x_153 - (1 : Int32)) (h10 : x_202 = x_153 - (1 : Int32)) (h11 : x_204 = S_154.2.2 40 (x_202 : Int32).toNatClampNeg) (h12 : x_205 = (1 : Int64) - x_204) (h13 : S_207 = dg_ul S_154 40 (vp_updL (S_154.2.2 40) (x_201 : Int32).toNatClampNeg x_205)) (h14 : x_208 = x_152 + 1) : (F_m_reckons_1_B1 x_1 o) (x_152, x_153, S_154) = Sum.inl (x_208, x_153, S_207) := by
  replace h0 := Eq.symm h0
  subst h0
  replace h1 := Eq.symm h1
  subst h1
  replace h2 := Eq.symm h2
  subst h2
  replace h3 := Eq.symm h3
  subst h3
  replace h4 := Eq.symm h4
  subst h4
  replace h6 := Eq.symm h6
  subst h6
  replace h9 := Eq.symm h9
  subst h9
  replace h10 := Eq.symm h10
  subst h10
  replace h11 := Eq.symm h11
  subst h11
  replace h12 := Eq.symm h12
  subst h12
  replace h13 := Eq.symm h13
  subst h13
  replace h14 := Eq.symm h14
  subst h14
  exact (Eq.trans (if_neg h5) (Eq.trans (if_pos h7) (Eq.trans (if_pos h8) rfl)))
theorem F_m_reckons_1_p5 {x_1 : Int32} {o : Nat} {x_152 : Int32} {x_153 : Int32} {S_154 : dg_S} {x_217 : Int32} {x_216 : Int32} {S_215 : dg_S} {x_156 : Int32} {x_157 : Int32} {x_158 : Int32} {x_160 : Int32} {x_161 : Int32} {x_166 : Int32} {x_212 : Int32} {x_213 : Int64} (h0 : x_156 = (1600 : Int32) * x_1) (h1 : x_157 = (3 : Int32) * x_1) (h2 : x_158 = x_157 + (1 : Int32)) (h3 : x_160 = S_154.2.1 17 (x_158 : Int32).toNatClampNeg) (h4 : x_161 = x_156 + x_160) (h5 : ¬ (x_161 ≤ x_152)) (h6 : x_166 = S_154.2.1 18 (x_152 : Int32).toNatClampNeg) (h7 : ¬ ((30 : Int32) < x_166)) (h8 : ¬ (x_166 = (0 : Int32))) (h9 : ¬ (x_166 = (30 : Int32))) (h10 : x_212 = S_154.2.1 41 (x_166 : Int32).toNatClampNeg) (h11 : x_213 = Int32.toInt64 x_212) (h12 : S_215 = dg_ul S_154 40 (vp_updL (S_154.2.2 40) (x_153 : Int32).toNatClampNeg x_213)) (h13 : x_216 = x_153 + 1) (h14 : x_217 = x_152 + 1) : (F_m_reckons_1_B1 x_1 o) (x_152, x_153, S_154) = Sum.inl (x_217, x_216, S_215) := by
  replace h0 := Eq.symm h0
  subst h0
  replace h1 := Eq.symm h1
  subst h1
  replace h2 := Eq.symm h2
  subst h2
  replace h3 := Eq.symm h3
  subst h3
  replace h4 := Eq.symm h4
  subst h4
  replace h6 := Eq.symm h6
  subst h6
  replace h10 := Eq.symm h10
  subst h10
  replace h11 := Eq.symm h11
  subst h11
  replace h12 := Eq.symm h12
  subst h12
  replace h13 := Eq.symm h13
  subst h13
  replace h14 := Eq.symm h14
  subst h14
  exact (Eq.trans (if_neg h5) (Eq.trans (if_neg h7) (Eq.trans (if_neg h8) (Eq.trans (if_neg h9) rfl))))
theorem F_m_reckons_1_p6 {x_1 : Int32} {o : Nat} {x_152 : Int32} {x_153 : Int32} {S_154 : dg_S} {x_221 : Int32} {x_220 : Int32} {S_219 : dg_S} {x_156 : Int32} {x_157 : Int32} {x_158 : Int32} {x_160 : Int32} {x_161 : Int32} {x_166 : Int32} (h0 : x_156 = (1600 : Int32) * x_1) (h1 : x_157 = (3 : Int32) * x_1) (h2 : x_158 = x_157 + (1 : Int32)) (h3 : x_160 = S_154.2.1 17 (x_158 : Int32).toNatClampNeg) (h4 : x_161 = x_156 + x_160) (h5 : ¬ (x_161 ≤ x_152)) (h6 : x_166 = S_154.2.1 18 (x_152 : Int32).toNatClampNeg) (h7 : ¬ ((30 : Int32) < x_166)) (h8 : ¬ (x_166 = (0 : Int32))) (h9 : x_166 = (30 : Int32)) (h10 : S_219 = dg_ul S_154 40 (vp_updL (S_154.2.2 40) (x_153 : Int32).toNatClampNeg (1 : Int64))) (h11 : x_220 = x_153 + 1) (h12 : x_221 = x_152 + 1) : (F_m_reckons_1_B1 x_1 o) (x_152, x_153, S_154) = Sum.inl (x_221, x_220, S_219) := by
  replace h0 := Eq.symm h0
  subst h0
  replace h1 := Eq.symm h1
  subst h1
  replace h2 := Eq.symm h2
  subst h2
  replace h3 := Eq.symm h3
  subst h3
  replace h4 := Eq.symm h4
  subst h4
  replace h6 := Eq.symm h6
  subst h6
  replace h10 := Eq.symm h10
  subst h10
  replace h11 := Eq.symm h11
  subst h11
  replace h12 := Eq.symm h12
  subst h12
  exact (Eq.trans (if_neg h5) (Eq.trans (if_neg h7) (Eq.trans (if_neg h8) (Eq.trans (if_pos h9) rfl))))
theorem F_m_reckons_1_p7 {x_1 : Int32} {o : Nat} {x_152 : Int32} {x_153 : Int32} {S_154 : dg_S} {x_228 : Int32} {x_227 : Int32} {S_226 : dg_S} {x_156 : Int32} {x_157 : Int32} {x_158 : Int32} {x_160 : Int32} {x_161 : Int32} {x_166 : Int32} {x_223 : Int32} {x_224 : Int64} (h0 : x_156 = (1600 : Int32) * x_1) (h1 : x_157 = (3 : Int32) * x_1) (h2 : x_158 = x_157 + (1 : Int32)) (h3 : x_160 = S_154.2.1 17 (x_158 : Int32).toNatClampNeg) (h4 : x_161 = x_156 + x_160) (h5 : ¬ (x_161 ≤ x_152)) (h6 : x_166 = S_154.2.1 18 (x_152 : Int32).toNatClampNeg) (h7 : ¬ ((30 : Int32) < x_166)) (h8 : x_166 = (0 : Int32)) (h9 : x_223 = S_154.2.1 19 (x_152 : Int32).toNatClampNeg) (h10 : x_224 = Int32.toInt64 x_223) (h11 : S_226 = dg_ul S_154 40 (vp_updL (S_154.2.2 40) (x_153 : Int32).toNatClampNeg x_224)) (h12 : x_227 = x_153 + 1) (h13 : x_228 = x_152 + 1) : (F_m_reckons_1_B1 x_1 o) (x_152, x_153, S_154) = Sum.inl (x_228, x_227, S_226) := by
  replace h0 := Eq.symm h0
  subst h0
  replace h1 := Eq.symm h1
  subst h1
  replace h2 := Eq.symm h2
  subst h2
  replace h3 := Eq.symm h3
  subst h3
  replace h4 := Eq.symm h4
  subst h4
  replace h6 := Eq.symm h6
  subst h6
  replace h9 := Eq.symm h9
  subst h9
  replace h10 := Eq.symm h10
  subst h10
  replace h11 := Eq.symm h11
  subst h11
  replace h12 := Eq.symm h12
  subst h12
  replace h13 := Eq.symm h13
  subst h13
  exact (Eq.trans (if_neg h5) (Eq.trans (if_neg h7) (Eq.trans (if_pos h8) rfl)))
theorem F_m_reckons_1_p8 {o : Nat} {S : dg_S} {x_1 : Int32} {x_7 : Int32} {x_2 : Int32} {x_3 : Int32} {x_4 : Int32} {x_6 : Int32} (h0 : x_1 = zI S 0 13) (h1 : x_2 = (1600 : Int32) * x_1) (h2 : x_3 = (3 : Int32) * x_1) (h3 : x_4 = x_3 + (1 : Int32)) (h4 : x_6 = S.2.1 16 (x_4 : Int32).toNatClampNeg) (h5 : x_7 = x_2 + x_6) : F_m_reckons_1 o S = lp (F_m_reckons_1_B1 x_1 o) (S, (0 : Int64)) ((3201 - ((x_7 : Int32)).toInt).toNat + 1) (x_7, (0 : Int32), S) := by
  replace h0 := Eq.symm h0
  subst h0
  replace h1 := Eq.symm h1
  subst h1
  replace h2 := Eq.symm h2
  subst h2
  replace h3 := Eq.symm h3
  subst h3
  replace h4 := Eq.symm h4
  subst h4
  replace h5 := Eq.symm h5
  subst h5
  exact rfl
set_option maxHeartbeats 8000000 in
set_option maxRecDepth 100000 in
theorem c_m_reckons_1 (l : Launch) (g : Nat → ClassId) (D : va_G) (o : Nat) (S : dg_S) (ZW : ZWM S) (T1 : ZT1M S) (I : CM o S) (sz : Nat) : Met l yX12_reckons (bw yX12_reckons cX12_reckons 5 (some .long)) ({ frames := 3, cells := 0, slots := 0, locals := 81 } : Room) (dk_Pc g D (dg_w g shM o rfM S) sz [.ref (o + 0), .int 1]) (va_Ql (fun (r : Int64) S' => CM o S' ∧ dg_sm shM [] [40] S S' ∧ (S' = (F_m_reckons_1 o S).1 ∧ r = (F_m_reckons_1 o S).2) ∧ True) (dg_B g D shM o rfM) (dg_A o shM.length sz)) 0 0 (dg_A o shM.length sz) := by
  refine dg_met (cc := cX12_reckons) (maxL := 5) (ret := (some .long)) (dk_dq rfl) rfl (Nat.le_of_ble_eq_true rfl) ?_
  intro p e s m args below meth c A hAe harg hx hb hr hml hts hown hlocks hin hP K hS hA1 hA ST hsz ls hl
  rw [← hAe]
  have F : CallFix p m c cX12_reckons 5 s args (bw yX12_reckons cX12_reckons 5 (some .long)) RX12 := ⟨hx, hb, hml, hown, hts⟩
  have hl : lv_has ls 5 [(0, .ref (o + 0)), (1, .int 1)] := hl
  have M_0 : dg_sm shM [] [40] S S := dg_sm.rf
  obtain ⟨x_1, f_x_1, b_x_1⟩ := dg_I.int (i := 0) (k := 13) (lo := 0) (hi := 1) I sM_0 (by decide +kernel)
  obtain ⟨fr, f_fr⟩ : ∃ x, S.2.1 16 (3 * (x_1).toNatClampNeg + 1) = x := ⟨_, rfl⟩
  obtain ⟨bh, f_bh⟩ : ∃ x, S.2.1 17 (3 * (x_1).toNatClampNeg + 1) = x := ⟨_, rfl⟩
  obtain ⟨hfr0, hfr1, hbh, h_rk⟩ := ZWM.at ZW f_x_1 (k := 1) (dk_dq rfl) f_fr f_bh (T1 _ f_x_1)
  refine lv_iconst (v := 0) hx hb dX12_reckons_0 (by decide +kernel) ?_
  refine lv_istore_n (lv' := [(2, .int 0), (0, .ref (o + 0)), (1, .int 1)]) hx hb dX12_reckons_1 rfl hl (dk_dq rfl) rfl (fun ls hl => ?_)
  refine lv_sipush (v := 1600) hx hb dX12_reckons_2 (by decide +kernel) ?_
  refine lv_aload_n hx hb dX12_reckons_5 rfl (lv_at hl 1 rfl) ?_
  refine dg_get (C := RX12) (T := TX12) (N := 77) hx hb hts (fun w h => bw_mem (wU_X12 w h)) hown K hP sM_0 rfl 13 (dk_dq rfl) (hts _ (bw_mem wB_1085)) (fun _ h9 => h9) (v := .int x_1) f_x_1 dX12_reckons_6 ?_
  refine lv_imul hx hb dX12_reckons_9 ?_
  refine lv_topi (fun x_2 ex_2 => ?_)
  have jx_2 : (x_2).toInt = 1600 * (x_1).toInt := by rw [ex_2]; exact dk_mulT2 (by decide +kernel) rfl (by omega)
  refine lv_aload_n hx hb dX12_reckons_10 rfl (lv_at hl 1 rfl) ?_
  refine dg_get (C := RX12) (T := TX12) (N := 77) hx hb hts (fun w h => bw_mem (wU_X12 w h)) hown K hP sM_0 rfl 28 (dk_dq rfl) (hts _ (bw_mem wB_449)) (fun _ h9 => h9) (v := .ref (o + 16)) (show S.1 0 28 = .ref (o + 16) from dg_I.rel (d := 16) I sM_0 (by decide +kernel)) dX12_reckons_11 ?_
  refine lv_iconst (v := 3) hx hb dX12_reckons_14 (by decide +kernel) ?_
  refine lv_aload_n hx hb dX12_reckons_15 rfl (lv_at hl 1 rfl) ?_
  refine dg_get (C := RX12) (T := TX12) (N := 77) hx hb hts (fun w h => bw_mem (wU_X12 w h)) hown K hP sM_0 rfl 13 (dk_dq rfl) (hts _ (bw_mem wB_1085)) (fun _ h9 => h9) (v := .int x_1) f_x_1 dX12_reckons_16 ?_
  refine lv_imul hx hb dX12_reckons_19 ?_
  refine lv_topi (fun x_3 ex_3 => ?_)
  have jx_3 : (x_3).toInt = 3 * (x_1).toInt := by rw [ex_3]; exact dk_mulT2 (by decide +kernel) rfl (by omega)
  refine lv_iload_n hx hb dX12_reckons_20 rfl (lv_at hl 2 rfl) ?_
  refine lv_iadd hx hb dX12_reckons_21 ?_
  refine lv_topi (fun x_4 ex_4 => ?_)
  have jx_4 : (x_4).toInt = (x_3).toInt + 1 := by rw [ex_4]; exact dk_addT2 rfl (by decide +kernel) (by omega)
  have hin_5 : vp_in x_4 6 := (dk_inv2 (by omega))
  refine dg_iald hx hb K hP sM_16 hin_5 dX12_reckons_22 (fun x_6 ex_6 => ?_)
  have b_x_6 := dk_all_at (dg_I.row (lo := (-1)) (hi := 1600) I sM_16 (by decide +kernel)) hin_5 ex_6
  have hk_x_6 : (x_6).toInt = (fr).toInt := by rw [ex_6, (show (x_4 : Int32).toNatClampNeg = 3 * (x_1).toNatClampNeg + 1 from by have h8 := (dk_inT hin_5).1; rw [dk_clN x_1]; omega), f_fr]
  refine lv_iadd hx hb dX12_reckons_23 ?_
  refine lv_topi (fun x_7 ex_7 => ?_)
  have jx_7 : (x_7).toInt = (x_2).toInt + (x_6).toInt := by rw [ex_7]; exact dk_addT2 rfl rfl (by omega)
  refine lv_istore_n (lv' := [(3, .int x_7), (2, .int 0), (0, .ref (o + 0)), (1, .int 1)]) hx hb dX12_reckons_24 rfl hl (dk_dq rfl) rfl (fun ls hl => ?_)
  have L_155 : ∀ (n : Nat) (x_152 : Int32) (x_153 : Int32), (0 ≤ (x_152).toInt ∧ (x_152).toInt ≤ 3200) → (0 ≤ (x_153).toInt ∧ (x_153).toInt ≤ 401) → (∃ m9, dk_ok (S.2.1 18) (1600 * (x_1).toInt + (bh).toInt - (x_152).toInt).toNat (x_152).toNatClampNeg (x_153).toInt m9) → ((3201 - (x_152).toInt).toNat < n) → ∀ S_154 : dg_S, CM o S_154 → dg_sm shM [] [40] S S_154 → (F_m_reckons_1 o S = lp (F_m_reckons_1_B1 x_1 o) (S, (0 : Int64)) n (x_152, x_153, S_154)) → ∀ (H : Heap) (locs : List Loc), va_P D vwCl (dg_w g shM o rfM S_154) H → va_S A s.heap H locs → ∀ ls : Array Slot, lv_has ls 5 [(3, .int x_152), (2, .int x_153), (0, .ref (o + 0)), (1, .int 1)] → W p l e ({ frames := 3, cells := 0, slots := 0, locals := 81 } : Room) s m args below meth c H locs 0 0 (MQ below (va_Ql (fun (r : Int64) S' => CM o S' ∧ dg_sm shM [] [40] S S' ∧ (S' = (F_m_reckons_1 o S).1 ∧ r = (F_m_reckons_1 o S).2) ∧ True) (dg_B g D shM o rfM) A) args s 0 0 A) (F0 m 25 ls []) := by
    as_aux_lemma =>
      intro n
      induction n with
      | zero =>
        intro x_152 x_153 b_x_152 b_x_153 rel_0 hmu S_154 I_154 M_154 hF_1 H locs hP hS ls hl
        omega
      | succ n ih =>
        as_aux_lemma =>
          intro x_152 x_153 b_x_152 b_x_153 rel_0 hmu S_154 I_154 M_154 hF_1 H locs hP hS ls hl
          refine lv_iload_n hx hb dX12_reckons_25 rfl (lv_at hl 0 rfl) ?_
          refine lv_sipush (v := 1600) hx hb dX12_reckons_26 (by decide +kernel) ?_
          refine lv_aload_n hx hb dX12_reckons_29 rfl (lv_at hl 2 rfl) ?_
          refine dg_get (C := RX12) (T := TX12) (N := 77) hx hb hts (fun w h => bw_mem (wU_X12 w h)) hown K hP sM_0 rfl 13 (dk_dq rfl) (hts _ (bw_mem wB_1085)) (fun _ h9 => h9) (v := .int x_1) ((M_154.1 0 13 _ sM_0 (dk_dq rfl)).trans f_x_1) dX12_reckons_30 ?_
          refine lv_imul hx hb dX12_reckons_33 ?_
          refine lv_topi (fun x_156 ex_156 => ?_)
          have jx_156 : (x_156).toInt = 1600 * (x_1).toInt := by rw [ex_156]; exact dk_mulT2 (by decide +kernel) rfl (by omega)
          refine lv_aload_n hx hb dX12_reckons_34 rfl (lv_at hl 2 rfl) ?_
          refine dg_get (C := RX12) (T := TX12) (N := 77) hx hb hts (fun w h => bw_mem (wU_X12 w h)) hown K hP sM_0 rfl 29 (dk_dq rfl) (hts _ (bw_mem wB_454)) (fun _ h9 => h9) (v := .ref (o + 17)) (show S_154.1 0 29 = .ref (o + 17) from dg_I.rel (d := 17) I_154 sM_0 (by decide +kernel)) dX12_reckons_35 ?_
          refine lv_iconst (v := 3) hx hb dX12_reckons_38 (by decide +kernel) ?_
          refine lv_aload_n hx hb dX12_reckons_39 rfl (lv_at hl 2 rfl) ?_
          refine dg_get (C := RX12) (T := TX12) (N := 77) hx hb hts (fun w h => bw_mem (wU_X12 w h)) hown K hP sM_0 rfl 13 (dk_dq rfl) (hts _ (bw_mem wB_1085)) (fun _ h9 => h9) (v := .int x_1) ((M_154.1 0 13 _ sM_0 (dk_dq rfl)).trans f_x_1) dX12_reckons_40 ?_
          refine lv_imul hx hb dX12_reckons_43 ?_
          refine lv_topi (fun x_157 ex_157 => ?_)
          have jx_157 : (x_157).toInt = 3 * (x_1).toInt := by rw [ex_157]; exact dk_mulT2 (by decide +kernel) rfl (by omega)
          refine lv_iload_n hx hb dX12_reckons_44 rfl (lv_at hl 3 rfl) ?_
          refine lv_iadd hx hb dX12_reckons_45 ?_
          refine lv_topi (fun x_158 ex_158 => ?_)
          have jx_158 : (x_158).toInt = (x_157).toInt + 1 := by rw [ex_158]; exact dk_addT2 rfl (by decide +kernel) (by omega)
          have hin_159 : vp_in x_158 6 := (dk_inv2 (by omega))
          refine dg_iald hx hb K hP sM_17 hin_159 dX12_reckons_46 (fun x_160 ex_160 => ?_)
          have b_x_160 := dk_all_at (dg_I.row (lo := 0) (hi := 1600) I_154 sM_17 (by decide +kernel)) hin_159 ex_160
          have hk_x_160 : (x_160).toInt = (bh).toInt := by rw [ex_160, ((M_154.2 17 _ sM_17 (dk_dq rfl)).1), (show (x_158 : Int32).toNatClampNeg = 3 * (x_1).toNatClampNeg + 1 from by have h8 := (dk_inT hin_159).1; rw [dk_clN x_1]; omega), f_bh]
          refine lv_iadd hx hb dX12_reckons_47 ?_
          refine lv_topi (fun x_161 ex_161 => ?_)
          have jx_161 : (x_161).toInt = (x_156).toInt + (x_160).toInt := by rw [ex_161]; exact dk_addT2 rfl rfl (by omega)
          refine lv_icmp_ge (tgt := 227) hx hb dX12_reckons_48 (dk_dq rfl) (fun c_162 => ?_) (fun c_162 => ?_)
          · have jc_162 := dk_gec (k := (x_161).toInt) rfl c_162
            refine lv_aload_n hx hb dX12_reckons_227 rfl (lv_at hl 2 rfl) ?_
            refine dg_get (C := RX12) (T := TX12) (N := 77) hx hb hts (fun w h => bw_mem (wU_X12 w h)) hown K hP sM_0 rfl 64 (dk_dq rfl) (hts _ (bw_mem wB_1143)) (fun _ h9 => h9) (v := .ref (o + 40)) (show S_154.1 0 64 = .ref (o + 40) from dg_I.rel (d := 40) I_154 sM_0 (by decide +kernel)) dX12_reckons_228 ?_
            refine lv_iconst (v := 0) hx hb dX12_reckons_231 (by decide +kernel) ?_
            have hin_163 : vp_in (0 : Int32) 500 := (dk_in (by decide +kernel))
            refine dg_lald hx hb K hP sM_40 hin_163 dX12_reckons_232 (fun x_164 ex_164 => ?_)
            refine W.widen (k := 0) (n := 0) (Nat.le_of_ble_eq_true rfl) (Nat.le_of_ble_eq_true rfl) ?_
            exact dg_lret hx hb hr hlocks hP hS ⟨I_154, M_154, ⟨congrArg Prod.fst (Eq.symm (lp_r hF_1 (F_m_reckons_1_p0 ex_156 ex_157 ex_158 (Eq.symm ex_160.symm) ex_161 c_162 (Eq.symm ex_164.symm)))), congrArg Prod.snd (Eq.symm (lp_r hF_1 (F_m_reckons_1_p0 ex_156 ex_157 ex_158 (Eq.symm ex_160.symm) ex_161 c_162 (Eq.symm ex_164.symm))))⟩, trivial⟩ dX12_reckons_233
          · as_aux_lemma =>
              have jc_162 := dk_ngec (k := (x_161).toInt) rfl c_162
              refine lv_aload_n hx hb dX12_reckons_51 rfl (lv_at hl 2 rfl) ?_
              refine dg_get (C := RX12) (T := TX12) (N := 77) hx hb hts (fun w h => bw_mem (wU_X12 w h)) hown K hP sM_0 rfl 30 (dk_dq rfl) (hts _ (bw_mem wB_401)) (fun _ h9 => h9) (v := .ref (o + 18)) (show S_154.1 0 30 = .ref (o + 18) from dg_I.rel (d := 18) I_154 sM_0 (by decide +kernel)) dX12_reckons_52 ?_
              refine lv_iload_n hx hb dX12_reckons_55 rfl (lv_at hl 0 rfl) ?_
              have hin_165 : vp_in x_152 3200 := (dk_inv2 (by omega))
              refine dg_iald hx hb K hP sM_18 hin_165 dX12_reckons_56 (fun x_166 ex_166 => ?_)
              have b_x_166 := dk_all_at (dg_I.row (lo := 0) (hi := 44) I_154 sM_18 (by decide +kernel)) hin_165 ex_166
              obtain ⟨n9_x_166, hst_x_166, hok_x_166⟩ := dk_ok.next rel_0 (by omega) (by omega) (show x_166 = S.2.1 18 (x_152 : Int32).toNatClampNeg from by rw [ex_166, ((M_154.2 18 _ sM_18 (dk_dq rfl)).1)])
              unfold dk_st at hst_x_166
              refine lv_istore (lv' := [(4, .int x_166), (3, .int x_152), (2, .int x_153), (0, .ref (o + 0)), (1, .int 1)]) hx hb dX12_reckons_57 hl (dk_dq rfl) rfl (fun ls hl => ?_)
              refine lv_iload hx hb dX12_reckons_59 (lv_at hl 0 rfl) ?_
              refine lv_bipush (v := 30) hx hb dX12_reckons_61 (by decide +kernel) ?_
              refine lv_icmp_gt (tgt := 112) hx hb dX12_reckons_63 (dk_dq rfl) (fun c_167 => ?_) (fun c_167 => ?_)
              · as_aux_lemma =>
                  have jc_167 := dk_gtc (k := 30) (by decide +kernel) c_167
                  refine lv_iload hx hb dX12_reckons_112 (lv_at hl 0 rfl) ?_
                  refine lv_bipush (v := 43) hx hb dX12_reckons_114 (by decide +kernel) ?_
                  refine lv_icmp_ne (tgt := 140) hx hb dX12_reckons_116 (dk_dq rfl) (fun c_168 => ?_) (fun c_168 => ?_)
                  · as_aux_lemma =>
                      have jc_168 := dk_neqc (k := 43) (by decide +kernel) c_168
                      refine lv_iload hx hb dX12_reckons_140 (lv_at hl 0 rfl) ?_
                      refine lv_bipush (v := 44) hx hb dX12_reckons_142 (by decide +kernel) ?_
                      refine lv_icmp_ne (tgt := 191) hx hb dX12_reckons_144 (dk_dq rfl) (fun c_169 => ?_) (fun c_169 => ?_)
                      · as_aux_lemma =>
                          have jc_169 := dk_neqc (k := 44) (by decide +kernel) c_169
                          obtain ⟨x_170, ex_170⟩ : ∃ z, z = x_153 + (-1) := ⟨_, rfl⟩
                          have jx_170 : (x_170).toInt = (x_153).toInt + (-1) := by rw [ex_170]; exact dk_addT2 rfl (by decide +kernel) (by omega)
                          refine lv_iinc (v := x_170) (lv' := [(2, .int x_170), (4, .int x_166), (3, .int x_152), (0, .ref (o + 0)), (1, .int 1)]) hx hb dX12_reckons_191 hl (k := 2) rfl (by rw [ex_170]; rfl) (dk_dq rfl) rfl (fun ls hl => ?_)
                          refine lv_aload_n hx hb dX12_reckons_194 rfl (lv_at hl 3 rfl) ?_
                          refine dg_get (C := RX12) (T := TX12) (N := 77) hx hb hts (fun w h => bw_mem (wU_X12 w h)) hown K hP sM_0 rfl 64 (dk_dq rfl) (hts _ (bw_mem wB_1143)) (fun _ h9 => h9) (v := .ref (o + 40)) (show S_154.1 0 64 = .ref (o + 40) from dg_I.rel (d := 40) I_154 sM_0 (by decide +kernel)) dX12_reckons_195 ?_
                          refine lv_iload_n hx hb dX12_reckons_198 rfl (lv_at hl 0 rfl) ?_
                          refine lv_iconst (v := 1) hx hb dX12_reckons_199 (by decide +kernel) ?_
                          refine lv_isub hx hb dX12_reckons_200 ?_
                          refine lv_topi (fun x_171 ex_171 => ?_)
                          have jx_171 : (x_171).toInt = (x_170).toInt - 1 := by rw [ex_171]; exact dk_subT2 rfl (by decide +kernel) (by omega)
                          refine lv_iload hx hb dX12_reckons_201 (lv_at hl 1 rfl) ?_
                          refine lv_aload_n hx hb dX12_reckons_203 rfl (lv_at hl 3 rfl) ?_
                          refine dg_get (C := RX12) (T := TX12) (N := 77) hx hb hts (fun w h => bw_mem (wU_X12 w h)) hown K hP sM_0 rfl 64 (dk_dq rfl) (hts _ (bw_mem wB_1143)) (fun _ h9 => h9) (v := .ref (o + 40)) (show S_154.1 0 64 = .ref (o + 40) from dg_I.rel (d := 40) I_154 sM_0 (by decide +kernel)) dX12_reckons_204 ?_
                          refine lv_iload_n hx hb dX12_reckons_207 rfl (lv_at hl 0 rfl) ?_
                          refine lv_iconst (v := 1) hx hb dX12_reckons_208 (by decide +kernel) ?_
                          refine lv_isub hx hb dX12_reckons_209 ?_
                          refine lv_topi (fun x_172 ex_172 => ?_)
                          have jx_172 : (x_172).toInt = (x_170).toInt - 1 := by rw [ex_172]; exact dk_subT2 rfl (by decide +kernel) (by omega)
                          have hin_173 : vp_in x_172 500 := (dk_inv2 (by omega))
                          refine dg_lald hx hb K hP sM_40 hin_173 dX12_reckons_210 (fun x_174 ex_174 => ?_)
                          refine lv_aload_n hx hb dX12_reckons_211 rfl (lv_at hl 3 rfl) ?_
                          refine dg_get (C := RX12) (T := TX12) (N := 77) hx hb hts (fun w h => bw_mem (wU_X12 w h)) hown K hP sM_0 rfl 64 (dk_dq rfl) (hts _ (bw_mem wB_1143)) (fun _ h9 => h9) (v := .ref (o + 40)) (show S_154.1 0 64 = .ref (o + 40) from dg_I.rel (d := 40) I_154 sM_0 (by decide +kernel)) dX12_reckons_212 ?_
                          refine lv_iload_n hx hb dX12_reckons_215 rfl (lv_at hl 0 rfl) ?_
                          have hin_175 : vp_in x_170 500 := (dk_inv2 (by omega))
                          refine dg_lald hx hb K hP sM_40 hin_175 dX12_reckons_216 (fun x_176 ex_176 => ?_)
                          refine dg_calll hS hA1 hA (va_runS (As := [.int x_166, .long x_174, .long x_176]) (rest := [.int x_171, .ref (o + 40)]) F (c_m_two l g D o S_154 x_166 x_174 x_176 I_154 H.size) (va_cwS 3 hts (bw_S wB_1145 wB_1146 wB_297 wB_1144) rfl rfl rfl (by decide +kernel) ⟨Nat.le_of_ble_eq_true rfl, Nat.le_of_ble_eq_true rfl⟩) (dg_preS K ST hP hS hA1 hA) rfl rfl hl.1 rfl (lv_room (Nat.le_of_ble_eq_true rfl)) dX12_reckons_217 ⟨Nat.le_of_ble_eq_true rfl, Nat.le_of_ble_eq_true rfl⟩) (fun x_177 S_178 hw_178 H locs hP hS => ?_)
                          rw [hw_178.1] at hP
                          obtain ⟨hq_178, w_178_0, -⟩ := hw_178
                          have hin_179 : vp_in x_171 500 := (dk_inv2 (by omega))
                          refine dg_last hx hb K hP hS hA1 sM_40 hin_179 dX12_reckons_220 (fun S_180 e_180 H locs hP hS => ?_)
                          have I_180 := dg_I.ul I_154 e_180
                          have M_180 := dg_sm.ul M_154 e_180 sM_40 (dk_dq rfl)
                          obtain ⟨x_181, ex_181⟩ : ∃ z, z = x_152 + 1 := ⟨_, rfl⟩
                          have jx_181 : (x_181).toInt = (x_152).toInt + 1 := by rw [ex_181]; exact dk_addT2 rfl (by decide +kernel) (by omega)
                          refine lv_iinc (v := x_181) (lv' := [(3, .int x_181), (2, .int x_170), (4, .int x_166), (0, .ref (o + 0)), (1, .int 1)]) hx hb dX12_reckons_221 hl (k := 2) rfl (by rw [ex_181]; rfl) (dk_dq rfl) rfl (fun ls hl => ?_)
                          refine lv_goto (tgt := 25) hx hb dX12_reckons_224 (dk_dq rfl) ?_
                          exact ih x_181 x_170 (by omega) (by omega) (dk_ok.go hok_x_166 (by omega) (by omega) (by omega)) (by first | exact mu_lt hmu (by omega) (by omega) | omega) S_180 I_180 M_180  (lp_l hF_1 (F_m_reckons_1_p1 ex_156 ex_157 ex_158 (Eq.symm ex_160.symm) ex_161 c_162 (Eq.symm ex_166.symm) c_167 c_168 c_169 ex_170 ex_171 ex_172 (Eq.symm ex_174.symm) (Eq.symm ex_176.symm) w_178_0 e_180 ex_181)) _ _ hP hS _ (lv_sub hl [0, 1, 3, 4] rfl)
                      · as_aux_lemma =>
                          have jc_169 := dk_eqc (k := 44) (by decide +kernel) c_169
                          obtain ⟨x_182, ex_182⟩ : ∃ z, z = x_153 + (-2) := ⟨_, rfl⟩
                          have jx_182 : (x_182).toInt = (x_153).toInt + (-2) := by rw [ex_182]; exact dk_addT2 rfl (by decide +kernel) (by omega)
                          refine lv_iinc (v := x_182) (lv' := [(2, .int x_182), (4, .int x_166), (3, .int x_152), (0, .ref (o + 0)), (1, .int 1)]) hx hb dX12_reckons_147 hl (k := 2) rfl (by rw [ex_182]; rfl) (dk_dq rfl) rfl (fun ls hl => ?_)
                          refine lv_aload_n hx hb dX12_reckons_150 rfl (lv_at hl 3 rfl) ?_
                          refine dg_get (C := RX12) (T := TX12) (N := 77) hx hb hts (fun w h => bw_mem (wU_X12 w h)) hown K hP sM_0 rfl 64 (dk_dq rfl) (hts _ (bw_mem wB_1143)) (fun _ h9 => h9) (v := .ref (o + 40)) (show S_154.1 0 64 = .ref (o + 40) from dg_I.rel (d := 40) I_154 sM_0 (by decide +kernel)) dX12_reckons_151 ?_
                          refine lv_iload_n hx hb dX12_reckons_154 rfl (lv_at hl 0 rfl) ?_
                          refine lv_iconst (v := 1) hx hb dX12_reckons_155 (by decide +kernel) ?_
                          refine lv_isub hx hb dX12_reckons_156 ?_
                          refine lv_topi (fun x_183 ex_183 => ?_)
                          have jx_183 : (x_183).toInt = (x_182).toInt - 1 := by rw [ex_183]; exact dk_subT2 rfl (by decide +kernel) (by omega)
                          refine lv_aload_n hx hb dX12_reckons_157 rfl (lv_at hl 3 rfl) ?_
                          refine dg_get (C := RX12) (T := TX12) (N := 77) hx hb hts (fun w h => bw_mem (wU_X12 w h)) hown K hP sM_0 rfl 64 (dk_dq rfl) (hts _ (bw_mem wB_1143)) (fun _ h9 => h9) (v := .ref (o + 40)) (show S_154.1 0 64 = .ref (o + 40) from dg_I.rel (d := 40) I_154 sM_0 (by decide +kernel)) dX12_reckons_158 ?_
                          refine lv_iload_n hx hb dX12_reckons_161 rfl (lv_at hl 0 rfl) ?_
                          refine lv_iconst (v := 1) hx hb dX12_reckons_162 (by decide +kernel) ?_
                          refine lv_isub hx hb dX12_reckons_163 ?_
                          refine lv_topi (fun x_184 ex_184 => ?_)
                          have jx_184 : (x_184).toInt = (x_182).toInt - 1 := by rw [ex_184]; exact dk_subT2 rfl (by decide +kernel) (by omega)
                          have hin_185 : vp_in x_184 500 := (dk_inv2 (by omega))
                          refine dg_lald hx hb K hP sM_40 hin_185 dX12_reckons_164 (fun x_186 ex_186 => ?_)
                          refine lv_lconst (v := 1) hx hb dX12_reckons_165 (by decide +kernel) ?_
                          refine W.lcmp hx hb dX12_reckons_166 ?_
                          refine lv_topi (fun x_187 ex_187 => ?_)
                          have hz_187 : (1 : Int64).toInt = 1 := by decide +kernel
                          have hlc_x_187 := dk_lcmp ex_187
                          refine lv_if_ne (tgt := 179) hx hb dX12_reckons_167 (dk_dq rfl) (fun c_189 => ?_) (fun c_189 => ?_)
                          · as_aux_lemma =>
                              have jc_189 := dk_neqc (k := 0) (by decide +kernel) c_189
                              refine lv_aload_n hx hb dX12_reckons_179 rfl (lv_at hl 3 rfl) ?_
                              refine dg_get (C := RX12) (T := TX12) (N := 77) hx hb hts (fun w h => bw_mem (wU_X12 w h)) hown K hP sM_0 rfl 64 (dk_dq rfl) (hts _ (bw_mem wB_1143)) (fun _ h9 => h9) (v := .ref (o + 40)) (show S_154.1 0 64 = .ref (o + 40) from dg_I.rel (d := 40) I_154 sM_0 (by decide +kernel)) dX12_reckons_180 ?_
                              refine lv_iload_n hx hb dX12_reckons_183 rfl (lv_at hl 0 rfl) ?_
                              refine lv_iconst (v := 1) hx hb dX12_reckons_184 (by decide +kernel) ?_
                              refine lv_iadd hx hb dX12_reckons_185 ?_
                              refine lv_topi (fun x_190 ex_190 => ?_)
                              have jx_190 : (x_190).toInt = (x_182).toInt + 1 := by rw [ex_190]; exact dk_addT2 rfl (by decide +kernel) (by omega)
                              have hin_191 : vp_in x_190 500 := (dk_inv2 (by omega))
                              refine dg_lald hx hb K hP sM_40 hin_191 dX12_reckons_186 (fun x_192 ex_192 => ?_)
                              have hin_193 : vp_in x_183 500 := (dk_inv2 (by omega))
                              refine dg_last hx hb K hP hS hA1 sM_40 hin_193 dX12_reckons_187 (fun S_194 e_194 H locs hP hS => ?_)
                              have I_194 := dg_I.ul I_154 e_194
                              have M_194 := dg_sm.ul M_154 e_194 sM_40 (dk_dq rfl)
                              refine lv_goto (tgt := 221) hx hb dX12_reckons_188 (dk_dq rfl) ?_
                              obtain ⟨x_195, ex_195⟩ : ∃ z, z = x_152 + 1 := ⟨_, rfl⟩
                              have jx_195 : (x_195).toInt = (x_152).toInt + 1 := by rw [ex_195]; exact dk_addT2 rfl (by decide +kernel) (by omega)
                              refine lv_iinc (v := x_195) (lv' := [(3, .int x_195), (2, .int x_182), (4, .int x_166), (0, .ref (o + 0)), (1, .int 1)]) hx hb dX12_reckons_221 hl (k := 2) rfl (by rw [ex_195]; rfl) (dk_dq rfl) rfl (fun ls hl => ?_)
                              refine lv_goto (tgt := 25) hx hb dX12_reckons_224 (dk_dq rfl) ?_
                              exact ih x_195 x_182 (by omega) (by omega) (dk_ok.go hok_x_166 (by omega) (by omega) (by omega)) (by first | exact mu_lt hmu (by omega) (by omega) | omega) S_194 I_194 M_194  (lp_l hF_1 (F_m_reckons_1_p2 ex_156 ex_157 ex_158 (Eq.symm ex_160.symm) ex_161 c_162 (Eq.symm ex_166.symm) c_167 c_168 c_169 ex_182 ex_183 ex_184 (Eq.symm ex_186.symm) ex_187 c_189 ex_190 (Eq.symm ex_192.symm) e_194 ex_195)) _ _ hP hS _ (lv_sub hl [0, 1, 3, 4] rfl)
                          · as_aux_lemma =>
                              have jc_189 := dk_eqc (k := 0) (by decide +kernel) c_189
                              refine lv_aload_n hx hb dX12_reckons_170 rfl (lv_at hl 3 rfl) ?_
                              refine dg_get (C := RX12) (T := TX12) (N := 77) hx hb hts (fun w h => bw_mem (wU_X12 w h)) hown K hP sM_0 rfl 64 (dk_dq rfl) (hts _ (bw_mem wB_1143)) (fun _ h9 => h9) (v := .ref (o + 40)) (show S_154.1 0 64 = .ref (o + 40) from dg_I.rel (d := 40) I_154 sM_0 (by decide +kernel)) dX12_reckons_171 ?_
                              refine lv_iload_n hx hb dX12_reckons_174 rfl (lv_at hl 0 rfl) ?_
                              have hin_196 : vp_in x_182 500 := (dk_inv2 (by omega))
                              refine dg_lald hx hb K hP sM_40 hin_196 dX12_reckons_175 (fun x_197 ex_197 => ?_)
                              refine lv_goto (tgt := 187) hx hb dX12_reckons_176 (dk_dq rfl) ?_
                              have hin_198 : vp_in x_183 500 := (dk_inv2 (by omega))
                              refine dg_last hx hb K hP hS hA1 sM_40 hin_198 dX12_reckons_187 (fun S_199 e_199 H locs hP hS => ?_)
                              have I_199 := dg_I.ul I_154 e_199
                              have M_199 := dg_sm.ul M_154 e_199 sM_40 (dk_dq rfl)
                              refine lv_goto (tgt := 221) hx hb dX12_reckons_188 (dk_dq rfl) ?_
                              obtain ⟨x_200, ex_200⟩ : ∃ z, z = x_152 + 1 := ⟨_, rfl⟩
                              have jx_200 : (x_200).toInt = (x_152).toInt + 1 := by rw [ex_200]; exact dk_addT2 rfl (by decide +kernel) (by omega)
                              refine lv_iinc (v := x_200) (lv' := [(3, .int x_200), (2, .int x_182), (4, .int x_166), (0, .ref (o + 0)), (1, .int 1)]) hx hb dX12_reckons_221 hl (k := 2) rfl (by rw [ex_200]; rfl) (dk_dq rfl) rfl (fun ls hl => ?_)
                              refine lv_goto (tgt := 25) hx hb dX12_reckons_224 (dk_dq rfl) ?_
                              exact ih x_200 x_182 (by omega) (by omega) (dk_ok.go hok_x_166 (by omega) (by omega) (by omega)) (by first | exact mu_lt hmu (by omega) (by omega) | omega) S_199 I_199 M_199  (lp_l hF_1 (F_m_reckons_1_p3 ex_156 ex_157 ex_158 (Eq.symm ex_160.symm) ex_161 c_162 (Eq.symm ex_166.symm) c_167 c_168 c_169 ex_182 ex_183 ex_184 (Eq.symm ex_186.symm) ex_187 c_189 (Eq.symm ex_197.symm) e_199 ex_200)) _ _ hP hS _ (lv_sub hl [0, 1, 3, 4] rfl)
                  · as_aux_lemma =>
                      have jc_168 := dk_eqc (k := 43) (by decide +kernel) c_168
                      refine lv_aload_n hx hb dX12_reckons_119 rfl (lv_at hl 3 rfl) ?_
                      refine dg_get (C := RX12) (T := TX12) (N := 77) hx hb hts (fun w h => bw_mem (wU_X12 w h)) hown K hP sM_0 rfl 64 (dk_dq rfl) (hts _ (bw_mem wB_1143)) (fun _ h9 => h9) (v := .ref (o + 40)) (show S_154.1 0 64 = .ref (o + 40) from dg_I.rel (d := 40) I_154 sM_0 (by decide +kernel)) dX12_reckons_120 ?_
                      refine lv_iload_n hx hb dX12_reckons_123 rfl (lv_at hl 2 rfl) ?_
                      refine lv_iconst (v := 1) hx hb dX12_reckons_124 (by decide +kernel) ?_
                      refine lv_isub hx hb dX12_reckons_125 ?_
                      refine lv_topi (fun x_201 ex_201 => ?_)
                      have jx_201 : (x_201).toInt = (x_153).toInt - 1 := by rw [ex_201]; exact dk_subT2 rfl (by decide +kernel) (by omega)
                      refine lv_lconst (v := 1) hx hb dX12_reckons_126 (by decide +kernel) ?_
                      refine lv_aload_n hx hb dX12_reckons_127 rfl (lv_at hl 3 rfl) ?_
                      refine dg_get (C := RX12) (T := TX12) (N := 77) hx hb hts (fun w h => bw_mem (wU_X12 w h)) hown K hP sM_0 rfl 64 (dk_dq rfl) (hts _ (bw_mem wB_1143)) (fun _ h9 => h9) (v := .ref (o + 40)) (show S_154.1 0 64 = .ref (o + 40) from dg_I.rel (d := 40) I_154 sM_0 (by decide +kernel)) dX12_reckons_128 ?_
                      refine lv_iload_n hx hb dX12_reckons_131 rfl (lv_at hl 2 rfl) ?_
                      refine lv_iconst (v := 1) hx hb dX12_reckons_132 (by decide +kernel) ?_
                      refine lv_isub hx hb dX12_reckons_133 ?_
                      refine lv_topi (fun x_202 ex_202 => ?_)
                      have jx_202 : (x_202).toInt = (x_153).toInt - 1 := by rw [ex_202]; exact dk_subT2 rfl (by decide +kernel) (by omega)
                      have hin_203 : vp_in x_202 500 := (dk_inv2 (by omega))
                      refine dg_lald hx hb K hP sM_40 hin_203 dX12_reckons_134 (fun x_204 ex_204 => ?_)
                      refine lv_lsub hx hb dX12_reckons_135 ?_
                      refine lv_topl (fun x_205 ex_205 => ?_)
                      have hin_206 : vp_in x_201 500 := (dk_inv2 (by omega))
                      refine dg_last hx hb K hP hS hA1 sM_40 hin_206 dX12_reckons_136 (fun S_207 e_207 H locs hP hS => ?_)
                      have I_207 := dg_I.ul I_154 e_207
                      have M_207 := dg_sm.ul M_154 e_207 sM_40 (dk_dq rfl)
                      refine lv_goto (tgt := 221) hx hb dX12_reckons_137 (dk_dq rfl) ?_
                      obtain ⟨x_208, ex_208⟩ : ∃ z, z = x_152 + 1 := ⟨_, rfl⟩
                      have jx_208 : (x_208).toInt = (x_152).toInt + 1 := by rw [ex_208]; exact dk_addT2 rfl (by decide +kernel) (by omega)
                      refine lv_iinc (v := x_208) (lv' := [(3, .int x_208), (4, .int x_166), (2, .int x_153), (0, .ref (o + 0)), (1, .int 1)]) hx hb dX12_reckons_221 hl (k := 1) rfl (by rw [ex_208]; rfl) (dk_dq rfl) rfl (fun ls hl => ?_)
                      refine lv_goto (tgt := 25) hx hb dX12_reckons_224 (dk_dq rfl) ?_
                      exact ih x_208 x_153 (by omega) (by omega) (dk_ok.go hok_x_166 (by omega) (by omega) (by omega)) (by first | exact mu_lt hmu (by omega) (by omega) | omega) S_207 I_207 M_207  (lp_l hF_1 (F_m_reckons_1_p4 ex_156 ex_157 ex_158 (Eq.symm ex_160.symm) ex_161 c_162 (Eq.symm ex_166.symm) c_167 c_168 ex_201 ex_202 (Eq.symm ex_204.symm) ex_205 e_207 ex_208)) _ _ hP hS _ (lv_sub hl [0, 2, 3, 4] rfl)
              · as_aux_lemma =>
                  have jc_167 := dk_ngtc (k := 30) (by decide +kernel) c_167
                  refine lv_aload_n hx hb dX12_reckons_66 rfl (lv_at hl 3 rfl) ?_
                  refine dg_get (C := RX12) (T := TX12) (N := 77) hx hb hts (fun w h => bw_mem (wU_X12 w h)) hown K hP sM_0 rfl 64 (dk_dq rfl) (hts _ (bw_mem wB_1143)) (fun _ h9 => h9) (v := .ref (o + 40)) (show S_154.1 0 64 = .ref (o + 40) from dg_I.rel (d := 40) I_154 sM_0 (by decide +kernel)) dX12_reckons_67 ?_
                  refine lv_iload_n hx hb dX12_reckons_70 rfl (lv_at hl 2 rfl) ?_
                  refine lv_iload hx hb dX12_reckons_71 (lv_at hl 0 rfl) ?_
                  refine lv_if_ne (tgt := 86) hx hb dX12_reckons_73 (dk_dq rfl) (fun c_209 => ?_) (fun c_209 => ?_)
                  · as_aux_lemma =>
                      have jc_209 := dk_neqc (k := 0) (by decide +kernel) c_209
                      refine lv_iload hx hb dX12_reckons_86 (lv_at hl 0 rfl) ?_
                      refine lv_bipush (v := 30) hx hb dX12_reckons_88 (by decide +kernel) ?_
                      refine lv_icmp_ne (tgt := 97) hx hb dX12_reckons_90 (dk_dq rfl) (fun c_210 => ?_) (fun c_210 => ?_)
                      · as_aux_lemma =>
                          have jc_210 := dk_neqc (k := 30) (by decide +kernel) c_210
                          refine lv_aload_n hx hb dX12_reckons_97 rfl (lv_at hl 3 rfl) ?_
                          refine dg_get (C := RX12) (T := TX12) (N := 77) hx hb hts (fun w h => bw_mem (wU_X12 w h)) hown K hP sM_0 rfl 65 (dk_dq rfl) (hts _ (bw_mem wB_1107)) (fun _ h9 => h9) (v := .ref (o + 41)) (show S_154.1 0 65 = .ref (o + 41) from dg_I.rel (d := 41) I_154 sM_0 (by decide +kernel)) dX12_reckons_98 ?_
                          refine lv_iload hx hb dX12_reckons_101 (lv_at hl 0 rfl) ?_
                          have hin_211 : vp_in x_166 10 := (dk_inv2 (by omega))
                          refine dg_iald hx hb K hP sM_41 hin_211 dX12_reckons_103 (fun x_212 ex_212 => ?_)
                          obtain ⟨x_213, ex_213⟩ : ∃ z, (x_212 : Int32).toInt64 = z := ⟨_, rfl⟩
                          refine lv_i2l (v := x_213) hx hb dX12_reckons_104 ex_213 ?_
                          have hin_214 : vp_in x_153 500 := (dk_inv2 (by omega))
                          refine dg_last hx hb K hP hS hA1 sM_40 hin_214 dX12_reckons_105 (fun S_215 e_215 H locs hP hS => ?_)
                          have I_215 := dg_I.ul I_154 e_215
                          have M_215 := dg_sm.ul M_154 e_215 sM_40 (dk_dq rfl)
                          obtain ⟨x_216, ex_216⟩ : ∃ z, z = x_153 + 1 := ⟨_, rfl⟩
                          have jx_216 : (x_216).toInt = (x_153).toInt + 1 := by rw [ex_216]; exact dk_addT2 rfl (by decide +kernel) (by omega)
                          refine lv_iinc (v := x_216) (lv' := [(2, .int x_216), (4, .int x_166), (3, .int x_152), (0, .ref (o + 0)), (1, .int 1)]) hx hb dX12_reckons_106 hl (k := 2) rfl (by rw [ex_216]; rfl) (dk_dq rfl) rfl (fun ls hl => ?_)
                          refine lv_goto (tgt := 221) hx hb dX12_reckons_109 (dk_dq rfl) ?_
                          obtain ⟨x_217, ex_217⟩ : ∃ z, z = x_152 + 1 := ⟨_, rfl⟩
                          have jx_217 : (x_217).toInt = (x_152).toInt + 1 := by rw [ex_217]; exact dk_addT2 rfl (by decide +kernel) (by omega)
                          refine lv_iinc (v := x_217) (lv' := [(3, .int x_217), (2, .int x_216), (4, .int x_166), (0, .ref (o + 0)), (1, .int 1)]) hx hb dX12_reckons_221 hl (k := 2) rfl (by rw [ex_217]; rfl) (dk_dq rfl) rfl (fun ls hl => ?_)
                          refine lv_goto (tgt := 25) hx hb dX12_reckons_224 (dk_dq rfl) ?_
                          exact ih x_217 x_216 (by omega) (by omega) (dk_ok.go hok_x_166 (by omega) (by omega) (by omega)) (by first | exact mu_lt hmu (by omega) (by omega) | omega) S_215 I_215 M_215  (lp_l hF_1 (F_m_reckons_1_p5 ex_156 ex_157 ex_158 (Eq.symm ex_160.symm) ex_161 c_162 (Eq.symm ex_166.symm) c_167 c_209 c_210 (Eq.symm ex_212.symm) (Eq.symm ex_213) e_215 ex_216 ex_217)) _ _ hP hS _ (lv_sub hl [0, 1, 3, 4] rfl)
                      · as_aux_lemma =>
                          have jc_210 := dk_eqc (k := 30) (by decide +kernel) c_210
                          refine lv_lconst (v := 1) hx hb dX12_reckons_93 (by decide +kernel) ?_
                          refine lv_goto (tgt := 105) hx hb dX12_reckons_94 (dk_dq rfl) ?_
                          have hin_218 : vp_in x_153 500 := (dk_inv2 (by omega))
                          refine dg_last hx hb K hP hS hA1 sM_40 hin_218 dX12_reckons_105 (fun S_219 e_219 H locs hP hS => ?_)
                          have I_219 := dg_I.ul I_154 e_219
                          have M_219 := dg_sm.ul M_154 e_219 sM_40 (dk_dq rfl)
                          obtain ⟨x_220, ex_220⟩ : ∃ z, z = x_153 + 1 := ⟨_, rfl⟩
                          have jx_220 : (x_220).toInt = (x_153).toInt + 1 := by rw [ex_220]; exact dk_addT2 rfl (by decide +kernel) (by omega)
                          refine lv_iinc (v := x_220) (lv' := [(2, .int x_220), (4, .int x_166), (3, .int x_152), (0, .ref (o + 0)), (1, .int 1)]) hx hb dX12_reckons_106 hl (k := 2) rfl (by rw [ex_220]; rfl) (dk_dq rfl) rfl (fun ls hl => ?_)
                          refine lv_goto (tgt := 221) hx hb dX12_reckons_109 (dk_dq rfl) ?_
                          obtain ⟨x_221, ex_221⟩ : ∃ z, z = x_152 + 1 := ⟨_, rfl⟩
                          have jx_221 : (x_221).toInt = (x_152).toInt + 1 := by rw [ex_221]; exact dk_addT2 rfl (by decide +kernel) (by omega)
                          refine lv_iinc (v := x_221) (lv' := [(3, .int x_221), (2, .int x_220), (4, .int x_166), (0, .ref (o + 0)), (1, .int 1)]) hx hb dX12_reckons_221 hl (k := 2) rfl (by rw [ex_221]; rfl) (dk_dq rfl) rfl (fun ls hl => ?_)
                          refine lv_goto (tgt := 25) hx hb dX12_reckons_224 (dk_dq rfl) ?_
                          exact ih x_221 x_220 (by omega) (by omega) (dk_ok.go hok_x_166 (by omega) (by omega) (by omega)) (by first | exact mu_lt hmu (by omega) (by omega) | omega) S_219 I_219 M_219  (lp_l hF_1 (F_m_reckons_1_p6 ex_156 ex_157 ex_158 (Eq.symm ex_160.symm) ex_161 c_162 (Eq.symm ex_166.symm) c_167 c_209 c_210 e_219 ex_220 ex_221)) _ _ hP hS _ (lv_sub hl [0, 1, 3, 4] rfl)
                  · as_aux_lemma =>
                      have jc_209 := dk_eqc (k := 0) (by decide +kernel) c_209
                      refine lv_aload_n hx hb dX12_reckons_76 rfl (lv_at hl 3 rfl) ?_
                      refine dg_get (C := RX12) (T := TX12) (N := 77) hx hb hts (fun w h => bw_mem (wU_X12 w h)) hown K hP sM_0 rfl 31 (dk_dq rfl) (hts _ (bw_mem wB_403)) (fun _ h9 => h9) (v := .ref (o + 19)) (show S_154.1 0 31 = .ref (o + 19) from dg_I.rel (d := 19) I_154 sM_0 (by decide +kernel)) dX12_reckons_77 ?_
                      refine lv_iload_n hx hb dX12_reckons_80 rfl (lv_at hl 1 rfl) ?_
                      have hin_222 : vp_in x_152 3200 := (dk_inv2 (by omega))
                      refine dg_iald hx hb K hP sM_19 hin_222 dX12_reckons_81 (fun x_223 ex_223 => ?_)
                      have b_x_223 := dk_all_at (dg_I.row (lo := 0) (hi := 9999) I_154 sM_19 (by decide +kernel)) hin_222 ex_223
                      obtain ⟨x_224, ex_224⟩ : ∃ z, (x_223 : Int32).toInt64 = z := ⟨_, rfl⟩
                      refine lv_i2l (v := x_224) hx hb dX12_reckons_82 ex_224 ?_
                      refine lv_goto (tgt := 105) hx hb dX12_reckons_83 (dk_dq rfl) ?_
                      have hin_225 : vp_in x_153 500 := (dk_inv2 (by omega))
                      refine dg_last hx hb K hP hS hA1 sM_40 hin_225 dX12_reckons_105 (fun S_226 e_226 H locs hP hS => ?_)
                      have I_226 := dg_I.ul I_154 e_226
                      have M_226 := dg_sm.ul M_154 e_226 sM_40 (dk_dq rfl)
                      obtain ⟨x_227, ex_227⟩ : ∃ z, z = x_153 + 1 := ⟨_, rfl⟩
                      have jx_227 : (x_227).toInt = (x_153).toInt + 1 := by rw [ex_227]; exact dk_addT2 rfl (by decide +kernel) (by omega)
                      refine lv_iinc (v := x_227) (lv' := [(2, .int x_227), (4, .int x_166), (3, .int x_152), (0, .ref (o + 0)), (1, .int 1)]) hx hb dX12_reckons_106 hl (k := 2) rfl (by rw [ex_227]; rfl) (dk_dq rfl) rfl (fun ls hl => ?_)
                      refine lv_goto (tgt := 221) hx hb dX12_reckons_109 (dk_dq rfl) ?_
                      obtain ⟨x_228, ex_228⟩ : ∃ z, z = x_152 + 1 := ⟨_, rfl⟩
                      have jx_228 : (x_228).toInt = (x_152).toInt + 1 := by rw [ex_228]; exact dk_addT2 rfl (by decide +kernel) (by omega)
                      refine lv_iinc (v := x_228) (lv' := [(3, .int x_228), (2, .int x_227), (4, .int x_166), (0, .ref (o + 0)), (1, .int 1)]) hx hb dX12_reckons_221 hl (k := 2) rfl (by rw [ex_228]; rfl) (dk_dq rfl) rfl (fun ls hl => ?_)
                      refine lv_goto (tgt := 25) hx hb dX12_reckons_224 (dk_dq rfl) ?_
                      exact ih x_228 x_227 (by omega) (by omega) (dk_ok.go hok_x_166 (by omega) (by omega) (by omega)) (by first | exact mu_lt hmu (by omega) (by omega) | omega) S_226 I_226 M_226  (lp_l hF_1 (F_m_reckons_1_p7 ex_156 ex_157 ex_158 (Eq.symm ex_160.symm) ex_161 c_162 (Eq.symm ex_166.symm) c_167 c_209 (Eq.symm ex_223.symm) (Eq.symm ex_224) e_226 ex_227 ex_228)) _ _ hP hS _ (lv_sub hl [0, 1, 3, 4] rfl)
  have hz_229 : (0 : Int32).toInt = 0 := by decide +kernel
  have hz_230 : (0 : Int32).toInt = 0 := by decide +kernel
  have hz_231 : (0 : Int32).toInt = 0 := by decide +kernel
  exact L_155 ((3201 - ((x_7 : Int32)).toInt).toNat + 1) x_7 0 (by omega) (by decide +kernel) (dk_ok.init h_rk (by omega) (by omega) (by omega) (by omega)) (by first | exact mu_lt hmu (by omega) (by omega) | omega) S I M_0  (F_m_reckons_1_p8 (zI_eq f_x_1) ex_2 ex_3 ex_4 (Eq.symm ex_6.symm) ex_7) _ _ hP hS _ (lv_sub hl [0, 1, 2, 3] rfl)
noncomputable def F_m_reckons_2_B1 (x_1 : Int32) (o : Nat) : (Int32 × Int32 × dg_S) → (Int32 × Int32 × dg_S) ⊕ (dg_S × Int64) := fun w9 => match w9 with | (x_152, x_153, S_154) => let x_156 : Int32 := (1600 : Int32) * x_1; let x_157 : Int32 := (3 : Int32) * x_1; let x_158 : Int32 := x_157 + (2 : Int32); let x_160 : Int32 := S_154.2.1 17 (x_158 : Int32).toNatClampNeg; let x_161 : Int32 := x_156 + x_160; (if x_161 ≤ x_152 then (Sum.inr (let x_164 : Int64 := S_154.2.2 40 (0 : Int32).toNatClampNeg; (S_154, x_164))) else let x_166 : Int32 := S_154.2.1 18 (x_152 : Int32).toNatClampNeg; (if (30 : Int32) < x_166 then (if x_166 = (43 : Int32) then let x_201 : Int32 := x_153 - (1 : Int32); let x_202 : Int32 := x_153 - (1 : Int32); let x_204 : Int64 := S_154.2.2 40 (x_202 : Int32).toNatClampNeg; let x_205 : Int64 := (1 : Int64) - x_204; let S_207 : dg_S := dg_ul S_154 40 (vp_updL (S_154.2.2 40) (x_201 : Int32).toNatClampNeg x_205); let x_208 : Int32 := x_152 + 1; (Sum.inl (x_208, x_153, S_207)) else (if x_166 = (44 : Int32) then let x_182 : Int32 := x_153 + (-2); let x_183 : Int32 := x_182 - (1 : Int32); let x_184 : Int32 := x_182 - (1 : Int32); let x_186 : Int64 := S_154.2.2 40 (x_184 : Int32).toNatClampNeg; let x_187 : Int32 := lg_cmp x_186 (1 : Int64); (if x_187 = (0 : Int32) then let x_197 : Int64 := S_154.2.2 40 (x_182 : Int32).toNatClampNeg; let S_199 : dg_S := dg_ul S_154 40 (vp_updL (S_154.2.2 40) (x_183 : Int32).toNatClampNeg x_197); let x_200 : Int32 := x_152 + 1; (Sum.inl (x_200, x_182, S_199)) else let x_190 : Int32 := x_182 + (1 : Int32); let x_192 : Int64 := S_154.2.2 40 (x_190 : Int32).toNatClampNeg; let S_194 : dg_S := dg_ul S_154 40 (vp_updL (S_154.2.2 40) (x_183 : Int32).toNatClampNeg x_192); let x_195 : Int32 := x_152 + 1; (Sum.inl (x_195, x_182, S_194))) else let x_170 : Int32 := x_153 + (-1); let x_171 : Int32 := x_170 - (1 : Int32); let x_172 : Int32 := x_170 - (1 : Int32); let x_174 : Int64 := S_154.2.2 40 (x_172 : Int32).toNatClampNeg; let x_176 : Int64 := S_154.2.2 40 (x_170 : Int32).toNatClampNeg; let x_177 : Int64 := F_m_two o S_154 x_166 x_174 x_176; let S_180 : dg_S := dg_ul S_154 40 (vp_updL (S_154.2.2 40) (x_171 : Int32).toNatClampNeg x_177); let x_181 : Int32 := x_152 + 1; (Sum.inl (x_181, x_170, S_180)))) else (if x_166 = (0 : Int32) then let x_223 : Int32 := S_154.2.1 19 (x_152 : Int32).toNatClampNeg; let x_224 : Int64 := Int32.toInt64 x_223; let S_226 : dg_S := dg_ul S_154 40 (vp_updL (S_154.2.2 40) (x_153 : Int32).toNatClampNeg x_224); let x_227 : Int32 := x_153 + 1; let x_228 : Int32 := x_152 + 1; (Sum.inl (x_228, x_227, S_226)) else (if x_166 = (30 : Int32) then let S_219 : dg_S := dg_ul S_154 40 (vp_updL (S_154.2.2 40) (x_153 : Int32).toNatClampNeg (1 : Int64)); let x_220 : Int32 := x_153 + 1; let x_221 : Int32 := x_152 + 1; (Sum.inl (x_221, x_220, S_219)) else let x_212 : Int32 := S_154.2.1 41 (x_166 : Int32).toNatClampNeg; let x_213 : Int64 := Int32.toInt64 x_212; let S_215 : dg_S := dg_ul S_154 40 (vp_updL (S_154.2.2 40) (x_153 : Int32).toNatClampNeg x_213); let x_216 : Int32 := x_153 + 1; let x_217 : Int32 := x_152 + 1; (Sum.inl (x_217, x_216, S_215))))))
noncomputable def F_m_reckons_2 (o : Nat) (S : dg_S) : dg_S × Int64 := let x_1 : Int32 := zI S 0 13; let x_2 : Int32 := (1600 : Int32) * x_1; let x_3 : Int32 := (3 : Int32) * x_1; let x_4 : Int32 := x_3 + (2 : Int32); let x_6 : Int32 := S.2.1 16 (x_4 : Int32).toNatClampNeg; let x_7 : Int32 := x_2 + x_6; (lp (F_m_reckons_2_B1 x_1 o) (S, (0 : Int64)) ((3201 - ((x_7 : Int32)).toInt).toNat + 1) (x_7, (0 : Int32), S))
theorem F_m_reckons_2_p0 {x_1 : Int32} {o : Nat} {x_152 : Int32} {x_153 : Int32} {S_154 : dg_S} {x_164 : Int64} {x_156 : Int32} {x_157 : Int32} {x_158 : Int32} {x_160 : Int32} {x_161 : Int32} (h0 : x_156 = (1600 : Int32) * x_1) (h1 : x_157 = (3 : Int32) * x_1) (h2 : x_158 = x_157 + (2 : Int32)) (h3 : x_160 = S_154.2.1 17 (x_158 : Int32).toNatClampNeg) (h4 : x_161 = x_156 + x_160) (h5 : x_161 ≤ x_152) (h7 : x_164 = S_154.2.2 40 (0 : Int32).toNatClampNeg) : (F_m_reckons_2_B1 x_1 o) (x_152, x_153, S_154) = Sum.inr ((S_154, x_164)) := by
  replace h0 := Eq.symm h0
  subst h0
  replace h1 := Eq.symm h1
  subst h1
  replace h2 := Eq.symm h2
  subst h2
  replace h3 := Eq.symm h3
  subst h3
  replace h4 := Eq.symm h4
  subst h4
  replace h7 := Eq.symm h7
  subst h7
  exact (Eq.trans (if_pos h5) rfl)
theorem F_m_reckons_2_p1 {x_1 : Int32} {o : Nat} {x_152 : Int32} {x_153 : Int32} {S_154 : dg_S} {x_181 : Int32} {x_170 : Int32} {S_180 : dg_S} {x_156 : Int32} {x_157 : Int32} {x_158 : Int32} {x_160 : Int32} {x_161 : Int32} {x_166 : Int32} {x_171 : Int32} {x_172 : Int32} {x_174 : Int64} {x_176 : Int64} {x_177 : Int64} (h0 : x_156 = (1600 : Int32) * x_1) (h1 : x_157 = (3 : Int32) * x_1) (h2 : x_158 = x_157 + (2 : Int32)) (h3 : x_160 = S_154.2.1 17 (x_158 : Int32).toNatClampNeg) (h4 : x_161 = x_156 + x_160) (h5 : ¬ (x_161 ≤ x_152)) (h6 : x_166 = S_154.2.1 18 (x_152 : Int32).toNatClampNeg) (h7 : (30 : Int32) < x_166) (h8 : ¬ (x_166 = (43 : Int32))) (h9 : ¬ (x_166 = (44 : Int32))) (h10 : x_170 = x_153 + (-1)) (h11 : x_171 = x_170 - (1 : Int32)) (h12 : x_172 = x_170 - (1 : Int32)) (h13 : x_174 = S_154.2.2 40 (x_172 : Int32).toNatClampNeg) (h14 : x_176 = S_154.2.2 40 (x_170 : Int32).toNatClampNeg) (h15 : x_177 = F_m_two o S_154 x_166 x_174 x_176) (h16 : S_180 = dg_ul S_154 40 (vp_updL (S_154.2.2 40) (x_171 : Int32).toNatClampNeg x_177)) (h17 : x_181 = x_152 + 1) : (F_m_reckons_2_B1 x_1 o) (x_152, x_153, S_154) = Sum.inl (x_181, x_170, S_180) := by
  replace h0 := Eq.symm h0
  subst h0
  replace h1 := Eq.symm h1
  subst h1
  replace h2 := Eq.symm h2
  subst h2
  replace h3 := Eq.symm h3
  subst h3
  replace h4 := Eq.symm h4
  subst h4
  replace h6 := Eq.symm h6
  subst h6
  replace h10 := Eq.symm h10
  subst h10
  replace h11 := Eq.symm h11
  subst h11
  replace h12 := Eq.symm h12
  subst h12
  replace h13 := Eq.symm h13
  subst h13
  replace h14 := Eq.symm h14
  subst h14
  replace h15 := Eq.symm h15
  subst h15
  replace h16 := Eq.symm h16
  subst h16
  replace h17 := Eq.symm h17
  subst h17
  exact (Eq.trans (if_neg h5) (Eq.trans (if_pos h7) (Eq.trans (if_neg h8) (Eq.trans (if_neg h9) rfl))))
theorem F_m_reckons_2_p2 {x_1 : Int32} {o : Nat} {x_152 : Int32} {x_153 : Int32} {S_154 : dg_S} {x_195 : Int32} {x_182 : Int32} {S_194 : dg_S} {x_156 : Int32} {x_157 : Int32} {x_158 : Int32} {x_160 : Int32} {x_161 : Int32} {x_166 : Int32} {x_183 : Int32} {x_184 : Int32} {x_186 : Int64} {x_187 : Int32} {x_190 : Int32} {x_192 : Int64} (h0 : x_156 = (1600 : Int32) * x_1) (h1 : x_157 = (3 : Int32) * x_1) (h2 : x_158 = x_157 + (2 : Int32)) (h3 : x_160 = S_154.2.1 17 (x_158 : Int32).toNatClampNeg) (h4 : x_161 = x_156 + x_160) (h5 : ¬ (x_161 ≤ x_152)) (h6 : x_166 = S_154.2.1 18 (x_152 : Int32).toNatClampNeg) (h7 : (30 : Int32) < x_166) (h8 : ¬ (x_166 = (43 : Int32))) (h9 : x_166 = (44 : Int32)) (h10 : x_182 = x_153 + (-2)) (h11 : x_183 = x_182 - (1 : Int32)) (h12 : x_184 = x_182 - (1 : Int32)) (h13 : x_186 = S_154.2.2 40 (x_184 : Int32).toNatClampNeg) (h14 : x_187 = lg_cmp x_186 (1 : Int64)) (h15 : ¬ (x_187 = (0 : Int32))) (h16 : x_190 = x_182 + (1 : Int32)) (h17 : x_192 = S_154.2.2 40 (x_190 : Int32).toNatClampNeg) (h18 : S_194 = dg_ul S_154 40 (vp_updL (S_154.2.2 40) (x_183 : Int32).toNatClampNeg x_192)) (h19 : x_195 = x_152 + 1) : (F_m_reckons_2_B1 x_1 o) (x_152, x_153, S_154) = Sum.inl (x_195, x_182, S_194) := by
  replace h0 := Eq.symm h0
  subst h0
  replace h1 := Eq.symm h1
  subst h1
  replace h2 := Eq.symm h2
  subst h2
  replace h3 := Eq.symm h3
  subst h3
  replace h4 := Eq.symm h4
  subst h4
  replace h6 := Eq.symm h6
  subst h6
  replace h10 := Eq.symm h10
  subst h10
  replace h11 := Eq.symm h11
  subst h11
  replace h12 := Eq.symm h12
  subst h12
  replace h13 := Eq.symm h13
  subst h13
  replace h14 := Eq.symm h14
  subst h14
  replace h16 := Eq.symm h16
  subst h16
  replace h17 := Eq.symm h17
  subst h17
  replace h18 := Eq.symm h18
  subst h18
  replace h19 := Eq.symm h19
  subst h19
  exact (Eq.trans (if_neg h5) (Eq.trans (if_pos h7) (Eq.trans (if_neg h8) (Eq.trans (if_pos h9) (Eq.trans (if_neg h15) rfl)))))
theorem F_m_reckons_2_p3 {x_1 : Int32} {o : Nat} {x_152 : Int32} {x_153 : Int32} {S_154 : dg_S} {x_200 : Int32} {x_182 : Int32} {S_199 : dg_S} {x_156 : Int32} {x_157 : Int32} {x_158 : Int32} {x_160 : Int32} {x_161 : Int32} {x_166 : Int32} {x_183 : Int32} {x_184 : Int32} {x_186 : Int64} {x_187 : Int32} {x_197 : Int64} (h0 : x_156 = (1600 : Int32) * x_1) (h1 : x_157 = (3 : Int32) * x_1) (h2 : x_158 = x_157 + (2 : Int32)) (h3 : x_160 = S_154.2.1 17 (x_158 : Int32).toNatClampNeg) (h4 : x_161 = x_156 + x_160) (h5 : ¬ (x_161 ≤ x_152)) (h6 : x_166 = S_154.2.1 18 (x_152 : Int32).toNatClampNeg) (h7 : (30 : Int32) < x_166) (h8 : ¬ (x_166 = (43 : Int32))) (h9 : x_166 = (44 : Int32)) (h10 : x_182 = x_153 + (-2)) (h11 : x_183 = x_182 - (1 : Int32)) (h12 : x_184 = x_182 - (1 : Int32)) (h13 : x_186 = S_154.2.2 40 (x_184 : Int32).toNatClampNeg) (h14 : x_187 = lg_cmp x_186 (1 : Int64)) (h15 : x_187 = (0 : Int32)) (h16 : x_197 = S_154.2.2 40 (x_182 : Int32).toNatClampNeg) (h17 : S_199 = dg_ul S_154 40 (vp_updL (S_154.2.2 40) (x_183 : Int32).toNatClampNeg x_197)) (h18 : x_200 = x_152 + 1) : (F_m_reckons_2_B1 x_1 o) (x_152, x_153, S_154) = Sum.inl (x_200, x_182, S_199) := by
  replace h0 := Eq.symm h0
  subst h0
  replace h1 := Eq.symm h1
  subst h1
  replace h2 := Eq.symm h2
  subst h2
  replace h3 := Eq.symm h3
  subst h3
  replace h4 := Eq.symm h4
  subst h4
  replace h6 := Eq.symm h6
  subst h6
  replace h10 := Eq.symm h10
  subst h10
  replace h11 := Eq.symm h11
  subst h11
  replace h12 := Eq.symm h12
  subst h12
  replace h13 := Eq.symm h13
  subst h13
  replace h14 := Eq.symm h14
  subst h14
  replace h16 := Eq.symm h16
  subst h16
  replace h17 := Eq.symm h17
  subst h17
  replace h18 := Eq.symm h18
  subst h18
  exact (Eq.trans (if_neg h5) (Eq.trans (if_pos h7) (Eq.trans (if_neg h8) (Eq.trans (if_pos h9) (Eq.trans (if_pos h15) rfl)))))
theorem F_m_reckons_2_p4 {x_1 : Int32} {o : Nat} {x_152 : Int32} {x_153 : Int32} {S_154 : dg_S} {x_208 : Int32} {S_207 : dg_S} {x_156 : Int32} {x_157 : Int32} {x_158 : Int32} {x_160 : Int32} {x_161 : Int32} {x_166 : Int32} {x_201 : Int32} {x_202 : Int32} {x_204 : Int64} {x_205 : Int64} (h0 : x_156 = (1600 : Int32) * x_1) (h1 : x_157 = (3 : Int32) * x_1) (h2 : x_158 = x_157 + (2 : Int32)) (h3 : x_160 = S_154.2.1 17 (x_158 : Int32).toNatClampNeg) (h4 : x_161 = x_156 + x_160) (h5 : ¬ (x_161 ≤ x_152)) (h6 : x_166 = S_154.2.1 18 (x_152 : Int32).toNatClampNeg) (h7 : (30 : Int32) < x_166) (h8 : x_166 = (43 : Int32)) (h9 : x_201 = x_153 - (1 : Int32)) (h10 : x_202 = x_153 - (1 : Int32)) (h11 : x_204 = S_154.2.2 40 (x_202 : Int32).toNatClampNeg) (h12 : x_205 = (1 : Int64) - x_204) (h13 : S_207 = dg_ul S_154 40 (vp_updL (S_154.2.2 40) (x_201 : Int32).toNatClampNeg x_205)) (h14 : x_208 = x_152 + 1) : (F_m_reckons_2_B1 x_1 o) (x_152, x_153, S_154) = Sum.inl (x_208, x_153, S_207) := by
  replace h0 := Eq.symm h0
  subst h0
  replace h1 := Eq.symm h1
  subst h1
  replace h2 := Eq.symm h2
  subst h2
  replace h3 := Eq.symm h3
  subst h3
  replace h4 := Eq.symm h4
  subst h4
  replace h6 := Eq.symm h6
  subst h6
  replace h9 := Eq.symm h9
  subst h9
  replace h10 := Eq.symm h10
  subst h10
  replace h11 := Eq.symm h11
  subst h11
  replace h12 := Eq.symm h12
  subst h12
  replace h13 := Eq.symm h13
  subst h13
  replace h14 := Eq.symm h14
  subst h14
  exact (Eq.trans (if_neg h5) (Eq.trans (if_pos h7) (Eq.trans (if_pos h8) rfl)))
theorem F_m_reckons_2_p5 {x_1 : Int32} {o : Nat} {x_152 : Int32} {x_153 : Int32} {S_154 : dg_S} {x_217 : Int32} {x_216 : Int32} {S_215 : dg_S} {x_156 : Int32} {x_157 : Int32} {x_158 : Int32} {x_160 : Int32} {x_161 : Int32} {x_166 : Int32} {x_212 : Int32} {x_213 : Int64} (h0 : x_156 = (1600 : Int32) * x_1) (h1 : x_157 = (3 : Int32) * x_1) (h2 : x_158 = x_157 + (2 : Int32)) (h3 : x_160 = S_154.2.1 17 (x_158 : Int32).toNatClampNeg) (h4 : x_161 = x_156 + x_160) (h5 : ¬ (x_161 ≤ x_152)) (h6 : x_166 = S_154.2.1 18 (x_152 : Int32).toNatClampNeg) (h7 : ¬ ((30 : Int32) < x_166)) (h8 : ¬ (x_166 = (0 : Int32))) (h9 : ¬ (x_166 = (30 : Int32))) (h10 : x_212 = S_154.2.1 41 (x_166 : Int32).toNatClampNeg) (h11 : x_213 = Int32.toInt64 x_212) (h12 : S_215 = dg_ul S_154 40 (vp_updL (S_154.2.2 40) (x_153 : Int32).toNatClampNeg x_213)) (h13 : x_216 = x_153 + 1) (h14 : x_217 = x_152 + 1) : (F_m_reckons_2_B1 x_1 o) (x_152, x_153, S_154) = Sum.inl (x_217, x_216, S_215) := by
  replace h0 := Eq.symm h0
  subst h0
  replace h1 := Eq.symm h1
  subst h1
  replace h2 := Eq.symm h2
  subst h2
  replace h3 := Eq.symm h3
  subst h3
  replace h4 := Eq.symm h4
  subst h4
  replace h6 := Eq.symm h6
  subst h6
  replace h10 := Eq.symm h10
  subst h10
  replace h11 := Eq.symm h11
  subst h11
  replace h12 := Eq.symm h12
  subst h12
  replace h13 := Eq.symm h13
  subst h13
  replace h14 := Eq.symm h14
  subst h14
  exact (Eq.trans (if_neg h5) (Eq.trans (if_neg h7) (Eq.trans (if_neg h8) (Eq.trans (if_neg h9) rfl))))
theorem F_m_reckons_2_p6 {x_1 : Int32} {o : Nat} {x_152 : Int32} {x_153 : Int32} {S_154 : dg_S} {x_221 : Int32} {x_220 : Int32} {S_219 : dg_S} {x_156 : Int32} {x_157 : Int32} {x_158 : Int32} {x_160 : Int32} {x_161 : Int32} {x_166 : Int32} (h0 : x_156 = (1600 : Int32) * x_1) (h1 : x_157 = (3 : Int32) * x_1) (h2 : x_158 = x_157 + (2 : Int32)) (h3 : x_160 = S_154.2.1 17 (x_158 : Int32).toNatClampNeg) (h4 : x_161 = x_156 + x_160) (h5 : ¬ (x_161 ≤ x_152)) (h6 : x_166 = S_154.2.1 18 (x_152 : Int32).toNatClampNeg) (h7 : ¬ ((30 : Int32) < x_166)) (h8 : ¬ (x_166 = (0 : Int32))) (h9 : x_166 = (30 : Int32)) (h10 : S_219 = dg_ul S_154 40 (vp_updL (S_154.2.2 40) (x_153 : Int32).toNatClampNeg (1 : Int64))) (h11 : x_220 = x_153 + 1) (h12 : x_221 = x_152 + 1) : (F_m_reckons_2_B1 x_1 o) (x_152, x_153, S_154) = Sum.inl (x_221, x_220, S_219) := by
  replace h0 := Eq.symm h0
  subst h0
  replace h1 := Eq.symm h1
  subst h1
  replace h2 := Eq.symm h2
  subst h2
  replace h3 := Eq.symm h3
  subst h3
  replace h4 := Eq.symm h4
  subst h4
  replace h6 := Eq.symm h6
  subst h6
  replace h10 := Eq.symm h10
  subst h10
  replace h11 := Eq.symm h11
  subst h11
  replace h12 := Eq.symm h12
  subst h12
  exact (Eq.trans (if_neg h5) (Eq.trans (if_neg h7) (Eq.trans (if_neg h8) (Eq.trans (if_pos h9) rfl))))
theorem F_m_reckons_2_p7 {x_1 : Int32} {o : Nat} {x_152 : Int32} {x_153 : Int32} {S_154 : dg_S} {x_228 : Int32} {x_227 : Int32} {S_226 : dg_S} {x_156 : Int32} {x_157 : Int32} {x_158 : Int32} {x_160 : Int32} {x_161 : Int32} {x_166 : Int32} {x_223 : Int32} {x_224 : Int64} (h0 : x_156 = (1600 : Int32) * x_1) (h1 : x_157 = (3 : Int32) * x_1) (h2 : x_158 = x_157 + (2 : Int32)) (h3 : x_160 = S_154.2.1 17 (x_158 : Int32).toNatClampNeg) (h4 : x_161 = x_156 + x_160) (h5 : ¬ (x_161 ≤ x_152)) (h6 : x_166 = S_154.2.1 18 (x_152 : Int32).toNatClampNeg) (h7 : ¬ ((30 : Int32) < x_166)) (h8 : x_166 = (0 : Int32)) (h9 : x_223 = S_154.2.1 19 (x_152 : Int32).toNatClampNeg) (h10 : x_224 = Int32.toInt64 x_223) (h11 : S_226 = dg_ul S_154 40 (vp_updL (S_154.2.2 40) (x_153 : Int32).toNatClampNeg x_224)) (h12 : x_227 = x_153 + 1) (h13 : x_228 = x_152 + 1) : (F_m_reckons_2_B1 x_1 o) (x_152, x_153, S_154) = Sum.inl (x_228, x_227, S_226) := by
  replace h0 := Eq.symm h0
  subst h0
  replace h1 := Eq.symm h1
  subst h1
  replace h2 := Eq.symm h2
  subst h2
  replace h3 := Eq.symm h3
  subst h3
  replace h4 := Eq.symm h4
  subst h4
  replace h6 := Eq.symm h6
  subst h6
  replace h9 := Eq.symm h9
  subst h9
  replace h10 := Eq.symm h10
  subst h10
  replace h11 := Eq.symm h11
  subst h11
  replace h12 := Eq.symm h12
  subst h12
  replace h13 := Eq.symm h13
  subst h13
  exact (Eq.trans (if_neg h5) (Eq.trans (if_neg h7) (Eq.trans (if_pos h8) rfl)))
theorem F_m_reckons_2_p8 {o : Nat} {S : dg_S} {x_1 : Int32} {x_7 : Int32} {x_2 : Int32} {x_3 : Int32} {x_4 : Int32} {x_6 : Int32} (h0 : x_1 = zI S 0 13) (h1 : x_2 = (1600 : Int32) * x_1) (h2 : x_3 = (3 : Int32) * x_1) (h3 : x_4 = x_3 + (2 : Int32)) (h4 : x_6 = S.2.1 16 (x_4 : Int32).toNatClampNeg) (h5 : x_7 = x_2 + x_6) : F_m_reckons_2 o S = lp (F_m_reckons_2_B1 x_1 o) (S, (0 : Int64)) ((3201 - ((x_7 : Int32)).toInt).toNat + 1) (x_7, (0 : Int32), S) := by
  replace h0 := Eq.symm h0
  subst h0
  replace h1 := Eq.symm h1
  subst h1
  replace h2 := Eq.symm h2
  subst h2
  replace h3 := Eq.symm h3
  subst h3
  replace h4 := Eq.symm h4
  subst h4
  replace h5 := Eq.symm h5
  subst h5
  exact rfl
set_option maxHeartbeats 8000000 in
set_option maxRecDepth 100000 in
theorem c_m_reckons_2 (l : Launch) (g : Nat → ClassId) (D : va_G) (o : Nat) (S : dg_S) (ZW : ZWM S) (T2 : ZT2M S) (I : CM o S) (sz : Nat) : Met l yX12_reckons (bw yX12_reckons cX12_reckons 5 (some .long)) ({ frames := 3, cells := 0, slots := 0, locals := 81 } : Room) (dk_Pc g D (dg_w g shM o rfM S) sz [.ref (o + 0), .int 2]) (va_Ql (fun (r : Int64) S' => CM o S' ∧ dg_sm shM [] [40] S S' ∧ (S' = (F_m_reckons_2 o S).1 ∧ r = (F_m_reckons_2 o S).2) ∧ True) (dg_B g D shM o rfM) (dg_A o shM.length sz)) 0 0 (dg_A o shM.length sz) := by
  refine dg_met (cc := cX12_reckons) (maxL := 5) (ret := (some .long)) (dk_dq rfl) rfl (Nat.le_of_ble_eq_true rfl) ?_
  intro p e s m args below meth c A hAe harg hx hb hr hml hts hown hlocks hin hP K hS hA1 hA ST hsz ls hl
  rw [← hAe]
  have F : CallFix p m c cX12_reckons 5 s args (bw yX12_reckons cX12_reckons 5 (some .long)) RX12 := ⟨hx, hb, hml, hown, hts⟩
  have hl : lv_has ls 5 [(0, .ref (o + 0)), (1, .int 2)] := hl
  have M_0 : dg_sm shM [] [40] S S := dg_sm.rf
  obtain ⟨x_1, f_x_1, b_x_1⟩ := dg_I.int (i := 0) (k := 13) (lo := 0) (hi := 1) I sM_0 (by decide +kernel)
  obtain ⟨fr, f_fr⟩ : ∃ x, S.2.1 16 (3 * (x_1).toNatClampNeg + 2) = x := ⟨_, rfl⟩
  obtain ⟨bh, f_bh⟩ : ∃ x, S.2.1 17 (3 * (x_1).toNatClampNeg + 2) = x := ⟨_, rfl⟩
  obtain ⟨hfr0, hfr1, hbh, h_rk⟩ := ZWM.at ZW f_x_1 (k := 2) (dk_dq rfl) f_fr f_bh (T2 _ f_x_1)
  refine lv_iconst (v := 0) hx hb dX12_reckons_0 (by decide +kernel) ?_
  refine lv_istore_n (lv' := [(2, .int 0), (0, .ref (o + 0)), (1, .int 2)]) hx hb dX12_reckons_1 rfl hl (dk_dq rfl) rfl (fun ls hl => ?_)
  refine lv_sipush (v := 1600) hx hb dX12_reckons_2 (by decide +kernel) ?_
  refine lv_aload_n hx hb dX12_reckons_5 rfl (lv_at hl 1 rfl) ?_
  refine dg_get (C := RX12) (T := TX12) (N := 77) hx hb hts (fun w h => bw_mem (wU_X12 w h)) hown K hP sM_0 rfl 13 (dk_dq rfl) (hts _ (bw_mem wB_1085)) (fun _ h9 => h9) (v := .int x_1) f_x_1 dX12_reckons_6 ?_
  refine lv_imul hx hb dX12_reckons_9 ?_
  refine lv_topi (fun x_2 ex_2 => ?_)
  have jx_2 : (x_2).toInt = 1600 * (x_1).toInt := by rw [ex_2]; exact dk_mulT2 (by decide +kernel) rfl (by omega)
  refine lv_aload_n hx hb dX12_reckons_10 rfl (lv_at hl 1 rfl) ?_
  refine dg_get (C := RX12) (T := TX12) (N := 77) hx hb hts (fun w h => bw_mem (wU_X12 w h)) hown K hP sM_0 rfl 28 (dk_dq rfl) (hts _ (bw_mem wB_449)) (fun _ h9 => h9) (v := .ref (o + 16)) (show S.1 0 28 = .ref (o + 16) from dg_I.rel (d := 16) I sM_0 (by decide +kernel)) dX12_reckons_11 ?_
  refine lv_iconst (v := 3) hx hb dX12_reckons_14 (by decide +kernel) ?_
  refine lv_aload_n hx hb dX12_reckons_15 rfl (lv_at hl 1 rfl) ?_
  refine dg_get (C := RX12) (T := TX12) (N := 77) hx hb hts (fun w h => bw_mem (wU_X12 w h)) hown K hP sM_0 rfl 13 (dk_dq rfl) (hts _ (bw_mem wB_1085)) (fun _ h9 => h9) (v := .int x_1) f_x_1 dX12_reckons_16 ?_
  refine lv_imul hx hb dX12_reckons_19 ?_
  refine lv_topi (fun x_3 ex_3 => ?_)
  have jx_3 : (x_3).toInt = 3 * (x_1).toInt := by rw [ex_3]; exact dk_mulT2 (by decide +kernel) rfl (by omega)
  refine lv_iload_n hx hb dX12_reckons_20 rfl (lv_at hl 2 rfl) ?_
  refine lv_iadd hx hb dX12_reckons_21 ?_
  refine lv_topi (fun x_4 ex_4 => ?_)
  have jx_4 : (x_4).toInt = (x_3).toInt + 2 := by rw [ex_4]; exact dk_addT2 rfl (by decide +kernel) (by omega)
  have hin_5 : vp_in x_4 6 := (dk_inv2 (by omega))
  refine dg_iald hx hb K hP sM_16 hin_5 dX12_reckons_22 (fun x_6 ex_6 => ?_)
  have b_x_6 := dk_all_at (dg_I.row (lo := (-1)) (hi := 1600) I sM_16 (by decide +kernel)) hin_5 ex_6
  have hk_x_6 : (x_6).toInt = (fr).toInt := by rw [ex_6, (show (x_4 : Int32).toNatClampNeg = 3 * (x_1).toNatClampNeg + 2 from by have h8 := (dk_inT hin_5).1; rw [dk_clN x_1]; omega), f_fr]
  refine lv_iadd hx hb dX12_reckons_23 ?_
  refine lv_topi (fun x_7 ex_7 => ?_)
  have jx_7 : (x_7).toInt = (x_2).toInt + (x_6).toInt := by rw [ex_7]; exact dk_addT2 rfl rfl (by omega)
  refine lv_istore_n (lv' := [(3, .int x_7), (2, .int 0), (0, .ref (o + 0)), (1, .int 2)]) hx hb dX12_reckons_24 rfl hl (dk_dq rfl) rfl (fun ls hl => ?_)
  have L_155 : ∀ (n : Nat) (x_152 : Int32) (x_153 : Int32), (0 ≤ (x_152).toInt ∧ (x_152).toInt ≤ 3200) → (0 ≤ (x_153).toInt ∧ (x_153).toInt ≤ 401) → (∃ m9, dk_ok (S.2.1 18) (1600 * (x_1).toInt + (bh).toInt - (x_152).toInt).toNat (x_152).toNatClampNeg (x_153).toInt m9) → ((3201 - (x_152).toInt).toNat < n) → ∀ S_154 : dg_S, CM o S_154 → dg_sm shM [] [40] S S_154 → (F_m_reckons_2 o S = lp (F_m_reckons_2_B1 x_1 o) (S, (0 : Int64)) n (x_152, x_153, S_154)) → ∀ (H : Heap) (locs : List Loc), va_P D vwCl (dg_w g shM o rfM S_154) H → va_S A s.heap H locs → ∀ ls : Array Slot, lv_has ls 5 [(3, .int x_152), (2, .int x_153), (0, .ref (o + 0)), (1, .int 2)] → W p l e ({ frames := 3, cells := 0, slots := 0, locals := 81 } : Room) s m args below meth c H locs 0 0 (MQ below (va_Ql (fun (r : Int64) S' => CM o S' ∧ dg_sm shM [] [40] S S' ∧ (S' = (F_m_reckons_2 o S).1 ∧ r = (F_m_reckons_2 o S).2) ∧ True) (dg_B g D shM o rfM) A) args s 0 0 A) (F0 m 25 ls []) := by
    as_aux_lemma =>
      intro n
      induction n with
      | zero =>
        intro x_152 x_153 b_x_152 b_x_153 rel_0 hmu S_154 I_154 M_154 hF_1 H locs hP hS ls hl
        omega
      | succ n ih =>
        as_aux_lemma =>
          intro x_152 x_153 b_x_152 b_x_153 rel_0 hmu S_154 I_154 M_154 hF_1 H locs hP hS ls hl
          refine lv_iload_n hx hb dX12_reckons_25 rfl (lv_at hl 0 rfl) ?_
          refine lv_sipush (v := 1600) hx hb dX12_reckons_26 (by decide +kernel) ?_
          refine lv_aload_n hx hb dX12_reckons_29 rfl (lv_at hl 2 rfl) ?_
          refine dg_get (C := RX12) (T := TX12) (N := 77) hx hb hts (fun w h => bw_mem (wU_X12 w h)) hown K hP sM_0 rfl 13 (dk_dq rfl) (hts _ (bw_mem wB_1085)) (fun _ h9 => h9) (v := .int x_1) ((M_154.1 0 13 _ sM_0 (dk_dq rfl)).trans f_x_1) dX12_reckons_30 ?_
          refine lv_imul hx hb dX12_reckons_33 ?_
          refine lv_topi (fun x_156 ex_156 => ?_)
          have jx_156 : (x_156).toInt = 1600 * (x_1).toInt := by rw [ex_156]; exact dk_mulT2 (by decide +kernel) rfl (by omega)
          refine lv_aload_n hx hb dX12_reckons_34 rfl (lv_at hl 2 rfl) ?_
          refine dg_get (C := RX12) (T := TX12) (N := 77) hx hb hts (fun w h => bw_mem (wU_X12 w h)) hown K hP sM_0 rfl 29 (dk_dq rfl) (hts _ (bw_mem wB_454)) (fun _ h9 => h9) (v := .ref (o + 17)) (show S_154.1 0 29 = .ref (o + 17) from dg_I.rel (d := 17) I_154 sM_0 (by decide +kernel)) dX12_reckons_35 ?_
          refine lv_iconst (v := 3) hx hb dX12_reckons_38 (by decide +kernel) ?_
          refine lv_aload_n hx hb dX12_reckons_39 rfl (lv_at hl 2 rfl) ?_
          refine dg_get (C := RX12) (T := TX12) (N := 77) hx hb hts (fun w h => bw_mem (wU_X12 w h)) hown K hP sM_0 rfl 13 (dk_dq rfl) (hts _ (bw_mem wB_1085)) (fun _ h9 => h9) (v := .int x_1) ((M_154.1 0 13 _ sM_0 (dk_dq rfl)).trans f_x_1) dX12_reckons_40 ?_
          refine lv_imul hx hb dX12_reckons_43 ?_
          refine lv_topi (fun x_157 ex_157 => ?_)
          have jx_157 : (x_157).toInt = 3 * (x_1).toInt := by rw [ex_157]; exact dk_mulT2 (by decide +kernel) rfl (by omega)
          refine lv_iload_n hx hb dX12_reckons_44 rfl (lv_at hl 3 rfl) ?_
          refine lv_iadd hx hb dX12_reckons_45 ?_
          refine lv_topi (fun x_158 ex_158 => ?_)
          have jx_158 : (x_158).toInt = (x_157).toInt + 2 := by rw [ex_158]; exact dk_addT2 rfl (by decide +kernel) (by omega)
          have hin_159 : vp_in x_158 6 := (dk_inv2 (by omega))
          refine dg_iald hx hb K hP sM_17 hin_159 dX12_reckons_46 (fun x_160 ex_160 => ?_)
          have b_x_160 := dk_all_at (dg_I.row (lo := 0) (hi := 1600) I_154 sM_17 (by decide +kernel)) hin_159 ex_160
          have hk_x_160 : (x_160).toInt = (bh).toInt := by rw [ex_160, ((M_154.2 17 _ sM_17 (dk_dq rfl)).1), (show (x_158 : Int32).toNatClampNeg = 3 * (x_1).toNatClampNeg + 2 from by have h8 := (dk_inT hin_159).1; rw [dk_clN x_1]; omega), f_bh]
          refine lv_iadd hx hb dX12_reckons_47 ?_
          refine lv_topi (fun x_161 ex_161 => ?_)
          have jx_161 : (x_161).toInt = (x_156).toInt + (x_160).toInt := by rw [ex_161]; exact dk_addT2 rfl rfl (by omega)
          refine lv_icmp_ge (tgt := 227) hx hb dX12_reckons_48 (dk_dq rfl) (fun c_162 => ?_) (fun c_162 => ?_)
          · have jc_162 := dk_gec (k := (x_161).toInt) rfl c_162
            refine lv_aload_n hx hb dX12_reckons_227 rfl (lv_at hl 2 rfl) ?_
            refine dg_get (C := RX12) (T := TX12) (N := 77) hx hb hts (fun w h => bw_mem (wU_X12 w h)) hown K hP sM_0 rfl 64 (dk_dq rfl) (hts _ (bw_mem wB_1143)) (fun _ h9 => h9) (v := .ref (o + 40)) (show S_154.1 0 64 = .ref (o + 40) from dg_I.rel (d := 40) I_154 sM_0 (by decide +kernel)) dX12_reckons_228 ?_
            refine lv_iconst (v := 0) hx hb dX12_reckons_231 (by decide +kernel) ?_
            have hin_163 : vp_in (0 : Int32) 500 := (dk_in (by decide +kernel))
            refine dg_lald hx hb K hP sM_40 hin_163 dX12_reckons_232 (fun x_164 ex_164 => ?_)
            refine W.widen (k := 0) (n := 0) (Nat.le_of_ble_eq_true rfl) (Nat.le_of_ble_eq_true rfl) ?_
            exact dg_lret hx hb hr hlocks hP hS ⟨I_154, M_154, ⟨congrArg Prod.fst (Eq.symm (lp_r hF_1 (F_m_reckons_2_p0 ex_156 ex_157 ex_158 (Eq.symm ex_160.symm) ex_161 c_162 (Eq.symm ex_164.symm)))), congrArg Prod.snd (Eq.symm (lp_r hF_1 (F_m_reckons_2_p0 ex_156 ex_157 ex_158 (Eq.symm ex_160.symm) ex_161 c_162 (Eq.symm ex_164.symm))))⟩, trivial⟩ dX12_reckons_233
          · as_aux_lemma =>
              have jc_162 := dk_ngec (k := (x_161).toInt) rfl c_162
              refine lv_aload_n hx hb dX12_reckons_51 rfl (lv_at hl 2 rfl) ?_
              refine dg_get (C := RX12) (T := TX12) (N := 77) hx hb hts (fun w h => bw_mem (wU_X12 w h)) hown K hP sM_0 rfl 30 (dk_dq rfl) (hts _ (bw_mem wB_401)) (fun _ h9 => h9) (v := .ref (o + 18)) (show S_154.1 0 30 = .ref (o + 18) from dg_I.rel (d := 18) I_154 sM_0 (by decide +kernel)) dX12_reckons_52 ?_
              refine lv_iload_n hx hb dX12_reckons_55 rfl (lv_at hl 0 rfl) ?_
              have hin_165 : vp_in x_152 3200 := (dk_inv2 (by omega))
              refine dg_iald hx hb K hP sM_18 hin_165 dX12_reckons_56 (fun x_166 ex_166 => ?_)
              have b_x_166 := dk_all_at (dg_I.row (lo := 0) (hi := 44) I_154 sM_18 (by decide +kernel)) hin_165 ex_166
              obtain ⟨n9_x_166, hst_x_166, hok_x_166⟩ := dk_ok.next rel_0 (by omega) (by omega) (show x_166 = S.2.1 18 (x_152 : Int32).toNatClampNeg from by rw [ex_166, ((M_154.2 18 _ sM_18 (dk_dq rfl)).1)])
              unfold dk_st at hst_x_166
              refine lv_istore (lv' := [(4, .int x_166), (3, .int x_152), (2, .int x_153), (0, .ref (o + 0)), (1, .int 2)]) hx hb dX12_reckons_57 hl (dk_dq rfl) rfl (fun ls hl => ?_)
              refine lv_iload hx hb dX12_reckons_59 (lv_at hl 0 rfl) ?_
              refine lv_bipush (v := 30) hx hb dX12_reckons_61 (by decide +kernel) ?_
              refine lv_icmp_gt (tgt := 112) hx hb dX12_reckons_63 (dk_dq rfl) (fun c_167 => ?_) (fun c_167 => ?_)
              · as_aux_lemma =>
                  have jc_167 := dk_gtc (k := 30) (by decide +kernel) c_167
                  refine lv_iload hx hb dX12_reckons_112 (lv_at hl 0 rfl) ?_
                  refine lv_bipush (v := 43) hx hb dX12_reckons_114 (by decide +kernel) ?_
                  refine lv_icmp_ne (tgt := 140) hx hb dX12_reckons_116 (dk_dq rfl) (fun c_168 => ?_) (fun c_168 => ?_)
                  · as_aux_lemma =>
                      have jc_168 := dk_neqc (k := 43) (by decide +kernel) c_168
                      refine lv_iload hx hb dX12_reckons_140 (lv_at hl 0 rfl) ?_
                      refine lv_bipush (v := 44) hx hb dX12_reckons_142 (by decide +kernel) ?_
                      refine lv_icmp_ne (tgt := 191) hx hb dX12_reckons_144 (dk_dq rfl) (fun c_169 => ?_) (fun c_169 => ?_)
                      · as_aux_lemma =>
                          have jc_169 := dk_neqc (k := 44) (by decide +kernel) c_169
                          obtain ⟨x_170, ex_170⟩ : ∃ z, z = x_153 + (-1) := ⟨_, rfl⟩
                          have jx_170 : (x_170).toInt = (x_153).toInt + (-1) := by rw [ex_170]; exact dk_addT2 rfl (by decide +kernel) (by omega)
                          refine lv_iinc (v := x_170) (lv' := [(2, .int x_170), (4, .int x_166), (3, .int x_152), (0, .ref (o + 0)), (1, .int 2)]) hx hb dX12_reckons_191 hl (k := 2) rfl (by rw [ex_170]; rfl) (dk_dq rfl) rfl (fun ls hl => ?_)
                          refine lv_aload_n hx hb dX12_reckons_194 rfl (lv_at hl 3 rfl) ?_
                          refine dg_get (C := RX12) (T := TX12) (N := 77) hx hb hts (fun w h => bw_mem (wU_X12 w h)) hown K hP sM_0 rfl 64 (dk_dq rfl) (hts _ (bw_mem wB_1143)) (fun _ h9 => h9) (v := .ref (o + 40)) (show S_154.1 0 64 = .ref (o + 40) from dg_I.rel (d := 40) I_154 sM_0 (by decide +kernel)) dX12_reckons_195 ?_
                          refine lv_iload_n hx hb dX12_reckons_198 rfl (lv_at hl 0 rfl) ?_
                          refine lv_iconst (v := 1) hx hb dX12_reckons_199 (by decide +kernel) ?_
                          refine lv_isub hx hb dX12_reckons_200 ?_
                          refine lv_topi (fun x_171 ex_171 => ?_)
                          have jx_171 : (x_171).toInt = (x_170).toInt - 1 := by rw [ex_171]; exact dk_subT2 rfl (by decide +kernel) (by omega)
                          refine lv_iload hx hb dX12_reckons_201 (lv_at hl 1 rfl) ?_
                          refine lv_aload_n hx hb dX12_reckons_203 rfl (lv_at hl 3 rfl) ?_
                          refine dg_get (C := RX12) (T := TX12) (N := 77) hx hb hts (fun w h => bw_mem (wU_X12 w h)) hown K hP sM_0 rfl 64 (dk_dq rfl) (hts _ (bw_mem wB_1143)) (fun _ h9 => h9) (v := .ref (o + 40)) (show S_154.1 0 64 = .ref (o + 40) from dg_I.rel (d := 40) I_154 sM_0 (by decide +kernel)) dX12_reckons_204 ?_
                          refine lv_iload_n hx hb dX12_reckons_207 rfl (lv_at hl 0 rfl) ?_
                          refine lv_iconst (v := 1) hx hb dX12_reckons_208 (by decide +kernel) ?_
                          refine lv_isub hx hb dX12_reckons_209 ?_
                          refine lv_topi (fun x_172 ex_172 => ?_)
                          have jx_172 : (x_172).toInt = (x_170).toInt - 1 := by rw [ex_172]; exact dk_subT2 rfl (by decide +kernel) (by omega)
                          have hin_173 : vp_in x_172 500 := (dk_inv2 (by omega))
                          refine dg_lald hx hb K hP sM_40 hin_173 dX12_reckons_210 (fun x_174 ex_174 => ?_)
                          refine lv_aload_n hx hb dX12_reckons_211 rfl (lv_at hl 3 rfl) ?_
                          refine dg_get (C := RX12) (T := TX12) (N := 77) hx hb hts (fun w h => bw_mem (wU_X12 w h)) hown K hP sM_0 rfl 64 (dk_dq rfl) (hts _ (bw_mem wB_1143)) (fun _ h9 => h9) (v := .ref (o + 40)) (show S_154.1 0 64 = .ref (o + 40) from dg_I.rel (d := 40) I_154 sM_0 (by decide +kernel)) dX12_reckons_212 ?_
                          refine lv_iload_n hx hb dX12_reckons_215 rfl (lv_at hl 0 rfl) ?_
                          have hin_175 : vp_in x_170 500 := (dk_inv2 (by omega))
                          refine dg_lald hx hb K hP sM_40 hin_175 dX12_reckons_216 (fun x_176 ex_176 => ?_)
                          refine dg_calll hS hA1 hA (va_runS (As := [.int x_166, .long x_174, .long x_176]) (rest := [.int x_171, .ref (o + 40)]) F (c_m_two l g D o S_154 x_166 x_174 x_176 I_154 H.size) (va_cwS 3 hts (bw_S wB_1145 wB_1146 wB_297 wB_1144) rfl rfl rfl (by decide +kernel) ⟨Nat.le_of_ble_eq_true rfl, Nat.le_of_ble_eq_true rfl⟩) (dg_preS K ST hP hS hA1 hA) rfl rfl hl.1 rfl (lv_room (Nat.le_of_ble_eq_true rfl)) dX12_reckons_217 ⟨Nat.le_of_ble_eq_true rfl, Nat.le_of_ble_eq_true rfl⟩) (fun x_177 S_178 hw_178 H locs hP hS => ?_)
                          rw [hw_178.1] at hP
                          obtain ⟨hq_178, w_178_0, -⟩ := hw_178
                          have hin_179 : vp_in x_171 500 := (dk_inv2 (by omega))
                          refine dg_last hx hb K hP hS hA1 sM_40 hin_179 dX12_reckons_220 (fun S_180 e_180 H locs hP hS => ?_)
                          have I_180 := dg_I.ul I_154 e_180
                          have M_180 := dg_sm.ul M_154 e_180 sM_40 (dk_dq rfl)
                          obtain ⟨x_181, ex_181⟩ : ∃ z, z = x_152 + 1 := ⟨_, rfl⟩
                          have jx_181 : (x_181).toInt = (x_152).toInt + 1 := by rw [ex_181]; exact dk_addT2 rfl (by decide +kernel) (by omega)
                          refine lv_iinc (v := x_181) (lv' := [(3, .int x_181), (2, .int x_170), (4, .int x_166), (0, .ref (o + 0)), (1, .int 2)]) hx hb dX12_reckons_221 hl (k := 2) rfl (by rw [ex_181]; rfl) (dk_dq rfl) rfl (fun ls hl => ?_)
                          refine lv_goto (tgt := 25) hx hb dX12_reckons_224 (dk_dq rfl) ?_
                          exact ih x_181 x_170 (by omega) (by omega) (dk_ok.go hok_x_166 (by omega) (by omega) (by omega)) (by first | exact mu_lt hmu (by omega) (by omega) | omega) S_180 I_180 M_180  (lp_l hF_1 (F_m_reckons_2_p1 ex_156 ex_157 ex_158 (Eq.symm ex_160.symm) ex_161 c_162 (Eq.symm ex_166.symm) c_167 c_168 c_169 ex_170 ex_171 ex_172 (Eq.symm ex_174.symm) (Eq.symm ex_176.symm) w_178_0 e_180 ex_181)) _ _ hP hS _ (lv_sub hl [0, 1, 3, 4] rfl)
                      · as_aux_lemma =>
                          have jc_169 := dk_eqc (k := 44) (by decide +kernel) c_169
                          obtain ⟨x_182, ex_182⟩ : ∃ z, z = x_153 + (-2) := ⟨_, rfl⟩
                          have jx_182 : (x_182).toInt = (x_153).toInt + (-2) := by rw [ex_182]; exact dk_addT2 rfl (by decide +kernel) (by omega)
                          refine lv_iinc (v := x_182) (lv' := [(2, .int x_182), (4, .int x_166), (3, .int x_152), (0, .ref (o + 0)), (1, .int 2)]) hx hb dX12_reckons_147 hl (k := 2) rfl (by rw [ex_182]; rfl) (dk_dq rfl) rfl (fun ls hl => ?_)
                          refine lv_aload_n hx hb dX12_reckons_150 rfl (lv_at hl 3 rfl) ?_
                          refine dg_get (C := RX12) (T := TX12) (N := 77) hx hb hts (fun w h => bw_mem (wU_X12 w h)) hown K hP sM_0 rfl 64 (dk_dq rfl) (hts _ (bw_mem wB_1143)) (fun _ h9 => h9) (v := .ref (o + 40)) (show S_154.1 0 64 = .ref (o + 40) from dg_I.rel (d := 40) I_154 sM_0 (by decide +kernel)) dX12_reckons_151 ?_
                          refine lv_iload_n hx hb dX12_reckons_154 rfl (lv_at hl 0 rfl) ?_
                          refine lv_iconst (v := 1) hx hb dX12_reckons_155 (by decide +kernel) ?_
                          refine lv_isub hx hb dX12_reckons_156 ?_
                          refine lv_topi (fun x_183 ex_183 => ?_)
                          have jx_183 : (x_183).toInt = (x_182).toInt - 1 := by rw [ex_183]; exact dk_subT2 rfl (by decide +kernel) (by omega)
                          refine lv_aload_n hx hb dX12_reckons_157 rfl (lv_at hl 3 rfl) ?_
                          refine dg_get (C := RX12) (T := TX12) (N := 77) hx hb hts (fun w h => bw_mem (wU_X12 w h)) hown K hP sM_0 rfl 64 (dk_dq rfl) (hts _ (bw_mem wB_1143)) (fun _ h9 => h9) (v := .ref (o + 40)) (show S_154.1 0 64 = .ref (o + 40) from dg_I.rel (d := 40) I_154 sM_0 (by decide +kernel)) dX12_reckons_158 ?_
                          refine lv_iload_n hx hb dX12_reckons_161 rfl (lv_at hl 0 rfl) ?_
                          refine lv_iconst (v := 1) hx hb dX12_reckons_162 (by decide +kernel) ?_
                          refine lv_isub hx hb dX12_reckons_163 ?_
                          refine lv_topi (fun x_184 ex_184 => ?_)
                          have jx_184 : (x_184).toInt = (x_182).toInt - 1 := by rw [ex_184]; exact dk_subT2 rfl (by decide +kernel) (by omega)
                          have hin_185 : vp_in x_184 500 := (dk_inv2 (by omega))
                          refine dg_lald hx hb K hP sM_40 hin_185 dX12_reckons_164 (fun x_186 ex_186 => ?_)
                          refine lv_lconst (v := 1) hx hb dX12_reckons_165 (by decide +kernel) ?_
                          refine W.lcmp hx hb dX12_reckons_166 ?_
                          refine lv_topi (fun x_187 ex_187 => ?_)
                          have hz_187 : (1 : Int64).toInt = 1 := by decide +kernel
                          have hlc_x_187 := dk_lcmp ex_187
                          refine lv_if_ne (tgt := 179) hx hb dX12_reckons_167 (dk_dq rfl) (fun c_189 => ?_) (fun c_189 => ?_)
                          · as_aux_lemma =>
                              have jc_189 := dk_neqc (k := 0) (by decide +kernel) c_189
                              refine lv_aload_n hx hb dX12_reckons_179 rfl (lv_at hl 3 rfl) ?_
                              refine dg_get (C := RX12) (T := TX12) (N := 77) hx hb hts (fun w h => bw_mem (wU_X12 w h)) hown K hP sM_0 rfl 64 (dk_dq rfl) (hts _ (bw_mem wB_1143)) (fun _ h9 => h9) (v := .ref (o + 40)) (show S_154.1 0 64 = .ref (o + 40) from dg_I.rel (d := 40) I_154 sM_0 (by decide +kernel)) dX12_reckons_180 ?_
                              refine lv_iload_n hx hb dX12_reckons_183 rfl (lv_at hl 0 rfl) ?_
                              refine lv_iconst (v := 1) hx hb dX12_reckons_184 (by decide +kernel) ?_
                              refine lv_iadd hx hb dX12_reckons_185 ?_
                              refine lv_topi (fun x_190 ex_190 => ?_)
                              have jx_190 : (x_190).toInt = (x_182).toInt + 1 := by rw [ex_190]; exact dk_addT2 rfl (by decide +kernel) (by omega)
                              have hin_191 : vp_in x_190 500 := (dk_inv2 (by omega))
                              refine dg_lald hx hb K hP sM_40 hin_191 dX12_reckons_186 (fun x_192 ex_192 => ?_)
                              have hin_193 : vp_in x_183 500 := (dk_inv2 (by omega))
                              refine dg_last hx hb K hP hS hA1 sM_40 hin_193 dX12_reckons_187 (fun S_194 e_194 H locs hP hS => ?_)
                              have I_194 := dg_I.ul I_154 e_194
                              have M_194 := dg_sm.ul M_154 e_194 sM_40 (dk_dq rfl)
                              refine lv_goto (tgt := 221) hx hb dX12_reckons_188 (dk_dq rfl) ?_
                              obtain ⟨x_195, ex_195⟩ : ∃ z, z = x_152 + 1 := ⟨_, rfl⟩
                              have jx_195 : (x_195).toInt = (x_152).toInt + 1 := by rw [ex_195]; exact dk_addT2 rfl (by decide +kernel) (by omega)
                              refine lv_iinc (v := x_195) (lv' := [(3, .int x_195), (2, .int x_182), (4, .int x_166), (0, .ref (o + 0)), (1, .int 2)]) hx hb dX12_reckons_221 hl (k := 2) rfl (by rw [ex_195]; rfl) (dk_dq rfl) rfl (fun ls hl => ?_)
                              refine lv_goto (tgt := 25) hx hb dX12_reckons_224 (dk_dq rfl) ?_
                              exact ih x_195 x_182 (by omega) (by omega) (dk_ok.go hok_x_166 (by omega) (by omega) (by omega)) (by first | exact mu_lt hmu (by omega) (by omega) | omega) S_194 I_194 M_194  (lp_l hF_1 (F_m_reckons_2_p2 ex_156 ex_157 ex_158 (Eq.symm ex_160.symm) ex_161 c_162 (Eq.symm ex_166.symm) c_167 c_168 c_169 ex_182 ex_183 ex_184 (Eq.symm ex_186.symm) ex_187 c_189 ex_190 (Eq.symm ex_192.symm) e_194 ex_195)) _ _ hP hS _ (lv_sub hl [0, 1, 3, 4] rfl)
                          · as_aux_lemma =>
                              have jc_189 := dk_eqc (k := 0) (by decide +kernel) c_189
                              refine lv_aload_n hx hb dX12_reckons_170 rfl (lv_at hl 3 rfl) ?_
                              refine dg_get (C := RX12) (T := TX12) (N := 77) hx hb hts (fun w h => bw_mem (wU_X12 w h)) hown K hP sM_0 rfl 64 (dk_dq rfl) (hts _ (bw_mem wB_1143)) (fun _ h9 => h9) (v := .ref (o + 40)) (show S_154.1 0 64 = .ref (o + 40) from dg_I.rel (d := 40) I_154 sM_0 (by decide +kernel)) dX12_reckons_171 ?_
                              refine lv_iload_n hx hb dX12_reckons_174 rfl (lv_at hl 0 rfl) ?_
                              have hin_196 : vp_in x_182 500 := (dk_inv2 (by omega))
                              refine dg_lald hx hb K hP sM_40 hin_196 dX12_reckons_175 (fun x_197 ex_197 => ?_)
                              refine lv_goto (tgt := 187) hx hb dX12_reckons_176 (dk_dq rfl) ?_
                              have hin_198 : vp_in x_183 500 := (dk_inv2 (by omega))
                              refine dg_last hx hb K hP hS hA1 sM_40 hin_198 dX12_reckons_187 (fun S_199 e_199 H locs hP hS => ?_)
                              have I_199 := dg_I.ul I_154 e_199
                              have M_199 := dg_sm.ul M_154 e_199 sM_40 (dk_dq rfl)
                              refine lv_goto (tgt := 221) hx hb dX12_reckons_188 (dk_dq rfl) ?_
                              obtain ⟨x_200, ex_200⟩ : ∃ z, z = x_152 + 1 := ⟨_, rfl⟩
                              have jx_200 : (x_200).toInt = (x_152).toInt + 1 := by rw [ex_200]; exact dk_addT2 rfl (by decide +kernel) (by omega)
                              refine lv_iinc (v := x_200) (lv' := [(3, .int x_200), (2, .int x_182), (4, .int x_166), (0, .ref (o + 0)), (1, .int 2)]) hx hb dX12_reckons_221 hl (k := 2) rfl (by rw [ex_200]; rfl) (dk_dq rfl) rfl (fun ls hl => ?_)
                              refine lv_goto (tgt := 25) hx hb dX12_reckons_224 (dk_dq rfl) ?_
                              exact ih x_200 x_182 (by omega) (by omega) (dk_ok.go hok_x_166 (by omega) (by omega) (by omega)) (by first | exact mu_lt hmu (by omega) (by omega) | omega) S_199 I_199 M_199  (lp_l hF_1 (F_m_reckons_2_p3 ex_156 ex_157 ex_158 (Eq.symm ex_160.symm) ex_161 c_162 (Eq.symm ex_166.symm) c_167 c_168 c_169 ex_182 ex_183 ex_184 (Eq.symm ex_186.symm) ex_187 c_189 (Eq.symm ex_197.symm) e_199 ex_200)) _ _ hP hS _ (lv_sub hl [0, 1, 3, 4] rfl)
                  · as_aux_lemma =>
                      have jc_168 := dk_eqc (k := 43) (by decide +kernel) c_168
                      refine lv_aload_n hx hb dX12_reckons_119 rfl (lv_at hl 3 rfl) ?_
                      refine dg_get (C := RX12) (T := TX12) (N := 77) hx hb hts (fun w h => bw_mem (wU_X12 w h)) hown K hP sM_0 rfl 64 (dk_dq rfl) (hts _ (bw_mem wB_1143)) (fun _ h9 => h9) (v := .ref (o + 40)) (show S_154.1 0 64 = .ref (o + 40) from dg_I.rel (d := 40) I_154 sM_0 (by decide +kernel)) dX12_reckons_120 ?_
                      refine lv_iload_n hx hb dX12_reckons_123 rfl (lv_at hl 2 rfl) ?_
                      refine lv_iconst (v := 1) hx hb dX12_reckons_124 (by decide +kernel) ?_
                      refine lv_isub hx hb dX12_reckons_125 ?_
                      refine lv_topi (fun x_201 ex_201 => ?_)
                      have jx_201 : (x_201).toInt = (x_153).toInt - 1 := by rw [ex_201]; exact dk_subT2 rfl (by decide +kernel) (by omega)
                      refine lv_lconst (v := 1) hx hb dX12_reckons_126 (by decide +kernel) ?_
                      refine lv_aload_n hx hb dX12_reckons_127 rfl (lv_at hl 3 rfl) ?_
                      refine dg_get (C := RX12) (T := TX12) (N := 77) hx hb hts (fun w h => bw_mem (wU_X12 w h)) hown K hP sM_0 rfl 64 (dk_dq rfl) (hts _ (bw_mem wB_1143)) (fun _ h9 => h9) (v := .ref (o + 40)) (show S_154.1 0 64 = .ref (o + 40) from dg_I.rel (d := 40) I_154 sM_0 (by decide +kernel)) dX12_reckons_128 ?_
                      refine lv_iload_n hx hb dX12_reckons_131 rfl (lv_at hl 2 rfl) ?_
                      refine lv_iconst (v := 1) hx hb dX12_reckons_132 (by decide +kernel) ?_
                      refine lv_isub hx hb dX12_reckons_133 ?_
                      refine lv_topi (fun x_202 ex_202 => ?_)
                      have jx_202 : (x_202).toInt = (x_153).toInt - 1 := by rw [ex_202]; exact dk_subT2 rfl (by decide +kernel) (by omega)
                      have hin_203 : vp_in x_202 500 := (dk_inv2 (by omega))
                      refine dg_lald hx hb K hP sM_40 hin_203 dX12_reckons_134 (fun x_204 ex_204 => ?_)
                      refine lv_lsub hx hb dX12_reckons_135 ?_
                      refine lv_topl (fun x_205 ex_205 => ?_)
                      have hin_206 : vp_in x_201 500 := (dk_inv2 (by omega))
                      refine dg_last hx hb K hP hS hA1 sM_40 hin_206 dX12_reckons_136 (fun S_207 e_207 H locs hP hS => ?_)
                      have I_207 := dg_I.ul I_154 e_207
                      have M_207 := dg_sm.ul M_154 e_207 sM_40 (dk_dq rfl)
                      refine lv_goto (tgt := 221) hx hb dX12_reckons_137 (dk_dq rfl) ?_
                      obtain ⟨x_208, ex_208⟩ : ∃ z, z = x_152 + 1 := ⟨_, rfl⟩
                      have jx_208 : (x_208).toInt = (x_152).toInt + 1 := by rw [ex_208]; exact dk_addT2 rfl (by decide +kernel) (by omega)
                      refine lv_iinc (v := x_208) (lv' := [(3, .int x_208), (4, .int x_166), (2, .int x_153), (0, .ref (o + 0)), (1, .int 2)]) hx hb dX12_reckons_221 hl (k := 1) rfl (by rw [ex_208]; rfl) (dk_dq rfl) rfl (fun ls hl => ?_)
                      refine lv_goto (tgt := 25) hx hb dX12_reckons_224 (dk_dq rfl) ?_
                      exact ih x_208 x_153 (by omega) (by omega) (dk_ok.go hok_x_166 (by omega) (by omega) (by omega)) (by first | exact mu_lt hmu (by omega) (by omega) | omega) S_207 I_207 M_207  (lp_l hF_1 (F_m_reckons_2_p4 ex_156 ex_157 ex_158 (Eq.symm ex_160.symm) ex_161 c_162 (Eq.symm ex_166.symm) c_167 c_168 ex_201 ex_202 (Eq.symm ex_204.symm) ex_205 e_207 ex_208)) _ _ hP hS _ (lv_sub hl [0, 2, 3, 4] rfl)
              · as_aux_lemma =>
                  have jc_167 := dk_ngtc (k := 30) (by decide +kernel) c_167
                  refine lv_aload_n hx hb dX12_reckons_66 rfl (lv_at hl 3 rfl) ?_
                  refine dg_get (C := RX12) (T := TX12) (N := 77) hx hb hts (fun w h => bw_mem (wU_X12 w h)) hown K hP sM_0 rfl 64 (dk_dq rfl) (hts _ (bw_mem wB_1143)) (fun _ h9 => h9) (v := .ref (o + 40)) (show S_154.1 0 64 = .ref (o + 40) from dg_I.rel (d := 40) I_154 sM_0 (by decide +kernel)) dX12_reckons_67 ?_
                  refine lv_iload_n hx hb dX12_reckons_70 rfl (lv_at hl 2 rfl) ?_
                  refine lv_iload hx hb dX12_reckons_71 (lv_at hl 0 rfl) ?_
                  refine lv_if_ne (tgt := 86) hx hb dX12_reckons_73 (dk_dq rfl) (fun c_209 => ?_) (fun c_209 => ?_)
                  · as_aux_lemma =>
                      have jc_209 := dk_neqc (k := 0) (by decide +kernel) c_209
                      refine lv_iload hx hb dX12_reckons_86 (lv_at hl 0 rfl) ?_
                      refine lv_bipush (v := 30) hx hb dX12_reckons_88 (by decide +kernel) ?_
                      refine lv_icmp_ne (tgt := 97) hx hb dX12_reckons_90 (dk_dq rfl) (fun c_210 => ?_) (fun c_210 => ?_)
                      · as_aux_lemma =>
                          have jc_210 := dk_neqc (k := 30) (by decide +kernel) c_210
                          refine lv_aload_n hx hb dX12_reckons_97 rfl (lv_at hl 3 rfl) ?_
                          refine dg_get (C := RX12) (T := TX12) (N := 77) hx hb hts (fun w h => bw_mem (wU_X12 w h)) hown K hP sM_0 rfl 65 (dk_dq rfl) (hts _ (bw_mem wB_1107)) (fun _ h9 => h9) (v := .ref (o + 41)) (show S_154.1 0 65 = .ref (o + 41) from dg_I.rel (d := 41) I_154 sM_0 (by decide +kernel)) dX12_reckons_98 ?_
                          refine lv_iload hx hb dX12_reckons_101 (lv_at hl 0 rfl) ?_
                          have hin_211 : vp_in x_166 10 := (dk_inv2 (by omega))
                          refine dg_iald hx hb K hP sM_41 hin_211 dX12_reckons_103 (fun x_212 ex_212 => ?_)
                          obtain ⟨x_213, ex_213⟩ : ∃ z, (x_212 : Int32).toInt64 = z := ⟨_, rfl⟩
                          refine lv_i2l (v := x_213) hx hb dX12_reckons_104 ex_213 ?_
                          have hin_214 : vp_in x_153 500 := (dk_inv2 (by omega))
                          refine dg_last hx hb K hP hS hA1 sM_40 hin_214 dX12_reckons_105 (fun S_215 e_215 H locs hP hS => ?_)
                          have I_215 := dg_I.ul I_154 e_215
                          have M_215 := dg_sm.ul M_154 e_215 sM_40 (dk_dq rfl)
                          obtain ⟨x_216, ex_216⟩ : ∃ z, z = x_153 + 1 := ⟨_, rfl⟩
                          have jx_216 : (x_216).toInt = (x_153).toInt + 1 := by rw [ex_216]; exact dk_addT2 rfl (by decide +kernel) (by omega)
                          refine lv_iinc (v := x_216) (lv' := [(2, .int x_216), (4, .int x_166), (3, .int x_152), (0, .ref (o + 0)), (1, .int 2)]) hx hb dX12_reckons_106 hl (k := 2) rfl (by rw [ex_216]; rfl) (dk_dq rfl) rfl (fun ls hl => ?_)
                          refine lv_goto (tgt := 221) hx hb dX12_reckons_109 (dk_dq rfl) ?_
                          obtain ⟨x_217, ex_217⟩ : ∃ z, z = x_152 + 1 := ⟨_, rfl⟩
                          have jx_217 : (x_217).toInt = (x_152).toInt + 1 := by rw [ex_217]; exact dk_addT2 rfl (by decide +kernel) (by omega)
                          refine lv_iinc (v := x_217) (lv' := [(3, .int x_217), (2, .int x_216), (4, .int x_166), (0, .ref (o + 0)), (1, .int 2)]) hx hb dX12_reckons_221 hl (k := 2) rfl (by rw [ex_217]; rfl) (dk_dq rfl) rfl (fun ls hl => ?_)
                          refine lv_goto (tgt := 25) hx hb dX12_reckons_224 (dk_dq rfl) ?_
                          exact ih x_217 x_216 (by omega) (by omega) (dk_ok.go hok_x_166 (by omega) (by omega) (by omega)) (by first | exact mu_lt hmu (by omega) (by omega) | omega) S_215 I_215 M_215  (lp_l hF_1 (F_m_reckons_2_p5 ex_156 ex_157 ex_158 (Eq.symm ex_160.symm) ex_161 c_162 (Eq.symm ex_166.symm) c_167 c_209 c_210 (Eq.symm ex_212.symm) (Eq.symm ex_213) e_215 ex_216 ex_217)) _ _ hP hS _ (lv_sub hl [0, 1, 3, 4] rfl)
                      · as_aux_lemma =>
                          have jc_210 := dk_eqc (k := 30) (by decide +kernel) c_210
                          refine lv_lconst (v := 1) hx hb dX12_reckons_93 (by decide +kernel) ?_
                          refine lv_goto (tgt := 105) hx hb dX12_reckons_94 (dk_dq rfl) ?_
                          have hin_218 : vp_in x_153 500 := (dk_inv2 (by omega))
                          refine dg_last hx hb K hP hS hA1 sM_40 hin_218 dX12_reckons_105 (fun S_219 e_219 H locs hP hS => ?_)
                          have I_219 := dg_I.ul I_154 e_219
                          have M_219 := dg_sm.ul M_154 e_219 sM_40 (dk_dq rfl)
                          obtain ⟨x_220, ex_220⟩ : ∃ z, z = x_153 + 1 := ⟨_, rfl⟩
                          have jx_220 : (x_220).toInt = (x_153).toInt + 1 := by rw [ex_220]; exact dk_addT2 rfl (by decide +kernel) (by omega)
                          refine lv_iinc (v := x_220) (lv' := [(2, .int x_220), (4, .int x_166), (3, .int x_152), (0, .ref (o + 0)), (1, .int 2)]) hx hb dX12_reckons_106 hl (k := 2) rfl (by rw [ex_220]; rfl) (dk_dq rfl) rfl (fun ls hl => ?_)
                          refine lv_goto (tgt := 221) hx hb dX12_reckons_109 (dk_dq rfl) ?_
                          obtain ⟨x_221, ex_221⟩ : ∃ z, z = x_152 + 1 := ⟨_, rfl⟩
                          have jx_221 : (x_221).toInt = (x_152).toInt + 1 := by rw [ex_221]; exact dk_addT2 rfl (by decide +kernel) (by omega)
                          refine lv_iinc (v := x_221) (lv' := [(3, .int x_221), (2, .int x_220), (4, .int x_166), (0, .ref (o + 0)), (1, .int 2)]) hx hb dX12_reckons_221 hl (k := 2) rfl (by rw [ex_221]; rfl) (dk_dq rfl) rfl (fun ls hl => ?_)
                          refine lv_goto (tgt := 25) hx hb dX12_reckons_224 (dk_dq rfl) ?_
                          exact ih x_221 x_220 (by omega) (by omega) (dk_ok.go hok_x_166 (by omega) (by omega) (by omega)) (by first | exact mu_lt hmu (by omega) (by omega) | omega) S_219 I_219 M_219  (lp_l hF_1 (F_m_reckons_2_p6 ex_156 ex_157 ex_158 (Eq.symm ex_160.symm) ex_161 c_162 (Eq.symm ex_166.symm) c_167 c_209 c_210 e_219 ex_220 ex_221)) _ _ hP hS _ (lv_sub hl [0, 1, 3, 4] rfl)
                  · as_aux_lemma =>
                      have jc_209 := dk_eqc (k := 0) (by decide +kernel) c_209
                      refine lv_aload_n hx hb dX12_reckons_76 rfl (lv_at hl 3 rfl) ?_
                      refine dg_get (C := RX12) (T := TX12) (N := 77) hx hb hts (fun w h => bw_mem (wU_X12 w h)) hown K hP sM_0 rfl 31 (dk_dq rfl) (hts _ (bw_mem wB_403)) (fun _ h9 => h9) (v := .ref (o + 19)) (show S_154.1 0 31 = .ref (o + 19) from dg_I.rel (d := 19) I_154 sM_0 (by decide +kernel)) dX12_reckons_77 ?_
                      refine lv_iload_n hx hb dX12_reckons_80 rfl (lv_at hl 1 rfl) ?_
                      have hin_222 : vp_in x_152 3200 := (dk_inv2 (by omega))
                      refine dg_iald hx hb K hP sM_19 hin_222 dX12_reckons_81 (fun x_223 ex_223 => ?_)
                      have b_x_223 := dk_all_at (dg_I.row (lo := 0) (hi := 9999) I_154 sM_19 (by decide +kernel)) hin_222 ex_223
                      obtain ⟨x_224, ex_224⟩ : ∃ z, (x_223 : Int32).toInt64 = z := ⟨_, rfl⟩
                      refine lv_i2l (v := x_224) hx hb dX12_reckons_82 ex_224 ?_
                      refine lv_goto (tgt := 105) hx hb dX12_reckons_83 (dk_dq rfl) ?_
                      have hin_225 : vp_in x_153 500 := (dk_inv2 (by omega))
                      refine dg_last hx hb K hP hS hA1 sM_40 hin_225 dX12_reckons_105 (fun S_226 e_226 H locs hP hS => ?_)
                      have I_226 := dg_I.ul I_154 e_226
                      have M_226 := dg_sm.ul M_154 e_226 sM_40 (dk_dq rfl)
                      obtain ⟨x_227, ex_227⟩ : ∃ z, z = x_153 + 1 := ⟨_, rfl⟩
                      have jx_227 : (x_227).toInt = (x_153).toInt + 1 := by rw [ex_227]; exact dk_addT2 rfl (by decide +kernel) (by omega)
                      refine lv_iinc (v := x_227) (lv' := [(2, .int x_227), (4, .int x_166), (3, .int x_152), (0, .ref (o + 0)), (1, .int 2)]) hx hb dX12_reckons_106 hl (k := 2) rfl (by rw [ex_227]; rfl) (dk_dq rfl) rfl (fun ls hl => ?_)
                      refine lv_goto (tgt := 221) hx hb dX12_reckons_109 (dk_dq rfl) ?_
                      obtain ⟨x_228, ex_228⟩ : ∃ z, z = x_152 + 1 := ⟨_, rfl⟩
                      have jx_228 : (x_228).toInt = (x_152).toInt + 1 := by rw [ex_228]; exact dk_addT2 rfl (by decide +kernel) (by omega)
                      refine lv_iinc (v := x_228) (lv' := [(3, .int x_228), (2, .int x_227), (4, .int x_166), (0, .ref (o + 0)), (1, .int 2)]) hx hb dX12_reckons_221 hl (k := 2) rfl (by rw [ex_228]; rfl) (dk_dq rfl) rfl (fun ls hl => ?_)
                      refine lv_goto (tgt := 25) hx hb dX12_reckons_224 (dk_dq rfl) ?_
                      exact ih x_228 x_227 (by omega) (by omega) (dk_ok.go hok_x_166 (by omega) (by omega) (by omega)) (by first | exact mu_lt hmu (by omega) (by omega) | omega) S_226 I_226 M_226  (lp_l hF_1 (F_m_reckons_2_p7 ex_156 ex_157 ex_158 (Eq.symm ex_160.symm) ex_161 c_162 (Eq.symm ex_166.symm) c_167 c_209 (Eq.symm ex_223.symm) (Eq.symm ex_224) e_226 ex_227 ex_228)) _ _ hP hS _ (lv_sub hl [0, 1, 3, 4] rfl)
  have hz_229 : (0 : Int32).toInt = 0 := by decide +kernel
  have hz_230 : (0 : Int32).toInt = 0 := by decide +kernel
  have hz_231 : (0 : Int32).toInt = 0 := by decide +kernel
  exact L_155 ((3201 - ((x_7 : Int32)).toInt).toNat + 1) x_7 0 (by omega) (by decide +kernel) (dk_ok.init h_rk (by omega) (by omega) (by omega) (by omega)) (by first | exact mu_lt hmu (by omega) (by omega) | omega) S I M_0  (F_m_reckons_2_p8 (zI_eq f_x_1) ex_2 ex_3 ex_4 (Eq.symm ex_6.symm) ex_7) _ _ hP hS _ (lv_sub hl [0, 1, 2, 3] rfl)
noncomputable def F_m_isFalling (o : Nat) (S : dg_S) (a1 : Int32) (a2 : Int32) : dg_S × Int32 := let x_1 : Int32 := F_m_isTold_1 o S; (if x_1 = (0 : Int32) then (S, (0 : Int32)) else let S_5 : dg_S := F_m_lays o S a1 a2; let S_7 : dg_S := (F_m_reckons_1 o S_5).1; let x_6 : Int64 := (F_m_reckons_1 o S_5).2; let x_8 : Int32 := lg_cmp x_6 (1 : Int64); (if x_8 = (0 : Int32) then (S_7, (1 : Int32)) else (S_7, (0 : Int32))))
theorem F_m_isFalling_p0 {o : Nat} {S : dg_S} {a1 : Int32} {a2 : Int32} {S_7 : dg_S} {x_1 : Int32} {S_5 : dg_S} {x_6 : Int64} {x_8 : Int32} (h0 : x_1 = F_m_isTold_1 o S) (h1 : ¬ (x_1 = (0 : Int32))) (h2 : S_5 = F_m_lays o S a1 a2) (h3 : S_7 = (F_m_reckons_1 o S_5).1) (h4 : x_6 = (F_m_reckons_1 o S_5).2) (h5 : x_8 = lg_cmp x_6 (1 : Int64)) (h6 : ¬ (x_8 = (0 : Int32))) : F_m_isFalling o S a1 a2 = (S_7, (0 : Int32)) := by
  replace h0 := Eq.symm h0
  subst h0
  replace h2 := Eq.symm h2
  subst h2
  replace h3 := Eq.symm h3
  subst h3
  replace h4 := Eq.symm h4
  subst h4
  replace h5 := Eq.symm h5
  subst h5
  exact (Eq.trans (if_neg h1) (Eq.trans (if_neg h6) rfl))
theorem F_m_isFalling_p1 {o : Nat} {S : dg_S} {a1 : Int32} {a2 : Int32} {S_7 : dg_S} {x_1 : Int32} {S_5 : dg_S} {x_6 : Int64} {x_8 : Int32} (h0 : x_1 = F_m_isTold_1 o S) (h1 : ¬ (x_1 = (0 : Int32))) (h2 : S_5 = F_m_lays o S a1 a2) (h3 : S_7 = (F_m_reckons_1 o S_5).1) (h4 : x_6 = (F_m_reckons_1 o S_5).2) (h5 : x_8 = lg_cmp x_6 (1 : Int64)) (h6 : x_8 = (0 : Int32)) : F_m_isFalling o S a1 a2 = (S_7, (1 : Int32)) := by
  replace h0 := Eq.symm h0
  subst h0
  replace h2 := Eq.symm h2
  subst h2
  replace h3 := Eq.symm h3
  subst h3
  replace h4 := Eq.symm h4
  subst h4
  replace h5 := Eq.symm h5
  subst h5
  exact (Eq.trans (if_neg h1) (Eq.trans (if_pos h6) rfl))
theorem F_m_isFalling_p2 {o : Nat} {S : dg_S} {a1 : Int32} {a2 : Int32} {x_1 : Int32} (h0 : x_1 = F_m_isTold_1 o S) (h1 : x_1 = (0 : Int32)) : F_m_isFalling o S a1 a2 = (S, (0 : Int32)) := by
  replace h0 := Eq.symm h0
  subst h0
  exact (Eq.trans (if_pos h1) rfl)
set_option maxHeartbeats 8000000 in
set_option maxRecDepth 100000 in
theorem c_m_isFalling (l : Launch) (g : Nat → ClassId) (D : va_G) (o : Nat) (S : dg_S) (a1 : Int32) (b_a1 : 0 ≤ (a1).toInt ∧ (a1).toInt ≤ 21) (a2 : Int32) (b_a2 : 0 ≤ (a2).toInt ∧ (a2).toInt ≤ 63) (ZB : ZBM S) (ZW : ZWM S) (I : CM o S) (sz : Nat) : Met l yX12_isFalling (bw yX12_isFalling cX12_isFalling 3 (some .boolean)) ({ frames := 6, cells := 0, slots := 0, locals := 147 } : Room) (dk_Pc g D (dg_w g shM o rfM S) sz [.ref (o + 0), .int a1, .int a2]) (va_Qi (fun (r : Int32) S' => CM o S' ∧ dg_sm shM [] [40, 41] S S' ∧ (0 ≤ (r).toInt ∧ (r).toInt ≤ 1) ∧ (S' = (F_m_isFalling o S a1 a2).1 ∧ r = (F_m_isFalling o S a1 a2).2) ∧ True) (dg_B g D shM o rfM) (dg_A o shM.length sz)) 0 0 (dg_A o shM.length sz) := by
  refine dg_met (cc := cX12_isFalling) (maxL := 3) (ret := (some .boolean)) (dk_dq rfl) rfl (Nat.le_of_ble_eq_true rfl) ?_
  intro p e s m args below meth c A hAe harg hx hb hr hml hts hown hlocks hin hP K hS hA1 hA ST hsz ls hl
  rw [← hAe]
  have F : CallFix p m c cX12_isFalling 3 s args (bw yX12_isFalling cX12_isFalling 3 (some .boolean)) RX12 := ⟨hx, hb, hml, hown, hts⟩
  have hl : lv_has ls 3 [(0, .ref (o + 0)), (1, .int a1), (2, .int a2)] := hl
  have M_0 : dg_sm shM [] [40, 41] S S := dg_sm.rf
  refine lv_aload_n hx hb dX12_isFalling_0 rfl (lv_at hl 0 rfl) ?_
  refine lv_iconst (v := 1) hx hb dX12_isFalling_1 (by decide +kernel) ?_
  refine dg_calli hS hA1 hA (va_runV (As := [.int 1]) (rest := []) F (c_m_isTold_1 l g D o S I s.heap.size) (cwV 1 hts (bw_V wB_1148 wB_1149 wB_1150 wB_297 wB_1147) rfl rfl rfl (by decide +kernel) ⟨Nat.le_of_ble_eq_true rfl, Nat.le_of_ble_eq_true rfl⟩) (dg_preV sM_0 rfl K ST hP hS hA1 hA) rfl rfl hl.1 rfl (lv_room (Nat.le_of_ble_eq_true rfl)) dX12_isFalling_2 ⟨Nat.le_of_ble_eq_true rfl, Nat.le_of_ble_eq_true rfl⟩) (fun x_1 S_2 hw_2 H locs hP hS => ?_)
  rw [hw_2.1] at hP
  obtain ⟨hq_2, w_2_0, w_2_1, w_2_2, -⟩ := hw_2
  try rw [hq_2] at w_2_1
  have w_2_0 : 0 ≤ (x_1).toInt ∧ (x_1).toInt ≤ 1 := w_2_0
  replace w_2_1 : (x_1).toInt = 1 → ZT1M S := w_2_1
  refine lv_if_ne (tgt := 10) hx hb dX12_isFalling_5 (dk_dq rfl) (fun c_3 => ?_) (fun c_3 => ?_)
  · as_aux_lemma =>
      have jc_3 := dk_neqc (k := 0) (by decide +kernel) c_3
      have T1_h3 : ZT1M S := w_2_1 (by omega)
      refine lv_aload_n hx hb dX12_isFalling_10 rfl (lv_at hl 0 rfl) ?_
      refine lv_iload_n hx hb dX12_isFalling_11 rfl (lv_at hl 1 rfl) ?_
      refine lv_iload_n hx hb dX12_isFalling_12 rfl (lv_at hl 2 rfl) ?_
      refine dg_callv hS hA1 hA (va_runV (As := [.int a1, .int a2]) (rest := []) F (c_m_lays l g D o S a1 (by omega) a2 (by omega) ZB I H.size) (cwV 2 hts (bw_V wB_1152 wB_1153 wB_1154 wB_297 wB_1151) rfl rfl rfl (by decide +kernel) ⟨Nat.le_of_ble_eq_true rfl, Nat.le_of_ble_eq_true rfl⟩) (dg_preV sM_0 rfl K ST hP hS hA1 hA) rfl rfl hl.1 rfl (lv_room (Nat.le_of_ble_eq_true rfl)) dX12_isFalling_13 ⟨Nat.le_of_ble_eq_true rfl, Nat.le_of_ble_eq_true rfl⟩) (fun S_5 hw_5 H locs hP hS => ?_)
      obtain ⟨I_5, m_5, w_5_0, -⟩ := hw_5
      have M_5 := dg_sm.tr M_0 m_5 (dk_dq rfl) (dk_dq rfl)
      refine lv_aload_n hx hb dX12_isFalling_16 rfl (lv_at hl 0 rfl) ?_
      refine lv_iconst (v := 1) hx hb dX12_isFalling_17 (by decide +kernel) ?_
      refine dg_calll hS hA1 hA (va_runV (As := [.int 1]) (rest := []) F (c_m_reckons_1 l g D o S_5 (ZWM.keep ZW m_5 (dk_dq rfl) (dk_dq rfl) (dk_dq rfl) (dk_dq rfl)) (ZT1M.keep T1_h3 m_5 (dk_dq rfl) (dk_dq rfl)) I_5 H.size) (cwV 1 hts (bw_V wB_1156 wB_1157 wB_1158 wB_297 wB_1155) rfl rfl rfl (by decide +kernel) ⟨Nat.le_of_ble_eq_true rfl, Nat.le_of_ble_eq_true rfl⟩) (dg_preV sM_0 rfl K ST hP hS hA1 hA) rfl rfl hl.1 rfl (lv_room (Nat.le_of_ble_eq_true rfl)) dX12_isFalling_18 ⟨Nat.le_of_ble_eq_true rfl, Nat.le_of_ble_eq_true rfl⟩) (fun x_6 S_7 hw_7 H locs hP hS => ?_)
      obtain ⟨I_7, m_7, w_7_0, -⟩ := hw_7
      have M_7 := dg_sm.tr M_5 m_7 (dk_dq rfl) (dk_dq rfl)
      refine lv_lconst (v := 1) hx hb dX12_isFalling_21 (by decide +kernel) ?_
      refine W.lcmp hx hb dX12_isFalling_22 ?_
      refine lv_topi (fun x_8 ex_8 => ?_)
      have hz_8 : (1 : Int64).toInt = 1 := by decide +kernel
      have hlc_x_8 := dk_lcmp ex_8
      refine lv_if_ne (tgt := 30) hx hb dX12_isFalling_23 (dk_dq rfl) (fun c_10 => ?_) (fun c_10 => ?_)
      · have jc_10 := dk_neqc (k := 0) (by decide +kernel) c_10
        refine lv_iconst (v := 0) hx hb dX12_isFalling_30 (by decide +kernel) ?_
        have hz_11 : (0 : Int32).toInt = 0 := by decide +kernel
        refine W.widen (k := 0) (n := 0) (Nat.le_of_ble_eq_true rfl) (Nat.le_of_ble_eq_true rfl) ?_
        exact dg_iret hx hb hr hlocks (by decide +kernel) hP hS ⟨I_7, M_7, (by decide +kernel), ⟨congrArg Prod.fst (Eq.symm (F_m_isFalling_p0 w_2_2 c_3 w_5_0 w_7_0.1 w_7_0.2 ex_8 c_10)), congrArg Prod.snd (Eq.symm (F_m_isFalling_p0 w_2_2 c_3 w_5_0 w_7_0.1 w_7_0.2 ex_8 c_10))⟩, trivial⟩ dX12_isFalling_31
      · have jc_10 := dk_eqc (k := 0) (by decide +kernel) c_10
        refine lv_iconst (v := 1) hx hb dX12_isFalling_26 (by decide +kernel) ?_
        refine lv_goto (tgt := 31) hx hb dX12_isFalling_27 (dk_dq rfl) ?_
        have hz_12 : (1 : Int32).toInt = 1 := by decide +kernel
        refine W.widen (k := 0) (n := 0) (Nat.le_of_ble_eq_true rfl) (Nat.le_of_ble_eq_true rfl) ?_
        exact dg_iret hx hb hr hlocks (by decide +kernel) hP hS ⟨I_7, M_7, (by decide +kernel), ⟨congrArg Prod.fst (Eq.symm (F_m_isFalling_p1 w_2_2 c_3 w_5_0 w_7_0.1 w_7_0.2 ex_8 c_10)), congrArg Prod.snd (Eq.symm (F_m_isFalling_p1 w_2_2 c_3 w_5_0 w_7_0.1 w_7_0.2 ex_8 c_10))⟩, trivial⟩ dX12_isFalling_31
  · have jc_3 := dk_eqc (k := 0) (by decide +kernel) c_3
    refine lv_iconst (v := 0) hx hb dX12_isFalling_8 (by decide +kernel) ?_
    have hz_13 : (0 : Int32).toInt = 0 := by decide +kernel
    refine W.widen (k := 0) (n := 0) (Nat.le_of_ble_eq_true rfl) (Nat.le_of_ble_eq_true rfl) ?_
    exact dg_iret hx hb hr hlocks (by decide +kernel) hP hS ⟨I, M_0, (by decide +kernel), ⟨congrArg Prod.fst (Eq.symm (F_m_isFalling_p2 w_2_2 c_3)), congrArg Prod.snd (Eq.symm (F_m_isFalling_p2 w_2_2 c_3))⟩, trivial⟩ dX12_isFalling_9
noncomputable def F_m_gotG (o : Nat) (S : dg_S) (a1 : Int32) (a2 : Int32) : dg_S × Int32 := let x_1 : Int32 := F_m_isTold_2 o S; (if x_1 = (0 : Int32) then let x_19 : Int32 := (64 : Int32) * a1; let x_20 : Int32 := x_19 + a2; let x_22 : Int32 := S.2.1 31 (x_20 : Int32).toNatClampNeg; (S, x_22) else let S_5 : dg_S := F_m_lays o S a1 a2; let S_7 : dg_S := (F_m_reckons_2 o S_5).1; let x_6 : Int64 := (F_m_reckons_2 o S_5).2; let x_8 : Int32 := lg_cmp x_6 (0 : Int64); (if (0 : Int32) ≤ x_8 then let x_11 : Int32 := lg_cmp x_6 (9 : Int64); (if x_11 ≤ (0 : Int32) then let x_14 : Int32 := Int64.toInt32 x_6; (S_7, x_14) else (S_7, (9 : Int32))) else (S_7, (0 : Int32))))
theorem F_m_gotG_p0 {o : Nat} {S : dg_S} {a1 : Int32} {a2 : Int32} {S_7 : dg_S} {x_14 : Int32} {x_1 : Int32} {S_5 : dg_S} {x_6 : Int64} {x_8 : Int32} {x_11 : Int32} (h0 : x_1 = F_m_isTold_2 o S) (h1 : ¬ (x_1 = (0 : Int32))) (h2 : S_5 = F_m_lays o S a1 a2) (h3 : S_7 = (F_m_reckons_2 o S_5).1) (h4 : x_6 = (F_m_reckons_2 o S_5).2) (h5 : x_8 = lg_cmp x_6 (0 : Int64)) (h6 : (0 : Int32) ≤ x_8) (h7 : x_11 = lg_cmp x_6 (9 : Int64)) (h8 : x_11 ≤ (0 : Int32)) (h9 : x_14 = Int64.toInt32 x_6) : F_m_gotG o S a1 a2 = (S_7, x_14) := by
  replace h0 := Eq.symm h0
  subst h0
  replace h2 := Eq.symm h2
  subst h2
  replace h3 := Eq.symm h3
  subst h3
  replace h4 := Eq.symm h4
  subst h4
  replace h5 := Eq.symm h5
  subst h5
  replace h7 := Eq.symm h7
  subst h7
  replace h9 := Eq.symm h9
  subst h9
  exact (Eq.trans (if_neg h1) (Eq.trans (if_pos h6) (Eq.trans (if_pos h8) rfl)))
theorem F_m_gotG_p1 {o : Nat} {S : dg_S} {a1 : Int32} {a2 : Int32} {S_7 : dg_S} {x_1 : Int32} {S_5 : dg_S} {x_6 : Int64} {x_8 : Int32} {x_11 : Int32} (h0 : x_1 = F_m_isTold_2 o S) (h1 : ¬ (x_1 = (0 : Int32))) (h2 : S_5 = F_m_lays o S a1 a2) (h3 : S_7 = (F_m_reckons_2 o S_5).1) (h4 : x_6 = (F_m_reckons_2 o S_5).2) (h5 : x_8 = lg_cmp x_6 (0 : Int64)) (h6 : (0 : Int32) ≤ x_8) (h7 : x_11 = lg_cmp x_6 (9 : Int64)) (h8 : ¬ (x_11 ≤ (0 : Int32))) : F_m_gotG o S a1 a2 = (S_7, (9 : Int32)) := by
  replace h0 := Eq.symm h0
  subst h0
  replace h2 := Eq.symm h2
  subst h2
  replace h3 := Eq.symm h3
  subst h3
  replace h4 := Eq.symm h4
  subst h4
  replace h5 := Eq.symm h5
  subst h5
  replace h7 := Eq.symm h7
  subst h7
  exact (Eq.trans (if_neg h1) (Eq.trans (if_pos h6) (Eq.trans (if_neg h8) rfl)))
theorem F_m_gotG_p2 {o : Nat} {S : dg_S} {a1 : Int32} {a2 : Int32} {S_7 : dg_S} {x_1 : Int32} {S_5 : dg_S} {x_6 : Int64} {x_8 : Int32} (h0 : x_1 = F_m_isTold_2 o S) (h1 : ¬ (x_1 = (0 : Int32))) (h2 : S_5 = F_m_lays o S a1 a2) (h3 : S_7 = (F_m_reckons_2 o S_5).1) (h4 : x_6 = (F_m_reckons_2 o S_5).2) (h5 : x_8 = lg_cmp x_6 (0 : Int64)) (h6 : ¬ ((0 : Int32) ≤ x_8)) : F_m_gotG o S a1 a2 = (S_7, (0 : Int32)) := by
  replace h0 := Eq.symm h0
  subst h0
  replace h2 := Eq.symm h2
  subst h2
  replace h3 := Eq.symm h3
  subst h3
  replace h4 := Eq.symm h4
  subst h4
  replace h5 := Eq.symm h5
  subst h5
  exact (Eq.trans (if_neg h1) (Eq.trans (if_neg h6) rfl))
theorem F_m_gotG_p3 {o : Nat} {S : dg_S} {a1 : Int32} {a2 : Int32} {x_22 : Int32} {x_1 : Int32} {x_19 : Int32} {x_20 : Int32} (h0 : x_1 = F_m_isTold_2 o S) (h1 : x_1 = (0 : Int32)) (h2 : x_19 = (64 : Int32) * a1) (h3 : x_20 = x_19 + a2) (h4 : x_22 = S.2.1 31 (x_20 : Int32).toNatClampNeg) : F_m_gotG o S a1 a2 = (S, x_22) := by
  replace h0 := Eq.symm h0
  subst h0
  replace h2 := Eq.symm h2
  subst h2
  replace h3 := Eq.symm h3
  subst h3
  replace h4 := Eq.symm h4
  subst h4
  exact (Eq.trans (if_pos h1) rfl)
set_option maxHeartbeats 8000000 in
set_option maxRecDepth 100000 in
theorem c_m_gotG (l : Launch) (g : Nat → ClassId) (D : va_G) (o : Nat) (S : dg_S) (a1 : Int32) (b_a1 : 0 ≤ (a1).toInt ∧ (a1).toInt ≤ 21) (a2 : Int32) (b_a2 : 0 ≤ (a2).toInt ∧ (a2).toInt ≤ 63) (ci : Int32) (gv : Int32) (f_gv : S.2.1 31 (ci : Int32).toNatClampNeg = gv) (b_gv : (-1) ≤ (gv).toInt ∧ (gv).toInt ≤ 9) (hci : (ci).toInt = 64 * (a1).toInt + (a2).toInt) (ZB : ZBM S) (ZW : ZWM S) (I : CM o S) (sz : Nat) : Met l yX12_got (bw yX12_got cX12_got 5 (some .int)) ({ frames := 6, cells := 0, slots := 0, locals := 147 } : Room) (dk_Pc g D (dg_w g shM o rfM S) sz [.ref (o + 0), .int a1, .int a2]) (va_Qi (fun (r : Int32) S' => CM o S' ∧ dg_sm shM [] [40, 41] S S' ∧ ((-1) ≤ (r).toInt ∧ (r).toInt ≤ 9) ∧ (0 ≤ (gv).toInt → 0 ≤ (r).toInt) ∧ (S' = (F_m_gotG o S a1 a2).1 ∧ r = (F_m_gotG o S a1 a2).2) ∧ True) (dg_B g D shM o rfM) (dg_A o shM.length sz)) 0 0 (dg_A o shM.length sz) := by
  refine dg_met (cc := cX12_got) (maxL := 5) (ret := (some .int)) (dk_dq rfl) rfl (Nat.le_of_ble_eq_true rfl) ?_
  intro p e s m args below meth c A hAe harg hx hb hr hml hts hown hlocks hin hP K hS hA1 hA ST hsz ls hl
  rw [← hAe]
  have F : CallFix p m c cX12_got 5 s args (bw yX12_got cX12_got 5 (some .int)) RX12 := ⟨hx, hb, hml, hown, hts⟩
  have hl : lv_has ls 5 [(0, .ref (o + 0)), (1, .int a1), (2, .int a2)] := hl
  have M_0 : dg_sm shM [] [40, 41] S S := dg_sm.rf
  refine lv_aload_n hx hb dX12_got_0 rfl (lv_at hl 0 rfl) ?_
  refine lv_iconst (v := 2) hx hb dX12_got_1 (by decide +kernel) ?_
  refine dg_calli hS hA1 hA (va_runV (As := [.int 2]) (rest := []) F (c_m_isTold_2 l g D o S I s.heap.size) (cwV 1 hts (bw_V wB_1148 wB_1149 wB_1150 wB_297 wB_1147) rfl rfl rfl (by decide +kernel) ⟨Nat.le_of_ble_eq_true rfl, Nat.le_of_ble_eq_true rfl⟩) (dg_preV sM_0 rfl K ST hP hS hA1 hA) rfl rfl hl.1 rfl (lv_room (Nat.le_of_ble_eq_true rfl)) dX12_got_2 ⟨Nat.le_of_ble_eq_true rfl, Nat.le_of_ble_eq_true rfl⟩) (fun x_1 S_2 hw_2 H locs hP hS => ?_)
  rw [hw_2.1] at hP
  obtain ⟨hq_2, w_2_0, w_2_1, w_2_2, -⟩ := hw_2
  try rw [hq_2] at w_2_1
  have w_2_0 : 0 ≤ (x_1).toInt ∧ (x_1).toInt ≤ 1 := w_2_0
  replace w_2_1 : (x_1).toInt = 1 → ZT2M S := w_2_1
  refine lv_if_ne (tgt := 20) hx hb dX12_got_5 (dk_dq rfl) (fun c_3 => ?_) (fun c_3 => ?_)
  · as_aux_lemma =>
      have jc_3 := dk_neqc (k := 0) (by decide +kernel) c_3
      have T2_h3 : ZT2M S := w_2_1 (by omega)
      refine lv_aload_n hx hb dX12_got_20 rfl (lv_at hl 0 rfl) ?_
      refine lv_iload_n hx hb dX12_got_21 rfl (lv_at hl 1 rfl) ?_
      refine lv_iload_n hx hb dX12_got_22 rfl (lv_at hl 2 rfl) ?_
      refine dg_callv hS hA1 hA (va_runV (As := [.int a1, .int a2]) (rest := []) F (c_m_lays l g D o S a1 (by omega) a2 (by omega) ZB I H.size) (cwV 2 hts (bw_V wB_1152 wB_1153 wB_1154 wB_297 wB_1151) rfl rfl rfl (by decide +kernel) ⟨Nat.le_of_ble_eq_true rfl, Nat.le_of_ble_eq_true rfl⟩) (dg_preV sM_0 rfl K ST hP hS hA1 hA) rfl rfl hl.1 rfl (lv_room (Nat.le_of_ble_eq_true rfl)) dX12_got_23 ⟨Nat.le_of_ble_eq_true rfl, Nat.le_of_ble_eq_true rfl⟩) (fun S_5 hw_5 H locs hP hS => ?_)
      obtain ⟨I_5, m_5, w_5_0, -⟩ := hw_5
      have M_5 := dg_sm.tr M_0 m_5 (dk_dq rfl) (dk_dq rfl)
      refine lv_aload_n hx hb dX12_got_26 rfl (lv_at hl 0 rfl) ?_
      refine lv_iconst (v := 2) hx hb dX12_got_27 (by decide +kernel) ?_
      refine dg_calll hS hA1 hA (va_runV (As := [.int 2]) (rest := []) F (c_m_reckons_2 l g D o S_5 (ZWM.keep ZW m_5 (dk_dq rfl) (dk_dq rfl) (dk_dq rfl) (dk_dq rfl)) (ZT2M.keep T2_h3 m_5 (dk_dq rfl) (dk_dq rfl)) I_5 H.size) (cwV 1 hts (bw_V wB_1156 wB_1157 wB_1158 wB_297 wB_1155) rfl rfl rfl (by decide +kernel) ⟨Nat.le_of_ble_eq_true rfl, Nat.le_of_ble_eq_true rfl⟩) (dg_preV sM_0 rfl K ST hP hS hA1 hA) rfl rfl hl.1 rfl (lv_room (Nat.le_of_ble_eq_true rfl)) dX12_got_28 ⟨Nat.le_of_ble_eq_true rfl, Nat.le_of_ble_eq_true rfl⟩) (fun x_6 S_7 hw_7 H locs hP hS => ?_)
      obtain ⟨I_7, m_7, w_7_0, -⟩ := hw_7
      have M_7 := dg_sm.tr M_5 m_7 (dk_dq rfl) (dk_dq rfl)
      refine lv_lstore_n (lv' := [(3, .long x_6), (0, .ref (o + 0)), (1, .int a1), (2, .int a2)]) hx hb dX12_got_31 rfl hl (dk_dq rfl) rfl (fun ls hl => ?_)
      refine lv_lload_n hx hb dX12_got_32 rfl (lv_at hl 0 rfl) ?_
      refine lv_lconst (v := 0) hx hb dX12_got_33 (by decide +kernel) ?_
      refine W.lcmp hx hb dX12_got_34 ?_
      refine lv_topi (fun x_8 ex_8 => ?_)
      have hz_8 : (0 : Int64).toInt = 0 := by decide +kernel
      have hlc_x_8 := dk_lcmp ex_8
      refine lv_if_ge (tgt := 42) hx hb dX12_got_35 (dk_dq rfl) (fun c_10 => ?_) (fun c_10 => ?_)
      · as_aux_lemma =>
          have jc_10 := dk_gec (k := 0) (by decide +kernel) c_10
          refine lv_lload_n hx hb dX12_got_42 rfl (lv_at hl 0 rfl) ?_
          refine lv_ldc2 hx hb hown (hts _ (bw_mem wB_1159)) dX12_got_43 ?_
          refine W.lcmp hx hb dX12_got_46 ?_
          refine lv_topi (fun x_11 ex_11 => ?_)
          have hz_11 : (9 : Int64).toInt = 9 := by decide +kernel
          have hlc_x_11 := dk_lcmp ex_11
          refine lv_if_le (tgt := 55) hx hb dX12_got_47 (dk_dq rfl) (fun c_13 => ?_) (fun c_13 => ?_)
          · have jc_13 := dk_lec (k := 0) (by decide +kernel) c_13
            refine lv_lload_n hx hb dX12_got_55 rfl (lv_at hl 0 rfl) ?_
            obtain ⟨x_14, ex_14⟩ : ∃ z, (x_6 : Int64).toInt32 = z := ⟨_, rfl⟩
            refine lv_l2i (v := x_14) hx hb dX12_got_56 ex_14 ?_
            have hli_x_14 := dk_l2i ex_14
            refine W.widen (k := 0) (n := 0) (Nat.le_of_ble_eq_true rfl) (Nat.le_of_ble_eq_true rfl) ?_
            exact dg_iret hx hb hr hlocks rfl hP hS ⟨I_7, M_7, (by omega), (by omega), ⟨congrArg Prod.fst (Eq.symm (F_m_gotG_p0 w_2_2 c_3 w_5_0 w_7_0.1 w_7_0.2 ex_8 c_10 ex_11 c_13 (Eq.symm ex_14))), congrArg Prod.snd (Eq.symm (F_m_gotG_p0 w_2_2 c_3 w_5_0 w_7_0.1 w_7_0.2 ex_8 c_10 ex_11 c_13 (Eq.symm ex_14)))⟩, trivial⟩ dX12_got_57
          · have jc_13 := dk_nlec (k := 0) (by decide +kernel) c_13
            refine lv_bipush (v := 9) hx hb dX12_got_50 (by decide +kernel) ?_
            refine lv_goto (tgt := 57) hx hb dX12_got_52 (dk_dq rfl) ?_
            have hz_15 : (9 : Int32).toInt = 9 := by decide +kernel
            have hz_16 : (9 : Int32).toInt = 9 := by decide +kernel
            refine W.widen (k := 0) (n := 0) (Nat.le_of_ble_eq_true rfl) (Nat.le_of_ble_eq_true rfl) ?_
            exact dg_iret hx hb hr hlocks rfl hP hS ⟨I_7, M_7, (by decide +kernel), (by omega), ⟨congrArg Prod.fst (Eq.symm (F_m_gotG_p1 w_2_2 c_3 w_5_0 w_7_0.1 w_7_0.2 ex_8 c_10 ex_11 c_13)), congrArg Prod.snd (Eq.symm (F_m_gotG_p1 w_2_2 c_3 w_5_0 w_7_0.1 w_7_0.2 ex_8 c_10 ex_11 c_13))⟩, trivial⟩ dX12_got_57
      · have jc_10 := dk_ngec (k := 0) (by decide +kernel) c_10
        refine lv_iconst (v := 0) hx hb dX12_got_38 (by decide +kernel) ?_
        refine lv_goto (tgt := 57) hx hb dX12_got_39 (dk_dq rfl) ?_
        have hz_17 : (0 : Int32).toInt = 0 := by decide +kernel
        have hz_18 : (0 : Int32).toInt = 0 := by decide +kernel
        refine W.widen (k := 0) (n := 0) (Nat.le_of_ble_eq_true rfl) (Nat.le_of_ble_eq_true rfl) ?_
        exact dg_iret hx hb hr hlocks rfl hP hS ⟨I_7, M_7, (by decide +kernel), (by omega), ⟨congrArg Prod.fst (Eq.symm (F_m_gotG_p2 w_2_2 c_3 w_5_0 w_7_0.1 w_7_0.2 ex_8 c_10)), congrArg Prod.snd (Eq.symm (F_m_gotG_p2 w_2_2 c_3 w_5_0 w_7_0.1 w_7_0.2 ex_8 c_10))⟩, trivial⟩ dX12_got_57
  · as_aux_lemma =>
      have jc_3 := dk_eqc (k := 0) (by decide +kernel) c_3
      refine lv_aload_n hx hb dX12_got_8 rfl (lv_at hl 0 rfl) ?_
      refine dg_get (C := RX12) (T := TX12) (N := 77) hx hb hts (fun w h => bw_mem (wU_X12 w h)) hown K hP sM_0 rfl 51 (dk_dq rfl) (hts _ (bw_mem wB_1090)) (fun _ h9 => h9) (v := .ref (o + 31)) (show S.1 0 51 = .ref (o + 31) from dg_I.rel (d := 31) I sM_0 (by decide +kernel)) dX12_got_9 ?_
      refine lv_bipush (v := 64) hx hb dX12_got_12 (by decide +kernel) ?_
      refine lv_iload_n hx hb dX12_got_14 rfl (lv_at hl 1 rfl) ?_
      refine lv_imul hx hb dX12_got_15 ?_
      refine lv_topi (fun x_19 ex_19 => ?_)
      have jx_19 : (x_19).toInt = 64 * (a1).toInt := by rw [ex_19]; exact dk_mulT2 (by decide +kernel) rfl (by omega)
      refine lv_iload_n hx hb dX12_got_16 rfl (lv_at hl 2 rfl) ?_
      refine lv_iadd hx hb dX12_got_17 ?_
      refine lv_topi (fun x_20 ex_20 => ?_)
      have jx_20 : (x_20).toInt = (x_19).toInt + (a2).toInt := by rw [ex_20]; exact dk_addT2 rfl rfl (by omega)
      have hin_21 : vp_in x_20 1408 := (dk_inv2 (by omega))
      refine dg_iald hx hb K hP sM_31 hin_21 dX12_got_18 (fun x_22 ex_22 => ?_)
      have b_x_22 := dk_all_at (dg_I.row (lo := (-1)) (hi := 9) I sM_31 (by decide +kernel)) hin_21 ex_22
      have hs_x_22 : (x_20 : Int32).toInt = (ci).toInt → (x_22).toInt = (gv).toInt := fun h => by have h9 := Int32.toInt_inj.mp h; rw [ex_22, h9]; exact congrArg Int32.toInt f_gv
      refine W.widen (k := 0) (n := 0) (Nat.le_of_ble_eq_true rfl) (Nat.le_of_ble_eq_true rfl) ?_
      exact dg_iret hx hb hr hlocks rfl hP hS ⟨I, M_0, (by omega), (by omega), ⟨congrArg Prod.fst (Eq.symm (F_m_gotG_p3 w_2_2 c_3 ex_19 ex_20 (Eq.symm ex_22.symm))), congrArg Prod.snd (Eq.symm (F_m_gotG_p3 w_2_2 c_3 ex_19 ex_20 (Eq.symm ex_22.symm)))⟩, trivial⟩ dX12_got_19
  