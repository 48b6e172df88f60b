/-! 41.m10.lean.txt -/
theorem dX12_feel_0 : decode cX12_feel 0 = .ok (.aload_n 0, 1) := dk_o42 (by decide +kernel)
theorem dX12_feel_1 : decode cX12_feel 1 = .ok (.getfield 13, 3) := dk_o180 (by decide +kernel)
theorem dX12_feel_4 : decode cX12_feel 4 = .ok (.istore_n 1, 1) := dk_o60 (by decide +kernel)
theorem dX12_feel_5 : decode cX12_feel 5 = .ok (.aload_n 0, 1) := dk_o42 (by decide +kernel)
theorem dX12_feel_6 : decode cX12_feel 6 = .ok (.iconst 0, 1) := dk_o3 (by decide +kernel)
theorem dX12_feel_7 : decode cX12_feel 7 = .ok (.putfield 13, 3) := dk_o181 (by decide +kernel)
theorem dX12_feel_10 : decode cX12_feel 10 = .ok (.iload_n 1, 1) := dk_o27 (by decide +kernel)
theorem dX12_feel_11 : decode cX12_feel 11 = .ok (.ifCond .le 19, 3) := dk_o158 (by decide +kernel)
theorem dX12_feel_14 : decode cX12_feel 14 = .ok (.iload_n 1, 1) := dk_o27 (by decide +kernel)
theorem dX12_feel_15 : decode cX12_feel 15 = .ok (.iconst 4, 1) := dk_o7 (by decide +kernel)
theorem dX12_feel_16 : decode cX12_feel 16 = .ok (.irem, 1) := dk_o112 (by decide +kernel)
theorem dX12_feel_17 : decode cX12_feel 17 = .ok (.ifCond .ne 13, 3) := dk_o154 (by decide +kernel)
theorem dX12_feel_20 : decode cX12_feel 20 = .ok (.iload_n 1, 1) := dk_o27 (by decide +kernel)
theorem dX12_feel_21 : decode cX12_feel 21 = .ok (.bipush 64, 2) := dk_o16 (by decide +kernel)
theorem dX12_feel_23 : decode cX12_feel 23 = .ok (.if_icmp .gt 7, 3) := dk_o163 (by decide +kernel)
theorem dX12_feel_26 : decode cX12_feel 26 = .ok (.iconst 1, 1) := dk_o4 (by decide +kernel)
theorem dX12_feel_27 : decode cX12_feel 27 = .ok (.goto 4, 3) := dk_o167 (by decide +kernel)
theorem dX12_feel_30 : decode cX12_feel 30 = .ok (.iconst 0, 1) := dk_o3 (by decide +kernel)
theorem dX12_feel_31 : decode cX12_feel 31 = .ok (.istore_n 2, 1) := dk_o61 (by decide +kernel)
theorem dX12_feel_32 : decode cX12_feel 32 = .ok (.iconst 0, 1) := dk_o3 (by decide +kernel)
theorem dX12_feel_33 : decode cX12_feel 33 = .ok (.istore_n 3, 1) := dk_o62 (by decide +kernel)
theorem dX12_feel_34 : decode cX12_feel 34 = .ok (.iload_n 3, 1) := dk_o29 (by decide +kernel)
theorem dX12_feel_35 : decode cX12_feel 35 = .ok (.iload_n 1, 1) := dk_o27 (by decide +kernel)
theorem dX12_feel_36 : decode cX12_feel 36 = .ok (.if_icmp .ge 80, 3) := dk_o162 (by decide +kernel)
theorem dX12_feel_39 : decode cX12_feel 39 = .ok (.iload_n 2, 1) := dk_o28 (by decide +kernel)
theorem dX12_feel_40 : decode cX12_feel 40 = .ok (.ifCond .eq 76, 3) := dk_o153 (by decide +kernel)
theorem dX12_feel_43 : decode cX12_feel 43 = .ok (.aload_n 0, 1) := dk_o42 (by decide +kernel)
theorem dX12_feel_44 : decode cX12_feel 44 = .ok (.getfield 7, 3) := dk_o180 (by decide +kernel)
theorem dX12_feel_47 : decode cX12_feel 47 = .ok (.iload_n 3, 1) := dk_o29 (by decide +kernel)
theorem dX12_feel_48 : decode cX12_feel 48 = .ok (.iaload, 1) := dk_o46 (by decide +kernel)
theorem dX12_feel_49 : decode cX12_feel 49 = .ok (.bipush 30, 2) := dk_o16 (by decide +kernel)
theorem dX12_feel_51 : decode cX12_feel 51 = .ok (.if_icmp .gt 57, 3) := dk_o163 (by decide +kernel)
theorem dX12_feel_54 : decode cX12_feel 54 = .ok (.aload_n 0, 1) := dk_o42 (by decide +kernel)
theorem dX12_feel_55 : decode cX12_feel 55 = .ok (.aload_n 0, 1) := dk_o42 (by decide +kernel)
theorem dX12_feel_56 : decode cX12_feel 56 = .ok (.getfield 7, 3) := dk_o180 (by decide +kernel)
theorem dX12_feel_59 : decode cX12_feel 59 = .ok (.iload_n 3, 1) := dk_o29 (by decide +kernel)
theorem dX12_feel_60 : decode cX12_feel 60 = .ok (.iconst 1, 1) := dk_o4 (by decide +kernel)
theorem dX12_feel_61 : decode cX12_feel 61 = .ok (.iadd, 1) := dk_o96 (by decide +kernel)
theorem dX12_feel_62 : decode cX12_feel 62 = .ok (.iaload, 1) := dk_o46 (by decide +kernel)
theorem dX12_feel_63 : decode cX12_feel 63 = .ok (.aload_n 0, 1) := dk_o42 (by decide +kernel)
theorem dX12_feel_64 : decode cX12_feel 64 = .ok (.getfield 7, 3) := dk_o180 (by decide +kernel)
theorem dX12_feel_67 : decode cX12_feel 67 = .ok (.iload_n 3, 1) := dk_o29 (by decide +kernel)
theorem dX12_feel_68 : decode cX12_feel 68 = .ok (.iconst 2, 1) := dk_o5 (by decide +kernel)
theorem dX12_feel_69 : decode cX12_feel 69 = .ok (.iadd, 1) := dk_o96 (by decide +kernel)
theorem dX12_feel_70 : decode cX12_feel 70 = .ok (.iaload, 1) := dk_o46 (by decide +kernel)
theorem dX12_feel_71 : decode cX12_feel 71 = .ok (.invokevirtual 452, 3) := dk_o182 (by decide +kernel)
theorem dX12_feel_74 : decode cX12_feel 74 = .ok (.ifCond .eq 34, 3) := dk_o153 (by decide +kernel)
theorem dX12_feel_77 : decode cX12_feel 77 = .ok (.aload_n 0, 1) := dk_o42 (by decide +kernel)
theorem dX12_feel_78 : decode cX12_feel 78 = .ok (.getfield 7, 3) := dk_o180 (by decide +kernel)
theorem dX12_feel_81 : decode cX12_feel 81 = .ok (.iload_n 3, 1) := dk_o29 (by decide +kernel)
theorem dX12_feel_82 : decode cX12_feel 82 = .ok (.iconst 3, 1) := dk_o6 (by decide +kernel)
theorem dX12_feel_83 : decode cX12_feel 83 = .ok (.iadd, 1) := dk_o96 (by decide +kernel)
theorem dX12_feel_84 : decode cX12_feel 84 = .ok (.iaload, 1) := dk_o46 (by decide +kernel)
theorem dX12_feel_85 : decode cX12_feel 85 = .ok (.bipush 9, 2) := dk_o16 (by decide +kernel)
theorem dX12_feel_87 : decode cX12_feel 87 = .ok (.if_icmp .le 17, 3) := dk_o164 (by decide +kernel)
theorem dX12_feel_90 : decode cX12_feel 90 = .ok (.aload_n 0, 1) := dk_o42 (by decide +kernel)
theorem dX12_feel_91 : decode cX12_feel 91 = .ok (.getfield 7, 3) := dk_o180 (by decide +kernel)
theorem dX12_feel_94 : decode cX12_feel 94 = .ok (.iload_n 3, 1) := dk_o29 (by decide +kernel)
theorem dX12_feel_95 : decode cX12_feel 95 = .ok (.iconst 3, 1) := dk_o6 (by decide +kernel)
theorem dX12_feel_96 : decode cX12_feel 96 = .ok (.iadd, 1) := dk_o96 (by decide +kernel)
theorem dX12_feel_97 : decode cX12_feel 97 = .ok (.iaload, 1) := dk_o46 (by decide +kernel)
theorem dX12_feel_98 : decode cX12_feel 98 = .ok (.sipush 255, 3) := dk_o17 (by decide +kernel)
theorem dX12_feel_101 : decode cX12_feel 101 = .ok (.if_icmp .ne 7, 3) := dk_o160 (by decide +kernel)
theorem dX12_feel_104 : decode cX12_feel 104 = .ok (.iconst 1, 1) := dk_o4 (by decide +kernel)
theorem dX12_feel_105 : decode cX12_feel 105 = .ok (.goto 4, 3) := dk_o167 (by decide +kernel)
theorem dX12_feel_108 : decode cX12_feel 108 = .ok (.iconst 0, 1) := dk_o3 (by decide +kernel)
theorem dX12_feel_109 : decode cX12_feel 109 = .ok (.istore_n 2, 1) := dk_o61 (by decide +kernel)
theorem dX12_feel_110 : decode cX12_feel 110 = .ok (.iinc 3 4, 3) := dk_o132 (by decide +kernel)
theorem dX12_feel_113 : decode cX12_feel 113 = .ok (.goto (-79), 3) := dk_o167 (by decide +kernel)
theorem dX12_feel_116 : decode cX12_feel 116 = .ok (.iload_n 2, 1) := dk_o28 (by decide +kernel)
theorem dX12_feel_117 : decode cX12_feel 117 = .ok (.ifCond .ne 9, 3) := dk_o154 (by decide +kernel)
theorem dX12_feel_120 : decode cX12_feel 120 = .ok (.aload_n 0, 1) := dk_o42 (by decide +kernel)
theorem dX12_feel_121 : decode cX12_feel 121 = .ok (.iconst 5, 1) := dk_o8 (by decide +kernel)
theorem dX12_feel_122 : decode cX12_feel 122 = .ok (.invokevirtual 247, 3) := dk_o182 (by decide +kernel)
theorem dX12_feel_125 : decode cX12_feel 125 = .ok (.ireturn, 1) := dk_o172 (by decide +kernel)
theorem dX12_feel_126 : decode cX12_feel 126 = .ok (.aload_n 0, 1) := dk_o42 (by decide +kernel)
theorem dX12_feel_127 : decode cX12_feel 127 = .ok (.iload_n 1, 1) := dk_o27 (by decide +kernel)
theorem dX12_feel_128 : decode cX12_feel 128 = .ok (.iconst 4, 1) := dk_o7 (by decide +kernel)
theorem dX12_feel_129 : decode cX12_feel 129 = .ok (.idiv, 1) := dk_o108 (by decide +kernel)
theorem dX12_feel_130 : decode cX12_feel 130 = .ok (.putfield 222, 3) := dk_o181 (by decide +kernel)
theorem dX12_feel_133 : decode cX12_feel 133 = .ok (.iconst 0, 1) := dk_o3 (by decide +kernel)
theorem dX12_feel_134 : decode cX12_feel 134 = .ok (.istore_n 3, 1) := dk_o62 (by decide +kernel)
theorem dX12_feel_135 : decode cX12_feel 135 = .ok (.iload_n 3, 1) := dk_o29 (by decide +kernel)
theorem dX12_feel_136 : decode cX12_feel 136 = .ok (.aload_n 0, 1) := dk_o42 (by decide +kernel)
theorem dX12_feel_137 : decode cX12_feel 137 = .ok (.getfield 222, 3) := dk_o180 (by decide +kernel)
theorem dX12_feel_140 : decode cX12_feel 140 = .ok (.if_icmp .ge 89, 3) := dk_o162 (by decide +kernel)
theorem dX12_feel_143 : decode cX12_feel 143 = .ok (.aload_n 0, 1) := dk_o42 (by decide +kernel)
theorem dX12_feel_144 : decode cX12_feel 144 = .ok (.getfield 225, 3) := dk_o180 (by decide +kernel)
theorem dX12_feel_147 : decode cX12_feel 147 = .ok (.iload_n 3, 1) := dk_o29 (by decide +kernel)
theorem dX12_feel_148 : decode cX12_feel 148 = .ok (.aload_n 0, 1) := dk_o42 (by decide +kernel)
theorem dX12_feel_149 : decode cX12_feel 149 = .ok (.getfield 7, 3) := dk_o180 (by decide +kernel)
theorem dX12_feel_152 : decode cX12_feel 152 = .ok (.iconst 4, 1) := dk_o7 (by decide +kernel)
theorem dX12_feel_153 : decode cX12_feel 153 = .ok (.iload_n 3, 1) := dk_o29 (by decide +kernel)
theorem dX12_feel_154 : decode cX12_feel 154 = .ok (.imul, 1) := dk_o104 (by decide +kernel)
theorem dX12_feel_155 : decode cX12_feel 155 = .ok (.iaload, 1) := dk_o46 (by decide +kernel)
theorem dX12_feel_156 : decode cX12_feel 156 = .ok (.iastore, 1) := dk_o79 (by decide +kernel)
theorem dX12_feel_157 : decode cX12_feel 157 = .ok (.aload_n 0, 1) := dk_o42 (by decide +kernel)
theorem dX12_feel_158 : decode cX12_feel 158 = .ok (.getfield 228, 3) := dk_o180 (by decide +kernel)
theorem dX12_feel_161 : decode cX12_feel 161 = .ok (.iload_n 3, 1) := dk_o29 (by decide +kernel)
theorem dX12_feel_162 : decode cX12_feel 162 = .ok (.bipush 8, 2) := dk_o16 (by decide +kernel)
theorem dX12_feel_164 : decode cX12_feel 164 = .ok (.aload_n 0, 1) := dk_o42 (by decide +kernel)
theorem dX12_feel_165 : decode cX12_feel 165 = .ok (.getfield 7, 3) := dk_o180 (by decide +kernel)
theorem dX12_feel_168 : decode cX12_feel 168 = .ok (.iconst 4, 1) := dk_o7 (by decide +kernel)
theorem dX12_feel_169 : decode cX12_feel 169 = .ok (.iload_n 3, 1) := dk_o29 (by decide +kernel)
theorem dX12_feel_170 : decode cX12_feel 170 = .ok (.imul, 1) := dk_o104 (by decide +kernel)
theorem dX12_feel_171 : decode cX12_feel 171 = .ok (.iconst 2, 1) := dk_o5 (by decide +kernel)
theorem dX12_feel_172 : decode cX12_feel 172 = .ok (.iadd, 1) := dk_o96 (by decide +kernel)
theorem dX12_feel_173 : decode cX12_feel 173 = .ok (.iaload, 1) := dk_o46 (by decide +kernel)
theorem dX12_feel_174 : decode cX12_feel 174 = .ok (.imul, 1) := dk_o104 (by decide +kernel)
theorem dX12_feel_175 : decode cX12_feel 175 = .ok (.aload_n 0, 1) := dk_o42 (by decide +kernel)
theorem dX12_feel_176 : decode cX12_feel 176 = .ok (.getfield 7, 3) := dk_o180 (by decide +kernel)
theorem dX12_feel_179 : decode cX12_feel 179 = .ok (.iconst 4, 1) := dk_o7 (by decide +kernel)
theorem dX12_feel_180 : decode cX12_feel 180 = .ok (.iload_n 3, 1) := dk_o29 (by decide +kernel)
theorem dX12_feel_181 : decode cX12_feel 181 = .ok (.imul, 1) := dk_o104 (by decide +kernel)
theorem dX12_feel_182 : decode cX12_feel 182 = .ok (.iconst 1, 1) := dk_o4 (by decide +kernel)
theorem dX12_feel_183 : decode cX12_feel 183 = .ok (.iadd, 1) := dk_o96 (by decide +kernel)
theorem dX12_feel_184 : decode cX12_feel 184 = .ok (.iaload, 1) := dk_o46 (by decide +kernel)
theorem dX12_feel_185 : decode cX12_feel 185 = .ok (.iadd, 1) := dk_o96 (by decide +kernel)
theorem dX12_feel_186 : decode cX12_feel 186 = .ok (.iastore, 1) := dk_o79 (by decide +kernel)
theorem dX12_feel_187 : decode cX12_feel 187 = .ok (.aload_n 0, 1) := dk_o42 (by decide +kernel)
theorem dX12_feel_188 : decode cX12_feel 188 = .ok (.getfield 231, 3) := dk_o180 (by decide +kernel)
theorem dX12_feel_191 : decode cX12_feel 191 = .ok (.iload_n 3, 1) := dk_o29 (by decide +kernel)
theorem dX12_feel_192 : decode cX12_feel 192 = .ok (.aload_n 0, 1) := dk_o42 (by decide +kernel)
theorem dX12_feel_193 : decode cX12_feel 193 = .ok (.getfield 7, 3) := dk_o180 (by decide +kernel)
theorem dX12_feel_196 : decode cX12_feel 196 = .ok (.iconst 4, 1) := dk_o7 (by decide +kernel)
theorem dX12_feel_197 : decode cX12_feel 197 = .ok (.iload_n 3, 1) := dk_o29 (by decide +kernel)
theorem dX12_feel_198 : decode cX12_feel 198 = .ok (.imul, 1) := dk_o104 (by decide +kernel)
theorem dX12_feel_199 : decode cX12_feel 199 = .ok (.iconst 3, 1) := dk_o6 (by decide +kernel)
theorem dX12_feel_200 : decode cX12_feel 200 = .ok (.iadd, 1) := dk_o96 (by decide +kernel)
theorem dX12_feel_201 : decode cX12_feel 201 = .ok (.iaload, 1) := dk_o46 (by decide +kernel)
theorem dX12_feel_202 : decode cX12_feel 202 = .ok (.sipush 255, 3) := dk_o17 (by decide +kernel)
theorem dX12_feel_205 : decode cX12_feel 205 = .ok (.if_icmp .ne 7, 3) := dk_o160 (by decide +kernel)
theorem dX12_feel_208 : decode cX12_feel 208 = .ok (.iconst (-1), 1) := dk_o2 (by decide +kernel)
theorem dX12_feel_209 : decode cX12_feel 209 = .ok (.goto 13, 3) := dk_o167 (by decide +kernel)
theorem dX12_feel_212 : decode cX12_feel 212 = .ok (.aload_n 0, 1) := dk_o42 (by decide +kernel)
theorem dX12_feel_213 : decode cX12_feel 213 = .ok (.getfield 7, 3) := dk_o180 (by decide +kernel)
theorem dX12_feel_216 : decode cX12_feel 216 = .ok (.iconst 4, 1) := dk_o7 (by decide +kernel)
theorem dX12_feel_217 : decode cX12_feel 217 = .ok (.iload_n 3, 1) := dk_o29 (by decide +kernel)
theorem dX12_feel_218 : decode cX12_feel 218 = .ok (.imul, 1) := dk_o104 (by decide +kernel)
theorem dX12_feel_219 : decode cX12_feel 219 = .ok (.iconst 3, 1) := dk_o6 (by decide +kernel)
theorem dX12_feel_220 : decode cX12_feel 220 = .ok (.iadd, 1) := dk_o96 (by decide +kernel)
theorem dX12_feel_221 : decode cX12_feel 221 = .ok (.iaload, 1) := dk_o46 (by decide +kernel)
theorem dX12_feel_222 : decode cX12_feel 222 = .ok (.iastore, 1) := dk_o79 (by decide +kernel)
theorem dX12_feel_223 : decode cX12_feel 223 = .ok (.iinc 3 1, 3) := dk_o132 (by decide +kernel)
theorem dX12_feel_226 : decode cX12_feel 226 = .ok (.goto (-91), 3) := dk_o167 (by decide +kernel)
theorem dX12_feel_229 : decode cX12_feel 229 = .ok (.aload_n 0, 1) := dk_o42 (by decide +kernel)
theorem dX12_feel_230 : decode cX12_feel 230 = .ok (.getfield 222, 3) := dk_o180 (by decide +kernel)
theorem dX12_feel_233 : decode cX12_feel 233 = .ok (.ireturn, 1) := dk_o172 (by decide +kernel)
theorem dX12_comesOn_0 : decode cX12_comesOn 0 = .ok (.iconst 5, 1) := dk_o8 (by decide +kernel)
theorem dX12_comesOn_1 : decode cX12_comesOn 1 = .ok (.aload_n 0, 1) := dk_o42 (by decide +kernel)
theorem dX12_comesOn_2 : decode cX12_comesOn 2 = .ok (.getfield 54, 3) := dk_o180 (by decide +kernel)
theorem dX12_comesOn_5 : decode cX12_comesOn 5 = .ok (.aload_n 0, 1) := dk_o42 (by decide +kernel)
theorem dX12_comesOn_6 : decode cX12_comesOn 6 = .ok (.getfield 51, 3) := dk_o180 (by decide +kernel)
theorem dX12_comesOn_9 : decode cX12_comesOn 9 = .ok (.iaload, 1) := dk_o46 (by decide +kernel)
theorem dX12_comesOn_10 : decode cX12_comesOn 10 = .ok (.aload_n 0, 1) := dk_o42 (by decide +kernel)
theorem dX12_comesOn_11 : decode cX12_comesOn 11 = .ok (.getfield 57, 3) := dk_o180 (by decide +kernel)
theorem dX12_comesOn_14 : decode cX12_comesOn 14 = .ok (.aload_n 0, 1) := dk_o42 (by decide +kernel)
theorem dX12_comesOn_15 : decode cX12_comesOn 15 = .ok (.getfield 51, 3) := dk_o180 (by decide +kernel)
theorem dX12_comesOn_18 : decode cX12_comesOn 18 = .ok (.iaload, 1) := dk_o46 (by decide +kernel)
theorem dX12_comesOn_19 : decode cX12_comesOn 19 = .ok (.imul, 1) := dk_o104 (by decide +kernel)
theorem dX12_comesOn_20 : decode cX12_comesOn 20 = .ok (.iadd, 1) := dk_o96 (by decide +kernel)
theorem dX12_comesOn_21 : decode cX12_comesOn 21 = .ok (.istore_n 2, 1) := dk_o61 (by decide +kernel)
theorem dX12_comesOn_22 : decode cX12_comesOn 22 = .ok (.iload_n 2, 1) := dk_o28 (by decide +kernel)
theorem dX12_comesOn_23 : decode cX12_comesOn 23 = .ok (.aload_n 0, 1) := dk_o42 (by decide +kernel)
theorem dX12_comesOn_24 : decode cX12_comesOn 24 = .ok (.getfield 72, 3) := dk_o180 (by decide +kernel)
theorem dX12_comesOn_27 : decode cX12_comesOn 27 = .ok (.aload_n 0, 1) := dk_o42 (by decide +kernel)
theorem dX12_comesOn_28 : decode cX12_comesOn 28 = .ok (.getfield 51, 3) := dk_o180 (by decide +kernel)
theorem dX12_comesOn_31 : decode cX12_comesOn 31 = .ok (.iaload, 1) := dk_o46 (by decide +kernel)
theorem dX12_comesOn_32 : decode cX12_comesOn 32 = .ok (.iadd, 1) := dk_o96 (by decide +kernel)
theorem dX12_comesOn_33 : decode cX12_comesOn 33 = .ok (.istore_n 3, 1) := dk_o62 (by decide +kernel)
theorem dX12_comesOn_34 : decode cX12_comesOn 34 = .ok (.iload_n 3, 1) := dk_o29 (by decide +kernel)
theorem dX12_comesOn_35 : decode cX12_comesOn 35 = .ok (.iconst 3, 1) := dk_o6 (by decide +kernel)
theorem dX12_comesOn_36 : decode cX12_comesOn 36 = .ok (.aload_n 0, 1) := dk_o42 (by decide +kernel)
theorem dX12_comesOn_37 : decode cX12_comesOn 37 = .ok (.getfield 75, 3) := dk_o180 (by decide +kernel)
theorem dX12_comesOn_40 : decode cX12_comesOn 40 = .ok (.aload_n 0, 1) := dk_o42 (by decide +kernel)
theorem dX12_comesOn_41 : decode cX12_comesOn 41 = .ok (.getfield 51, 3) := dk_o180 (by decide +kernel)
theorem dX12_comesOn_44 : decode cX12_comesOn 44 = .ok (.iaload, 1) := dk_o46 (by decide +kernel)
theorem dX12_comesOn_45 : decode cX12_comesOn 45 = .ok (.imul, 1) := dk_o104 (by decide +kernel)
theorem dX12_comesOn_46 : decode cX12_comesOn 46 = .ok (.iadd, 1) := dk_o96 (by decide +kernel)
theorem dX12_comesOn_47 : decode cX12_comesOn 47 = .ok (.istore 4, 2) := dk_o54 (by decide +kernel)
theorem dX12_comesOn_49 : decode cX12_comesOn 49 = .ok (.iload 4, 2) := dk_o21 (by decide +kernel)
theorem dX12_comesOn_51 : decode cX12_comesOn 51 = .ok (.aload_n 0, 1) := dk_o42 (by decide +kernel)
theorem dX12_comesOn_52 : decode cX12_comesOn 52 = .ok (.getfield 84, 3) := dk_o180 (by decide +kernel)
theorem dX12_comesOn_55 : decode cX12_comesOn 55 = .ok (.aload_n 0, 1) := dk_o42 (by decide +kernel)
theorem dX12_comesOn_56 : decode cX12_comesOn 56 = .ok (.getfield 51, 3) := dk_o180 (by decide +kernel)
theorem dX12_comesOn_59 : decode cX12_comesOn 59 = .ok (.iaload, 1) := dk_o46 (by decide +kernel)
theorem dX12_comesOn_60 : decode cX12_comesOn 60 = .ok (.iadd, 1) := dk_o96 (by decide +kernel)
theorem dX12_comesOn_61 : decode cX12_comesOn 61 = .ok (.istore 5, 2) := dk_o54 (by decide +kernel)
theorem dX12_comesOn_63 : decode cX12_comesOn 63 = .ok (.aload_n 0, 1) := dk_o42 (by decide +kernel)
theorem dX12_comesOn_64 : decode cX12_comesOn 64 = .ok (.getfield 7, 3) := dk_o180 (by decide +kernel)
theorem dX12_comesOn_67 : decode cX12_comesOn 67 = .ok (.iconst 2, 1) := dk_o5 (by decide +kernel)
theorem dX12_comesOn_68 : decode cX12_comesOn 68 = .ok (.iaload, 1) := dk_o46 (by decide +kernel)
theorem dX12_comesOn_69 : decode cX12_comesOn 69 = .ok (.bipush 16, 2) := dk_o16 (by decide +kernel)
theorem dX12_comesOn_71 : decode cX12_comesOn 71 = .ok (.ishl, 1) := dk_o120 (by decide +kernel)
theorem dX12_comesOn_72 : decode cX12_comesOn 72 = .ok (.aload_n 0, 1) := dk_o42 (by decide +kernel)
theorem dX12_comesOn_73 : decode cX12_comesOn 73 = .ok (.getfield 7, 3) := dk_o180 (by decide +kernel)
theorem dX12_comesOn_76 : decode cX12_comesOn 76 = .ok (.iconst 3, 1) := dk_o6 (by decide +kernel)
theorem dX12_comesOn_77 : decode cX12_comesOn 77 = .ok (.iaload, 1) := dk_o46 (by decide +kernel)
theorem dX12_comesOn_78 : decode cX12_comesOn 78 = .ok (.bipush 8, 2) := dk_o16 (by decide +kernel)
theorem dX12_comesOn_80 : decode cX12_comesOn 80 = .ok (.ishl, 1) := dk_o120 (by decide +kernel)
theorem dX12_comesOn_81 : decode cX12_comesOn 81 = .ok (.ior, 1) := dk_o128 (by decide +kernel)
theorem dX12_comesOn_82 : decode cX12_comesOn 82 = .ok (.aload_n 0, 1) := dk_o42 (by decide +kernel)
theorem dX12_comesOn_83 : decode cX12_comesOn 83 = .ok (.getfield 7, 3) := dk_o180 (by decide +kernel)
theorem dX12_comesOn_86 : decode cX12_comesOn 86 = .ok (.iconst 4, 1) := dk_o7 (by decide +kernel)
theorem dX12_comesOn_87 : decode cX12_comesOn 87 = .ok (.iaload, 1) := dk_o46 (by decide +kernel)
theorem dX12_comesOn_88 : decode cX12_comesOn 88 = .ok (.ior, 1) := dk_o128 (by decide +kernel)
theorem dX12_comesOn_89 : decode cX12_comesOn 89 = .ok (.istore 6, 2) := dk_o54 (by decide +kernel)
theorem dX12_comesOn_91 : decode cX12_comesOn 91 = .ok (.aload_n 0, 1) := dk_o42 (by decide +kernel)
theorem dX12_comesOn_92 : decode cX12_comesOn 92 = .ok (.getfield 156, 3) := dk_o180 (by decide +kernel)
theorem dX12_comesOn_95 : decode cX12_comesOn 95 = .ok (.ifCond .eq 44, 3) := dk_o153 (by decide +kernel)
theorem dX12_comesOn_98 : decode cX12_comesOn 98 = .ok (.iload_n 1, 1) := dk_o27 (by decide +kernel)
theorem dX12_comesOn_99 : decode cX12_comesOn 99 = .ok (.iload 5, 2) := dk_o21 (by decide +kernel)
theorem dX12_comesOn_101 : decode cX12_comesOn 101 = .ok (.bipush 10, 2) := dk_o16 (by decide +kernel)
theorem dX12_comesOn_103 : decode cX12_comesOn 103 = .ok (.iadd, 1) := dk_o96 (by decide +kernel)
theorem dX12_comesOn_104 : decode cX12_comesOn 104 = .ok (.iconst 1, 1) := dk_o4 (by decide +kernel)
theorem dX12_comesOn_105 : decode cX12_comesOn 105 = .ok (.iadd, 1) := dk_o96 (by decide +kernel)
theorem dX12_comesOn_106 : decode cX12_comesOn 106 = .ok (.if_icmp .ne 33, 3) := dk_o160 (by decide +kernel)
theorem dX12_comesOn_109 : decode cX12_comesOn 109 = .ok (.aload_n 0, 1) := dk_o42 (by decide +kernel)
theorem dX12_comesOn_110 : decode cX12_comesOn 110 = .ok (.getfield 7, 3) := dk_o180 (by decide +kernel)
theorem dX12_comesOn_113 : decode cX12_comesOn 113 = .ok (.iconst 0, 1) := dk_o3 (by decide +kernel)
theorem dX12_comesOn_114 : decode cX12_comesOn 114 = .ok (.iaload, 1) := dk_o46 (by decide +kernel)
theorem dX12_comesOn_115 : decode cX12_comesOn 115 = .ok (.bipush 8, 2) := dk_o16 (by decide +kernel)
theorem dX12_comesOn_117 : decode cX12_comesOn 117 = .ok (.ishl, 1) := dk_o120 (by decide +kernel)
theorem dX12_comesOn_118 : decode cX12_comesOn 118 = .ok (.aload_n 0, 1) := dk_o42 (by decide +kernel)
theorem dX12_comesOn_119 : decode cX12_comesOn 119 = .ok (.getfield 7, 3) := dk_o180 (by decide +kernel)
theorem dX12_comesOn_122 : decode cX12_comesOn 122 = .ok (.iconst 1, 1) := dk_o4 (by decide +kernel)
theorem dX12_comesOn_123 : decode cX12_comesOn 123 = .ok (.iaload, 1) := dk_o46 (by decide +kernel)
theorem dX12_comesOn_124 : decode cX12_comesOn 124 = .ok (.ior, 1) := dk_o128 (by decide +kernel)
theorem dX12_comesOn_125 : decode cX12_comesOn 125 = .ok (.sipush 999, 3) := dk_o17 (by decide +kernel)
theorem dX12_comesOn_128 : decode cX12_comesOn 128 = .ok (.if_icmp .gt 11, 3) := dk_o163 (by decide +kernel)
theorem dX12_comesOn_131 : decode cX12_comesOn 131 = .ok (.iload 6, 2) := dk_o21 (by decide +kernel)
theorem dX12_comesOn_133 : decode cX12_comesOn 133 = .ok (.ldc_w 580, 3) := dk_o19 (by decide +kernel)
theorem dX12_comesOn_136 : decode cX12_comesOn 136 = .ok (.if_icmp .le 5, 3) := dk_o164 (by decide +kernel)
theorem dX12_comesOn_139 : decode cX12_comesOn 139 = .ok (.iconst 0, 1) := dk_o3 (by decide +kernel)
theorem dX12_comesOn_140 : decode cX12_comesOn 140 = .ok (.ireturn, 1) := dk_o172 (by decide +kernel)
theorem dX12_comesOn_141 : decode cX12_comesOn 141 = .ok (.sipush 233, 3) := dk_o17 (by decide +kernel)
theorem dX12_comesOn_144 : decode cX12_comesOn 144 = .ok (.istore 7, 2) := dk_o54 (by decide +kernel)
theorem dX12_comesOn_146 : decode cX12_comesOn 146 = .ok (.iconst 0, 1) := dk_o3 (by decide +kernel)
theorem dX12_comesOn_147 : decode cX12_comesOn 147 = .ok (.istore 8, 2) := dk_o54 (by decide +kernel)
theorem dX12_comesOn_149 : decode cX12_comesOn 149 = .ok (.iload 8, 2) := dk_o21 (by decide +kernel)
theorem dX12_comesOn_151 : decode cX12_comesOn 151 = .ok (.iload_n 1, 1) := dk_o27 (by decide +kernel)
theorem dX12_comesOn_152 : decode cX12_comesOn 152 = .ok (.iconst 1, 1) := dk_o4 (by decide +kernel)
theorem dX12_comesOn_153 : decode cX12_comesOn 153 = .ok (.isub, 1) := dk_o100 (by decide +kernel)
theorem dX12_comesOn_154 : decode cX12_comesOn 154 = .ok (.if_icmp .ge 27, 3) := dk_o162 (by decide +kernel)
theorem dX12_comesOn_157 : decode cX12_comesOn 157 = .ok (.iconst 5, 1) := dk_o8 (by decide +kernel)
theorem dX12_comesOn_158 : decode cX12_comesOn 158 = .ok (.iload 7, 2) := dk_o21 (by decide +kernel)
theorem dX12_comesOn_160 : decode cX12_comesOn 160 = .ok (.imul, 1) := dk_o104 (by decide +kernel)
theorem dX12_comesOn_161 : decode cX12_comesOn 161 = .ok (.aload_n 0, 1) := dk_o42 (by decide +kernel)
theorem dX12_comesOn_162 : decode cX12_comesOn 162 = .ok (.getfield 7, 3) := dk_o180 (by decide +kernel)
theorem dX12_comesOn_165 : decode cX12_comesOn 165 = .ok (.iload 8, 2) := dk_o21 (by decide +kernel)
theorem dX12_comesOn_167 : decode cX12_comesOn 167 = .ok (.iaload, 1) := dk_o46 (by decide +kernel)
theorem dX12_comesOn_168 : decode cX12_comesOn 168 = .ok (.iadd, 1) := dk_o96 (by decide +kernel)
theorem dX12_comesOn_169 : decode cX12_comesOn 169 = .ok (.sipush 251, 3) := dk_o17 (by decide +kernel)
theorem dX12_comesOn_172 : decode cX12_comesOn 172 = .ok (.irem, 1) := dk_o112 (by decide +kernel)
theorem dX12_comesOn_173 : decode cX12_comesOn 173 = .ok (.istore 7, 2) := dk_o54 (by decide +kernel)
theorem dX12_comesOn_175 : decode cX12_comesOn 175 = .ok (.iinc 8 1, 3) := dk_o132 (by decide +kernel)
theorem dX12_comesOn_178 : decode cX12_comesOn 178 = .ok (.goto (-29), 3) := dk_o167 (by decide +kernel)
theorem dX12_comesOn_181 : decode cX12_comesOn 181 = .ok (.aload_n 0, 1) := dk_o42 (by decide +kernel)
theorem dX12_comesOn_182 : decode cX12_comesOn 182 = .ok (.getfield 7, 3) := dk_o180 (by decide +kernel)
theorem dX12_comesOn_185 : decode cX12_comesOn 185 = .ok (.iload_n 1, 1) := dk_o27 (by decide +kernel)
theorem dX12_comesOn_186 : decode cX12_comesOn 186 = .ok (.iconst 1, 1) := dk_o4 (by decide +kernel)
theorem dX12_comesOn_187 : decode cX12_comesOn 187 = .ok (.isub, 1) := dk_o100 (by decide +kernel)
theorem dX12_comesOn_188 : decode cX12_comesOn 188 = .ok (.iaload, 1) := dk_o46 (by decide +kernel)
theorem dX12_comesOn_189 : decode cX12_comesOn 189 = .ok (.iload 7, 2) := dk_o21 (by decide +kernel)
theorem dX12_comesOn_191 : decode cX12_comesOn 191 = .ok (.if_icmp .eq 5, 3) := dk_o159 (by decide +kernel)
theorem dX12_comesOn_194 : decode cX12_comesOn 194 = .ok (.iconst 0, 1) := dk_o3 (by decide +kernel)
theorem dX12_comesOn_195 : decode cX12_comesOn 195 = .ok (.ireturn, 1) := dk_o172 (by decide +kernel)
theorem dX12_comesOn_196 : decode cX12_comesOn 196 = .ok (.aload_n 0, 1) := dk_o42 (by decide +kernel)
theorem dX12_comesOn_197 : decode cX12_comesOn 197 = .ok (.iconst 1, 1) := dk_o4 (by decide +kernel)
theorem dX12_comesOn_198 : decode cX12_comesOn 198 = .ok (.iconst 0, 1) := dk_o3 (by decide +kernel)
theorem dX12_comesOn_199 : decode cX12_comesOn 199 = .ok (.invokevirtual 433, 3) := dk_o182 (by decide +kernel)
theorem dX12_comesOn_202 : decode cX12_comesOn 202 = .ok (.aload_n 0, 1) := dk_o42 (by decide +kernel)
theorem dX12_comesOn_203 : decode cX12_comesOn 203 = .ok (.getfield 162, 3) := dk_o180 (by decide +kernel)
theorem dX12_comesOn_206 : decode cX12_comesOn 206 = .ok (.iconst 1, 1) := dk_o4 (by decide +kernel)
theorem dX12_comesOn_207 : decode cX12_comesOn 207 = .ok (.aload_n 0, 1) := dk_o42 (by decide +kernel)
theorem dX12_comesOn_208 : decode cX12_comesOn 208 = .ok (.getfield 7, 3) := dk_o180 (by decide +kernel)
theorem dX12_comesOn_211 : decode cX12_comesOn 211 = .ok (.iconst 0, 1) := dk_o3 (by decide +kernel)
theorem dX12_comesOn_212 : decode cX12_comesOn 212 = .ok (.iaload, 1) := dk_o46 (by decide +kernel)
theorem dX12_comesOn_213 : decode cX12_comesOn 213 = .ok (.bipush 8, 2) := dk_o16 (by decide +kernel)
theorem dX12_comesOn_215 : decode cX12_comesOn 215 = .ok (.ishl, 1) := dk_o120 (by decide +kernel)
theorem dX12_comesOn_216 : decode cX12_comesOn 216 = .ok (.aload_n 0, 1) := dk_o42 (by decide +kernel)
theorem dX12_comesOn_217 : decode cX12_comesOn 217 = .ok (.getfield 7, 3) := dk_o180 (by decide +kernel)
theorem dX12_comesOn_220 : decode cX12_comesOn 220 = .ok (.iconst 1, 1) := dk_o4 (by decide +kernel)
theorem dX12_comesOn_221 : decode cX12_comesOn 221 = .ok (.iaload, 1) := dk_o46 (by decide +kernel)
theorem dX12_comesOn_222 : decode cX12_comesOn 222 = .ok (.ior, 1) := dk_o128 (by decide +kernel)
theorem dX12_comesOn_223 : decode cX12_comesOn 223 = .ok (.iastore, 1) := dk_o79 (by decide +kernel)
theorem dX12_comesOn_224 : decode cX12_comesOn 224 = .ok (.aload_n 0, 1) := dk_o42 (by decide +kernel)
theorem dX12_comesOn_225 : decode cX12_comesOn 225 = .ok (.getfield 165, 3) := dk_o180 (by decide +kernel)
theorem dX12_comesOn_228 : decode cX12_comesOn 228 = .ok (.iconst 1, 1) := dk_o4 (by decide +kernel)
theorem dX12_comesOn_229 : decode cX12_comesOn 229 = .ok (.iload 6, 2) := dk_o21 (by decide +kernel)
theorem dX12_comesOn_231 : decode cX12_comesOn 231 = .ok (.iastore, 1) := dk_o79 (by decide +kernel)
theorem dX12_comesOn_232 : decode cX12_comesOn 232 = .ok (.aload_n 0, 1) := dk_o42 (by decide +kernel)
theorem dX12_comesOn_233 : decode cX12_comesOn 233 = .ok (.getfield 174, 3) := dk_o180 (by decide +kernel)
theorem dX12_comesOn_236 : decode cX12_comesOn 236 = .ok (.iconst 1, 1) := dk_o4 (by decide +kernel)
theorem dX12_comesOn_237 : decode cX12_comesOn 237 = .ok (.aload_n 0, 1) := dk_o42 (by decide +kernel)
theorem dX12_comesOn_238 : decode cX12_comesOn 238 = .ok (.iload_n 2, 1) := dk_o28 (by decide +kernel)
theorem dX12_comesOn_239 : decode cX12_comesOn 239 = .ok (.aload_n 0, 1) := dk_o42 (by decide +kernel)
theorem dX12_comesOn_240 : decode cX12_comesOn 240 = .ok (.getfield 72, 3) := dk_o180 (by decide +kernel)
theorem dX12_comesOn_243 : decode cX12_comesOn 243 = .ok (.aload_n 0, 1) := dk_o42 (by decide +kernel)
theorem dX12_comesOn_244 : decode cX12_comesOn 244 = .ok (.getfield 51, 3) := dk_o180 (by decide +kernel)
theorem dX12_comesOn_247 : decode cX12_comesOn 247 = .ok (.iaload, 1) := dk_o46 (by decide +kernel)
theorem dX12_comesOn_248 : decode cX12_comesOn 248 = .ok (.invokevirtual 584, 3) := dk_o182 (by decide +kernel)
theorem dX12_comesOn_251 : decode cX12_comesOn 251 = .ok (.iastore, 1) := dk_o79 (by decide +kernel)
theorem dX12_comesOn_252 : decode cX12_comesOn 252 = .ok (.aload_n 0, 1) := dk_o42 (by decide +kernel)
theorem dX12_comesOn_253 : decode cX12_comesOn 253 = .ok (.getfield 177, 3) := dk_o180 (by decide +kernel)
theorem dX12_comesOn_256 : decode cX12_comesOn 256 = .ok (.iconst 1, 1) := dk_o4 (by decide +kernel)
theorem dX12_comesOn_257 : decode cX12_comesOn 257 = .ok (.aload_n 0, 1) := dk_o42 (by decide +kernel)
theorem dX12_comesOn_258 : decode cX12_comesOn 258 = .ok (.iload 4, 2) := dk_o21 (by decide +kernel)
theorem dX12_comesOn_260 : decode cX12_comesOn 260 = .ok (.aload_n 0, 1) := dk_o42 (by decide +kernel)
theorem dX12_comesOn_261 : decode cX12_comesOn 261 = .ok (.getfield 84, 3) := dk_o180 (by decide +kernel)
theorem dX12_comesOn_264 : decode cX12_comesOn 264 = .ok (.aload_n 0, 1) := dk_o42 (by decide +kernel)
theorem dX12_comesOn_265 : decode cX12_comesOn 265 = .ok (.getfield 51, 3) := dk_o180 (by decide +kernel)
theorem dX12_comesOn_268 : decode cX12_comesOn 268 = .ok (.iaload, 1) := dk_o46 (by decide +kernel)
theorem dX12_comesOn_269 : decode cX12_comesOn 269 = .ok (.invokevirtual 584, 3) := dk_o182 (by decide +kernel)
theorem dX12_comesOn_272 : decode cX12_comesOn 272 = .ok (.iastore, 1) := dk_o79 (by decide +kernel)
theorem dX12_comesOn_273 : decode cX12_comesOn 273 = .ok (.aload_n 0, 1) := dk_o42 (by decide +kernel)
theorem dX12_comesOn_274 : decode cX12_comesOn 274 = .ok (.getfield 189, 3) := dk_o180 (by decide +kernel)
theorem dX12_comesOn_277 : decode cX12_comesOn 277 = .ok (.iconst 1, 1) := dk_o4 (by decide +kernel)
theorem dX12_comesOn_278 : decode cX12_comesOn 278 = .ok (.iconst 0, 1) := dk_o3 (by decide +kernel)
theorem dX12_comesOn_279 : decode cX12_comesOn 279 = .ok (.iastore, 1) := dk_o79 (by decide +kernel)
theorem dX12_comesOn_280 : decode cX12_comesOn 280 = .ok (.iconst 0, 1) := dk_o3 (by decide +kernel)
theorem dX12_comesOn_281 : decode cX12_comesOn 281 = .ok (.istore 8, 2) := dk_o54 (by decide +kernel)
theorem dX12_comesOn_283 : decode cX12_comesOn 283 = .ok (.iload 8, 2) := dk_o21 (by decide +kernel)
theorem dX12_comesOn_285 : decode cX12_comesOn 285 = .ok (.bipush 10, 2) := dk_o16 (by decide +kernel)
theorem dX12_comesOn_287 : decode cX12_comesOn 287 = .ok (.if_icmp .ge 46, 3) := dk_o162 (by decide +kernel)
theorem dX12_comesOn_290 : decode cX12_comesOn 290 = .ok (.aload_n 0, 1) := dk_o42 (by decide +kernel)
theorem dX12_comesOn_291 : decode cX12_comesOn 291 = .ok (.getfield 186, 3) := dk_o180 (by decide +kernel)
theorem dX12_comesOn_294 : decode cX12_comesOn 294 = .ok (.bipush 10, 2) := dk_o16 (by decide +kernel)
theorem dX12_comesOn_296 : decode cX12_comesOn 296 = .ok (.iload 8, 2) := dk_o21 (by decide +kernel)
theorem dX12_comesOn_298 : decode cX12_comesOn 298 = .ok (.iadd, 1) := dk_o96 (by decide +kernel)
theorem dX12_comesOn_299 : decode cX12_comesOn 299 = .ok (.aload_n 0, 1) := dk_o42 (by decide +kernel)
theorem dX12_comesOn_300 : decode cX12_comesOn 300 = .ok (.getfield 7, 3) := dk_o180 (by decide +kernel)
theorem dX12_comesOn_303 : decode cX12_comesOn 303 = .ok (.iload 5, 2) := dk_o21 (by decide +kernel)
theorem dX12_comesOn_305 : decode cX12_comesOn 305 = .ok (.iload 8, 2) := dk_o21 (by decide +kernel)
theorem dX12_comesOn_307 : decode cX12_comesOn 307 = .ok (.iadd, 1) := dk_o96 (by decide +kernel)
theorem dX12_comesOn_308 : decode cX12_comesOn 308 = .ok (.iaload, 1) := dk_o46 (by decide +kernel)
theorem dX12_comesOn_309 : decode cX12_comesOn 309 = .ok (.iastore, 1) := dk_o79 (by decide +kernel)
theorem dX12_comesOn_310 : decode cX12_comesOn 310 = .ok (.aload_n 0, 1) := dk_o42 (by decide +kernel)
theorem dX12_comesOn_311 : decode cX12_comesOn 311 = .ok (.getfield 7, 3) := dk_o180 (by decide +kernel)
theorem dX12_comesOn_314 : decode cX12_comesOn 314 = .ok (.iload 5, 2) := dk_o21 (by decide +kernel)
theorem dX12_comesOn_316 : decode cX12_comesOn 316 = .ok (.iload 8, 2) := dk_o21 (by decide +kernel)
theorem dX12_comesOn_318 : decode cX12_comesOn 318 = .ok (.iadd, 1) := dk_o96 (by decide +kernel)
theorem dX12_comesOn_319 : decode cX12_comesOn 319 = .ok (.iaload, 1) := dk_o46 (by decide +kernel)
theorem dX12_comesOn_320 : decode cX12_comesOn 320 = .ok (.bipush 99, 2) := dk_o16 (by decide +kernel)
theorem dX12_comesOn_322 : decode cX12_comesOn 322 = .ok (.if_icmp .le 5, 3) := dk_o164 (by decide +kernel)
theorem dX12_comesOn_325 : decode cX12_comesOn 325 = .ok (.iconst 0, 1) := dk_o3 (by decide +kernel)
theorem dX12_comesOn_326 : decode cX12_comesOn 326 = .ok (.ireturn, 1) := dk_o172 (by decide +kernel)
theorem dX12_comesOn_327 : decode cX12_comesOn 327 = .ok (.iinc 8 1, 3) := dk_o132 (by decide +kernel)
theorem dX12_comesOn_330 : decode cX12_comesOn 330 = .ok (.goto (-47), 3) := dk_o167 (by decide +kernel)
theorem dX12_comesOn_333 : decode cX12_comesOn 333 = .ok (.aload_n 0, 1) := dk_o42 (by decide +kernel)
theorem dX12_comesOn_334 : decode cX12_comesOn 334 = .ok (.getfield 174, 3) := dk_o180 (by decide +kernel)
theorem dX12_comesOn_337 : decode cX12_comesOn 337 = .ok (.iconst 1, 1) := dk_o4 (by decide +kernel)
theorem dX12_comesOn_338 : decode cX12_comesOn 338 = .ok (.iaload, 1) := dk_o46 (by decide +kernel)
theorem dX12_comesOn_339 : decode cX12_comesOn 339 = .ok (.iconst (-1), 1) := dk_o2 (by decide +kernel)
theorem dX12_comesOn_340 : decode cX12_comesOn 340 = .ok (.if_icmp .eq 33, 3) := dk_o159 (by decide +kernel)
theorem dX12_comesOn_343 : decode cX12_comesOn 343 = .ok (.aload_n 0, 1) := dk_o42 (by decide +kernel)
theorem dX12_comesOn_344 : decode cX12_comesOn 344 = .ok (.getfield 177, 3) := dk_o180 (by decide +kernel)
theorem dX12_comesOn_347 : decode cX12_comesOn 347 = .ok (.iconst 1, 1) := dk_o4 (by decide +kernel)
theorem dX12_comesOn_348 : decode cX12_comesOn 348 = .ok (.iaload, 1) := dk_o46 (by decide +kernel)
theorem dX12_comesOn_349 : decode cX12_comesOn 349 = .ok (.iconst (-1), 1) := dk_o2 (by decide +kernel)
theorem dX12_comesOn_350 : decode cX12_comesOn 350 = .ok (.if_icmp .eq 23, 3) := dk_o159 (by decide +kernel)
theorem dX12_comesOn_353 : decode cX12_comesOn 353 = .ok (.aload_n 0, 1) := dk_o42 (by decide +kernel)
theorem dX12_comesOn_354 : decode cX12_comesOn 354 = .ok (.iconst 5, 1) := dk_o8 (by decide +kernel)
theorem dX12_comesOn_355 : decode cX12_comesOn 355 = .ok (.invokevirtual 587, 3) := dk_o182 (by decide +kernel)
theorem dX12_comesOn_358 : decode cX12_comesOn 358 = .ok (.ifCond .eq 15, 3) := dk_o153 (by decide +kernel)
theorem dX12_comesOn_361 : decode cX12_comesOn 361 = .ok (.aload_n 0, 1) := dk_o42 (by decide +kernel)
theorem dX12_comesOn_362 : decode cX12_comesOn 362 = .ok (.iload_n 3, 1) := dk_o29 (by decide +kernel)
theorem dX12_comesOn_363 : decode cX12_comesOn 363 = .ok (.invokevirtual 590, 3) := dk_o182 (by decide +kernel)
theorem dX12_comesOn_366 : decode cX12_comesOn 366 = .ok (.ifCond .eq 7, 3) := dk_o153 (by decide +kernel)
theorem dX12_comesOn_369 : decode cX12_comesOn 369 = .ok (.iconst 1, 1) := dk_o4 (by decide +kernel)
theorem dX12_comesOn_370 : decode cX12_comesOn 370 = .ok (.goto 4, 3) := dk_o167 (by decide +kernel)
theorem dX12_comesOn_373 : decode cX12_comesOn 373 = .ok (.iconst 0, 1) := dk_o3 (by decide +kernel)
theorem dX12_comesOn_374 : decode cX12_comesOn 374 = .ok (.ireturn, 1) := dk_o172 (by decide +kernel)
theorem dX12_on_0 : decode cX12_on 0 = .ok (.aload_n 0, 1) := dk_o42 (by decide +kernel)
theorem dX12_on_1 : decode cX12_on 1 = .ok (.getfield 13, 3) := dk_o180 (by decide +kernel)
theorem dX12_on_4 : decode cX12_on 4 = .ok (.istore_n 1, 1) := dk_o60 (by decide +kernel)
theorem dX12_on_5 : decode cX12_on 5 = .ok (.aload_n 0, 1) := dk_o42 (by decide +kernel)
theorem dX12_on_6 : decode cX12_on 6 = .ok (.iconst 0, 1) := dk_o3 (by decide +kernel)
theorem dX12_on_7 : decode cX12_on 7 = .ok (.putfield 13, 3) := dk_o181 (by decide +kernel)
theorem dX12_on_10 : decode cX12_on 10 = .ok (.aload_n 0, 1) := dk_o42 (by decide +kernel)
theorem dX12_on_11 : decode cX12_on 11 = .ok (.iload_n 1, 1) := dk_o27 (by decide +kernel)
theorem dX12_on_12 : decode cX12_on 12 = .ok (.invokevirtual 593, 3) := dk_o182 (by decide +kernel)
theorem dX12_on_15 : decode cX12_on 15 = .ok (.ifCond .ne 17, 3) := dk_o154 (by decide +kernel)
theorem dX12_on_18 : decode cX12_on 18 = .ok (.aload_n 0, 1) := dk_o42 (by decide +kernel)
theorem dX12_on_19 : decode cX12_on 19 = .ok (.iconst 5, 1) := dk_o8 (by decide +kernel)
theorem dX12_on_20 : decode cX12_on 20 = .ok (.invokevirtual 247, 3) := dk_o182 (by decide +kernel)
theorem dX12_on_23 : decode cX12_on 23 = .ok (.ifCond .lt 7, 3) := dk_o155 (by decide +kernel)
theorem dX12_on_30 : decode cX12_on 30 = .ok (.iconst 0, 1) := dk_o3 (by decide +kernel)
theorem dX12_on_31 : decode cX12_on 31 = .ok (.ireturn, 1) := dk_o172 (by decide +kernel)
theorem dX12_on_32 : decode cX12_on 32 = .ok (.aload_n 0, 1) := dk_o42 (by decide +kernel)
theorem dX12_on_33 : decode cX12_on 33 = .ok (.iconst 0, 1) := dk_o3 (by decide +kernel)
theorem dX12_on_34 : decode cX12_on 34 = .ok (.iconst 1, 1) := dk_o4 (by decide +kernel)
theorem dX12_on_35 : decode cX12_on 35 = .ok (.invokevirtual 433, 3) := dk_o182 (by decide +kernel)
theorem dX12_on_38 : decode cX12_on 38 = .ok (.aload_n 0, 1) := dk_o42 (by decide +kernel)
theorem dX12_on_39 : decode cX12_on 39 = .ok (.iconst 0, 1) := dk_o3 (by decide +kernel)
theorem dX12_on_40 : decode cX12_on 40 = .ok (.putfield 198, 3) := dk_o181 (by decide +kernel)
theorem dX12_on_43 : decode cX12_on 43 = .ok (.iconst 1, 1) := dk_o4 (by decide +kernel)
theorem dX12_on_44 : decode cX12_on 44 = .ok (.ireturn, 1) := dk_o172 (by decide +kernel)
theorem wB_1290 : Cond.code yX12_flagsOn cX12_flagsOn 5 (some .int) ∈ dgB := List.mem_filter.mpr ⟨tbl_9 _ (List.mem_of_getElem? (i := 174) rfl), rfl⟩
theorem wB_1291 : Cond.methodLink RX12 584 yX12_flagsOn ∈ dgB := List.mem_filter.mpr ⟨tbl_9 _ (List.mem_of_getElem? (i := 171) (by decide +kernel)), by decide +kernel⟩
theorem wB_1292 : Cond.instanceMethod yX12_flagsOn ∈ dgB := List.mem_filter.mpr ⟨tbl_9 _ (List.mem_of_getElem? (i := 173) (by decide +kernel)), by decide +kernel⟩
theorem wB_1293 : Cond.selects RX12 yX12_flagsOn yX12_flagsOn ∈ dgB := List.mem_filter.mpr ⟨List.mem_of_getElem? (i := 153) (by decide +kernel), by decide +kernel⟩
theorem wB_1294 : Cond.code yX12_cellsOn cX12_cellsOn 5 (some .boolean) ∈ dgB := List.mem_filter.mpr ⟨tbl_9 _ (List.mem_of_getElem? (i := 178) rfl), rfl⟩
theorem wB_1295 : Cond.methodLink RX12 587 yX12_cellsOn ∈ dgB := List.mem_filter.mpr ⟨tbl_9 _ (List.mem_of_getElem? (i := 175) (by decide +kernel)), by decide +kernel⟩
theorem wB_1296 : Cond.instanceMethod yX12_cellsOn ∈ dgB := List.mem_filter.mpr ⟨tbl_9 _ (List.mem_of_getElem? (i := 177) (by decide +kernel)), by decide +kernel⟩
theorem wB_1297 : Cond.selects RX12 yX12_cellsOn yX12_cellsOn ∈ dgB := List.mem_filter.mpr ⟨List.mem_of_getElem? (i := 154) (by decide +kernel), by decide +kernel⟩
theorem wB_1298 : Cond.code yX12_plansOn cX12_plansOn 4 (some .boolean) ∈ dgB := List.mem_filter.mpr ⟨tbl_9 _ (List.mem_of_getElem? (i := 182) rfl), rfl⟩
theorem wB_1299 : Cond.methodLink RX12 590 yX12_plansOn ∈ dgB := List.mem_filter.mpr ⟨tbl_9 _ (List.mem_of_getElem? (i := 179) (by decide +kernel)), by decide +kernel⟩
theorem wB_1300 : Cond.instanceMethod yX12_plansOn ∈ dgB := List.mem_filter.mpr ⟨tbl_9 _ (List.mem_of_getElem? (i := 181) (by decide +kernel)), by decide +kernel⟩
theorem wB_1301 : Cond.selects RX12 yX12_plansOn yX12_plansOn ∈ dgB := List.mem_filter.mpr ⟨List.mem_of_getElem? (i := 155) (by decide +kernel), by decide +kernel⟩
theorem wB_1302 : Cond.code yX12_comesOn cX12_comesOn 9 (some .boolean) ∈ dgB := List.mem_filter.mpr ⟨tbl_9 _ (List.mem_of_getElem? (i := 170) rfl), rfl⟩
theorem wB_1303 : Cond.methodLink RX12 593 yX12_comesOn ∈ dgB := List.mem_filter.mpr ⟨tbl_9 _ (List.mem_of_getElem? (i := 167) (by decide +kernel)), by decide +kernel⟩
theorem wB_1304 : Cond.instanceMethod yX12_comesOn ∈ dgB := List.mem_filter.mpr ⟨tbl_9 _ (List.mem_of_getElem? (i := 169) (by decide +kernel)), by decide +kernel⟩
theorem wB_1305 : Cond.selects RX12 yX12_comesOn yX12_comesOn ∈ dgB := List.mem_filter.mpr ⟨List.mem_of_getElem? (i := 152) (by decide +kernel), by decide +kernel⟩
noncomputable def F_m_comesOn_J3 (x_312 : Int32) (S_441 : dg_S) (x_319 : Int32) (o : Nat) (x_11 : Int32) : dg_S × Int32 := (if x_312 = (-1 : Int32) then (S_441, (0 : Int32)) else (if x_319 = (-1 : Int32) then (S_441, (0 : Int32)) else let S_455 : dg_S := (F_m_cellsOn o S_441 (5 : Int32)).1; let x_454 : Int32 := (F_m_cellsOn o S_441 (5 : Int32)).2; (if x_454 = (0 : Int32) then (S_455, (0 : Int32)) else let S_460 : dg_S := (F_m_plansOn o S_455 x_11).1; let x_459 : Int32 := (F_m_plansOn o S_455 x_11).2; (if x_459 = (0 : Int32) then (S_460, (0 : Int32)) else (S_460, (1 : Int32))))))
noncomputable def F_m_comesOn_B4 (x_312 : Int32) (x_319 : Int32) (o : Nat) (x_11 : Int32) (x_18 : Int32) : (Int32 × dg_S) → (Int32 × dg_S) ⊕ (dg_S × Int32) := fun w9 => match w9 with | (x_540, S_541) => (if (10 : Int32) ≤ x_540 then (Sum.inr ((F_m_comesOn_J3 x_312 S_541 x_319 o x_11))) else let x_545 : Int32 := (10 : Int32) + x_540; let x_546 : Int32 := x_18 + x_540; let x_548 : Int32 := S_541.2.1 1 (x_546 : Int32).toNatClampNeg; let S_550 : dg_S := dg_uf S_541 37 (upd (S_541.2.1 37) (x_545 : Int32).toNatClampNeg x_548); let x_551 : Int32 := x_18 + x_540; let x_553 : Int32 := S_550.2.1 1 (x_551 : Int32).toNatClampNeg; (if x_553 ≤ (99 : Int32) then let x_555 : Int32 := x_540 + 1; (Sum.inl (x_555, S_550)) else (Sum.inr ((S_550, (0 : Int32))))))
noncomputable def F_m_comesOn_J2 (o : Nat) (S_315 : dg_S) (x_15 : Int32) (x_17 : Int32) (x_312 : Int32) (x_11 : Int32) (x_18 : Int32) (S : dg_S) : dg_S × Int32 := let x_319 : Int32 := F_m_flagsOn o S_315 x_15 x_17; let S_322 : dg_S := dg_uf S_315 34 (upd (S_315.2.1 34) (1 : Int32).toNatClampNeg x_319); let S_325 : dg_S := dg_uf S_322 38 (upd (S_322.2.1 38) (1 : Int32).toNatClampNeg (0 : Int32)); (lp (F_m_comesOn_B4 x_312 x_319 o x_11 x_18) (S, (0 : Int32)) ((11 - ((0 : Int32)).toInt).toNat + 1) ((0 : Int32), S_325))
noncomputable def F_m_comesOn_J1 (a1 : Int32) (S : dg_S) (x_112 : Int32) (o : Nat) (x_44 : Int32) (x_47 : Int32) (x_28 : Int32) (x_8 : Int32) (x_10 : Int32) (x_15 : Int32) (x_17 : Int32) (x_11 : Int32) (x_18 : Int32) : dg_S × Int32 := let x_280 : Int32 := a1 - (1 : Int32); let x_282 : Int32 := S.2.1 1 (x_280 : Int32).toNatClampNeg; (if x_282 = x_112 then let x_286 : Int32 := S.2.1 29 (0 : Int32).toNatClampNeg; let S_289 : dg_S := F_m_copies o S (1 : Int32) (0 : Int32); let x_295 : Int32 := S_289.2.1 29 (0 : Int32).toNatClampNeg; let x_292 : Int32 := S_289.2.1 29 (1 : Int32).toNatClampNeg; let x_300 : Int32 := x_44 <<< ((8 : Int32) &&& 31); let x_303 : Int32 := x_300 ||| x_47; let S_305 : dg_S := dg_uf S_289 29 (upd (S_289.2.1 29) (1 : Int32).toNatClampNeg x_303); let S_308 : dg_S := dg_uf S_305 30 (upd (S_305.2.1 30) (1 : Int32).toNatClampNeg x_28); let x_312 : Int32 := F_m_flagsOn o S_308 x_8 x_10; let S_315 : dg_S := dg_uf S_308 33 (upd (S_308.2.1 33) (1 : Int32).toNatClampNeg x_312); (F_m_comesOn_J2 o S_315 x_15 x_17 x_312 x_11 x_18 S) else let x_562 : Int32 := S.2.1 29 (1 : Int32).toNatClampNeg; (S, (0 : Int32)))
noncomputable def F_m_comesOn_B5 (a1 : Int32) (S : dg_S) (o : Nat) (x_44 : Int32) (x_47 : Int32) (x_28 : Int32) (x_8 : Int32) (x_10 : Int32) (x_15 : Int32) (x_17 : Int32) (x_11 : Int32) (x_18 : Int32) : (Int32 × Int32) → (Int32 × Int32) ⊕ (dg_S × Int32) := fun w9 => match w9 with | (x_612, x_613) => let x_615 : Int32 := a1 - (1 : Int32); (if x_615 ≤ x_612 then (Sum.inr ((F_m_comesOn_J1 a1 S x_613 o x_44 x_47 x_28 x_8 x_10 x_15 x_17 x_11 x_18))) else let x_618 : Int32 := (5 : Int32) * x_613; let x_620 : Int32 := S.2.1 1 (x_612 : Int32).toNatClampNeg; let x_621 : Int32 := x_618 + x_620; let x_622 : Int32 := x_621 - x_621 / (251 : Int32) * (251 : Int32); let x_623 : Int32 := x_612 + 1; (Sum.inl (x_623, x_622)))
noncomputable def F_m_comesOn (o : Nat) (S : dg_S) (a1 : Int32) : dg_S × Int32 := let x_1 : Int32 := zI S 0 13; let x_4 : Int32 := zI S 0 47; let x_3 : Int32 := S.2.1 2 (x_1 : Int32).toNatClampNeg; let x_6 : Int32 := S.2.1 3 (x_1 : Int32).toNatClampNeg; let x_7 : Int32 := x_3 * x_6; let x_8 : Int32 := (5 : Int32) + x_7; let x_10 : Int32 := S.2.1 8 (x_1 : Int32).toNatClampNeg; let x_11 : Int32 := x_8 + x_10; let x_13 : Int32 := S.2.1 9 (x_1 : Int32).toNatClampNeg; let x_14 : Int32 := (3 : Int32) * x_13; let x_15 : Int32 := x_11 + x_14; let x_17 : Int32 := S.2.1 12 (x_1 : Int32).toNatClampNeg; let x_18 : Int32 := x_15 + x_17; let x_20 : Int32 := S.2.1 1 (2 : Int32).toNatClampNeg; let x_21 : Int32 := x_20 <<< ((16 : Int32) &&& 31); let x_23 : Int32 := S.2.1 1 (3 : Int32).toNatClampNeg; let x_24 : Int32 := x_23 <<< ((8 : Int32) &&& 31); let x_25 : Int32 := x_21 ||| x_24; let x_27 : Int32 := S.2.1 1 (4 : Int32).toNatClampNeg; let x_28 : Int32 := x_25 ||| x_27; (if x_4 = (0 : Int32) then let x_32 : Int32 := S.2.1 29 (1 : Int32).toNatClampNeg; (S, (0 : Int32)) else let x_35 : Int32 := x_18 + (10 : Int32); let x_36 : Int32 := x_35 + (1 : Int32); (if a1 = x_36 then let x_44 : Int32 := S.2.1 1 (0 : Int32).toNatClampNeg; let x_45 : Int32 := x_44 <<< ((8 : Int32) &&& 31); let x_47 : Int32 := S.2.1 1 (1 : Int32).toNatClampNeg; let x_48 : Int32 := x_45 ||| x_47; (if (999 : Int32) < x_48 then let x_52 : Int32 := S.2.1 29 (1 : Int32).toNatClampNeg; (S, (0 : Int32)) else (if x_28 ≤ (99999 : Int32) then (lp (F_m_comesOn_B5 a1 S o x_44 x_47 x_28 x_8 x_10 x_15 x_17 x_11 x_18) (S, (0 : Int32)) ((124 - ((0 : Int32)).toInt).toNat + 1) ((0 : Int32), (233 : Int32))) else let x_630 : Int32 := S.2.1 29 (1 : Int32).toNatClampNeg; (S, (0 : Int32)))) else let x_40 : Int32 := S.2.1 29 (1 : Int32).toNatClampNeg; (S, (0 : Int32))))
theorem F_m_comesOn_p0 {o : Nat} {S : dg_S} {a1 : Int32} {x_4 : Int32} (h0 : x_4 = zI S 0 47) (h1 : x_4 = (0 : Int32)) : F_m_comesOn o S a1 = (S, (0 : Int32)) := by
  replace h0 := Eq.symm h0
  subst h0
  exact (Eq.trans (if_pos h1) rfl)
theorem F_m_comesOn_p1 {o : Nat} {S : dg_S} {a1 : Int32} {x_1 : Int32} {x_4 : Int32} {x_3 : Int32} {x_6 : Int32} {x_7 : Int32} {x_8 : Int32} {x_10 : Int32} {x_11 : Int32} {x_13 : Int32} {x_14 : Int32} {x_15 : Int32} {x_17 : Int32} {x_18 : Int32} {x_35 : Int32} {x_36 : Int32} (h0 : x_1 = zI S 0 13) (h1 : x_4 = zI S 0 47) (h2 : x_3 = S.2.1 2 (x_1 : Int32).toNatClampNeg) (h3 : x_6 = S.2.1 3 (x_1 : Int32).toNatClampNeg) (h4 : x_7 = x_3 * x_6) (h5 : x_8 = (5 : Int32) + x_7) (h6 : x_10 = S.2.1 8 (x_1 : Int32).toNatClampNeg) (h7 : x_11 = x_8 + x_10) (h8 : x_13 = S.2.1 9 (x_1 : Int32).toNatClampNeg) (h9 : x_14 = (3 : Int32) * x_13) (h10 : x_15 = x_11 + x_14) (h11 : x_17 = S.2.1 12 (x_1 : Int32).toNatClampNeg) (h12 : x_18 = x_15 + x_17) (h13 : ¬ (x_4 = (0 : Int32))) (h14 : x_35 = x_18 + (10 : Int32)) (h15 : x_36 = x_35 + (1 : Int32)) (h16 : ¬ (a1 = x_36)) : F_m_comesOn o S a1 = (S, (0 : Int32)) := by
  replace h0 := Eq.symm h0
  subst h0
  replace h1 := Eq.symm h1
  subst h1
  replace h2 := Eq.symm h2
  subst h2
  replace h3 := Eq.symm h3
  subst h3
  replace h4 := Eq.symm h4
  subst h4
  replace h5 := Eq.symm h5
  subst h5
  replace h6 := Eq.symm h6
  subst h6
  replace h7 := Eq.symm h7
  subst h7
  replace h8 := Eq.symm h8
  subst h8
  replace h9 := Eq.symm h9
  subst h9
  replace h10 := Eq.symm h10
  subst h10
  replace h11 := Eq.symm h11
  subst h11
  replace h12 := Eq.symm h12
  subst h12
  replace h14 := Eq.symm h14
  subst h14
  replace h15 := Eq.symm h15
  subst h15
  exact (Eq.trans (if_neg h13) (Eq.trans (if_neg h16) rfl))
theorem F_m_comesOn_p2 {o : Nat} {S : dg_S} {a1 : Int32} {x_1 : Int32} {x_4 : Int32} {x_3 : Int32} {x_6 : Int32} {x_7 : Int32} {x_8 : Int32} {x_10 : Int32} {x_11 : Int32} {x_13 : Int32} {x_14 : Int32} {x_15 : Int32} {x_17 : Int32} {x_18 : Int32} {x_35 : Int32} {x_36 : Int32} {x_44 : Int32} {x_45 : Int32} {x_47 : Int32} {x_48 : Int32} (h0 : x_1 = zI S 0 13) (h1 : x_4 = zI S 0 47) (h2 : x_3 = S.2.1 2 (x_1 : Int32).toNatClampNeg) (h3 : x_6 = S.2.1 3 (x_1 : Int32).toNatClampNeg) (h4 : x_7 = x_3 * x_6) (h5 : x_8 = (5 : Int32) + x_7) (h6 : x_10 = S.2.1 8 (x_1 : Int32).toNatClampNeg) (h7 : x_11 = x_8 + x_10) (h8 : x_13 = S.2.1 9 (x_1 : Int32).toNatClampNeg) (h9 : x_14 = (3 : Int32) * x_13) (h10 : x_15 = x_11 + x_14) (h11 : x_17 = S.2.1 12 (x_1 : Int32).toNatClampNeg) (h12 : x_18 = x_15 + x_17) (h13 : ¬ (x_4 = (0 : Int32))) (h14 : x_35 = x_18 + (10 : Int32)) (h15 : x_36 = x_35 + (1 : Int32)) (h16 : a1 = x_36) (h17 : x_44 = S.2.1 1 (0 : Int32).toNatClampNeg) (h18 : x_45 = x_44 <<< ((8 : Int32) &&& 31)) (h19 : x_47 = S.2.1 1 (1 : Int32).toNatClampNeg) (h20 : x_48 = x_45 ||| x_47) (h21 : (999 : Int32) < x_48) : F_m_comesOn o S a1 = (S, (0 : Int32)) := by
  replace h0 := Eq.symm h0
  subst h0
  replace h1 := Eq.symm h1
  subst h1
  replace h2 := Eq.symm h2
  subst h2
  replace h3 := Eq.symm h3
  subst h3
  replace h4 := Eq.symm h4
  subst h4
  replace h5 := Eq.symm h5
  subst h5
  replace h6 := Eq.symm h6
  subst h6
  replace h7 := Eq.symm h7
  subst h7
  replace h8 := Eq.symm h8
  subst h8
  replace h9 := Eq.symm h9
  subst h9
  replace h10 := Eq.symm h10
  subst h10
  replace h11 := Eq.symm h11
  subst h11
  replace h12 := Eq.symm h12
  subst h12
  replace h14 := Eq.symm h14
  subst h14
  replace h15 := Eq.symm h15
  subst h15
  replace h17 := Eq.symm h17
  subst h17
  replace h18 := Eq.symm h18
  subst h18
  replace h19 := Eq.symm h19
  subst h19
  replace h20 := Eq.symm h20
  subst h20
  exact (Eq.trans (if_neg h13) (Eq.trans (if_pos h16) (Eq.trans (if_pos h21) rfl)))
theorem F_m_comesOn_p3 {x_312 : Int32} {S_441 : dg_S} {x_319 : Int32} {o : Nat} {x_11 : Int32} (h0 : x_312 = (-1 : Int32)) : F_m_comesOn_J3 x_312 S_441 x_319 o x_11 = (S_441, (0 : Int32)) := (Eq.trans (if_pos h0) rfl)
theorem F_m_comesOn_p4 {x_312 : Int32} {S_441 : dg_S} {x_319 : Int32} {o : Nat} {x_11 : Int32} (h0 : ¬ (x_312 = (-1 : Int32))) (h1 : x_319 = (-1 : Int32)) : F_m_comesOn_J3 x_312 S_441 x_319 o x_11 = (S_441, (0 : Int32)) := (Eq.trans (if_neg h0) (Eq.trans (if_pos h1) rfl))
theorem F_m_comesOn_p5 {x_312 : Int32} {S_441 : dg_S} {x_319 : Int32} {o : Nat} {x_11 : Int32} {S_455 : dg_S} {x_454 : Int32} (h0 : ¬ (x_312 = (-1 : Int32))) (h1 : ¬ (x_319 = (-1 : Int32))) (h2 : S_455 = (F_m_cellsOn o S_441 (5 : Int32)).1) (h3 : x_454 = (F_m_cellsOn o S_441 (5 : Int32)).2) (h4 : x_454 = (0 : Int32)) : F_m_comesOn_J3 x_312 S_441 x_319 o x_11 = (S_455, (0 : Int32)) := by
  replace h2 := Eq.symm h2
  subst h2
  replace h3 := Eq.symm h3
  subst h3
  exact (Eq.trans (if_neg h0) (Eq.trans (if_neg h1) (Eq.trans (if_pos h4) rfl)))
theorem F_m_comesOn_p6 {x_312 : Int32} {S_441 : dg_S} {x_319 : Int32} {o : Nat} {x_11 : Int32} {S_460 : dg_S} {S_455 : dg_S} {x_454 : Int32} {x_459 : Int32} (h0 : ¬ (x_312 = (-1 : Int32))) (h1 : ¬ (x_319 = (-1 : Int32))) (h2 : S_455 = (F_m_cellsOn o S_441 (5 : Int32)).1) (h3 : x_454 = (F_m_cellsOn o S_441 (5 : Int32)).2) (h4 : ¬ (x_454 = (0 : Int32))) (h5 : S_460 = (F_m_plansOn o S_455 x_11).1) (h6 : x_459 = (F_m_plansOn o S_455 x_11).2) (h7 : x_459 = (0 : Int32)) : F_m_comesOn_J3 x_312 S_441 x_319 o x_11 = (S_460, (0 : Int32)) := by
  replace h2 := Eq.symm h2
  subst h2
  replace h3 := Eq.symm h3
  subst h3
  replace h5 := Eq.symm h5
  subst h5
  replace h6 := Eq.symm h6
  subst h6
  exact (Eq.trans (if_neg h0) (Eq.trans (if_neg h1) (Eq.trans (if_neg h4) (Eq.trans (if_pos h7) rfl))))
theorem F_m_comesOn_p7 {x_312 : Int32} {S_441 : dg_S} {x_319 : Int32} {o : Nat} {x_11 : Int32} {S_460 : dg_S} {S_455 : dg_S} {x_454 : Int32} {x_459 : Int32} (h0 : ¬ (x_312 = (-1 : Int32))) (h1 : ¬ (x_319 = (-1 : Int32))) (h2 : S_455 = (F_m_cellsOn o S_441 (5 : Int32)).1) (h3 : x_454 = (F_m_cellsOn o S_441 (5 : Int32)).2) (h4 : ¬ (x_454 = (0 : Int32))) (h5 : S_460 = (F_m_plansOn o S_455 x_11).1) (h6 : x_459 = (F_m_plansOn o S_455 x_11).2) (h7 : ¬ (x_459 = (0 : Int32))) : F_m_comesOn_J3 x_312 S_441 x_319 o x_11 = (S_460, (1 : Int32)) := by
  replace h2 := Eq.symm h2
  subst h2
  replace h3 := Eq.symm h3
  subst h3
  replace h5 := Eq.symm h5
  subst h5
  replace h6 := Eq.symm h6
  subst h6
  exact (Eq.trans (if_neg h0) (Eq.trans (if_neg h1) (Eq.trans (if_neg h4) (Eq.trans (if_neg h7) rfl))))
theorem F_m_comesOn_p8 {x_312 : Int32} {x_319 : Int32} {o : Nat} {x_11 : Int32} {x_18 : Int32} {x_540 : Int32} {S_541 : dg_S} (h0 : (10 : Int32) ≤ x_540) : (F_m_comesOn_B4 x_312 x_319 o x_11 x_18) (x_540, S_541) = Sum.inr (F_m_comesOn_J3 x_312 S_541 x_319 o x_11) := (Eq.trans (if_pos h0) rfl)
theorem F_m_comesOn_p9 {x_312 : Int32} {x_319 : Int32} {o : Nat} {x_11 : Int32} {x_18 : Int32} {x_540 : Int32} {S_541 : dg_S} {x_555 : Int32} {S_550 : dg_S} {x_545 : Int32} {x_546 : Int32} {x_548 : Int32} {x_551 : Int32} {x_553 : Int32} (h0 : ¬ ((10 : Int32) ≤ x_540)) (h1 : x_545 = (10 : Int32) + x_540) (h2 : x_546 = x_18 + x_540) (h3 : x_548 = S_541.2.1 1 (x_546 : Int32).toNatClampNeg) (h4 : S_550 = dg_uf S_541 37 (upd (S_541.2.1 37) (x_545 : Int32).toNatClampNeg x_548)) (h5 : x_551 = x_18 + x_540) (h6 : x_553 = S_550.2.1 1 (x_551 : Int32).toNatClampNeg) (h7 : x_553 ≤ (99 : Int32)) (h8 : x_555 = x_540 + 1) : (F_m_comesOn_B4 x_312 x_319 o x_11 x_18) (x_540, S_541) = Sum.inl (x_555, S_550) := by
  replace h1 := Eq.symm h1
  subst h1
  replace h2 := Eq.symm h2
  subst h2
  replace h3 := Eq.symm h3
  subst h3
  replace h4 := Eq.symm h4
  subst h4
  replace h5 := Eq.symm h5
  subst h5
  replace h6 := Eq.symm h6
  subst h6
  replace h8 := Eq.symm h8
  subst h8
  exact (Eq.trans (if_neg h0) (Eq.trans (if_pos h7) rfl))
theorem F_m_comesOn_p10 {x_312 : Int32} {x_319 : Int32} {o : Nat} {x_11 : Int32} {x_18 : Int32} {x_540 : Int32} {S_541 : dg_S} {S_550 : dg_S} {x_545 : Int32} {x_546 : Int32} {x_548 : Int32} {x_551 : Int32} {x_553 : Int32} (h0 : ¬ ((10 : Int32) ≤ x_540)) (h1 : x_545 = (10 : Int32) + x_540) (h2 : x_546 = x_18 + x_540) (h3 : x_548 = S_541.2.1 1 (x_546 : Int32).toNatClampNeg) (h4 : S_550 = dg_uf S_541 37 (upd (S_541.2.1 37) (x_545 : Int32).toNatClampNeg x_548)) (h5 : x_551 = x_18 + x_540) (h6 : x_553 = S_550.2.1 1 (x_551 : Int32).toNatClampNeg) (h7 : ¬ (x_553 ≤ (99 : Int32))) : (F_m_comesOn_B4 x_312 x_319 o x_11 x_18) (x_540, S_541) = Sum.inr ((S_550, (0 : Int32))) := by
  replace h1 := Eq.symm h1
  subst h1
  replace h2 := Eq.symm h2
  subst h2
  replace h3 := Eq.symm h3
  subst h3
  replace h4 := Eq.symm h4
  subst h4
  replace h5 := Eq.symm h5
  subst h5
  replace h6 := Eq.symm h6
  subst h6
  exact (Eq.trans (if_neg h0) (Eq.trans (if_neg h7) rfl))
theorem F_m_comesOn_p11 {o : Nat} {S_315 : dg_S} {x_15 : Int32} {x_17 : Int32} {x_312 : Int32} {x_11 : Int32} {x_18 : Int32} {S : dg_S} {x_319 : Int32} {S_325 : dg_S} {S_322 : dg_S} (h0 : x_319 = F_m_flagsOn o S_315 x_15 x_17) (h1 : S_322 = dg_uf S_315 34 (upd (S_315.2.1 34) (1 : Int32).toNatClampNeg x_319)) (h2 : S_325 = dg_uf S_322 38 (upd (S_322.2.1 38) (1 : Int32).toNatClampNeg (0 : Int32))) : F_m_comesOn_J2 o S_315 x_15 x_17 x_312 x_11 x_18 S = lp (F_m_comesOn_B4 x_312 x_319 o x_11 x_18) (S, (0 : Int32)) ((11 - ((0 : Int32)).toInt).toNat + 1) ((0 : Int32), S_325) := by
  replace h0 := Eq.symm h0
  subst h0
  replace h1 := Eq.symm h1
  subst h1
  replace h2 := Eq.symm h2
  subst h2
  exact rfl
theorem F_m_comesOn_p12 {a1 : Int32} {S : dg_S} {x_112 : Int32} {o : Nat} {x_44 : Int32} {x_47 : Int32} {x_28 : Int32} {x_8 : Int32} {x_10 : Int32} {x_15 : Int32} {x_17 : Int32} {x_11 : Int32} {x_18 : Int32} {S_315 : dg_S} {x_312 : Int32} {x_280 : Int32} {x_282 : Int32} {S_289 : dg_S} {x_300 : Int32} {x_303 : Int32} {S_305 : dg_S} {S_308 : dg_S} (h0 : x_280 = a1 - (1 : Int32)) (h1 : x_282 = S.2.1 1 (x_280 : Int32).toNatClampNeg) (h2 : x_282 = x_112) (h3 : S_289 = F_m_copies o S (1 : Int32) (0 : Int32)) (h4 : x_300 = x_44 <<< ((8 : Int32) &&& 31)) (h5 : x_303 = x_300 ||| x_47) (h6 : S_305 = dg_uf S_289 29 (upd (S_289.2.1 29) (1 : Int32).toNatClampNeg x_303)) (h7 : S_308 = dg_uf S_305 30 (upd (S_305.2.1 30) (1 : Int32).toNatClampNeg x_28)) (h8 : x_312 = F_m_flagsOn o S_308 x_8 x_10) (h9 : S_315 = dg_uf S_308 33 (upd (S_308.2.1 33) (1 : Int32).toNatClampNeg x_312)) : F_m_comesOn_J1 a1 S x_112 o x_44 x_47 x_28 x_8 x_10 x_15 x_17 x_11 x_18 = F_m_comesOn_J2 o S_315 x_15 x_17 x_312 x_11 x_18 S := by
  replace h0 := Eq.symm h0
  subst h0
  replace h1 := Eq.symm h1
  subst h1
  replace h3 := Eq.symm h3
  subst h3
  replace h4 := Eq.symm h4
  subst h4
  replace h5 := Eq.symm h5
  subst h5
  replace h6 := Eq.symm h6
  subst h6
  replace h7 := Eq.symm h7
  subst h7
  replace h8 := Eq.symm h8
  subst h8
  replace h9 := Eq.symm h9
  subst h9
  exact (Eq.trans (if_pos h2) rfl)
theorem F_m_comesOn_p13 {a1 : Int32} {S : dg_S} {x_112 : Int32} {o : Nat} {x_44 : Int32} {x_47 : Int32} {x_28 : Int32} {x_8 : Int32} {x_10 : Int32} {x_15 : Int32} {x_17 : Int32} {x_11 : Int32} {x_18 : Int32} {x_280 : Int32} {x_282 : Int32} (h0 : x_280 = a1 - (1 : Int32)) (h1 : x_282 = S.2.1 1 (x_280 : Int32).toNatClampNeg) (h2 : ¬ (x_282 = x_112)) : F_m_comesOn_J1 a1 S x_112 o x_44 x_47 x_28 x_8 x_10 x_15 x_17 x_11 x_18 = (S, (0 : Int32)) := by
  replace h0 := Eq.symm h0
  subst h0
  replace h1 := Eq.symm h1
  subst h1
  exact (Eq.trans (if_neg h2) rfl)
theorem F_m_comesOn_p14 {a1 : Int32} {S : dg_S} {o : Nat} {x_44 : Int32} {x_47 : Int32} {x_28 : Int32} {x_8 : Int32} {x_10 : Int32} {x_15 : Int32} {x_17 : Int32} {x_11 : Int32} {x_18 : Int32} {x_612 : Int32} {x_613 : Int32} {x_615 : Int32} (h0 : x_615 = a1 - (1 : Int32)) (h1 : x_615 ≤ x_612) : (F_m_comesOn_B5 a1 S o x_44 x_47 x_28 x_8 x_10 x_15 x_17 x_11 x_18) (x_612, x_613) = Sum.inr (F_m_comesOn_J1 a1 S x_613 o x_44 x_47 x_28 x_8 x_10 x_15 x_17 x_11 x_18) := by
  replace h0 := Eq.symm h0
  subst h0
  exact (Eq.trans (if_pos h1) rfl)
theorem F_m_comesOn_p15 {a1 : Int32} {S : dg_S} {o : Nat} {x_44 : Int32} {x_47 : Int32} {x_28 : Int32} {x_8 : Int32} {x_10 : Int32} {x_15 : Int32} {x_17 : Int32} {x_11 : Int32} {x_18 : Int32} {x_612 : Int32} {x_613 : Int32} {x_623 : Int32} {x_622 : Int32} {x_615 : Int32} {x_618 : Int32} {x_620 : Int32} {x_621 : Int32} (h0 : x_615 = a1 - (1 : Int32)) (h1 : ¬ (x_615 ≤ x_612)) (h2 : x_618 = (5 : Int32) * x_613) (h3 : x_620 = S.2.1 1 (x_612 : Int32).toNatClampNeg) (h4 : x_621 = x_618 + x_620) (h5 : x_622 = x_621 - x_621 / (251 : Int32) * (251 : Int32)) (h6 : x_623 = x_612 + 1) : (F_m_comesOn_B5 a1 S o x_44 x_47 x_28 x_8 x_10 x_15 x_17 x_11 x_18) (x_612, x_613) = Sum.inl (x_623, x_622) := by
  replace h0 := Eq.symm h0
  subst h0
  replace h2 := Eq.symm h2
  subst h2
  replace h3 := Eq.symm h3
  subst h3
  replace h4 := Eq.symm h4
  subst h4
  replace h5 := Eq.symm h5
  subst h5
  replace h6 := Eq.symm h6
  subst h6
  exact (Eq.trans (if_neg h1) rfl)
theorem F_m_comesOn_p16 {o : Nat} {S : dg_S} {a1 : Int32} {x_44 : Int32} {x_47 : Int32} {x_28 : Int32} {x_8 : Int32} {x_10 : Int32} {x_15 : Int32} {x_17 : Int32} {x_11 : Int32} {x_18 : Int32} {x_1 : Int32} {x_4 : Int32} {x_3 : Int32} {x_6 : Int32} {x_7 : Int32} {x_13 : Int32} {x_14 : Int32} {x_20 : Int32} {x_21 : Int32} {x_23 : Int32} {x_24 : Int32} {x_25 : Int32} {x_27 : Int32} {x_35 : Int32} {x_36 : Int32} {x_45 : Int32} {x_48 : Int32} (h0 : x_1 = zI S 0 13) (h1 : x_4 = zI S 0 47) (h2 : x_3 = S.2.1 2 (x_1 : Int32).toNatClampNeg) (h3 : x_6 = S.2.1 3 (x_1 : Int32).toNatClampNeg) (h4 : x_7 = x_3 * x_6) (h5 : x_8 = (5 : Int32) + x_7) (h6 : x_10 = S.2.1 8 (x_1 : Int32).toNatClampNeg) (h7 : x_11 = x_8 + x_10) (h8 : x_13 = S.2.1 9 (x_1 : Int32).toNatClampNeg) (h9 : x_14 = (3 : Int32) * x_13) (h10 : x_15 = x_11 + x_14) (h11 : x_17 = S.2.1 12 (x_1 : Int32).toNatClampNeg) (h12 : x_18 = x_15 + x_17) (h13 : x_20 = S.2.1 1 (2 : Int32).toNatClampNeg) (h14 : x_21 = x_20 <<< ((16 : Int32) &&& 31)) (h15 : x_23 = S.2.1 1 (3 : Int32).toNatClampNeg) (h16 : x_24 = x_23 <<< ((8 : Int32) &&& 31)) (h17 : x_25 = x_21 ||| x_24) (h18 : x_27 = S.2.1 1 (4 : Int32).toNatClampNeg) (h19 : x_28 = x_25 ||| x_27) (h20 : ¬ (x_4 = (0 : Int32))) (h21 : x_35 = x_18 + (10 : Int32)) (h22 : x_36 = x_35 + (1 : Int32)) (h23 : a1 = x_36) (h24 : x_44 = S.2.1 1 (0 : Int32).toNatClampNeg) (h25 : x_45 = x_44 <<< ((8 : Int32) &&& 31)) (h26 : x_47 = S.2.1 1 (1 : Int32).toNatClampNeg) (h27 : x_48 = x_45 ||| x_47) (h28 : ¬ ((999 : Int32) < x_48)) (h29 : x_28 ≤ (99999 : Int32)) : F_m_comesOn o S a1 = lp (F_m_comesOn_B5 a1 S o x_44 x_47 x_28 x_8 x_10 x_15 x_17 x_11 x_18) (S, (0 : Int32)) ((124 - ((0 : Int32)).toInt).toNat + 1) ((0 : Int32), (233 : Int32)) := by
  replace h0 := Eq.symm h0
  subst h0
  replace h1 := Eq.symm h1
  subst h1
  replace h2 := Eq.symm h2
  subst h2
  replace h3 := Eq.symm h3
  subst h3
  replace h4 := Eq.symm h4
  subst h4
  replace h5 := Eq.symm h5
  subst h5
  replace h6 := Eq.symm h6
  subst h6
  replace h7 := Eq.symm h7
  subst h7
  replace h8 := Eq.symm h8
  subst h8
  replace h9 := Eq.symm h9
  subst h9
  replace h10 := Eq.symm h10
  subst h10
  replace h11 := Eq.symm h11
  subst h11
  replace h12 := Eq.symm h12
  subst h12
  replace h13 := Eq.symm h13
  subst h13
  replace h14 := Eq.symm h14
  subst h14
  replace h15 := Eq.symm h15
  subst h15
  replace h16 := Eq.symm h16
  subst h16
  replace h17 := Eq.symm h17
  subst h17
  replace h18 := Eq.symm h18
  subst h18
  replace h19 := Eq.symm h19
  subst h19
  replace h21 := Eq.symm h21
  subst h21
  replace h22 := Eq.symm h22
  subst h22
  replace h24 := Eq.symm h24
  subst h24
  replace h25 := Eq.symm h25
  subst h25
  replace h26 := Eq.symm h26
  subst h26
  replace h27 := Eq.symm h27
  subst h27
  exact (Eq.trans (if_neg h20) (Eq.trans (if_pos h23) (Eq.trans (if_neg h28) (Eq.trans (if_pos h29) rfl))))
theorem F_m_comesOn_p17 {o : Nat} {S : dg_S} {a1 : Int32} {x_1 : Int32} {x_4 : Int32} {x_3 : Int32} {x_6 : Int32} {x_7 : Int32} {x_8 : Int32} {x_10 : Int32} {x_11 : Int32} {x_13 : Int32} {x_14 : Int32} {x_15 : Int32} {x_17 : Int32} {x_18 : Int32} {x_20 : Int32} {x_21 : Int32} {x_23 : Int32} {x_24 : Int32} {x_25 : Int32} {x_27 : Int32} {x_28 : Int32} {x_35 : Int32} {x_36 : Int32} {x_44 : Int32} {x_45 : Int32} {x_47 : Int32} {x_48 : Int32} (h0 : x_1 = zI S 0 13) (h1 : x_4 = zI S 0 47) (h2 : x_3 = S.2.1 2 (x_1 : Int32).toNatClampNeg) (h3 : x_6 = S.2.1 3 (x_1 : Int32).toNatClampNeg) (h4 : x_7 = x_3 * x_6) (h5 : x_8 = (5 : Int32) + x_7) (h6 : x_10 = S.2.1 8 (x_1 : Int32).toNatClampNeg) (h7 : x_11 = x_8 + x_10) (h8 : x_13 = S.2.1 9 (x_1 : Int32).toNatClampNeg) (h9 : x_14 = (3 : Int32) * x_13) (h10 : x_15 = x_11 + x_14) (h11 : x_17 = S.2.1 12 (x_1 : Int32).toNatClampNeg) (h12 : x_18 = x_15 + x_17) (h13 : x_20 = S.2.1 1 (2 : Int32).toNatClampNeg) (h14 : x_21 = x_20 <<< ((16 : Int32) &&& 31)) (h15 : x_23 = S.2.1 1 (3 : Int32).toNatClampNeg) (h16 : x_24 = x_23 <<< ((8 : Int32) &&& 31)) (h17 : x_25 = x_21 ||| x_24) (h18 : x_27 = S.2.1 1 (4 : Int32).toNatClampNeg) (h19 : x_28 = x_25 ||| x_27) (h20 : ¬ (x_4 = (0 : Int32))) (h21 : x_35 = x_18 + (10 : Int32)) (h22 : x_36 = x_35 + (1 : Int32)) (h23 : a1 = x_36) (h24 : x_44 = S.2.1 1 (0 : Int32).toNatClampNeg) (h25 : x_45 = x_44 <<< ((8 : Int32) &&& 31)) (h26 : x_47 = S.2.1 1 (1 : Int32).toNatClampNeg) (h27 : x_48 = x_45 ||| x_47) (h28 : ¬ ((999 : Int32) < x_48)) (h29 : ¬ (x_28 ≤ (99999 : Int32))) : F_m_comesOn o S a1 = (S, (0 : Int32)) := by
  replace h0 := Eq.symm h0
  subst h0
  replace h1 := Eq.symm h1
  subst h1
  replace h2 := Eq.symm h2
  subst h2
  replace h3 := Eq.symm h3
  subst h3
  replace h4 := Eq.symm h4
  subst h4
  replace h5 := Eq.symm h5
  subst h5
  replace h6 := Eq.symm h6
  subst h6
  replace h7 := Eq.symm h7
  subst h7
  replace h8 := Eq.symm h8
  subst h8
  replace h9 := Eq.symm h9
  subst h9
  replace h10 := Eq.symm h10
  subst h10
  replace h11 := Eq.symm h11
  subst h11
  replace h12 := Eq.symm h12
  subst h12
  replace h13 := Eq.symm h13
  subst h13
  replace h14 := Eq.symm h14
  subst h14
  replace h15 := Eq.symm h15
  subst h15
  replace h16 := Eq.symm h16
  subst h16
  replace h17 := Eq.symm h17
  subst h17
  replace h18 := Eq.symm h18
  subst h18
  replace h19 := Eq.symm h19
  subst h19
  replace h21 := Eq.symm h21
  subst h21
  replace h22 := Eq.symm h22
  subst h22
  replace h24 := Eq.symm h24
  subst h24
  replace h25 := Eq.symm h25
  subst h25
  replace h26 := Eq.symm h26
  subst h26
  replace h27 := Eq.symm h27
  subst h27
  exact (Eq.trans (if_neg h20) (Eq.trans (if_pos h23) (Eq.trans (if_neg h28) (Eq.trans (if_neg h29) rfl))))
set_option maxHeartbeats 8000000 in
set_option maxRecDepth 100000 in
theorem c_m_comesOn (l : Launch) (g : Nat → ClassId) (D : va_G) (o : Nat) (S : dg_S) (a1 : Int32) (b_a1 : 0 ≤ (a1).toInt ∧ (a1).toInt ≤ 1600) (ZB : ZBM S) (ZS : ZSM S) (I : CM o S) (sz : Nat) : Met l yX12_comesOn (bw yX12_comesOn cX12_comesOn 9 (some .boolean)) ({ frames := 5, cells := 0, slots := 0, locals := 121 } : Room) (dk_Pc g D (dg_w g shM o rfM S) sz [.ref (o + 0), .int a1]) (va_Qi (fun (r : Int32) S' => CM o S' ∧ dg_sm shM [] [29, 30, 31, 32, 33, 34, 35, 36, 37, 38, 39] S S' ∧ (0 ≤ (r).toInt ∧ (r).toInt ≤ 1) ∧ (∀ x9 : Int32, S'.2.1 29 (1 : Int32).toNatClampNeg = x9 → ((r).toInt = 1 → (x9).toInt ≤ 999)) ∧ ZSM S' ∧ (S' = (F_m_comesOn o S a1).1 ∧ r = (F_m_comesOn o S a1).2) ∧ True) (dg_B g D shM o rfM) (dg_A o shM.length sz)) 0 0 (dg_A o shM.length sz) := by
  refine dg_met (cc := cX12_comesOn) (maxL := 9) (ret := (some .boolean)) (dk_dq rfl) rfl (Nat.le_of_ble_eq_true rfl) ?_
  intro p e s m args below meth c A hAe harg hx hb hr hml hts hown hlocks hin hP K hS hA1 hA ST hsz ls hl
  rw [← hAe]
  have F : CallFix p m c cX12_comesOn 9 s args (bw yX12_comesOn cX12_comesOn 9 (some .boolean)) RX12 := ⟨hx, hb, hml, hown, hts⟩
  have hl : lv_has ls 9 [(0, .ref (o + 0)), (1, .int a1)] := hl
  have M_0 : dg_sm shM [] [29, 30, 31, 32, 33, 34, 35, 36, 37, 38, 39] S S := dg_sm.rf
  refine lv_iconst (v := 5) hx hb dX12_comesOn_0 (by decide +kernel) ?_
  refine lv_aload_n hx hb dX12_comesOn_1 rfl (lv_at hl 0 rfl) ?_
  refine dg_get (C := RX12) (T := TX12) (N := 77) hx hb hts (fun w h => bw_mem (wU_X12 w h)) hown K hP sM_0 rfl 14 (dk_dq rfl) (hts _ (bw_mem wB_372)) (fun _ h9 => h9) (v := .ref (o + 2)) (show S.1 0 14 = .ref (o + 2) from dg_I.rel (d := 2) I sM_0 (by decide +kernel)) dX12_comesOn_2 ?_
  refine lv_aload_n hx hb dX12_comesOn_5 rfl (lv_at hl 0 rfl) ?_
  obtain ⟨x_1, f_x_1, b_x_1⟩ := dg_I.int (i := 0) (k := 13) (lo := 0) (hi := 1) I sM_0 (by decide +kernel)
  refine dg_get (C := RX12) (T := TX12) (N := 77) hx hb hts (fun w h => bw_mem (wU_X12 w h)) hown K hP sM_0 rfl 13 (dk_dq rfl) (hts _ (bw_mem wB_1085)) (fun _ h9 => h9) (v := .int x_1) f_x_1 dX12_comesOn_6 ?_
  have hin_2 : vp_in x_1 2 := (dk_inv2 (by omega))
  refine dg_iald hx hb K hP sM_2 hin_2 dX12_comesOn_9 (fun x_3 ex_3 => ?_)
  have b_x_3 := dk_all_at (dg_I.row (lo := 0) (hi := 9999) I sM_2 (by decide +kernel)) hin_2 ex_3
  obtain ⟨x_4, f_x_4, b_x_4⟩ := dg_I.int (i := 0) (k := 47) (lo := 0) (hi := 1) I sM_0 (by decide +kernel)
  have zb_x_3 : (x_3).toInt ≤ 7 ∧ ((x_4 : Int32).toInt = 1 → 3 ≤ (x_3).toInt) := by rw [ex_3]; exact ⟨(ZB x_1 x_4 f_x_1 f_x_4).1, fun h9 => ((ZB x_1 x_4 f_x_1 f_x_4).2.2.2 h9).1⟩
  refine lv_aload_n hx hb dX12_comesOn_10 rfl (lv_at hl 0 rfl) ?_
  refine dg_get (C := RX12) (T := TX12) (N := 77) hx hb hts (fun w h => bw_mem (wU_X12 w h)) hown K hP sM_0 rfl 15 (dk_dq rfl) (hts _ (bw_mem wB_377)) (fun _ h9 => h9) (v := .ref (o + 3)) (show S.1 0 15 = .ref (o + 3) from dg_I.rel (d := 3) I sM_0 (by decide +kernel)) dX12_comesOn_11 ?_
  refine lv_aload_n hx hb dX12_comesOn_14 rfl (lv_at hl 0 rfl) ?_
  refine dg_get (C := RX12) (T := TX12) (N := 77) hx hb hts (fun w h => bw_mem (wU_X12 w h)) hown K hP sM_0 rfl 13 (dk_dq rfl) (hts _ (bw_mem wB_1085)) (fun _ h9 => h9) (v := .int x_1) f_x_1 dX12_comesOn_15 ?_
  have hin_5 : vp_in x_1 2 := (dk_inv2 (by omega))
  refine dg_iald hx hb K hP sM_3 hin_5 dX12_comesOn_18 (fun x_6 ex_6 => ?_)
  have b_x_6 := dk_all_at (dg_I.row (lo := 0) (hi := 9999) I sM_3 (by decide +kernel)) hin_5 ex_6
  have zb_x_6 : (x_6).toInt ≤ 7 ∧ ((x_4 : Int32).toInt = 1 → 3 ≤ (x_6).toInt) := by rw [ex_6]; exact ⟨(ZB x_1 x_4 f_x_1 f_x_4).2.1, fun h9 => ((ZB x_1 x_4 f_x_1 f_x_4).2.2.2 h9).2⟩
  refine lv_imul hx hb dX12_comesOn_19 ?_
  refine lv_topi (fun x_7 ex_7 => ?_)
  have jx_7 := dk_mulB (x := x_3) (y := x_6) (A := 7) (B := 7) (by omega) (by omega) (dk_dq rfl)
  rw [← ex_7] at jx_7
  refine lv_iadd hx hb dX12_comesOn_20 ?_
  refine lv_topi (fun x_8 ex_8 => ?_)
  have jx_8 : (x_8).toInt = 5 + (x_7).toInt := by rw [ex_8]; exact dk_addT2 (by decide +kernel) rfl (by omega)
  refine lv_istore_n (lv' := [(2, .int x_8), (0, .ref (o + 0)), (1, .int a1)]) hx hb dX12_comesOn_21 rfl hl (dk_dq rfl) rfl (fun ls hl => ?_)
  refine lv_iload_n hx hb dX12_comesOn_22 rfl (lv_at hl 0 rfl) ?_
  refine lv_aload_n hx hb dX12_comesOn_23 rfl (lv_at hl 1 rfl) ?_
  refine dg_get (C := RX12) (T := TX12) (N := 77) hx hb hts (fun w h => bw_mem (wU_X12 w h)) hown K hP sM_0 rfl 20 (dk_dq rfl) (hts _ (bw_mem wB_352)) (fun _ h9 => h9) (v := .ref (o + 8)) (show S.1 0 20 = .ref (o + 8) from dg_I.rel (d := 8) I sM_0 (by decide +kernel)) dX12_comesOn_24 ?_
  refine lv_aload_n hx hb dX12_comesOn_27 rfl (lv_at hl 1 rfl) ?_
  refine dg_get (C := RX12) (T := TX12) (N := 77) hx hb hts (fun w h => bw_mem (wU_X12 w h)) hown K hP sM_0 rfl 13 (dk_dq rfl) (hts _ (bw_mem wB_1085)) (fun _ h9 => h9) (v := .int x_1) f_x_1 dX12_comesOn_28 ?_
  have hin_9 : vp_in x_1 2 := (dk_inv2 (by omega))
  refine dg_iald hx hb K hP sM_8 hin_9 dX12_comesOn_31 (fun x_10 ex_10 => ?_)
  have b_x_10 := dk_all_at (dg_I.row (lo := 0) (hi := 6) I sM_8 (by decide +kernel)) hin_9 ex_10
  as_aux_lemma =>
    refine lv_iadd hx hb dX12_comesOn_32 ?_
    refine lv_topi (fun x_11 ex_11 => ?_)
    have jx_11 : (x_11).toInt = (x_8).toInt + (x_10).toInt := by rw [ex_11]; exact dk_addT2 rfl rfl (by omega)
    refine lv_istore_n (lv' := [(3, .int x_11), (2, .int x_8), (0, .ref (o + 0)), (1, .int a1)]) hx hb dX12_comesOn_33 rfl hl (dk_dq rfl) rfl (fun ls hl => ?_)
    refine lv_iload_n hx hb dX12_comesOn_34 rfl (lv_at hl 0 rfl) ?_
    refine lv_iconst (v := 3) hx hb dX12_comesOn_35 (by decide +kernel) ?_
    refine lv_aload_n hx hb dX12_comesOn_36 rfl (lv_at hl 2 rfl) ?_
    refine dg_get (C := RX12) (T := TX12) (N := 77) hx hb hts (fun w h => bw_mem (wU_X12 w h)) hown K hP sM_0 rfl 21 (dk_dq rfl) (hts _ (bw_mem wB_391)) (fun _ h9 => h9) (v := .ref (o + 9)) (show S.1 0 21 = .ref (o + 9) from dg_I.rel (d := 9) I sM_0 (by decide +kernel)) dX12_comesOn_37 ?_
    refine lv_aload_n hx hb dX12_comesOn_40 rfl (lv_at hl 2 rfl) ?_
    refine dg_get (C := RX12) (T := TX12) (N := 77) hx hb hts (fun w h => bw_mem (wU_X12 w h)) hown K hP sM_0 rfl 13 (dk_dq rfl) (hts _ (bw_mem wB_1085)) (fun _ h9 => h9) (v := .int x_1) f_x_1 dX12_comesOn_41 ?_
    have hin_12 : vp_in x_1 2 := (dk_inv2 (by omega))
    refine dg_iald hx hb K hP sM_9 hin_12 dX12_comesOn_44 (fun x_13 ex_13 => ?_)
    have b_x_13 := dk_all_at (dg_I.row (lo := 0) (hi := 16) I sM_9 (by decide +kernel)) hin_12 ex_13
    refine lv_imul hx hb dX12_comesOn_45 ?_
    refine lv_topi (fun x_14 ex_14 => ?_)
    have jx_14 : (x_14).toInt = 3 * (x_13).toInt := by rw [ex_14]; exact dk_mulT2 (by decide +kernel) rfl (by omega)
    refine lv_iadd hx hb dX12_comesOn_46 ?_
    refine lv_topi (fun x_15 ex_15 => ?_)
    have jx_15 : (x_15).toInt = (x_11).toInt + (x_14).toInt := by rw [ex_15]; exact dk_addT2 rfl rfl (by omega)
    refine lv_istore (lv' := [(4, .int x_15), (3, .int x_11), (2, .int x_8), (0, .ref (o + 0)), (1, .int a1)]) hx hb dX12_comesOn_47 hl (dk_dq rfl) rfl (fun ls hl => ?_)
    refine lv_iload hx hb dX12_comesOn_49 (lv_at hl 0 rfl) ?_
    refine lv_aload_n hx hb dX12_comesOn_51 rfl (lv_at hl 3 rfl) ?_
    refine dg_get (C := RX12) (T := TX12) (N := 77) hx hb hts (fun w h => bw_mem (wU_X12 w h)) hown K hP sM_0 rfl 24 (dk_dq rfl) (hts _ (bw_mem wB_355)) (fun _ h9 => h9) (v := .ref (o + 12)) (show S.1 0 24 = .ref (o + 12) from dg_I.rel (d := 12) I sM_0 (by decide +kernel)) dX12_comesOn_52 ?_
    refine lv_aload_n hx hb dX12_comesOn_55 rfl (lv_at hl 3 rfl) ?_
    refine dg_get (C := RX12) (T := TX12) (N := 77) hx hb hts (fun w h => bw_mem (wU_X12 w h)) hown K hP sM_0 rfl 13 (dk_dq rfl) (hts _ (bw_mem wB_1085)) (fun _ h9 => h9) (v := .int x_1) f_x_1 dX12_comesOn_56 ?_
    have hin_16 : vp_in x_1 2 := (dk_inv2 (by omega))
    refine dg_iald hx hb K hP sM_12 hin_16 dX12_comesOn_59 (fun x_17 ex_17 => ?_)
    have b_x_17 := dk_all_at (dg_I.row (lo := 0) (hi := 5) I sM_12 (by decide +kernel)) hin_16 ex_17
    refine lv_iadd hx hb dX12_comesOn_60 ?_
    refine lv_topi (fun x_18 ex_18 => ?_)
    have jx_18 : (x_18).toInt = (x_15).toInt + (x_17).toInt := by rw [ex_18]; exact dk_addT2 rfl rfl (by omega)
    refine lv_istore (lv' := [(5, .int x_18), (4, .int x_15), (3, .int x_11), (2, .int x_8), (0, .ref (o + 0)), (1, .int a1)]) hx hb dX12_comesOn_61 hl (dk_dq rfl) rfl (fun ls hl => ?_)
    refine lv_aload_n hx hb dX12_comesOn_63 rfl (lv_at hl 4 rfl) ?_
    refine dg_get (C := RX12) (T := TX12) (N := 77) hx hb hts (fun w h => bw_mem (wU_X12 w h)) hown K hP sM_0 rfl 0 (dk_dq rfl) (hts _ (bw_mem wB_290)) (fun _ h9 => h9) (v := .ref (o + 1)) (show S.1 0 0 = .ref (o + 1) from dg_I.rel (d := 1) I sM_0 (by decide +kernel)) dX12_comesOn_64 ?_
    refine lv_iconst (v := 2) hx hb dX12_comesOn_67 (by decide +kernel) ?_
    have hin_19 : vp_in (2 : Int32) 1800 := (dk_in (by decide +kernel))
    refine dg_iald hx hb K hP sM_1 hin_19 dX12_comesOn_68 (fun x_20 ex_20 => ?_)
    have b_x_20 := dk_all_at (dg_I.row (lo := 0) (hi := 255) I sM_1 (by decide +kernel)) hin_19 ex_20
    refine lv_bipush (v := 16) hx hb dX12_comesOn_69 (by decide +kernel) ?_
    refine lv_ishl hx hb dX12_comesOn_71 ?_
    as_aux_lemma =>
      refine lv_topi (fun x_21 ex_21 => ?_)
      have jx_21 := dk_shlB (x := x_20) (s := 16 &&& 31) (b := 255) (k := 16) (p := 65536) (B := 16711680) (by omega) (by omega) (by decide +kernel) (dk_dq rfl) (dk_dq rfl) (dk_dq rfl)
      rw [← ex_21] at jx_21
      refine lv_aload_n hx hb dX12_comesOn_72 rfl (lv_at hl 4 rfl) ?_
      refine dg_get (C := RX12) (T := TX12) (N := 77) hx hb hts (fun w h => bw_mem (wU_X12 w h)) hown K hP sM_0 rfl 0 (dk_dq rfl) (hts _ (bw_mem wB_290)) (fun _ h9 => h9) (v := .ref (o + 1)) (show S.1 0 0 = .ref (o + 1) from dg_I.rel (d := 1) I sM_0 (by decide +kernel)) dX12_comesOn_73 ?_
      refine lv_iconst (v := 3) hx hb dX12_comesOn_76 (by decide +kernel) ?_
      have hin_22 : vp_in (3 : Int32) 1800 := (dk_in (by decide +kernel))
      refine dg_iald hx hb K hP sM_1 hin_22 dX12_comesOn_77 (fun x_23 ex_23 => ?_)
      have b_x_23 := dk_all_at (dg_I.row (lo := 0) (hi := 255) I sM_1 (by decide +kernel)) hin_22 ex_23
      refine lv_bipush (v := 8) hx hb dX12_comesOn_78 (by decide +kernel) ?_
      refine lv_ishl hx hb dX12_comesOn_80 ?_
      refine lv_topi (fun x_24 ex_24 => ?_)
      have jx_24 := dk_shlB (x := x_23) (s := 8 &&& 31) (b := 255) (k := 8) (p := 256) (B := 65280) (by omega) (by omega) (by decide +kernel) (dk_dq rfl) (dk_dq rfl) (dk_dq rfl)
      rw [← ex_24] at jx_24
      refine lv_ior hx hb dX12_comesOn_81 ?_
      refine lv_topi (fun x_25 ex_25 => ?_)
      have hor_x_25 : 0 ≤ (x_25).toInt := by rw [ex_25]; exact dk_orN (by omega) (by omega)
      refine lv_aload_n hx hb dX12_comesOn_82 rfl (lv_at hl 4 rfl) ?_
      refine dg_get (C := RX12) (T := TX12) (N := 77) hx hb hts (fun w h => bw_mem (wU_X12 w h)) hown K hP sM_0 rfl 0 (dk_dq rfl) (hts _ (bw_mem wB_290)) (fun _ h9 => h9) (v := .ref (o + 1)) (show S.1 0 0 = .ref (o + 1) from dg_I.rel (d := 1) I sM_0 (by decide +kernel)) dX12_comesOn_83 ?_
      refine lv_iconst (v := 4) hx hb dX12_comesOn_86 (by decide +kernel) ?_
      have hin_26 : vp_in (4 : Int32) 1800 := (dk_in (by decide +kernel))
      refine dg_iald hx hb K hP sM_1 hin_26 dX12_comesOn_87 (fun x_27 ex_27 => ?_)
      have b_x_27 := dk_all_at (dg_I.row (lo := 0) (hi := 255) I sM_1 (by decide +kernel)) hin_26 ex_27
      refine lv_ior hx hb dX12_comesOn_88 ?_
      refine lv_topi (fun x_28 ex_28 => ?_)
      have hor_x_28 : 0 ≤ (x_28).toInt := by rw [ex_28]; exact dk_orN (by omega) (by omega)
      refine lv_istore (lv' := [(6, .int x_28), (5, .int x_18), (4, .int x_15), (3, .int x_11), (2, .int x_8), (0, .ref (o + 0)), (1, .int a1)]) hx hb dX12_comesOn_89 hl (dk_dq rfl) rfl (fun ls hl => ?_)
      refine lv_aload_n hx hb dX12_comesOn_91 rfl (lv_at hl 5 rfl) ?_
      refine dg_get (C := RX12) (T := TX12) (N := 77) hx hb hts (fun w h => bw_mem (wU_X12 w h)) hown K hP sM_0 rfl 47 (dk_dq rfl) (hts _ (bw_mem wB_1084)) (fun _ h9 => h9) (v := .int x_4) f_x_4 dX12_comesOn_92 ?_
      refine lv_if_eq (tgt := 139) hx hb dX12_comesOn_95 (dk_dq rfl) (fun c_29 => ?_) (fun c_29 => ?_)
      · have jc_29 := dk_eqc (k := 0) (by decide +kernel) c_29
        refine lv_iconst (v := 0) hx hb dX12_comesOn_139 (by decide +kernel) ?_
        have hz_30 : (0 : Int32).toInt = 0 := by decide +kernel
        have hz_31 : (0 : Int32).toInt = 0 := by decide +kernel
        obtain ⟨x_32, f_x_32⟩ : ∃ x, S.2.1 29 (1 : Int32).toNatClampNeg = x := ⟨_, rfl⟩
        have hin_33 : vp_in (1 : Int32) 22 := (dk_in (by decide +kernel))
        have b_x_32 := dk_all_at (dg_I.row (lo := 0) (hi := 2000) I sM_29 (by decide +kernel)) hin_33 f_x_32.symm
        have ex_32 := f_x_32.symm
        have hz_34 : (1 : Int32).toInt = 1 := by decide +kernel
        have zs_x_32 : (1 : Int32).toInt ≠ 1 → (x_32).toInt ≤ 999 := fun h => by rw [ex_32]; exact ZS _ (dk_inT hin_33).2 (fun q => by have h9 := (dk_inT hin_33).1; omega)
        refine W.widen (k := 0) (n := 0) (Nat.le_of_ble_eq_true rfl) (Nat.le_of_ble_eq_true rfl) ?_
        exact dg_iret hx hb hr hlocks (by decide +kernel) hP hS ⟨I, M_0, (by decide +kernel), (fun x9 h9 => by obtain rfl := (f_x_32).symm.trans h9; omega), ZS, ⟨congrArg Prod.fst (Eq.symm (F_m_comesOn_p0 (zI_eq f_x_4) c_29)), congrArg Prod.snd (Eq.symm (F_m_comesOn_p0 (zI_eq f_x_4) c_29))⟩, trivial⟩ dX12_comesOn_140
      · as_aux_lemma =>
          have jc_29 := dk_neqc (k := 0) (by decide +kernel) c_29
          refine lv_iload_n hx hb dX12_comesOn_98 rfl (lv_at hl 6 rfl) ?_
          refine lv_iload hx hb dX12_comesOn_99 (lv_at hl 1 rfl) ?_
          refine lv_bipush (v := 10) hx hb dX12_comesOn_101 (by decide +kernel) ?_
          refine lv_iadd hx hb dX12_comesOn_103 ?_
          refine lv_topi (fun x_35 ex_35 => ?_)
          have jx_35 : (x_35).toInt = (x_18).toInt + 10 := by rw [ex_35]; exact dk_addT2 rfl (by decide +kernel) (by omega)
          refine lv_iconst (v := 1) hx hb dX12_comesOn_104 (by decide +kernel) ?_
          refine lv_iadd hx hb dX12_comesOn_105 ?_
          refine lv_topi (fun x_36 ex_36 => ?_)
          have jx_36 : (x_36).toInt = (x_35).toInt + 1 := by rw [ex_36]; exact dk_addT2 rfl (by decide +kernel) (by omega)
          refine lv_icmp_ne (tgt := 139) hx hb dX12_comesOn_106 (dk_dq rfl) (fun c_37 => ?_) (fun c_37 => ?_)
          · have jc_37 := dk_neqc (k := (x_36).toInt) rfl c_37
            refine lv_iconst (v := 0) hx hb dX12_comesOn_139 (by decide +kernel) ?_
            have hz_38 : (0 : Int32).toInt = 0 := by decide +kernel
            have hz_39 : (0 : Int32).toInt = 0 := by decide +kernel
            obtain ⟨x_40, f_x_40⟩ : ∃ x, S.2.1 29 (1 : Int32).toNatClampNeg = x := ⟨_, rfl⟩
            have hin_41 : vp_in (1 : Int32) 22 := (dk_in (by decide +kernel))
            have b_x_40 := dk_all_at (dg_I.row (lo := 0) (hi := 2000) I sM_29 (by decide +kernel)) hin_41 f_x_40.symm
            have ex_40 := f_x_40.symm
            have hz_42 : (1 : Int32).toInt = 1 := by decide +kernel
            have zs_x_40 : (1 : Int32).toInt ≠ 1 → (x_40).toInt ≤ 999 := fun h => by rw [ex_40]; exact ZS _ (dk_inT hin_41).2 (fun q => by have h9 := (dk_inT hin_41).1; omega)
            refine W.widen (k := 0) (n := 0) (Nat.le_of_ble_eq_true rfl) (Nat.le_of_ble_eq_true rfl) ?_
            exact dg_iret hx hb hr hlocks (by decide +kernel) hP hS ⟨I, M_0, (by decide +kernel), (fun x9 h9 => by obtain rfl := (f_x_40).symm.trans h9; omega), ZS, ⟨congrArg Prod.fst (Eq.symm (F_m_comesOn_p1 (zI_eq f_x_1) (zI_eq f_x_4) (Eq.symm ex_3.symm) (Eq.symm ex_6.symm) ex_7 ex_8 (Eq.symm ex_10.symm) ex_11 (Eq.symm ex_13.symm) ex_14 ex_15 (Eq.symm ex_17.symm) ex_18 c_29 ex_35 ex_36 c_37)), congrArg Prod.snd (Eq.symm (F_m_comesOn_p1 (zI_eq f_x_1) (zI_eq f_x_4) (Eq.symm ex_3.symm) (Eq.symm ex_6.symm) ex_7 ex_8 (Eq.symm ex_10.symm) ex_11 (Eq.symm ex_13.symm) ex_14 ex_15 (Eq.symm ex_17.symm) ex_18 c_29 ex_35 ex_36 c_37))⟩, trivial⟩ dX12_comesOn_140
          · as_aux_lemma =>
              have jc_37 := dk_eqc (k := (x_36).toInt) rfl c_37
              refine lv_aload_n hx hb dX12_comesOn_109 rfl (lv_at hl 5 rfl) ?_
              refine dg_get (C := RX12) (T := TX12) (N := 77) hx hb hts (fun w h => bw_mem (wU_X12 w h)) hown K hP sM_0 rfl 0 (dk_dq rfl) (hts _ (bw_mem wB_290)) (fun _ h9 => h9) (v := .ref (o + 1)) (show S.1 0 0 = .ref (o + 1) from dg_I.rel (d := 1) I sM_0 (by decide +kernel)) dX12_comesOn_110 ?_
              refine lv_iconst (v := 0) hx hb dX12_comesOn_113 (by decide +kernel) ?_
              have hin_43 : vp_in (0 : Int32) 1800 := (dk_in (by decide +kernel))
              refine dg_iald hx hb K hP sM_1 hin_43 dX12_comesOn_114 (fun x_44 ex_44 => ?_)
              have b_x_44 := dk_all_at (dg_I.row (lo := 0) (hi := 255) I sM_1 (by decide +kernel)) hin_43 ex_44
              refine lv_bipush (v := 8) hx hb dX12_comesOn_115 (by decide +kernel) ?_
              refine lv_ishl hx hb dX12_comesOn_117 ?_
              refine lv_topi (fun x_45 ex_45 => ?_)
              have jx_45 := dk_shlB (x := x_44) (s := 8 &&& 31) (b := 255) (k := 8) (p := 256) (B := 65280) (by omega) (by omega) (by decide +kernel) (dk_dq rfl) (dk_dq rfl) (dk_dq rfl)
              rw [← ex_45] at jx_45
              refine lv_aload_n hx hb dX12_comesOn_118 rfl (lv_at hl 5 rfl) ?_
              refine dg_get (C := RX12) (T := TX12) (N := 77) hx hb hts (fun w h => bw_mem (wU_X12 w h)) hown K hP sM_0 rfl 0 (dk_dq rfl) (hts _ (bw_mem wB_290)) (fun _ h9 => h9) (v := .ref (o + 1)) (show S.1 0 0 = .ref (o + 1) from dg_I.rel (d := 1) I sM_0 (by decide +kernel)) dX12_comesOn_119 ?_
              refine lv_iconst (v := 1) hx hb dX12_comesOn_122 (by decide +kernel) ?_
              have hin_46 : vp_in (1 : Int32) 1800 := (dk_in (by decide +kernel))
              refine dg_iald hx hb K hP sM_1 hin_46 dX12_comesOn_123 (fun x_47 ex_47 => ?_)
              have b_x_47 := dk_all_at (dg_I.row (lo := 0) (hi := 255) I sM_1 (by decide +kernel)) hin_46 ex_47
              refine lv_ior hx hb dX12_comesOn_124 ?_
              refine lv_topi (fun x_48 ex_48 => ?_)
              have hor_x_48 : 0 ≤ (x_48).toInt := by rw [ex_48]; exact dk_orN (by omega) (by omega)
              refine lv_sipush (v := 999) hx hb dX12_comesOn_125 (by decide +kernel) ?_
              refine lv_icmp_gt (tgt := 139) hx hb dX12_comesOn_128 (dk_dq rfl) (fun c_49 => ?_) (fun c_49 => ?_)
              · have jc_49 := dk_gtc (k := 999) (by decide +kernel) c_49
                refine lv_iconst (v := 0) hx hb dX12_comesOn_139 (by decide +kernel) ?_
                have hz_50 : (0 : Int32).toInt = 0 := by decide +kernel
                have hz_51 : (0 : Int32).toInt = 0 := by decide +kernel
                obtain ⟨x_52, f_x_52⟩ : ∃ x, S.2.1 29 (1 : Int32).toNatClampNeg = x := ⟨_, rfl⟩
                have hin_53 : vp_in (1 : Int32) 22 := (dk_in (by decide +kernel))
                have b_x_52 := dk_all_at (dg_I.row (lo := 0) (hi := 2000) I sM_29 (by decide +kernel)) hin_53 f_x_52.symm
                have ex_52 := f_x_52.symm
                have hz_54 : (1 : Int32).toInt = 1 := by decide +kernel
                have zs_x_52 : (1 : Int32).toInt ≠ 1 → (x_52).toInt ≤ 999 := fun h => by rw [ex_52]; exact ZS _ (dk_inT hin_53).2 (fun q => by have h9 := (dk_inT hin_53).1; omega)
                refine W.widen (k := 0) (n := 0) (Nat.le_of_ble_eq_true rfl) (Nat.le_of_ble_eq_true rfl) ?_
                exact dg_iret hx hb hr hlocks (by decide +kernel) hP hS ⟨I, M_0, (by decide +kernel), (fun x9 h9 => by obtain rfl := (f_x_52).symm.trans h9; omega), ZS, ⟨congrArg Prod.fst (Eq.symm (F_m_comesOn_p2 (zI_eq f_x_1) (zI_eq f_x_4) (Eq.symm ex_3.symm) (Eq.symm ex_6.symm) ex_7 ex_8 (Eq.symm ex_10.symm) ex_11 (Eq.symm ex_13.symm) ex_14 ex_15 (Eq.symm ex_17.symm) ex_18 c_29 ex_35 ex_36 c_37 (Eq.symm ex_44.symm) ex_45 (Eq.symm ex_47.symm) ex_48 c_49)), congrArg Prod.snd (Eq.symm (F_m_comesOn_p2 (zI_eq f_x_1) (zI_eq f_x_4) (Eq.symm ex_3.symm) (Eq.symm ex_6.symm) ex_7 ex_8 (Eq.symm ex_10.symm) ex_11 (Eq.symm ex_13.symm) ex_14 ex_15 (Eq.symm ex_17.symm) ex_18 c_29 ex_35 ex_36 c_37 (Eq.symm ex_44.symm) ex_45 (Eq.symm ex_47.symm) ex_48 c_49))⟩, trivial⟩ dX12_comesOn_140
              · as_aux_lemma =>
                  have jc_49 := dk_ngtc (k := 999) (by decide +kernel) c_49
                  refine lv_iload hx hb dX12_comesOn_131 (lv_at hl 0 rfl) ?_
                  refine lv_ldcw hx hb hown (hts _ (bw_mem wB_1260)) dX12_comesOn_133 ?_
                  refine lv_icmp_le (tgt := 141) hx hb dX12_comesOn_136 (dk_dq rfl) (fun c_55 => ?_) (fun c_55 => ?_)
                  · as_aux_lemma =>
                      have jc_55 := dk_lec (k := 99999) (by decide +kernel) c_55
                      refine lv_sipush (v := 233) hx hb dX12_comesOn_141 (by decide +kernel) ?_
                      refine lv_istore (lv' := [(7, .int 233), (6, .int x_28), (5, .int x_18), (4, .int x_15), (3, .int x_11), (2, .int x_8), (0, .ref (o + 0)), (1, .int a1)]) hx hb dX12_comesOn_144 hl (dk_dq rfl) rfl (fun ls hl => ?_)
                      refine lv_iconst (v := 0) hx hb dX12_comesOn_146 (by decide +kernel) ?_
                      refine lv_istore (lv' := [(8, .int 0), (7, .int 233), (6, .int x_28), (5, .int x_18), (4, .int x_15), (3, .int x_11), (2, .int x_8), (0, .ref (o + 0)), (1, .int a1)]) hx hb dX12_comesOn_147 hl (dk_dq rfl) rfl (fun ls hl => ?_)
                      have J_279 : ∀ (x_111 : Int32) (x_112 : Int32), (15 ≤ (x_111).toInt ∧ (x_111).toInt ≤ 2147483647) → (0 ≤ (x_112).toInt ∧ (x_112).toInt ≤ 250) → (F_m_comesOn o S a1 = F_m_comesOn_J1 a1 S x_112 o x_44 x_47 x_28 x_8 x_10 x_15 x_17 x_11 x_18) → ∀ (H : Heap) (locs : List Loc), va_P D vwCl (dg_w g shM o rfM S) H → va_S A s.heap H locs → ∀ ls : Array Slot, lv_has ls 9 [(8, .int x_111), (7, .int x_112), (6, .int x_28), (5, .int x_18), (4, .int x_15), (3, .int x_11), (2, .int x_8), (0, .ref (o + 0)), (1, .int a1)] → W p l e ({ frames := 5, cells := 0, slots := 0, locals := 121 } : Room) s m args below meth c H locs 0 0 (MQ below (va_Qi (fun (r : Int32) S' => CM o S' ∧ dg_sm shM [] [29, 30, 31, 32, 33, 34, 35, 36, 37, 38, 39] S S' ∧ (0 ≤ (r).toInt ∧ (r).toInt ≤ 1) ∧ (∀ x9 : Int32, S'.2.1 29 (1 : Int32).toNatClampNeg = x9 → ((r).toInt = 1 → (x9).toInt ≤ 999)) ∧ ZSM S' ∧ (S' = (F_m_comesOn o S a1).1 ∧ r = (F_m_comesOn o S a1).2) ∧ True) (dg_B g D shM o rfM) A) args s 0 0 A) (F0 m 181 ls []) := by
                        as_aux_lemma =>
                          intro x_111 x_112 b_x_111 b_x_112 hF_1 H locs hP hS ls hl
                          refine lv_aload_n hx hb dX12_comesOn_181 rfl (lv_at hl 7 rfl) ?_
                          refine dg_get (C := RX12) (T := TX12) (N := 77) hx hb hts (fun w h => bw_mem (wU_X12 w h)) hown K hP sM_0 rfl 0 (dk_dq rfl) (hts _ (bw_mem wB_290)) (fun _ h9 => h9) (v := .ref (o + 1)) (show S.1 0 0 = .ref (o + 1) from dg_I.rel (d := 1) I sM_0 (by decide +kernel)) dX12_comesOn_182 ?_
                          refine lv_iload_n hx hb dX12_comesOn_185 rfl (lv_at hl 8 rfl) ?_
                          refine lv_iconst (v := 1) hx hb dX12_comesOn_186 (by decide +kernel) ?_
                          refine lv_isub hx hb dX12_comesOn_187 ?_
                          refine lv_topi (fun x_280 ex_280 => ?_)
                          have jx_280 : (x_280).toInt = (a1).toInt - 1 := by rw [ex_280]; exact dk_subT2 rfl (by decide +kernel) (by omega)
                          have hin_281 : vp_in x_280 1800 := (dk_inv2 (by omega))
                          refine dg_iald hx hb K hP sM_1 hin_281 dX12_comesOn_188 (fun x_282 ex_282 => ?_)
                          have b_x_282 := dk_all_at (dg_I.row (lo := 0) (hi := 255) I sM_1 (by decide +kernel)) hin_281 ex_282
                          refine lv_iload hx hb dX12_comesOn_189 (lv_at hl 1 rfl) ?_
                          refine lv_icmp_eq (tgt := 196) hx hb dX12_comesOn_191 (dk_dq rfl) (fun c_283 => ?_) (fun c_283 => ?_)
                          · as_aux_lemma =>
                              have jc_283 := dk_eqc (k := (x_112).toInt) rfl c_283
                              refine lv_aload_n hx hb dX12_comesOn_196 rfl (lv_at hl 7 rfl) ?_
                              refine lv_iconst (v := 1) hx hb dX12_comesOn_197 (by decide +kernel) ?_
                              refine lv_iconst (v := 0) hx hb dX12_comesOn_198 (by decide +kernel) ?_
                              have hz_284 : (1 : Int32).toInt = 1 := by decide +kernel
                              have hz_285 : (0 : Int32).toInt = 0 := by decide +kernel
                              obtain ⟨x_286, f_x_286⟩ : ∃ x, S.2.1 29 (0 : Int32).toNatClampNeg = x := ⟨_, rfl⟩
                              have hin_287 : vp_in (0 : Int32) 22 := (dk_in (by decide +kernel))
                              have b_x_286 := dk_all_at (dg_I.row (lo := 0) (hi := 2000) I sM_29 (by decide +kernel)) hin_287 f_x_286.symm
                              have ex_286 := f_x_286.symm
                              have hz_288 : (0 : Int32).toInt = 0 := by decide +kernel
                              have zs_x_286 : (0 : Int32).toInt ≠ 1 → (x_286).toInt ≤ 999 := fun h => by rw [ex_286]; exact ZS _ (dk_inT hin_287).2 (fun q => by have h9 := (dk_inT hin_287).1; omega)
                              refine dg_callv hS hA1 hA (va_runV (As := [.int 1, .int 0]) (rest := []) F (c_m_copies l g D o S 1 (by decide +kernel) 0 (by decide +kernel) x_286 f_x_286 (by omega) x_286 f_x_286 (by omega) (by omega) ZS I H.size) (cwV 2 hts (bw_V wB_1227 wB_1228 wB_1229 wB_297 wB_1226) rfl rfl rfl (by decide +kernel) ⟨Nat.le_of_ble_eq_true rfl, Nat.le_of_ble_eq_true rfl⟩) (dg_preV sM_0 rfl K ST hP hS hA1 hA) rfl rfl hl.1 rfl (lv_room (Nat.le_of_ble_eq_true rfl)) dX12_comesOn_199 ⟨Nat.le_of_ble_eq_true rfl, Nat.le_of_ble_eq_true rfl⟩) (fun S_289 hw_289 H locs hP hS => ?_)
                              obtain ⟨I_289, m_289, w_289_0, w_289_1, w_289_2, w_289_3, -⟩ := hw_289
                              have M_289 := dg_sm.tr M_0 m_289 (dk_dq rfl) (dk_dq rfl)
                              have hz_290 : (1 : Int32).toInt = 1 := by decide +kernel
                              have hz_291 : (0 : Int32).toInt = 0 := by decide +kernel
                              obtain ⟨x_292, f_x_292⟩ : ∃ x, S_289.2.1 29 (1 : Int32).toNatClampNeg = x := ⟨_, rfl⟩
                              have hin_293 : vp_in (1 : Int32) 22 := (dk_in (by decide +kernel))
                              have b_x_292 := dk_all_at (dg_I.row (lo := 0) (hi := 2000) I_289 sM_29 (by decide +kernel)) hin_293 f_x_292.symm
                              have ex_292 := f_x_292.symm
                              have hz_294 : (1 : Int32).toInt = 1 := by decide +kernel
                              have zs_x_292 : (1 : Int32).toInt ≠ 1 → (x_292).toInt ≤ 999 := fun h => by rw [ex_292]; exact w_289_2 _ (dk_inT hin_293).2 (fun q => by have h9 := (dk_inT hin_293).1; omega)
                              have w_289_0 : (x_292).toInt = (x_286).toInt := w_289_0 x_292 f_x_292
                              obtain ⟨x_295, f_x_295⟩ : ∃ x, S_289.2.1 29 (0 : Int32).toNatClampNeg = x := ⟨_, rfl⟩
                              have hin_296 : vp_in (0 : Int32) 22 := (dk_in (by decide +kernel))
                              have b_x_295 := dk_all_at (dg_I.row (lo := 0) (hi := 2000) I_289 sM_29 (by decide +kernel)) hin_296 f_x_295.symm
                              have ex_295 := f_x_295.symm
                              have hz_297 : (0 : Int32).toInt = 0 := by decide +kernel
                              have zs_x_295 : (0 : Int32).toInt ≠ 1 → (x_295).toInt ≤ 999 := fun h => by rw [ex_295]; exact w_289_2 _ (dk_inT hin_296).2 (fun q => by have h9 := (dk_inT hin_296).1; omega)
                              have w_289_1 : ((1 : Int32)).toInt ≠ 0 → (x_295).toInt = (x_286).toInt := w_289_1 x_295 f_x_295
                              refine lv_aload_n hx hb dX12_comesOn_202 rfl (lv_at hl 7 rfl) ?_
                              refine dg_get (C := RX12) (T := TX12) (N := 77) hx hb hts (fun w h => bw_mem (wU_X12 w h)) hown K hP sM_0 rfl 49 (dk_dq rfl) (hts _ (bw_mem wB_1108)) (fun _ h9 => h9) (v := .ref (o + 29)) (show S_289.1 0 49 = .ref (o + 29) from dg_I.rel (d := 29) I_289 sM_0 (by decide +kernel)) dX12_comesOn_203 ?_
                              refine lv_iconst (v := 1) hx hb dX12_comesOn_206 (by decide +kernel) ?_
                              refine lv_aload_n hx hb dX12_comesOn_207 rfl (lv_at hl 7 rfl) ?_
                              refine dg_get (C := RX12) (T := TX12) (N := 77) hx hb hts (fun w h => bw_mem (wU_X12 w h)) hown K hP sM_0 rfl 0 (dk_dq rfl) (hts _ (bw_mem wB_290)) (fun _ h9 => h9) (v := .ref (o + 1)) (show S_289.1 0 0 = .ref (o + 1) from dg_I.rel (d := 1) I_289 sM_0 (by decide +kernel)) dX12_comesOn_208 ?_
                              refine lv_iconst (v := 0) hx hb dX12_comesOn_211 (by decide +kernel) ?_
                              have hin_298 : vp_in (0 : Int32) 1800 := (dk_in (by decide +kernel))
                              refine dg_iald hx hb K hP sM_1 hin_298 dX12_comesOn_212 (fun y_299 ey_299 => ?_)
                              obtain rfl : x_44 = y_299 := ((ey_299.trans (congrFun (m_289.2 1 _ sM_1 (dk_dq rfl)).1 _)).trans ex_44.symm).symm
                              as_aux_lemma =>
                                refine lv_bipush (v := 8) hx hb dX12_comesOn_213 (by decide +kernel) ?_
                                refine lv_ishl hx hb dX12_comesOn_215 ?_
                                refine lv_topi (fun x_300 ex_300 => ?_)
                                have jx_300 := dk_shlB (x := x_44) (s := 8 &&& 31) (b := 255) (k := 8) (p := 256) (B := 65280) (by omega) (by omega) (by decide +kernel) (dk_dq rfl) (dk_dq rfl) (dk_dq rfl)
                                rw [← ex_300] at jx_300
                                refine lv_aload_n hx hb dX12_comesOn_216 rfl (lv_at hl 7 rfl) ?_
                                refine dg_get (C := RX12) (T := TX12) (N := 77) hx hb hts (fun w h => bw_mem (wU_X12 w h)) hown K hP sM_0 rfl 0 (dk_dq rfl) (hts _ (bw_mem wB_290)) (fun _ h9 => h9) (v := .ref (o + 1)) (show S_289.1 0 0 = .ref (o + 1) from dg_I.rel (d := 1) I_289 sM_0 (by decide +kernel)) dX12_comesOn_217 ?_
                                refine lv_iconst (v := 1) hx hb dX12_comesOn_220 (by decide +kernel) ?_
                                have hin_301 : vp_in (1 : Int32) 1800 := (dk_in (by decide +kernel))
                                refine dg_iald hx hb K hP sM_1 hin_301 dX12_comesOn_221 (fun y_302 ey_302 => ?_)
                                obtain rfl : x_47 = y_302 := ((ey_302.trans (congrFun (m_289.2 1 _ sM_1 (dk_dq rfl)).1 _)).trans ex_47.symm).symm
                                refine lv_ior hx hb dX12_comesOn_222 ?_
                                refine lv_topi (fun x_303 ex_303 => ?_)
                                have hor_x_303 : 0 ≤ (x_303).toInt := by rw [ex_303]; exact dk_orN (by omega) (by omega)
                                have heq_x_303 : (x_303).toInt = (x_48).toInt := by rw [ex_303, ex_48, ex_300, ex_45]
                                have hin_304 : vp_in (1 : Int32) 22 := (dk_in (by decide +kernel))
                                have hz_306 : (1 : Int32).toInt = 1 := by decide +kernel
                                refine dg_iast hx hb K hP hS hA1 sM_29 hin_304 dX12_comesOn_223 (fun S_305 e_305 H locs hP hS => ?_)
                                have I_305 := dg_I.ufu (lo := 0) (hi := 2000) I_289 e_305 sM_29 (by decide +kernel) (show 0 ≤ (x_303).toInt ∧ (x_303).toInt ≤ 2000 from (by omega))
                                have M_305 := dg_sm.uf M_289 e_305 sM_29 (dk_dq rfl)
                                have ZS_305 := ZSM.up w_289_2 hin_304 e_305 (by omega)
                                refine lv_aload_n hx hb dX12_comesOn_224 rfl (lv_at hl 7 rfl) ?_
                                refine dg_get (C := RX12) (T := TX12) (N := 77) hx hb hts (fun w h => bw_mem (wU_X12 w h)) hown K hP sM_0 rfl 50 (dk_dq rfl) (hts _ (bw_mem wB_1129)) (fun _ h9 => h9) (v := .ref (o + 30)) (show S_305.1 0 50 = .ref (o + 30) from dg_I.rel (d := 30) I_305 sM_0 (by decide +kernel)) dX12_comesOn_225 ?_
                                refine lv_iconst (v := 1) hx hb dX12_comesOn_228 (by decide +kernel) ?_
                                refine lv_iload hx hb dX12_comesOn_229 (lv_at hl 2 rfl) ?_
                                have hin_307 : vp_in (1 : Int32) 22 := (dk_in (by decide +kernel))
                                have hz_309 : (1 : Int32).toInt = 1 := by decide +kernel
                                refine dg_iast hx hb K hP hS hA1 sM_30 hin_307 dX12_comesOn_231 (fun S_308 e_308 H locs hP hS => ?_)
                                have I_308 := dg_I.uf0 I_305 e_308 sM_30 (by decide +kernel)
                                have M_308 := dg_sm.uf M_305 e_308 sM_30 (dk_dq rfl)
                                refine lv_aload_n hx hb dX12_comesOn_232 rfl (lv_at hl 7 rfl) ?_
                                refine dg_get (C := RX12) (T := TX12) (N := 77) hx hb hts (fun w h => bw_mem (wU_X12 w h)) hown K hP sM_0 rfl 53 (dk_dq rfl) (hts _ (bw_mem wB_1130)) (fun _ h9 => h9) (v := .ref (o + 33)) (show S_308.1 0 53 = .ref (o + 33) from dg_I.rel (d := 33) I_308 sM_0 (by decide +kernel)) dX12_comesOn_233 ?_
                                refine lv_iconst (v := 1) hx hb dX12_comesOn_236 (by decide +kernel) ?_
                                refine lv_aload_n hx hb dX12_comesOn_237 rfl (lv_at hl 7 rfl) ?_
                                refine lv_iload_n hx hb dX12_comesOn_238 rfl (lv_at hl 6 rfl) ?_
                                refine lv_aload_n hx hb dX12_comesOn_239 rfl (lv_at hl 7 rfl) ?_
                                refine dg_get (C := RX12) (T := TX12) (N := 77) hx hb hts (fun w h => bw_mem (wU_X12 w h)) hown K hP sM_0 rfl 20 (dk_dq rfl) (hts _ (bw_mem wB_352)) (fun _ h9 => h9) (v := .ref (o + 8)) (show S_308.1 0 20 = .ref (o + 8) from dg_I.rel (d := 8) I_308 sM_0 (by decide +kernel)) dX12_comesOn_240 ?_
                                refine lv_aload_n hx hb dX12_comesOn_243 rfl (lv_at hl 7 rfl) ?_
                                refine dg_get (C := RX12) (T := TX12) (N := 77) hx hb hts (fun w h => bw_mem (wU_X12 w h)) hown K hP sM_0 rfl 13 (dk_dq rfl) (hts _ (bw_mem wB_1085)) (fun _ h9 => h9) (v := .int x_1) (((dg_uf_F e_308 0 13).trans ((dg_uf_F e_305 0 13).trans (m_289.1 0 13 _ sM_0 (dk_dq rfl)))).trans f_x_1) dX12_comesOn_244 ?_
                                have hin_310 : vp_in x_1 2 := (dk_inv2 (by omega))
                                as_aux_lemma =>
                                  refine dg_iald hx hb K hP sM_8 hin_310 dX12_comesOn_247 (fun y_311 ey_311 => ?_)
                                  obtain rfl : x_10 = y_311 := ((ey_311.trans (congrFun ((dg_uf_ne e_308 (dk_dq rfl)).trans ((dg_uf_ne e_305 (dk_dq rfl)).trans (m_289.2 8 _ sM_8 (dk_dq rfl)).1)) _)).trans ex_10.symm).symm
                                  refine dg_calli hS hA1 hA (va_runV (As := [.int x_8, .int x_10]) (rest := [.int 1, .ref (o + 33)]) F (c_m_flagsOn l g D o S_308 x_8 (by omega) x_10 (by omega) I_308 H.size) (cwV 2 hts (bw_V wB_1291 wB_1292 wB_1293 wB_297 wB_1290) rfl rfl rfl (by decide +kernel) ⟨Nat.le_of_ble_eq_true rfl, Nat.le_of_ble_eq_true rfl⟩) (dg_preV sM_0 rfl K ST hP hS hA1 hA) rfl rfl hl.1 rfl (lv_room (Nat.le_of_ble_eq_true rfl)) dX12_comesOn_248 ⟨Nat.le_of_ble_eq_true rfl, Nat.le_of_ble_eq_true rfl⟩) (fun x_312 S_313 hw_313 H locs hP hS => ?_)
                                  rw [hw_313.1] at hP
                                  obtain ⟨hq_313, w_313_0, -⟩ := hw_313
                                  have hin_314 : vp_in (1 : Int32) 22 := (dk_in (by decide +kernel))
                                  have hz_316 : (1 : Int32).toInt = 1 := by decide +kernel
                                  refine dg_iast hx hb K hP hS hA1 sM_33 hin_314 dX12_comesOn_251 (fun S_315 e_315 H locs hP hS => ?_)
                                  have I_315 := dg_I.uf0 I_308 e_315 sM_33 (by decide +kernel)
                                  have M_315 := dg_sm.uf M_308 e_315 sM_33 (dk_dq rfl)
                                  have hF_2 : F_m_comesOn o S a1 = F_m_comesOn_J2 o S_315 x_15 x_17 x_312 x_11 x_18 S := (Eq.trans hF_1 (F_m_comesOn_p12 ex_280 (Eq.symm ex_282.symm) c_283 w_289_3 ex_300 ex_303 e_305 e_308 w_313_0 e_315))
                                  refine lv_aload_n hx hb dX12_comesOn_252 rfl (lv_at hl 7 rfl) ?_
                                  refine dg_get (C := RX12) (T := TX12) (N := 77) hx hb hts (fun w h => bw_mem (wU_X12 w h)) hown K hP sM_0 rfl 54 (dk_dq rfl) (hts _ (bw_mem wB_1131)) (fun _ h9 => h9) (v := .ref (o + 34)) (show S_315.1 0 54 = .ref (o + 34) from dg_I.rel (d := 34) I_315 sM_0 (by decide +kernel)) dX12_comesOn_253 ?_
                                  refine lv_iconst (v := 1) hx hb dX12_comesOn_256 (by decide +kernel) ?_
                                  refine lv_aload_n hx hb dX12_comesOn_257 rfl (lv_at hl 7 rfl) ?_
                                  refine lv_iload hx hb dX12_comesOn_258 (lv_at hl 4 rfl) ?_
                                  refine lv_aload_n hx hb dX12_comesOn_260 rfl (lv_at hl 7 rfl) ?_
                                  refine dg_get (C := RX12) (T := TX12) (N := 77) hx hb hts (fun w h => bw_mem (wU_X12 w h)) hown K hP sM_0 rfl 24 (dk_dq rfl) (hts _ (bw_mem wB_355)) (fun _ h9 => h9) (v := .ref (o + 12)) (show S_315.1 0 24 = .ref (o + 12) from dg_I.rel (d := 12) I_315 sM_0 (by decide +kernel)) dX12_comesOn_261 ?_
                                  refine lv_aload_n hx hb dX12_comesOn_264 rfl (lv_at hl 7 rfl) ?_
                                  refine dg_get (C := RX12) (T := TX12) (N := 77) hx hb hts (fun w h => bw_mem (wU_X12 w h)) hown K hP sM_0 rfl 13 (dk_dq rfl) (hts _ (bw_mem wB_1085)) (fun _ h9 => h9) (v := .int x_1) (((dg_uf_F e_315 0 13).trans ((dg_uf_F e_308 0 13).trans ((dg_uf_F e_305 0 13).trans (m_289.1 0 13 _ sM_0 (dk_dq rfl))))).trans f_x_1) dX12_comesOn_265 ?_
                                  have hin_317 : vp_in x_1 2 := (dk_inv2 (by omega))
                                  refine dg_iald hx hb K hP sM_12 hin_317 dX12_comesOn_268 (fun y_318 ey_318 => ?_)
                                  obtain rfl : x_17 = y_318 := ((ey_318.trans (congrFun ((dg_uf_ne e_315 (dk_dq rfl)).trans ((dg_uf_ne e_308 (dk_dq rfl)).trans ((dg_uf_ne e_305 (dk_dq rfl)).trans (m_289.2 12 _ sM_12 (dk_dq rfl)).1))) _)).trans ex_17.symm).symm
                                  refine dg_calli hS hA1 hA (va_runV (As := [.int x_15, .int x_17]) (rest := [.int 1, .ref (o + 34)]) F (c_m_flagsOn l g D o S_315 x_15 (by omega) x_17 (by omega) I_315 H.size) (cwV 2 hts (bw_V wB_1291 wB_1292 wB_1293 wB_297 wB_1290) rfl rfl rfl (by decide +kernel) ⟨Nat.le_of_ble_eq_true rfl, Nat.le_of_ble_eq_true rfl⟩) (dg_preV sM_0 rfl K ST hP hS hA1 hA) rfl rfl hl.1 rfl (lv_room (Nat.le_of_ble_eq_true rfl)) dX12_comesOn_269 ⟨Nat.le_of_ble_eq_true rfl, Nat.le_of_ble_eq_true rfl⟩) (fun x_319 S_320 hw_320 H locs hP hS => ?_)
                                  rw [hw_320.1] at hP
                                  obtain ⟨hq_320, w_320_0, -⟩ := hw_320
                                  have hin_321 : vp_in (1 : Int32) 22 := (dk_in (by decide +kernel))
                                  have hz_323 : (1 : Int32).toInt = 1 := by decide +kernel
                                  refine dg_iast hx hb K hP hS hA1 sM_34 hin_321 dX12_comesOn_272 (fun S_322 e_322 H locs hP hS => ?_)
                                  have I_322 := dg_I.uf0 I_315 e_322 sM_34 (by decide +kernel)
                                  have M_322 := dg_sm.uf M_315 e_322 sM_34 (dk_dq rfl)
                                  refine lv_aload_n hx hb dX12_comesOn_273 rfl (lv_at hl 7 rfl) ?_
                                  refine dg_get (C := RX12) (T := TX12) (N := 77) hx hb hts (fun w h => bw_mem (wU_X12 w h)) hown K hP sM_0 rfl 58 (dk_dq rfl) (hts _ (bw_mem wB_1127)) (fun _ h9 => h9) (v := .ref (o + 38)) (show S_322.1 0 58 = .ref (o + 38) from dg_I.rel (d := 38) I_322 sM_0 (by decide +kernel)) dX12_comesOn_274 ?_
                                  refine lv_iconst (v := 1) hx hb dX12_comesOn_277 (by decide +kernel) ?_
                                  refine lv_iconst (v := 0) hx hb dX12_comesOn_278 (by decide +kernel) ?_
                                  have hin_324 : vp_in (1 : Int32) 22 := (dk_in (by decide +kernel))
                                  have hz_326 : (1 : Int32).toInt = 1 := by decide +kernel
                                  have hz_327 : (0 : Int32).toInt = 0 := by decide +kernel
                                  refine dg_iast hx hb K hP hS hA1 sM_38 hin_324 dX12_comesOn_279 (fun S_325 e_325 H locs hP hS => ?_)
                                  have I_325 := dg_I.ufu (lo := 0) (hi := 40) I_322 e_325 sM_38 (by decide +kernel) (show 0 ≤ ((0 : Int32)).toInt ∧ ((0 : Int32)).toInt ≤ 40 from (by decide +kernel))
                                  have M_325 := dg_sm.uf M_322 e_325 sM_38 (dk_dq rfl)
                                  as_aux_lemma =>
                                    refine lv_iconst (v := 0) hx hb dX12_comesOn_280 (by decide +kernel) ?_
                                    refine lv_istore (lv' := [(8, .int 0), (7, .int x_112), (6, .int x_28), (5, .int x_18), (4, .int x_15), (3, .int x_11), (2, .int x_8), (0, .ref (o + 0)), (1, .int a1)]) hx hb dX12_comesOn_281 hl (dk_dq rfl) rfl (fun ls hl => ?_)
                                    have J_442 : ∀ (x_416 : Int32), (10 ≤ (x_416).toInt ∧ (x_416).toInt ≤ 2147483647) → ∀ S_441 : dg_S, CM o S_441 → dg_sm shM [] [29, 30, 31, 32, 33, 34, 35, 36, 37, 38, 39] S S_441 → S_441.2.1 29 (1 : Int32).toNatClampNeg = x_303 → S_441.2.1 30 (1 : Int32).toNatClampNeg = x_28 → S_441.2.1 33 (1 : Int32).toNatClampNeg = x_312 → S_441.2.1 34 (1 : Int32).toNatClampNeg = x_319 → S_441.2.1 38 (1 : Int32).toNatClampNeg = 0 → ZSM S_441 → (F_m_comesOn o S a1 = F_m_comesOn_J3 x_312 S_441 x_319 o x_11) → ∀ (H : Heap) (locs : List Loc), va_P D vwCl (dg_w g shM o rfM S_441) H → va_S A s.heap H locs → ∀ ls : Array Slot, lv_has ls 9 [(8, .int x_416), (7, .int x_112), (6, .int x_28), (5, .int x_18), (4, .int x_15), (3, .int x_11), (2, .int x_8), (0, .ref (o + 0)), (1, .int a1)] → W p l e ({ frames := 5, cells := 0, slots := 0, locals := 121 } : Room) s m args below meth c H locs 0 0 (MQ below (va_Qi (fun (r : Int32) S' => CM o S' ∧ dg_sm shM [] [29, 30, 31, 32, 33, 34, 35, 36, 37, 38, 39] S S' ∧ (0 ≤ (r).toInt ∧ (r).toInt ≤ 1) ∧ (∀ x9 : Int32, S'.2.1 29 (1 : Int32).toNatClampNeg = x9 → ((r).toInt = 1 → (x9).toInt ≤ 999)) ∧ ZSM S' ∧ (S' = (F_m_comesOn o S a1).1 ∧ r = (F_m_comesOn o S a1).2) ∧ True) (dg_B g D shM o rfM) A) args s 0 0 A) (F0 m 333 ls []) := by
                                      as_aux_lemma =>
                                        intro x_416 b_x_416 S_441 I_441 M_441 frw_441_0 frw_441_1 frw_441_2 frw_441_3 frw_441_4 ZS_441 hF_3 H locs hP hS ls hl
                                        refine lv_aload_n hx hb dX12_comesOn_333 rfl (lv_at hl 7 rfl) ?_
                                        refine dg_get (C := RX12) (T := TX12) (N := 77) hx hb hts (fun w h => bw_mem (wU_X12 w h)) hown K hP sM_0 rfl 53 (dk_dq rfl) (hts _ (bw_mem wB_1130)) (fun _ h9 => h9) (v := .ref (o + 33)) (show S_441.1 0 53 = .ref (o + 33) from dg_I.rel (d := 33) I_441 sM_0 (by decide +kernel)) dX12_comesOn_334 ?_
                                        refine lv_iconst (v := 1) hx hb dX12_comesOn_337 (by decide +kernel) ?_
                                        have hin_443 : vp_in (1 : Int32) 22 := (dk_in (by decide +kernel))
                                        refine dg_iald hx hb K hP sM_33 hin_443 dX12_comesOn_338 (fun y_444 ey_444 => ?_)
                                        obtain rfl : x_312 = y_444 := (ey_444.trans frw_441_2).symm
                                        refine lv_iconst (v := (-1)) hx hb dX12_comesOn_339 (by decide +kernel) ?_
                                        refine lv_icmp_eq (tgt := 373) hx hb dX12_comesOn_340 (dk_dq rfl) (fun c_445 => ?_) (fun c_445 => ?_)
                                        · have jc_445 := dk_eqc (k := (-1)) (by decide +kernel) c_445
                                          refine lv_iconst (v := 0) hx hb dX12_comesOn_373 (by decide +kernel) ?_
                                          have hz_446 : (0 : Int32).toInt = 0 := by decide +kernel
                                          have hz_447 : (0 : Int32).toInt = 0 := by decide +kernel
                                          refine W.widen (k := 0) (n := 0) (Nat.le_of_ble_eq_true rfl) (Nat.le_of_ble_eq_true rfl) ?_
                                          exact dg_iret hx hb hr hlocks (by decide +kernel) hP hS ⟨I_441, M_441, (by decide +kernel), (fun x9 h9 => by obtain rfl := (frw_441_0).symm.trans h9; omega), ZS_441, ⟨congrArg Prod.fst (Eq.symm (Eq.trans hF_3 (F_m_comesOn_p3 c_445))), congrArg Prod.snd (Eq.symm (Eq.trans hF_3 (F_m_comesOn_p3 c_445)))⟩, trivial⟩ dX12_comesOn_374
                                        · as_aux_lemma =>
                                            have jc_445 := dk_neqc (k := (-1)) (by decide +kernel) c_445
                                            refine lv_aload_n hx hb dX12_comesOn_343 rfl (lv_at hl 7 rfl) ?_
                                            refine dg_get (C := RX12) (T := TX12) (N := 77) hx hb hts (fun w h => bw_mem (wU_X12 w h)) hown K hP sM_0 rfl 54 (dk_dq rfl) (hts _ (bw_mem wB_1131)) (fun _ h9 => h9) (v := .ref (o + 34)) (show S_441.1 0 54 = .ref (o + 34) from dg_I.rel (d := 34) I_441 sM_0 (by decide +kernel)) dX12_comesOn_344 ?_
                                            refine lv_iconst (v := 1) hx hb dX12_comesOn_347 (by decide +kernel) ?_
                                            have hin_448 : vp_in (1 : Int32) 22 := (dk_in (by decide +kernel))
                                            refine dg_iald hx hb K hP sM_34 hin_448 dX12_comesOn_348 (fun y_449 ey_449 => ?_)
                                            obtain rfl : x_319 = y_449 := (ey_449.trans frw_441_3).symm
                                            refine lv_iconst (v := (-1)) hx hb dX12_comesOn_349 (by decide +kernel) ?_
                                            refine lv_icmp_eq (tgt := 373) hx hb dX12_comesOn_350 (dk_dq rfl) (fun c_450 => ?_) (fun c_450 => ?_)
                                            · have jc_450 := dk_eqc (k := (-1)) (by decide +kernel) c_450
                                              refine lv_iconst (v := 0) hx hb dX12_comesOn_373 (by decide +kernel) ?_
                                              have hz_451 : (0 : Int32).toInt = 0 := by decide +kernel
                                              have hz_452 : (0 : Int32).toInt = 0 := by decide +kernel
                                              refine W.widen (k := 0) (n := 0) (Nat.le_of_ble_eq_true rfl) (Nat.le_of_ble_eq_true rfl) ?_
                                              exact dg_iret hx hb hr hlocks (by decide +kernel) hP hS ⟨I_441, M_441, (by decide +kernel), (fun x9 h9 => by obtain rfl := (frw_441_0).symm.trans h9; omega), ZS_441, ⟨congrArg Prod.fst (Eq.symm (Eq.trans hF_3 (F_m_comesOn_p4 c_445 c_450))), congrArg Prod.snd (Eq.symm (Eq.trans hF_3 (F_m_comesOn_p4 c_445 c_450)))⟩, trivial⟩ dX12_comesOn_374
                                            · as_aux_lemma =>
                                                have jc_450 := dk_neqc (k := (-1)) (by decide +kernel) c_450
                                                refine lv_aload_n hx hb dX12_comesOn_353 rfl (lv_at hl 7 rfl) ?_
                                                refine lv_iconst (v := 5) hx hb dX12_comesOn_354 (by decide +kernel) ?_
                                                have hz_453 : (5 : Int32).toInt = 5 := by decide +kernel
                                                refine dg_calli hS hA1 hA (va_runV (As := [.int 5]) (rest := []) F (c_m_cellsOn l g D o S_441 5 (by decide +kernel) (ZBM.keep ZB M_441 (dk_dq rfl) (dk_dq rfl) (dk_dq rfl) (dk_dq rfl) (dk_dq rfl)) I_441 H.size) (cwV 1 hts (bw_V wB_1295 wB_1296 wB_1297 wB_297 wB_1294) rfl rfl rfl (by decide +kernel) ⟨Nat.le_of_ble_eq_true rfl, Nat.le_of_ble_eq_true rfl⟩) (dg_preV sM_0 rfl K ST hP hS hA1 hA) rfl rfl hl.1 rfl (lv_room (Nat.le_of_ble_eq_true rfl)) dX12_comesOn_355 ⟨Nat.le_of_ble_eq_true rfl, Nat.le_of_ble_eq_true rfl⟩) (fun x_454 S_455 hw_455 H locs hP hS => ?_)
                                                obtain ⟨I_455, m_455, w_455_0, w_455_1, -⟩ := hw_455
                                                have M_455 := dg_sm.tr M_441 m_455 (dk_dq rfl) (dk_dq rfl)
                                                have w_455_0 : 0 ≤ (x_454).toInt ∧ (x_454).toInt ≤ 1 := w_455_0
                                                refine lv_if_eq (tgt := 373) hx hb dX12_comesOn_358 (dk_dq rfl) (fun c_456 => ?_) (fun c_456 => ?_)
                                                · have jc_456 := dk_eqc (k := 0) (by decide +kernel) c_456
                                                  refine lv_iconst (v := 0) hx hb dX12_comesOn_373 (by decide +kernel) ?_
                                                  have hz_457 : (0 : Int32).toInt = 0 := by decide +kernel
                                                  have hz_458 : (0 : Int32).toInt = 0 := by decide +kernel
                                                  refine W.widen (k := 0) (n := 0) (Nat.le_of_ble_eq_true rfl) (Nat.le_of_ble_eq_true rfl) ?_
                                                  exact dg_iret hx hb hr hlocks (by decide +kernel) hP hS ⟨I_455, M_455, (by decide +kernel), (fun x9 h9 => by obtain rfl := (((congrFun (m_455.2 29 _ sM_29 (dk_dq rfl)).1 _).trans frw_441_0)).symm.trans h9; omega), (ZSM.keep ZS_441 m_455 (dk_dq rfl)), ⟨congrArg Prod.fst (Eq.symm (Eq.trans hF_3 (F_m_comesOn_p5 c_445 c_450 w_455_1.1 w_455_1.2 c_456))), congrArg Prod.snd (Eq.symm (Eq.trans hF_3 (F_m_comesOn_p5 c_445 c_450 w_455_1.1 w_455_1.2 c_456)))⟩, trivial⟩ dX12_comesOn_374
                                                · as_aux_lemma =>
                                                    have jc_456 := dk_neqc (k := 0) (by decide +kernel) c_456
                                                    refine lv_aload_n hx hb dX12_comesOn_361 rfl (lv_at hl 7 rfl) ?_
                                                    refine lv_iload_n hx hb dX12_comesOn_362 rfl (lv_at hl 5 rfl) ?_
                                                    refine dg_calli hS hA1 hA (va_runV (As := [.int x_11]) (rest := []) F (c_m_plansOn l g D o S_455 x_11 (by omega) (ZBM.keep (ZBM.keep ZB M_441 (dk_dq rfl) (dk_dq rfl) (dk_dq rfl) (dk_dq rfl) (dk_dq rfl)) m_455 (dk_dq rfl) (dk_dq rfl) (dk_dq rfl) (dk_dq rfl) (dk_dq rfl)) I_455 H.size) (cwV 1 hts (bw_V wB_1299 wB_1300 wB_1301 wB_297 wB_1298) rfl rfl rfl (by decide +kernel) ⟨Nat.le_of_ble_eq_true rfl, Nat.le_of_ble_eq_true rfl⟩) (dg_preV sM_0 rfl K ST hP hS hA1 hA) rfl rfl hl.1 rfl (lv_room (Nat.le_of_ble_eq_true rfl)) dX12_comesOn_363 ⟨Nat.le_of_ble_eq_true rfl, Nat.le_of_ble_eq_true rfl⟩) (fun x_459 S_460 hw_460 H locs hP hS => ?_)
                                                    obtain ⟨I_460, m_460, w_460_0, w_460_1, -⟩ := hw_460
                                                    have M_460 := dg_sm.tr M_455 m_460 (dk_dq rfl) (dk_dq rfl)
                                                    have w_460_0 : 0 ≤ (x_459).toInt ∧ (x_459).toInt ≤ 1 := w_460_0
                                                    refine lv_if_eq (tgt := 373) hx hb dX12_comesOn_366 (dk_dq rfl) (fun c_461 => ?_) (fun c_461 => ?_)
                                                    · have jc_461 := dk_eqc (k := 0) (by decide +kernel) c_461
                                                      refine lv_iconst (v := 0) hx hb dX12_comesOn_373 (by decide +kernel) ?_
                                                      have hz_462 : (0 : Int32).toInt = 0 := by decide +kernel
                                                      have hz_463 : (0 : Int32).toInt = 0 := by decide +kernel
                                                      refine W.widen (k := 0) (n := 0) (Nat.le_of_ble_eq_true rfl) (Nat.le_of_ble_eq_true rfl) ?_
                                                      exact dg_iret hx hb hr hlocks (by decide +kernel) hP hS ⟨I_460, M_460, (by decide +kernel), (fun x9 h9 => by obtain rfl := (((congrFun ((m_460.2 29 _ sM_29 (dk_dq rfl)).1.trans (m_455.2 29 _ sM_29 (dk_dq rfl)).1) _).trans frw_441_0)).symm.trans h9; omega), (ZSM.keep (ZSM.keep ZS_441 m_455 (dk_dq rfl)) m_460 (dk_dq rfl)), ⟨congrArg Prod.fst (Eq.symm (Eq.trans hF_3 (F_m_comesOn_p6 c_445 c_450 w_455_1.1 w_455_1.2 c_456 w_460_1.1 w_460_1.2 c_461))), congrArg Prod.snd (Eq.symm (Eq.trans hF_3 (F_m_comesOn_p6 c_445 c_450 w_455_1.1 w_455_1.2 c_456 w_460_1.1 w_460_1.2 c_461)))⟩, trivial⟩ dX12_comesOn_374
                                                    · have jc_461 := dk_neqc (k := 0) (by decide +kernel) c_461
                                                      refine lv_iconst (v := 1) hx hb dX12_comesOn_369 (by decide +kernel) ?_
                                                      refine lv_goto (tgt := 374) hx hb dX12_comesOn_370 (dk_dq rfl) ?_
                                                      have hz_464 : (1 : Int32).toInt = 1 := by decide +kernel
                                                      have hz_465 : (1 : Int32).toInt = 1 := by decide +kernel
                                                      refine W.widen (k := 0) (n := 0) (Nat.le_of_ble_eq_true rfl) (Nat.le_of_ble_eq_true rfl) ?_
                                                      exact dg_iret hx hb hr hlocks (by decide +kernel) hP hS ⟨I_460, M_460, (by decide +kernel), (fun x9 h9 => by obtain rfl := (((congrFun ((m_460.2 29 _ sM_29 (dk_dq rfl)).1.trans (m_455.2 29 _ sM_29 (dk_dq rfl)).1) _).trans frw_441_0)).symm.trans h9; omega), (ZSM.keep (ZSM.keep ZS_441 m_455 (dk_dq rfl)) m_460 (dk_dq rfl)), ⟨congrArg Prod.fst (Eq.symm (Eq.trans hF_3 (F_m_comesOn_p7 c_445 c_450 w_455_1.1 w_455_1.2 c_456 w_460_1.1 w_460_1.2 c_461))), congrArg Prod.snd (Eq.symm (Eq.trans hF_3 (F_m_comesOn_p7 c_445 c_450 w_455_1.1 w_455_1.2 c_456 w_460_1.1 w_460_1.2 c_461)))⟩, trivial⟩ dX12_comesOn_374
                                    have L_542 : ∀ (n : Nat) (x_540 : Int32), (0 ≤ (x_540).toInt ∧ (x_540).toInt ≤ 10) → ((11 - (x_540).toInt).toNat < n) → ∀ S_541 : dg_S, CM o S_541 → dg_sm shM [] [29, 30, 31, 32, 33, 34, 35, 36, 37, 38, 39] S S_541 → S_541.2.1 29 (1 : Int32).toNatClampNeg = x_303 → S_541.2.1 30 (1 : Int32).toNatClampNeg = x_28 → S_541.2.1 33 (1 : Int32).toNatClampNeg = x_312 → S_541.2.1 34 (1 : Int32).toNatClampNeg = x_319 → S_541.2.1 38 (1 : Int32).toNatClampNeg = 0 → ZSM S_541 → (F_m_comesOn o S a1 = lp (F_m_comesOn_B4 x_312 x_319 o x_11 x_18) (S, (0 : Int32)) n (x_540, S_541)) → ∀ (H : Heap) (locs : List Loc), va_P D vwCl (dg_w g shM o rfM S_541) H → va_S A s.heap H locs → ∀ ls : Array Slot, lv_has ls 9 [(8, .int x_540), (7, .int x_112), (6, .int x_28), (5, .int x_18), (4, .int x_15), (3, .int x_11), (2, .int x_8), (0, .ref (o + 0)), (1, .int a1)] → W p l e ({ frames := 5, cells := 0, slots := 0, locals := 121 } : Room) s m args below meth c H locs 0 0 (MQ below (va_Qi (fun (r : Int32) S' => CM o S' ∧ dg_sm shM [] [29, 30, 31, 32, 33, 34, 35, 36, 37, 38, 39] S S' ∧ (0 ≤ (r).toInt ∧ (r).toInt ≤ 1) ∧ (∀ x9 : Int32, S'.2.1 29 (1 : Int32).toNatClampNeg = x9 → ((r).toInt = 1 → (x9).toInt ≤ 999)) ∧ ZSM S' ∧ (S' = (F_m_comesOn o S a1).1 ∧ r = (F_m_comesOn o S a1).2) ∧ True) (dg_B g D shM o rfM) A) args s 0 0 A) (F0 m 283 ls []) := by
                                      as_aux_lemma =>
                                        intro n
                                        induction n with
                                        | zero =>
                                          intro x_540 b_x_540 hmu S_541 I_541 M_541 frw_541_0 frw_541_1 frw_541_2 frw_541_3 frw_541_4 ZS_541 hF_4 H locs hP hS ls hl
                                          omega
                                        | succ n ih =>
                                          as_aux_lemma =>
                                            intro x_540 b_x_540 hmu S_541 I_541 M_541 frw_541_0 frw_541_1 frw_541_2 frw_541_3 frw_541_4 ZS_541 hF_4 H locs hP hS ls hl
                                            refine lv_iload hx hb dX12_comesOn_283 (lv_at hl 0 rfl) ?_
                                            refine lv_bipush (v := 10) hx hb dX12_comesOn_285 (by decide +kernel) ?_
                                            refine lv_icmp_ge (tgt := 333) hx hb dX12_comesOn_287 (dk_dq rfl) (fun c_543 => ?_) (fun c_543 => ?_)
                                            · have jc_543 := dk_gec (k := 10) (by decide +kernel) c_543
                                              have hf_543 := dk_full x_540
                                              exact J_442 x_540 (by omega) S_541 I_541 M_541 frw_541_0 frw_541_1 frw_541_2 frw_541_3 frw_541_4 ZS_541 (lp_r hF_4 (F_m_comesOn_p8 c_543)) _ _ hP hS _ (lv_sub hl [0, 1, 2, 3, 4, 5, 6, 7, 8] rfl)
                                            · as_aux_lemma =>
                                                have jc_543 := dk_ngec (k := 10) (by decide +kernel) c_543
                                                refine lv_aload_n hx hb dX12_comesOn_290 rfl (lv_at hl 7 rfl) ?_
                                                refine dg_get (C := RX12) (T := TX12) (N := 77) hx hb hts (fun w h => bw_mem (wU_X12 w h)) hown K hP sM_0 rfl 57 (dk_dq rfl) (hts _ (bw_mem wB_1117)) (fun _ h9 => h9) (v := .ref (o + 37)) (show S_541.1 0 57 = .ref (o + 37) from dg_I.rel (d := 37) I_541 sM_0 (by decide +kernel)) dX12_comesOn_291 ?_
                                                refine lv_bipush (v := 10) hx hb dX12_comesOn_294 (by decide +kernel) ?_
                                                refine lv_iload hx hb dX12_comesOn_296 (lv_at hl 0 rfl) ?_
                                                refine lv_iadd hx hb dX12_comesOn_298 ?_
                                                refine lv_topi (fun x_545 ex_545 => ?_)
                                                have jx_545 : (x_545).toInt = 10 + (x_540).toInt := by rw [ex_545]; exact dk_addT2 (by decide +kernel) rfl (by omega)
                                                refine lv_aload_n hx hb dX12_comesOn_299 rfl (lv_at hl 7 rfl) ?_
                                                refine dg_get (C := RX12) (T := TX12) (N := 77) hx hb hts (fun w h => bw_mem (wU_X12 w h)) hown K hP sM_0 rfl 0 (dk_dq rfl) (hts _ (bw_mem wB_290)) (fun _ h9 => h9) (v := .ref (o + 1)) (show S_541.1 0 0 = .ref (o + 1) from dg_I.rel (d := 1) I_541 sM_0 (by decide +kernel)) dX12_comesOn_300 ?_
                                                refine lv_iload hx hb dX12_comesOn_303 (lv_at hl 3 rfl) ?_
                                                refine lv_iload hx hb dX12_comesOn_305 (lv_at hl 0 rfl) ?_
                                                refine lv_iadd hx hb dX12_comesOn_307 ?_
                                                refine lv_topi (fun x_546 ex_546 => ?_)
                                                have jx_546 : (x_546).toInt = (x_18).toInt + (x_540).toInt := by rw [ex_546]; exact dk_addT2 rfl rfl (by omega)
                                                have hin_547 : vp_in x_546 1800 := (dk_inv2 (by omega))
                                                refine dg_iald hx hb K hP sM_1 hin_547 dX12_comesOn_308 (fun x_548 ex_548 => ?_)
                                                have b_x_548 := dk_all_at (dg_I.row (lo := 0) (hi := 255) I_541 sM_1 (by decide +kernel)) hin_547 ex_548
                                                have hin_549 : vp_in x_545 220 := (dk_inv2 (by omega))
                                                refine dg_iast hx hb K hP hS hA1 sM_37 hin_549 dX12_comesOn_309 (fun S_550 e_550 H locs hP hS => ?_)
                                                have I_550 := dg_I.uf0 I_541 e_550 sM_37 (by decide +kernel)
                                                have M_550 := dg_sm.uf M_541 e_550 sM_37 (dk_dq rfl)
                                                refine lv_aload_n hx hb dX12_comesOn_310 rfl (lv_at hl 7 rfl) ?_
                                                refine dg_get (C := RX12) (T := TX12) (N := 77) hx hb hts (fun w h => bw_mem (wU_X12 w h)) hown K hP sM_0 rfl 0 (dk_dq rfl) (hts _ (bw_mem wB_290)) (fun _ h9 => h9) (v := .ref (o + 1)) (show S_550.1 0 0 = .ref (o + 1) from dg_I.rel (d := 1) I_550 sM_0 (by decide +kernel)) dX12_comesOn_311 ?_
                                                refine lv_iload hx hb dX12_comesOn_314 (lv_at hl 3 rfl) ?_
                                                refine lv_iload hx hb dX12_comesOn_316 (lv_at hl 0 rfl) ?_
                                                refine lv_iadd hx hb dX12_comesOn_318 ?_
                                                refine lv_topi (fun x_551 ex_551 => ?_)
                                                have jx_551 : (x_551).toInt = (x_18).toInt + (x_540).toInt := by rw [ex_551]; exact dk_addT2 rfl rfl (by omega)
                                                have hin_552 : vp_in x_551 1800 := (dk_inv2 (by omega))
                                                refine dg_iald hx hb K hP sM_1 hin_552 dX12_comesOn_319 (fun x_553 ex_553 => ?_)
                                                have b_x_553 := dk_all_at (dg_I.row (lo := 0) (hi := 255) I_550 sM_1 (by decide +kernel)) hin_552 ex_553
                                                refine lv_bipush (v := 99) hx hb dX12_comesOn_320 (by decide +kernel) ?_
                                                refine lv_icmp_le (tgt := 327) hx hb dX12_comesOn_322 (dk_dq rfl) (fun c_554 => ?_) (fun c_554 => ?_)
                                                · have jc_554 := dk_lec (k := 99) (by decide +kernel) c_554
                                                  obtain ⟨x_555, ex_555⟩ : ∃ z, z = x_540 + 1 := ⟨_, rfl⟩
                                                  have jx_555 : (x_555).toInt = (x_540).toInt + 1 := by rw [ex_555]; exact dk_addT2 rfl (by decide +kernel) (by omega)
                                                  refine lv_iinc (v := x_555) (lv' := [(8, .int x_555), (7, .int x_112), (6, .int x_28), (5, .int x_18), (4, .int x_15), (3, .int x_11), (2, .int x_8), (0, .ref (o + 0)), (1, .int a1)]) hx hb dX12_comesOn_327 hl (k := 0) rfl (by rw [ex_555]; rfl) (dk_dq rfl) rfl (fun ls hl => ?_)
                                                  refine lv_goto (tgt := 283) hx hb dX12_comesOn_330 (dk_dq rfl) ?_
                                                  exact ih x_555 (by omega) (by first | exact mu_lt hmu (by omega) (by omega) | omega) S_550 I_550 M_550 ((congrFun (dg_uf_ne e_550 (dk_dq rfl)) _).trans frw_541_0) ((congrFun (dg_uf_ne e_550 (dk_dq rfl)) _).trans frw_541_1) ((congrFun (dg_uf_ne e_550 (dk_dq rfl)) _).trans frw_541_2) ((congrFun (dg_uf_ne e_550 (dk_dq rfl)) _).trans frw_541_3) ((congrFun (dg_uf_ne e_550 (dk_dq rfl)) _).trans frw_541_4) (ZSM.keep ZS_541 (dg_sm.uf (WF := []) (WA := [37]) dg_sm.rf e_550 sM_37 (dk_dq rfl)) (dk_dq rfl)) (lp_l hF_4 (F_m_comesOn_p9 c_543 ex_545 ex_546 (Eq.symm ex_548.symm) e_550 ex_551 (Eq.symm ex_553.symm) c_554 ex_555)) _ _ hP hS _ (lv_sub hl [0, 1, 2, 3, 4, 5, 6, 7, 8] rfl)
                                                · have jc_554 := dk_nlec (k := 99) (by decide +kernel) c_554
                                                  refine lv_iconst (v := 0) hx hb dX12_comesOn_325 (by decide +kernel) ?_
                                                  have hz_556 : (0 : Int32).toInt = 0 := by decide +kernel
                                                  have hz_557 : (0 : Int32).toInt = 0 := by decide +kernel
                                                  refine W.widen (k := 0) (n := 0) (Nat.le_of_ble_eq_true rfl) (Nat.le_of_ble_eq_true rfl) ?_
                                                  exact dg_iret hx hb hr hlocks (by decide +kernel) hP hS ⟨I_550, M_550, (by decide +kernel), (fun x9 h9 => by obtain rfl := (((congrFun (dg_uf_ne e_550 (dk_dq rfl)) _).trans frw_541_0)).symm.trans h9; omega), (ZSM.keep ZS_541 (dg_sm.uf (WF := []) (WA := [37]) dg_sm.rf e_550 sM_37 (dk_dq rfl)) (dk_dq rfl)), ⟨congrArg Prod.fst (Eq.symm (lp_r hF_4 (F_m_comesOn_p10 c_543 ex_545 ex_546 (Eq.symm ex_548.symm) e_550 ex_551 (Eq.symm ex_553.symm) c_554))), congrArg Prod.snd (Eq.symm (lp_r hF_4 (F_m_comesOn_p10 c_543 ex_545 ex_546 (Eq.symm ex_548.symm) e_550 ex_551 (Eq.symm ex_553.symm) c_554)))⟩, trivial⟩ dX12_comesOn_326
                                    have hz_558 : (0 : Int32).toInt = 0 := by decide +kernel
                                    have hz_559 : (0 : Int32).toInt = 0 := by decide +kernel
                                    exact L_542 ((11 - ((0 : Int32)).toInt).toNat + 1) 0 (by decide +kernel) (by first | exact mu_lt hmu (by omega) (by omega) | omega) S_325 I_325 M_325 ((congrFun ((dg_uf_ne e_325 (dk_dq rfl)).trans ((dg_uf_ne e_322 (dk_dq rfl)).trans ((dg_uf_ne e_315 (dk_dq rfl)).trans (dg_uf_ne e_308 (dk_dq rfl))))) _).trans ((congrFun (dg_uf_at e_305) _).trans (dg_upd_at rfl))) ((congrFun ((dg_uf_ne e_325 (dk_dq rfl)).trans ((dg_uf_ne e_322 (dk_dq rfl)).trans (dg_uf_ne e_315 (dk_dq rfl)))) _).trans ((congrFun (dg_uf_at e_308) _).trans (dg_upd_at rfl))) ((congrFun ((dg_uf_ne e_325 (dk_dq rfl)).trans (dg_uf_ne e_322 (dk_dq rfl))) _).trans ((congrFun (dg_uf_at e_315) _).trans (dg_upd_at rfl))) ((congrFun (dg_uf_ne e_325 (dk_dq rfl)) _).trans ((congrFun (dg_uf_at e_322) _).trans (dg_upd_at rfl))) ((congrFun (dg_uf_at e_325) _).trans (dg_upd_at rfl)) (ZSM.keep (ZSM.keep (ZSM.keep (ZSM.keep ZS_305 (dg_sm.uf (WF := []) (WA := [30]) dg_sm.rf e_308 sM_30 (dk_dq rfl)) (dk_dq rfl)) (dg_sm.uf (WF := []) (WA := [33]) dg_sm.rf e_315 sM_33 (dk_dq rfl)) (dk_dq rfl)) (dg_sm.uf (WF := []) (WA := [34]) dg_sm.rf e_322 sM_34 (dk_dq rfl)) (dk_dq rfl)) (dg_sm.uf (WF := []) (WA := [38]) dg_sm.rf e_325 sM_38 (dk_dq rfl)) (dk_dq rfl)) (Eq.trans hF_2 (F_m_comesOn_p11 w_320_0 e_322 e_325)) _ _ hP hS _ (lv_sub hl [0, 1, 2, 3, 4, 5, 6, 7, 8] rfl)
                          · have jc_283 := dk_neqc (k := (x_112).toInt) rfl c_283
                            refine lv_iconst (v := 0) hx hb dX12_comesOn_194 (by decide +kernel) ?_
                            have hz_560 : (0 : Int32).toInt = 0 := by decide +kernel
                            have hz_561 : (0 : Int32).toInt = 0 := by decide +kernel
                            obtain ⟨x_562, f_x_562⟩ : ∃ x, S.2.1 29 (1 : Int32).toNatClampNeg = x := ⟨_, rfl⟩
                            have hin_563 : vp_in (1 : Int32) 22 := (dk_in (by decide +kernel))
                            have b_x_562 := dk_all_at (dg_I.row (lo := 0) (hi := 2000) I sM_29 (by decide +kernel)) hin_563 f_x_562.symm
                            have ex_562 := f_x_562.symm
                            have hz_564 : (1 : Int32).toInt = 1 := by decide +kernel
                            have zs_x_562 : (1 : Int32).toInt ≠ 1 → (x_562).toInt ≤ 999 := fun h => by rw [ex_562]; exact ZS _ (dk_inT hin_563).2 (fun q => by have h9 := (dk_inT hin_563).1; omega)
                            refine W.widen (k := 0) (n := 0) (Nat.le_of_ble_eq_true rfl) (Nat.le_of_ble_eq_true rfl) ?_
                            exact dg_iret hx hb hr hlocks (by decide +kernel) hP hS ⟨I, M_0, (by decide +kernel), (fun x9 h9 => by obtain rfl := (f_x_562).symm.trans h9; omega), ZS, ⟨congrArg Prod.fst (Eq.symm (Eq.trans hF_1 (F_m_comesOn_p13 ex_280 (Eq.symm ex_282.symm) c_283))), congrArg Prod.snd (Eq.symm (Eq.trans hF_1 (F_m_comesOn_p13 ex_280 (Eq.symm ex_282.symm) c_283)))⟩, trivial⟩ dX12_comesOn_195
                      have L_614 : ∀ (n : Nat) (x_612 : Int32) (x_613 : Int32), (0 ≤ (x_612).toInt ∧ (x_612).toInt ≤ 123) → (0 ≤ (x_613).toInt ∧ (x_613).toInt ≤ 250) → ((124 - (x_612).toInt).toNat < n) → (F_m_comesOn o S a1 = lp (F_m_comesOn_B5 a1 S o x_44 x_47 x_28 x_8 x_10 x_15 x_17 x_11 x_18) (S, (0 : Int32)) n (x_612, x_613)) → ∀ (H : Heap) (locs : List Loc), va_P D vwCl (dg_w g shM o rfM S) H → va_S A s.heap H locs → ∀ ls : Array Slot, lv_has ls 9 [(8, .int x_612), (7, .int x_613), (6, .int x_28), (5, .int x_18), (4, .int x_15), (3, .int x_11), (2, .int x_8), (0, .ref (o + 0)), (1, .int a1)] → W p l e ({ frames := 5, cells := 0, slots := 0, locals := 121 } : Room) s m args below meth c H locs 0 0 (MQ below (va_Qi (fun (r : Int32) S' => CM o S' ∧ dg_sm shM [] [29, 30, 31, 32, 33, 34, 35, 36, 37, 38, 39] S S' ∧ (0 ≤ (r).toInt ∧ (r).toInt ≤ 1) ∧ (∀ x9 : Int32, S'.2.1 29 (1 : Int32).toNatClampNeg = x9 → ((r).toInt = 1 → (x9).toInt ≤ 999)) ∧ ZSM S' ∧ (S' = (F_m_comesOn o S a1).1 ∧ r = (F_m_comesOn o S a1).2) ∧ True) (dg_B g D shM o rfM) A) args s 0 0 A) (F0 m 149 ls []) := by
                        as_aux_lemma =>
                          intro n
                          induction n with
                          | zero =>
                            intro x_612 x_613 b_x_612 b_x_613 hmu hF_5 H locs hP hS ls hl
                            omega
                          | succ n ih =>
                            as_aux_lemma =>
                              intro x_612 x_613 b_x_612 b_x_613 hmu hF_5 H locs hP hS ls hl
                              refine lv_iload hx hb dX12_comesOn_149 (lv_at hl 0 rfl) ?_
                              refine lv_iload_n hx hb dX12_comesOn_151 rfl (lv_at hl 8 rfl) ?_
                              refine lv_iconst (v := 1) hx hb dX12_comesOn_152 (by decide +kernel) ?_
                              refine lv_isub hx hb dX12_comesOn_153 ?_
                              refine lv_topi (fun x_615 ex_615 => ?_)
                              have jx_615 : (x_615).toInt = (a1).toInt - 1 := by rw [ex_615]; exact dk_subT2 rfl (by decide +kernel) (by omega)
                              refine lv_icmp_ge (tgt := 181) hx hb dX12_comesOn_154 (dk_dq rfl) (fun c_616 => ?_) (fun c_616 => ?_)
                              · have jc_616 := dk_gec (k := (x_615).toInt) rfl c_616
                                have hf_616 := dk_full x_612
                                exact J_279 x_612 x_613 (by omega) (by omega) (lp_r hF_5 (F_m_comesOn_p14 ex_615 c_616)) _ _ hP hS _ (lv_sub hl [0, 1, 2, 3, 4, 5, 6, 7, 8] rfl)
                              · as_aux_lemma =>
                                  have jc_616 := dk_ngec (k := (x_615).toInt) rfl c_616
                                  refine lv_iconst (v := 5) hx hb dX12_comesOn_157 (by decide +kernel) ?_
                                  refine lv_iload hx hb dX12_comesOn_158 (lv_at hl 1 rfl) ?_
                                  refine lv_imul hx hb dX12_comesOn_160 ?_
                                  refine lv_topi (fun x_618 ex_618 => ?_)
                                  have jx_618 : (x_618).toInt = 5 * (x_613).toInt := by rw [ex_618]; exact dk_mulT2 (by decide +kernel) rfl (by omega)
                                  refine lv_aload_n hx hb dX12_comesOn_161 rfl (lv_at hl 7 rfl) ?_
                                  refine dg_get (C := RX12) (T := TX12) (N := 77) hx hb hts (fun w h => bw_mem (wU_X12 w h)) hown K hP sM_0 rfl 0 (dk_dq rfl) (hts _ (bw_mem wB_290)) (fun _ h9 => h9) (v := .ref (o + 1)) (show S.1 0 0 = .ref (o + 1) from dg_I.rel (d := 1) I sM_0 (by decide +kernel)) dX12_comesOn_162 ?_
                                  refine lv_iload hx hb dX12_comesOn_165 (lv_at hl 0 rfl) ?_
                                  have hin_619 : vp_in x_612 1800 := (dk_inv2 (by omega))
                                  refine dg_iald hx hb K hP sM_1 hin_619 dX12_comesOn_167 (fun x_620 ex_620 => ?_)
                                  have b_x_620 := dk_all_at (dg_I.row (lo := 0) (hi := 255) I sM_1 (by decide +kernel)) hin_619 ex_620
                                  refine lv_iadd hx hb dX12_comesOn_168 ?_
                                  refine lv_topi (fun x_621 ex_621 => ?_)
                                  have jx_621 : (x_621).toInt = (x_618).toInt + (x_620).toInt := by rw [ex_621]; exact dk_addT2 rfl rfl (by omega)
                                  refine lv_sipush (v := 251) hx hb dX12_comesOn_169 (by decide +kernel) ?_
                                  refine lv_irem hx hb dX12_comesOn_172 (by decide +kernel) ?_
                                  refine lv_topi (fun x_622 ex_622 => ?_)
                                  have jx_622 : (x_622).toInt = (x_621).toInt % 251 := by rw [ex_622]; exact dk_remL (by omega) (by decide +kernel) (dk_dq rfl)
                                  refine lv_istore (lv' := [(7, .int x_622), (8, .int x_612), (6, .int x_28), (5, .int x_18), (4, .int x_15), (3, .int x_11), (2, .int x_8), (0, .ref (o + 0)), (1, .int a1)]) hx hb dX12_comesOn_173 hl (dk_dq rfl) rfl (fun ls hl => ?_)
                                  obtain ⟨x_623, ex_623⟩ : ∃ z, z = x_612 + 1 := ⟨_, rfl⟩
                                  have jx_623 : (x_623).toInt = (x_612).toInt + 1 := by rw [ex_623]; exact dk_addT2 rfl (by decide +kernel) (by omega)
                                  refine lv_iinc (v := x_623) (lv' := [(8, .int x_623), (7, .int x_622), (6, .int x_28), (5, .int x_18), (4, .int x_15), (3, .int x_11), (2, .int x_8), (0, .ref (o + 0)), (1, .int a1)]) hx hb dX12_comesOn_175 hl (k := 1) rfl (by rw [ex_623]; rfl) (dk_dq rfl) rfl (fun ls hl => ?_)
                                  refine lv_goto (tgt := 149) hx hb dX12_comesOn_178 (dk_dq rfl) ?_
                                  exact ih x_623 x_622 (by omega) (by omega) (by first | exact mu_lt hmu (by omega) (by omega) | omega) (lp_l hF_5 (F_m_comesOn_p15 ex_615 c_616 ex_618 (Eq.symm ex_620.symm) ex_621 ex_622 ex_623)) _ _ hP hS _ (lv_sub hl [0, 1, 2, 3, 4, 5, 6, 7, 8] rfl)
                      have hz_624 : (0 : Int32).toInt = 0 := by decide +kernel
                      have hz_625 : (233 : Int32).toInt = 233 := by decide +kernel
                      have hz_626 : (0 : Int32).toInt = 0 := by decide +kernel
                      have hz_627 : (233 : Int32).toInt = 233 := by decide +kernel
                      exact L_614 ((124 - ((0 : Int32)).toInt).toNat + 1) 0 233 (by decide +kernel) (by decide +kernel) (by first | exact mu_lt hmu (by omega) (by omega) | omega) (F_m_comesOn_p16 (zI_eq f_x_1) (zI_eq f_x_4) (Eq.symm ex_3.symm) (Eq.symm ex_6.symm) ex_7 ex_8 (Eq.symm ex_10.symm) ex_11 (Eq.symm ex_13.symm) ex_14 ex_15 (Eq.symm ex_17.symm) ex_18 (Eq.symm ex_20.symm) ex_21 (Eq.symm ex_23.symm) ex_24 ex_25 (Eq.symm ex_27.symm) ex_28 c_29 ex_35 ex_36 c_37 (Eq.symm ex_44.symm) ex_45 (Eq.symm ex_47.symm) ex_48 c_49 c_55) _ _ hP hS _ (lv_sub hl [0, 1, 2, 3, 4, 5, 6, 7, 8] rfl)
                  · have jc_55 := dk_nlec (k := 99999) (by decide +kernel) c_55
                    refine lv_iconst (v := 0) hx hb dX12_comesOn_139 (by decide +kernel) ?_
                    have hz_628 : (0 : Int32).toInt = 0 := by decide +kernel
                    have hz_629 : (0 : Int32).toInt = 0 := by decide +kernel
                    obtain ⟨x_630, f_x_630⟩ : ∃ x, S.2.1 29 (1 : Int32).toNatClampNeg = x := ⟨_, rfl⟩
                    have hin_631 : vp_in (1 : Int32) 22 := (dk_in (by decide +kernel))
                    have b_x_630 := dk_all_at (dg_I.row (lo := 0) (hi := 2000) I sM_29 (by decide +kernel)) hin_631 f_x_630.symm
                    have ex_630 := f_x_630.symm
                    have hz_632 : (1 : Int32).toInt = 1 := by decide +kernel
                    have zs_x_630 : (1 : Int32).toInt ≠ 1 → (x_630).toInt ≤ 999 := fun h => by rw [ex_630]; exact ZS _ (dk_inT hin_631).2 (fun q => by have h9 := (dk_inT hin_631).1; omega)
                    refine W.widen (k := 0) (n := 0) (Nat.le_of_ble_eq_true rfl) (Nat.le_of_ble_eq_true rfl) ?_
                    exact dg_iret hx hb hr hlocks (by decide +kernel) hP hS ⟨I, M_0, (by decide +kernel), (fun x9 h9 => by obtain rfl := (f_x_630).symm.trans h9; omega), ZS, ⟨congrArg Prod.fst (Eq.symm (F_m_comesOn_p17 (zI_eq f_x_1) (zI_eq f_x_4) (Eq.symm ex_3.symm) (Eq.symm ex_6.symm) ex_7 ex_8 (Eq.symm ex_10.symm) ex_11 (Eq.symm ex_13.symm) ex_14 ex_15 (Eq.symm ex_17.symm) ex_18 (Eq.symm ex_20.symm) ex_21 (Eq.symm ex_23.symm) ex_24 ex_25 (Eq.symm ex_27.symm) ex_28 c_29 ex_35 ex_36 c_37 (Eq.symm ex_44.symm) ex_45 (Eq.symm ex_47.symm) ex_48 c_49 c_55)), congrArg Prod.snd (Eq.symm (F_m_comesOn_p17 (zI_eq f_x_1) (zI_eq f_x_4) (Eq.symm ex_3.symm) (Eq.symm ex_6.symm) ex_7 ex_8 (Eq.symm ex_10.symm) ex_11 (Eq.symm ex_13.symm) ex_14 ex_15 (Eq.symm ex_17.symm) ex_18 (Eq.symm ex_20.symm) ex_21 (Eq.symm ex_23.symm) ex_24 ex_25 (Eq.symm ex_27.symm) ex_28 c_29 ex_35 ex_36 c_37 (Eq.symm ex_44.symm) ex_45 (Eq.symm ex_47.symm) ex_48 c_49 c_55))⟩, trivial⟩ dX12_comesOn_140
noncomputable def F_m_on_J1 (S_22 : dg_S) : dg_S × Int32 := (S_22, (1 : Int32))
noncomputable def F_m_on (o : Nat) (S : dg_S) : dg_S × Int32 := let x_1 : Int32 := zI S 0 1; let S_3 : dg_S := dg_uF S 0 1 (.int (0 : Int32)); let S_5 : dg_S := (F_m_comesOn o S_3 x_1).1; let x_4 : Int32 := (F_m_comesOn o S_3 x_1).2; let x_6 : Int32 := S_5.2.1 29 (1 : Int32).toNatClampNeg; (if x_4 = (0 : Int32) then let S_28 : dg_S := (F_m_refuses o S_5 (5 : Int32)).1; let x_27 : Int32 := (F_m_refuses o S_5 (5 : Int32)).2; (S_28, (0 : Int32)) else let x_12 : Int32 := S_5.2.1 29 (0 : Int32).toNatClampNeg; let S_15 : dg_S := F_m_copies o S_5 (0 : Int32) (1 : Int32); let x_18 : Int32 := S_15.2.1 29 (0 : Int32).toNatClampNeg; let S_22 : dg_S := dg_uF S_15 0 61 (.int (0 : Int32)); (F_m_on_J1 S_22))
theorem F_m_on_p0 {S_22 : dg_S}  : F_m_on_J1 S_22 = (S_22, (1 : Int32)) := rfl
theorem F_m_on_p1 {o : Nat} {S : dg_S} {S_22 : dg_S} {x_1 : Int32} {S_3 : dg_S} {S_5 : dg_S} {x_4 : Int32} {S_15 : dg_S} (h0 : x_1 = zI S 0 1) (h1 : S_3 = dg_uF S 0 1 (.int (0 : Int32))) (h2 : S_5 = (F_m_comesOn o S_3 x_1).1) (h3 : x_4 = (F_m_comesOn o S_3 x_1).2) (h4 : ¬ (x_4 = (0 : Int32))) (h5 : S_15 = F_m_copies o S_5 (0 : Int32) (1 : Int32)) (h6 : S_22 = dg_uF S_15 0 61 (.int (0 : Int32))) : F_m_on o S = F_m_on_J1 S_22 := by
  replace h0 := Eq.symm h0
  subst h0
  replace h1 := Eq.symm h1
  subst h1
  replace h2 := Eq.symm h2
  subst h2
  replace h3 := Eq.symm h3
  subst h3
  replace h5 := Eq.symm h5
  subst h5
  replace h6 := Eq.symm h6
  subst h6
  exact (Eq.trans (if_neg h4) rfl)
theorem F_m_on_p2 {o : Nat} {S : dg_S} {S_28 : dg_S} {x_1 : Int32} {S_3 : dg_S} {S_5 : dg_S} {x_4 : Int32} (h0 : x_1 = zI S 0 1) (h1 : S_3 = dg_uF S 0 1 (.int (0 : Int32))) (h2 : S_5 = (F_m_comesOn o S_3 x_1).1) (h3 : x_4 = (F_m_comesOn o S_3 x_1).2) (h4 : x_4 = (0 : Int32)) (h5 : S_28 = (F_m_refuses o S_5 (5 : Int32)).1) : F_m_on o S = (S_28, (0 : Int32)) := by
  replace h0 := Eq.symm h0
  subst h0
  replace h1 := Eq.symm h1
  subst h1
  replace h2 := Eq.symm h2
  subst h2
  replace h3 := Eq.symm h3
  subst h3
  replace h5 := Eq.symm h5
  subst h5
  exact (Eq.trans (if_pos h4) rfl)
set_option maxHeartbeats 8000000 in
set_option maxRecDepth 100000 in
theorem c_m_on (l : Launch) (g : Nat → ClassId) (D : va_G) (o : Nat) (S : dg_S) (ZB : ZBM S) (ZS : ZSM S) (I : CM o S) (sz : Nat) : Met l yX12_on (bw yX12_on cX12_on 2 (some .boolean)) ({ frames := 6, cells := 0, slots := 0, locals := 149 } : Room) (dk_Pc g D (dg_w g shM o rfM S) sz [.ref (o + 0)]) (va_Qi (fun (r : Int32) S' => CM o S' ∧ dg_sm shM [(0, 1), (0, 61)] [28, 29, 30, 31, 32, 33, 34, 35, 36, 37, 38, 39] S S' ∧ (0 ≤ (r).toInt ∧ (r).toInt ≤ 1) ∧ (∃ y9 : Int32, S'.1 0 1 = .int y9 ∧ ((y9).toInt = 0)) ∧ ZSM S' ∧ (S' = (F_m_on o S).1 ∧ r = (F_m_on o S).2) ∧ True) (dg_B g D shM o rfM) (dg_A o shM.length sz)) 0 0 (dg_A o shM.length sz) := by
  refine dg_met (cc := cX12_on) (maxL := 2) (ret := (some .boolean)) (dk_dq rfl) rfl (Nat.le_of_ble_eq_true rfl) ?_
  intro p e s m args below meth c A hAe harg hx hb hr hml hts hown hlocks hin hP K hS hA1 hA ST hsz ls hl
  rw [← hAe]
  have F : CallFix p m c cX12_on 2 s args (bw yX12_on cX12_on 2 (some .boolean)) RX12 := ⟨hx, hb, hml, hown, hts⟩
  have hl : lv_has ls 2 [(0, .ref (o + 0))] := hl
  have M_0 : dg_sm shM [(0, 1), (0, 61)] [28, 29, 30, 31, 32, 33, 34, 35, 36, 37, 38, 39] S S := dg_sm.rf
  refine lv_aload_n hx hb dX12_on_0 rfl (lv_at hl 0 rfl) ?_
  obtain ⟨x_1, f_x_1, b_x_1⟩ := dg_I.int (i := 0) (k := 1) (lo := 0) (hi := 1600) I sM_0 (by decide +kernel)
  refine dg_get (C := RX12) (T := TX12) (N := 77) hx hb hts (fun w h => bw_mem (wU_X12 w h)) hown K hP sM_0 rfl 1 (dk_dq rfl) (hts _ (bw_mem wB_1072)) (fun _ h9 => h9) (v := .int x_1) f_x_1 dX12_on_1 ?_
  refine lv_istore_n (lv' := [(1, .int x_1), (0, .ref (o + 0))]) hx hb dX12_on_4 rfl hl (dk_dq rfl) rfl (fun ls hl => ?_)
  refine lv_aload_n hx hb dX12_on_5 rfl (lv_at hl 1 rfl) ?_
  refine lv_iconst (v := 0) hx hb dX12_on_6 (by decide +kernel) ?_
  have hz_2 : (0 : Int32).toInt = 0 := by decide +kernel
  refine dg_put (ci := 12) (v := .int 0) (ty := tyX12 1) (C := RX12) (T := TX12) (N := 77) hx hb hts (fun w h => bw_mem (wU_X12 w h)) tyX12 tyX12_ok nmX12 hown K hP hS hA1 sM_0 rfl 1 (dk_dq rfl) (hts _ (bw_mem wB_1072)) (fun _ h9 => h9) rfl (by decide +kernel) rfl rfl dX12_on_7 (fun S_3 e_3 H locs hP hS => ?_)
  have I_3 := dg_I.uFi (lo := 0) (hi := 1600) I e_3 sM_0 (by decide +kernel) (show 0 ≤ ((0 : Int32)).toInt ∧ ((0 : Int32)).toInt ≤ 1600 from (by decide +kernel))
  have M_3 := dg_sm.uF M_0 e_3 sM_0 (dk_dq rfl)
  refine lv_aload_n hx hb dX12_on_10 rfl (lv_at hl 1 rfl) ?_
  refine lv_iload_n hx hb dX12_on_11 rfl (lv_at hl 0 rfl) ?_
  refine dg_calli hS hA1 hA (va_runV (As := [.int x_1]) (rest := []) F (c_m_comesOn l g D o S_3 x_1 (by omega) (ZBM.keep ZB (dg_sm.uF (WF := [(0, 1)]) (WA := []) dg_sm.rf e_3 sM_0 (dk_dq rfl)) (dk_dq rfl) (dk_dq rfl) (dk_dq rfl) (dk_dq rfl) (dk_dq rfl)) (ZSM.keep ZS (dg_sm.uF (WF := [(0, 1)]) (WA := []) dg_sm.rf e_3 sM_0 (dk_dq rfl)) (dk_dq rfl)) I_3 H.size) (cwV 1 hts (bw_V wB_1303 wB_1304 wB_1305 wB_297 wB_1302) rfl rfl rfl (by decide +kernel) ⟨Nat.le_of_ble_eq_true rfl, Nat.le_of_ble_eq_true rfl⟩) (dg_preV sM_0 rfl K ST hP hS hA1 hA) rfl rfl hl.1 rfl (lv_room (Nat.le_of_ble_eq_true rfl)) dX12_on_12 ⟨Nat.le_of_ble_eq_true rfl, Nat.le_of_ble_eq_true rfl⟩) (fun x_4 S_5 hw_5 H locs hP hS => ?_)
  obtain ⟨I_5, m_5, w_5_0, w_5_1, w_5_2, w_5_3, -⟩ := hw_5
  have M_5 := dg_sm.tr M_3 m_5 (dk_dq rfl) (dk_dq rfl)
  have w_5_0 : 0 ≤ (x_4).toInt ∧ (x_4).toInt ≤ 1 := w_5_0
  obtain ⟨x_6, f_x_6⟩ : ∃ x, S_5.2.1 29 (1 : Int32).toNatClampNeg = x := ⟨_, rfl⟩
  have hin_7 : vp_in (1 : Int32) 22 := (dk_in (by decide +kernel))
  have b_x_6 := dk_all_at (dg_I.row (lo := 0) (hi := 2000) I_5 sM_29 (by decide +kernel)) hin_7 f_x_6.symm
  have ex_6 := f_x_6.symm
  have hz_8 : (1 : Int32).toInt = 1 := by decide +kernel
  have zs_x_6 : (1 : Int32).toInt ≠ 1 → (x_6).toInt ≤ 999 := fun h => by rw [ex_6]; exact w_5_2 _ (dk_inT hin_7).2 (fun q => by have h9 := (dk_inT hin_7).1; omega)
  have w_5_1 : (x_4).toInt = 1 → (x_6).toInt ≤ 999 := w_5_1 x_6 f_x_6
  refine lv_if_ne (tgt := 32) hx hb dX12_on_15 (dk_dq rfl) (fun c_9 => ?_) (fun c_9 => ?_)
  · as_aux_lemma =>
      have jc_9 := dk_neqc (k := 0) (by decide +kernel) c_9
      refine lv_aload_n hx hb dX12_on_32 rfl (lv_at hl 1 rfl) ?_
      refine lv_iconst (v := 0) hx hb dX12_on_33 (by decide +kernel) ?_
      refine lv_iconst (v := 1) hx hb dX12_on_34 (by decide +kernel) ?_
      have hz_10 : (0 : Int32).toInt = 0 := by decide +kernel
      have hz_11 : (1 : Int32).toInt = 1 := by decide +kernel
      obtain ⟨x_12, f_x_12⟩ : ∃ x, S_5.2.1 29 (0 : Int32).toNatClampNeg = x := ⟨_, rfl⟩
      have hin_13 : vp_in (0 : Int32) 22 := (dk_in (by decide +kernel))
      have b_x_12 := dk_all_at (dg_I.row (lo := 0) (hi := 2000) I_5 sM_29 (by decide +kernel)) hin_13 f_x_12.symm
      have ex_12 := f_x_12.symm
      have hz_14 : (0 : Int32).toInt = 0 := by decide +kernel
      have zs_x_12 : (0 : Int32).toInt ≠ 1 → (x_12).toInt ≤ 999 := fun h => by rw [ex_12]; exact w_5_2 _ (dk_inT hin_13).2 (fun q => by have h9 := (dk_inT hin_13).1; omega)
      refine dg_callv hS hA1 hA (va_runV (As := [.int 0, .int 1]) (rest := []) F (c_m_copies l g D o S_5 0 (by decide +kernel) 1 (by decide +kernel) x_6 f_x_6 (by omega) x_12 f_x_12 (by omega) (by omega) w_5_2 I_5 H.size) (cwV 2 hts (bw_V wB_1227 wB_1228 wB_1229 wB_297 wB_1226) rfl rfl rfl (by decide +kernel) ⟨Nat.le_of_ble_eq_true rfl, Nat.le_of_ble_eq_true rfl⟩) (dg_preV sM_0 rfl K ST hP hS hA1 hA) rfl rfl hl.1 rfl (lv_room (Nat.le_of_ble_eq_true rfl)) dX12_on_35 ⟨Nat.le_of_ble_eq_true rfl, Nat.le_of_ble_eq_true rfl⟩) (fun S_15 hw_15 H locs hP hS => ?_)
      obtain ⟨I_15, m_15, w_15_0, w_15_1, w_15_2, w_15_3, -⟩ := hw_15
      have M_15 := dg_sm.tr M_5 m_15 (dk_dq rfl) (dk_dq rfl)
      have hz_16 : (0 : Int32).toInt = 0 := by decide +kernel
      have hz_17 : (1 : Int32).toInt = 1 := by decide +kernel
      obtain ⟨x_18, f_x_18⟩ : ∃ x, S_15.2.1 29 (0 : Int32).toNatClampNeg = x := ⟨_, rfl⟩
      have hin_19 : vp_in (0 : Int32) 22 := (dk_in (by decide +kernel))
      have b_x_18 := dk_all_at (dg_I.row (lo := 0) (hi := 2000) I_15 sM_29 (by decide +kernel)) hin_19 f_x_18.symm
      have ex_18 := f_x_18.symm
      have hz_20 : (0 : Int32).toInt = 0 := by decide +kernel
      have zs_x_18 : (0 : Int32).toInt ≠ 1 → (x_18).toInt ≤ 999 := fun h => by rw [ex_18]; exact w_15_2 _ (dk_inT hin_19).2 (fun q => by have h9 := (dk_inT hin_19).1; omega)
      have w_15_0 : (x_18).toInt = (x_6).toInt := w_15_0 x_18 f_x_18
      have w_15_1 : ((0 : Int32)).toInt ≠ 0 → (x_18).toInt = (x_12).toInt := w_15_1 x_18 f_x_18
      refine lv_aload_n hx hb dX12_on_38 rfl (lv_at hl 1 rfl) ?_
      refine lv_iconst (v := 0) hx hb dX12_on_39 (by decide +kernel) ?_
      have hz_21 : (0 : Int32).toInt = 0 := by decide +kernel
      refine dg_put (ci := 12) (v := .int 0) (ty := tyX12 61) (C := RX12) (T := TX12) (N := 77) hx hb hts (fun w h => bw_mem (wU_X12 w h)) tyX12 tyX12_ok nmX12 hown K hP hS hA1 sM_0 rfl 61 (dk_dq rfl) (hts _ (bw_mem wB_1192)) (fun _ h9 => h9) rfl (by decide +kernel) rfl rfl dX12_on_40 (fun S_22 e_22 H locs hP hS => ?_)
      have I_22 := dg_I.uFi (lo := 0) (hi := 20) I_15 e_22 sM_0 (by decide +kernel) (show 0 ≤ ((0 : Int32)).toInt ∧ ((0 : Int32)).toInt ≤ 20 from (by decide +kernel))
      have M_22 := dg_sm.uF M_15 e_22 sM_0 (dk_dq rfl)
      have hF_1 : F_m_on o S = F_m_on_J1 S_22 := (F_m_on_p1 (zI_eq f_x_1) e_3 w_5_3.1 w_5_3.2 c_9 w_15_3 e_22)
      refine lv_iconst (v := 1) hx hb dX12_on_43 (by decide +kernel) ?_
      have hz_23 : (1 : Int32).toInt = 1 := by decide +kernel
      have hz_24 : (1 : Int32).toInt = 1 := by decide +kernel
      have hz_25 : (0 : Int32).toInt = 0 := by decide +kernel
      refine W.widen (k := 0) (n := 0) (Nat.le_of_ble_eq_true rfl) (Nat.le_of_ble_eq_true rfl) ?_
      exact dg_iret hx hb hr hlocks (by decide +kernel) hP hS ⟨I_22, M_22, (by decide +kernel), ⟨0, (((dg_uF_ne e_22 (fun z => absurd z.2 (dk_dq rfl))).trans ((m_15.1 0 1 _ sM_0 (dk_dq rfl)).trans (m_5.1 0 1 _ sM_0 (dk_dq rfl)))).trans (dg_uF_at e_3)), (by omega)⟩, (ZSM.keep w_15_2 (dg_sm.uF (WF := [(0, 61)]) (WA := []) dg_sm.rf e_22 sM_0 (dk_dq rfl)) (dk_dq rfl)), ⟨congrArg Prod.fst (Eq.symm (Eq.trans hF_1 (F_m_on_p0))), congrArg Prod.snd (Eq.symm (Eq.trans hF_1 (F_m_on_p0)))⟩, trivial⟩ dX12_on_44
  · have jc_9 := dk_eqc (k := 0) (by decide +kernel) c_9
    refine lv_aload_n hx hb dX12_on_18 rfl (lv_at hl 1 rfl) ?_
    refine lv_iconst (v := 5) hx hb dX12_on_19 (by decide +kernel) ?_
    have hz_26 : (5 : Int32).toInt = 5 := by decide +kernel
    refine dg_calli hS hA1 hA (va_runV (As := [.int 5]) (rest := []) F (c_m_refuses l g D o S_5 5 (by decide +kernel) I_5 H.size) (cwV 1 hts (bw_V wB_1079 wB_1080 wB_1081 wB_297 wB_1078) rfl rfl rfl (by decide +kernel) ⟨Nat.le_of_ble_eq_true rfl, Nat.le_of_ble_eq_true rfl⟩) (dg_preV sM_0 rfl K ST hP hS hA1 hA) rfl rfl hl.1 rfl (lv_room (Nat.le_of_ble_eq_true rfl)) dX12_on_20 ⟨Nat.le_of_ble_eq_true rfl, Nat.le_of_ble_eq_true rfl⟩) (fun x_27 S_28 hw_28 H locs hP hS => ?_)
    obtain ⟨I_28, m_28, w_28_0, w_28_1, -⟩ := hw_28
    have M_28 := dg_sm.tr M_5 m_28 (dk_dq rfl) (dk_dq rfl)
    have w_28_0 : (-1) ≤ (x_27).toInt ∧ (x_27).toInt ≤ (-1) := w_28_0
    refine lv_if_lt (tgt := 30) hx hb dX12_on_23 (dk_dq rfl) (fun _ => ?_) (fun c => absurd (dk_ltp (k := 0) (by decide +kernel) (by omega)) c)
    refine lv_iconst (v := 0) hx hb dX12_on_30 (by decide +kernel) ?_
    have hz_29 : (0 : Int32).toInt = 0 := by decide +kernel
    have hz_30 : (0 : Int32).toInt = 0 := by decide +kernel
    have hz_31 : (0 : Int32).toInt = 0 := by decide +kernel
    refine W.widen (k := 0) (n := 0) (Nat.le_of_ble_eq_true rfl) (Nat.le_of_ble_eq_true rfl) ?_
    exact dg_iret hx hb hr hlocks (by decide +kernel) hP hS ⟨I_28, M_28, (by decide +kernel), ⟨0, (((m_28.1 0 1 _ sM_0 (dk_dq rfl)).trans (m_5.1 0 1 _ sM_0 (dk_dq rfl))).trans (dg_uF_at e_3)), (by omega)⟩, (ZSM.keep w_5_2 m_28 (dk_dq rfl)), ⟨congrArg Prod.fst (Eq.symm (F_m_on_p2 (zI_eq f_x_1) e_3 w_5_3.1 w_5_3.2 c_9 w_28_1.1)), congrArg Prod.snd (Eq.symm (F_m_on_p2 (zI_eq f_x_1) e_3 w_5_3.1 w_5_3.2 c_9 w_28_1.1))⟩, trivial⟩ dX12_on_31
noncomputable def F_m_feel_J1 (o : Nat) (S_3 : dg_S) : dg_S × Int32 := let S_12 : dg_S := (F_m_refuses o S_3 (5 : Int32)).1; let x_11 : Int32 := (F_m_refuses o S_3 (5 : Int32)).2; (S_12, x_11)
noncomputable def F_m_feel_B2 (o : Nat) (S_3 : dg_S) : (Unit) → (Unit) ⊕ (dg_S × Int32) := fun w9 => match w9 with | () => (Sum.inr ((F_m_feel_J1 o S_3)))
noncomputable def F_m_feel_J3 (o : Nat) (S_3 : dg_S) : dg_S × Int32 := let S_26 : dg_S := (F_m_refuses o S_3 (5 : Int32)).1; let x_25 : Int32 := (F_m_refuses o S_3 (5 : Int32)).2; (S_26, x_25)
noncomputable def F_m_feel_B4 (o : Nat) (S_3 : dg_S) : (Unit) → (Unit) ⊕ (dg_S × Int32) := fun w9 => match w9 with | () => (Sum.inr ((F_m_feel_J3 o S_3)))
noncomputable def F_m_feel_J5 (o : Nat) (S_3 : dg_S) : dg_S × Int32 := let S_39 : dg_S := (F_m_refuses o S_3 (5 : Int32)).1; let x_38 : Int32 := (F_m_refuses o S_3 (5 : Int32)).2; (S_39, x_38)
noncomputable def F_m_feel_B6 (o : Nat) (S_3 : dg_S) : (Unit) → (Unit) ⊕ (dg_S × Int32) := fun w9 => match w9 with | () => (Sum.inr ((F_m_feel_J5 o S_3)))
noncomputable def F_m_feel_B8 (x_249 : Int32) : (Int32 × dg_S) → (Int32 × dg_S) ⊕ (dg_S × Int32) := fun w9 => match w9 with | (x_316, S_317) => (if x_249 ≤ x_316 then (Sum.inr ((S_317, x_249))) else let x_321 : Int32 := (4 : Int32) * x_316; let x_323 : Int32 := S_317.2.1 1 (x_321 : Int32).toNatClampNeg; let S_325 : dg_S := dg_uf S_317 45 (upd (S_317.2.1 45) (x_316 : Int32).toNatClampNeg x_323); let x_326 : Int32 := (4 : Int32) * x_316; let x_327 : Int32 := x_326 + (2 : Int32); let x_329 : Int32 := S_325.2.1 1 (x_327 : Int32).toNatClampNeg; let x_330 : Int32 := (8 : Int32) * x_329; let x_331 : Int32 := (4 : Int32) * x_316; let x_332 : Int32 := x_331 + (1 : Int32); let x_334 : Int32 := S_325.2.1 1 (x_332 : Int32).toNatClampNeg; let x_335 : Int32 := x_330 + x_334; let S_337 : dg_S := dg_uf S_325 46 (upd (S_325.2.1 46) (x_316 : Int32).toNatClampNeg x_335); let x_338 : Int32 := (4 : Int32) * x_316; let x_339 : Int32 := x_338 + (3 : Int32); let x_341 : Int32 := S_337.2.1 1 (x_339 : Int32).toNatClampNeg; (if x_341 = (255 : Int32) then let S_351 : dg_S := dg_uf S_337 47 (upd (S_337.2.1 47) (x_316 : Int32).toNatClampNeg (-1 : Int32)); let x_353 : Int32 := x_316 + 1; (Sum.inl (x_353, S_351)) else let x_343 : Int32 := (4 : Int32) * x_316; let x_344 : Int32 := x_343 + (3 : Int32); let x_346 : Int32 := S_337.2.1 1 (x_344 : Int32).toNatClampNeg; let S_348 : dg_S := dg_uf S_337 47 (upd (S_337.2.1 47) (x_316 : Int32).toNatClampNeg x_346); let x_349 : Int32 := x_316 + 1; (Sum.inl (x_349, S_348))))
noncomputable def F_m_feel_J7 (x_137 : Int32) (o : Nat) (S_3 : dg_S) (x_1 : Int32) (S : dg_S) : dg_S × Int32 := (if x_137 = (0 : Int32) then let S_358 : dg_S := (F_m_refuses o S_3 (5 : Int32)).1; let x_357 : Int32 := (F_m_refuses o S_3 (5 : Int32)).2; (S_358, x_357) else let x_249 : Int32 := x_1 / (4 : Int32); let S_250 : dg_S := dg_uF S_3 0 69 (.int x_249); (lp (F_m_feel_B8 x_249) (S, (0 : Int32)) ((17 - ((0 : Int32)).toInt).toNat + 1) ((0 : Int32), S_250)))
noncomputable def F_m_feel_B9 (x_1 : Int32) (o : Nat) (S_3 : dg_S) (S : dg_S) : (Int32 × Int32) → (Int32 × Int32) ⊕ (dg_S × Int32) := fun w9 => match w9 with | (x_417, x_418) => (if x_1 ≤ x_417 then (Sum.inr ((F_m_feel_J7 x_418 o S_3 x_1 S))) else (if x_418 = (0 : Int32) then (Sum.inr ((F_m_feel_J7 x_418 o S_3 x_1 S))) else let x_423 : Int32 := S_3.2.1 1 (x_417 : Int32).toNatClampNeg; (if (30 : Int32) < x_423 then let x_425 : Int32 := x_417 + 4; (Sum.inl (x_425, (0 : Int32))) else let x_432 : Int32 := x_417 + (1 : Int32); let x_434 : Int32 := S_3.2.1 1 (x_432 : Int32).toNatClampNeg; let x_435 : Int32 := x_417 + (2 : Int32); let x_437 : Int32 := S_3.2.1 1 (x_435 : Int32).toNatClampNeg; let x_438 : Int32 := zI S 0 13; let x_439 : Int32 := zI S 0 47; let x_440 : Int32 := S_3.2.1 2 (x_438 : Int32).toNatClampNeg; let x_442 : Int32 := S_3.2.1 3 (x_438 : Int32).toNatClampNeg; let x_444 : Int32 := F_m_isCell o S_3 x_434 x_437; (if x_444 = (0 : Int32) then let x_447 : Int32 := x_417 + 4; (Sum.inl (x_447, (0 : Int32))) else let x_454 : Int32 := x_417 + (3 : Int32); let x_456 : Int32 := S_3.2.1 1 (x_454 : Int32).toNatClampNeg; (if x_456 ≤ (9 : Int32) then let x_458 : Int32 := x_417 + 4; (Sum.inl (x_458, (1 : Int32))) else let x_465 : Int32 := x_417 + (3 : Int32); let x_467 : Int32 := S_3.2.1 1 (x_465 : Int32).toNatClampNeg; (if x_467 = (255 : Int32) then let x_476 : Int32 := x_417 + 4; (Sum.inl (x_476, (1 : Int32))) else let x_469 : Int32 := x_417 + 4; (Sum.inl (x_469, (0 : Int32)))))))))
noncomputable def F_m_feel (o : Nat) (S : dg_S) : dg_S × Int32 := let x_1 : Int32 := zI S 0 1; let S_3 : dg_S := dg_uF S 0 1 (.int (0 : Int32)); (if x_1 ≤ (0 : Int32) then (lp (F_m_feel_B2 o S_3) (S, (0 : Int32)) ((1604 - (0 : Int32).toInt).toNat + 1) ()) else let x_17 : Int32 := x_1 - x_1 / (4 : Int32) * (4 : Int32); (if x_17 = (0 : Int32) then (if (64 : Int32) < x_1 then (lp (F_m_feel_B6 o S_3) (S, (0 : Int32)) ((1604 - (0 : Int32).toInt).toNat + 1) ()) else (lp (F_m_feel_B9 x_1 o S_3 S) (S, (0 : Int32)) ((1604 - ((0 : Int32) : Int32).toInt).toNat + 1) ((0 : Int32), (1 : Int32)))) else (lp (F_m_feel_B4 o S_3) (S, (0 : Int32)) ((1604 - (0 : Int32).toInt).toNat + 1) ())))
theorem F_m_feel_p0 {o : Nat} {S_3 : dg_S} {S_12 : dg_S} {x_11 : Int32} (h0 : S_12 = (F_m_refuses o S_3 (5 : Int32)).1) (h1 : x_11 = (F_m_refuses o S_3 (5 : Int32)).2) : F_m_feel_J1 o S_3 = (S_12, x_11) := by
  replace h0 := Eq.symm h0
  subst h0
  replace h1 := Eq.symm h1
  subst h1
  exact rfl
theorem F_m_feel_p1 {o : Nat} {S_3 : dg_S}  : (F_m_feel_B2 o S_3) () = Sum.inr (F_m_feel_J1 o S_3) := rfl
theorem F_m_feel_p2 {o : Nat} {S : dg_S} {S_3 : dg_S} {x_1 : Int32} (h0 : x_1 = zI S 0 1) (h1 : S_3 = dg_uF S 0 1 (.int (0 : Int32))) (h2 : x_1 ≤ (0 : Int32)) : F_m_feel o S = lp (F_m_feel_B2 o S_3) (S, (0 : Int32)) ((1604 - (0 : Int32).toInt).toNat + 1) () := by
  replace h0 := Eq.symm h0
  subst h0
  replace h1 := Eq.symm h1
  subst h1
  exact (Eq.trans (if_pos h2) rfl)
theorem F_m_feel_p3 {o : Nat} {S_3 : dg_S} {S_26 : dg_S} {x_25 : Int32} (h0 : S_26 = (F_m_refuses o S_3 (5 : Int32)).1) (h1 : x_25 = (F_m_refuses o S_3 (5 : Int32)).2) : F_m_feel_J3 o S_3 = (S_26, x_25) := by
  replace h0 := Eq.symm h0
  subst h0
  replace h1 := Eq.symm h1
  subst h1
  exact rfl
theorem F_m_feel_p4 {o : Nat} {S_3 : dg_S}  : (F_m_feel_B4 o S_3) () = Sum.inr (F_m_feel_J3 o S_3) := rfl
theorem F_m_feel_p5 {o : Nat} {S : dg_S} {S_3 : dg_S} {x_1 : Int32} {x_17 : Int32} (h0 : x_1 = zI S 0 1) (h1 : S_3 = dg_uF S 0 1 (.int (0 : Int32))) (h2 : ¬ (x_1 ≤ (0 : Int32))) (h3 : x_17 = x_1 - x_1 / (4 : Int32) * (4 : Int32)) (h4 : ¬ (x_17 = (0 : Int32))) : F_m_feel o S = lp (F_m_feel_B4 o S_3) (S, (0 : Int32)) ((1604 - (0 : Int32).toInt).toNat + 1) () := by
  replace h0 := Eq.symm h0
  subst h0
  replace h1 := Eq.symm h1
  subst h1
  replace h3 := Eq.symm h3
  subst h3
  exact (Eq.trans (if_neg h2) (Eq.trans (if_neg h4) rfl))
theorem F_m_feel_p6 {o : Nat} {S_3 : dg_S} {S_39 : dg_S} {x_38 : Int32} (h0 : S_39 = (F_m_refuses o S_3 (5 : Int32)).1) (h1 : x_38 = (F_m_refuses o S_3 (5 : Int32)).2) : F_m_feel_J5 o S_3 = (S_39, x_38) := by
  replace h0 := Eq.symm h0
  subst h0
  replace h1 := Eq.symm h1
  subst h1
  exact rfl
theorem F_m_feel_p7 {o : Nat} {S_3 : dg_S}  : (F_m_feel_B6 o S_3) () = Sum.inr (F_m_feel_J5 o S_3) := rfl
theorem F_m_feel_p8 {o : Nat} {S : dg_S} {S_3 : dg_S} {x_1 : Int32} {x_17 : Int32} (h0 : x_1 = zI S 0 1) (h1 : S_3 = dg_uF S 0 1 (.int (0 : Int32))) (h2 : ¬ (x_1 ≤ (0 : Int32))) (h3 : x_17 = x_1 - x_1 / (4 : Int32) * (4 : Int32)) (h4 : x_17 = (0 : Int32)) (h5 : (64 : Int32) < x_1) : F_m_feel o S = lp (F_m_feel_B6 o S_3) (S, (0 : Int32)) ((1604 - (0 : Int32).toInt).toNat + 1) () := by
  replace h0 := Eq.symm h0
  subst h0
  replace h1 := Eq.symm h1
  subst h1
  replace h3 := Eq.symm h3
  subst h3
  exact (Eq.trans (if_neg h2) (Eq.trans (if_pos h4) (Eq.trans (if_pos h5) rfl)))
theorem F_m_feel_p9 {x_249 : Int32} {x_316 : Int32} {S_317 : dg_S} (h0 : x_249 ≤ x_316) : (F_m_feel_B8 x_249) (x_316, S_317) = Sum.inr ((S_317, x_249)) := (Eq.trans (if_pos h0) rfl)
theorem F_m_feel_p10 {x_249 : Int32} {x_316 : Int32} {S_317 : dg_S} {x_349 : Int32} {S_348 : dg_S} {x_321 : Int32} {x_323 : Int32} {S_325 : dg_S} {x_326 : Int32} {x_327 : Int32} {x_329 : Int32} {x_330 : Int32} {x_331 : Int32} {x_332 : Int32} {x_334 : Int32} {x_335 : Int32} {S_337 : dg_S} {x_338 : Int32} {x_339 : Int32} {x_341 : Int32} {x_343 : Int32} {x_344 : Int32} {x_346 : Int32} (h0 : ¬ (x_249 ≤ x_316)) (h1 : x_321 = (4 : Int32) * x_316) (h2 : x_323 = S_317.2.1 1 (x_321 : Int32).toNatClampNeg) (h3 : S_325 = dg_uf S_317 45 (upd (S_317.2.1 45) (x_316 : Int32).toNatClampNeg x_323)) (h4 : x_326 = (4 : Int32) * x_316) (h5 : x_327 = x_326 + (2 : Int32)) (h6 : x_329 = S_325.2.1 1 (x_327 : Int32).toNatClampNeg) (h7 : x_330 = (8 : Int32) * x_329) (h8 : x_331 = (4 : Int32) * x_316) (h9 : x_332 = x_331 + (1 : Int32)) (h10 : x_334 = S_325.2.1 1 (x_332 : Int32).toNatClampNeg) (h11 : x_335 = x_330 + x_334) (h12 : S_337 = dg_uf S_325 46 (upd (S_325.2.1 46) (x_316 : Int32).toNatClampNeg x_335)) (h13 : x_338 = (4 : Int32) * x_316) (h14 : x_339 = x_338 + (3 : Int32)) (h15 : x_341 = S_337.2.1 1 (x_339 : Int32).toNatClampNeg) (h16 : ¬ (x_341 = (255 : Int32))) (h17 : x_343 = (4 : Int32) * x_316) (h18 : x_344 = x_343 + (3 : Int32)) (h19 : x_346 = S_337.2.1 1 (x_344 : Int32).toNatClampNeg) (h20 : S_348 = dg_uf S_337 47 (upd (S_337.2.1 47) (x_316 : Int32).toNatClampNeg x_346)) (h21 : x_349 = x_316 + 1) : (F_m_feel_B8 x_249) (x_316, S_317) = Sum.inl (x_349, S_348) := by
  replace h1 := Eq.symm h1
  subst h1
  replace h2 := Eq.symm h2
  subst h2
  replace h3 := Eq.symm h3
  subst h3
  replace h4 := Eq.symm h4
  subst h4
  replace h5 := Eq.symm h5
  subst h5
  replace h6 := Eq.symm h6
  subst h6
  replace h7 := Eq.symm h7
  subst h7
  replace h8 := Eq.symm h8
  subst h8
  replace h9 := Eq.symm h9
  subst h9
  replace h10 := Eq.symm h10
  subst h10
  replace h11 := Eq.symm h11
  subst h11
  replace h12 := Eq.symm h12
  subst h12
  replace h13 := Eq.symm h13
  subst h13
  replace h14 := Eq.symm h14
  subst h14
  replace h15 := Eq.symm h15
  subst h15
  replace h17 := Eq.symm h17
  subst h17
  replace h18 := Eq.symm h18
  subst h18
  replace h19 := Eq.symm h19
  subst h19
  replace h20 := Eq.symm h20
  subst h20
  replace h21 := Eq.symm h21
  subst h21
  exact (Eq.trans (if_neg h0) (Eq.trans (if_neg h16) rfl))
theorem F_m_feel_p11 {x_249 : Int32} {x_316 : Int32} {S_317 : dg_S} {x_353 : Int32} {S_351 : dg_S} {x_321 : Int32} {x_323 : Int32} {S_325 : dg_S} {x_326 : Int32} {x_327 : Int32} {x_329 : Int32} {x_330 : Int32} {x_331 : Int32} {x_332 : Int32} {x_334 : Int32} {x_335 : Int32} {S_337 : dg_S} {x_338 : Int32} {x_339 : Int32} {x_341 : Int32} (h0 : ¬ (x_249 ≤ x_316)) (h1 : x_321 = (4 : Int32) * x_316) (h2 : x_323 = S_317.2.1 1 (x_321 : Int32).toNatClampNeg) (h3 : S_325 = dg_uf S_317 45 (upd (S_317.2.1 45) (x_316 : Int32).toNatClampNeg x_323)) (h4 : x_326 = (4 : Int32) * x_316) (h5 : x_327 = x_326 + (2 : Int32)) (h6 : x_329 = S_325.2.1 1 (x_327 : Int32).toNatClampNeg) (h7 : x_330 = (8 : Int32) * x_329) (h8 : x_331 = (4 : Int32) * x_316) (h9 : x_332 = x_331 + (1 : Int32)) (h10 : x_334 = S_325.2.1 1 (x_332 : Int32).toNatClampNeg) (h11 : x_335 = x_330 + x_334) (h12 : S_337 = dg_uf S_325 46 (upd (S_325.2.1 46) (x_316 : Int32).toNatClampNeg x_335)) (h13 : x_338 = (4 : Int32) * x_316) (h14 : x_339 = x_338 + (3 : Int32)) (h15 : x_341 = S_337.2.1 1 (x_339 : Int32).toNatClampNeg) (h16 : x_341 = (255 : Int32)) (h17 : S_351 = dg_uf S_337 47 (upd (S_337.2.1 47) (x_316 : Int32).toNatClampNeg (-1 : Int32))) (h18 : x_353 = x_316 + 1) : (F_m_feel_B8 x_249) (x_316, S_317) = Sum.inl (x_353, S_351) := by
  replace h1 := Eq.symm h1
  subst h1
  replace h2 := Eq.symm h2
  subst h2
  replace h3 := Eq.symm h3
  subst h3
  replace h4 := Eq.symm h4
  subst h4
  replace h5 := Eq.symm h5
  subst h5
  replace h6 := Eq.symm h6
  subst h6
  replace h7 := Eq.symm h7
  subst h7
  replace h8 := Eq.symm h8
  subst h8
  replace h9 := Eq.symm h9
  subst h9
  replace h10 := Eq.symm h10
  subst h10
  replace h11 := Eq.symm h11
  subst h11
  replace h12 := Eq.symm h12
  subst h12
  replace h13 := Eq.symm h13
  subst h13
  replace h14 := Eq.symm h14
  subst h14
  replace h15 := Eq.symm h15
  subst h15
  replace h17 := Eq.symm h17
  subst h17
  replace h18 := Eq.symm h18
  subst h18
  exact (Eq.trans (if_neg h0) (Eq.trans (if_pos h16) rfl))
theorem F_m_feel_p12 {x_137 : Int32} {o : Nat} {S_3 : dg_S} {x_1 : Int32} {S : dg_S} {x_249 : Int32} {S_250 : dg_S} (h0 : ¬ (x_137 = (0 : Int32))) (h1 : x_249 = x_1 / (4 : Int32)) (h2 : S_250 = dg_uF S_3 0 69 (.int x_249)) : F_m_feel_J7 x_137 o S_3 x_1 S = lp (F_m_feel_B8 x_249) (S, (0 : Int32)) ((17 - ((0 : Int32)).toInt).toNat + 1) ((0 : Int32), S_250) := by
  replace h1 := Eq.symm h1
  subst h1
  replace h2 := Eq.symm h2
  subst h2
  exact (Eq.trans (if_neg h0) rfl)
theorem F_m_feel_p13 {x_137 : Int32} {o : Nat} {S_3 : dg_S} {x_1 : Int32} {S : dg_S} {S_358 : dg_S} {x_357 : Int32} (h0 : x_137 = (0 : Int32)) (h1 : S_358 = (F_m_refuses o S_3 (5 : Int32)).1) (h2 : x_357 = (F_m_refuses o S_3 (5 : Int32)).2) : F_m_feel_J7 x_137 o S_3 x_1 S = (S_358, x_357) := by
  replace h1 := Eq.symm h1
  subst h1
  replace h2 := Eq.symm h2
  subst h2
  exact (Eq.trans (if_pos h0) rfl)
theorem F_m_feel_p14 {x_1 : Int32} {o : Nat} {S_3 : dg_S} {S : dg_S} {x_417 : Int32} {x_418 : Int32} (h0 : x_1 ≤ x_417) : (F_m_feel_B9 x_1 o S_3 S) (x_417, x_418) = Sum.inr (F_m_feel_J7 x_418 o S_3 x_1 S) := (Eq.trans (if_pos h0) rfl)
theorem F_m_feel_p15 {x_1 : Int32} {o : Nat} {S_3 : dg_S} {S : dg_S} {x_417 : Int32} {x_418 : Int32} (h0 : ¬ (x_1 ≤ x_417)) (h1 : x_418 = (0 : Int32)) : (F_m_feel_B9 x_1 o S_3 S) (x_417, x_418) = Sum.inr (F_m_feel_J7 x_418 o S_3 x_1 S) := (Eq.trans (if_neg h0) (Eq.trans (if_pos h1) rfl))
theorem F_m_feel_p16 {x_1 : Int32} {o : Nat} {S_3 : dg_S} {S : dg_S} {x_417 : Int32} {x_418 : Int32} {x_425 : Int32} {x_423 : Int32} (h0 : ¬ (x_1 ≤ x_417)) (h1 : ¬ (x_418 = (0 : Int32))) (h2 : x_423 = S_3.2.1 1 (x_417 : Int32).toNatClampNeg) (h3 : (30 : Int32) < x_423) (h4 : x_425 = x_417 + 4) : (F_m_feel_B9 x_1 o S_3 S) (x_417, x_418) = Sum.inl (x_425, (0 : Int32)) := by
  replace h2 := Eq.symm h2
  subst h2
  replace h4 := Eq.symm h4
  subst h4
  exact (Eq.trans (if_neg h0) (Eq.trans (if_neg h1) (Eq.trans (if_pos h3) rfl)))
theorem F_m_feel_p17 {x_1 : Int32} {o : Nat} {S_3 : dg_S} {S : dg_S} {x_417 : Int32} {x_418 : Int32} {x_447 : Int32} {x_423 : Int32} {x_432 : Int32} {x_434 : Int32} {x_435 : Int32} {x_437 : Int32} {x_444 : Int32} (h0 : ¬ (x_1 ≤ x_417)) (h1 : ¬ (x_418 = (0 : Int32))) (h2 : x_423 = S_3.2.1 1 (x_417 : Int32).toNatClampNeg) (h3 : ¬ ((30 : Int32) < x_423)) (h4 : x_432 = x_417 + (1 : Int32)) (h5 : x_434 = S_3.2.1 1 (x_432 : Int32).toNatClampNeg) (h6 : x_435 = x_417 + (2 : Int32)) (h7 : x_437 = S_3.2.1 1 (x_435 : Int32).toNatClampNeg) (h8 : x_444 = F_m_isCell o S_3 x_434 x_437) (h9 : x_444 = (0 : Int32)) (h10 : x_447 = x_417 + 4) : (F_m_feel_B9 x_1 o S_3 S) (x_417, x_418) = Sum.inl (x_447, (0 : Int32)) := by
  replace h2 := Eq.symm h2
  subst h2
  replace h4 := Eq.symm h4
  subst h4
  replace h5 := Eq.symm h5
  subst h5
  replace h6 := Eq.symm h6
  subst h6
  replace h7 := Eq.symm h7
  subst h7
  replace h8 := Eq.symm h8
  subst h8
  replace h10 := Eq.symm h10
  subst h10
  exact (Eq.trans (if_neg h0) (Eq.trans (if_neg h1) (Eq.trans (if_neg h3) (Eq.trans (if_pos h9) rfl))))
theorem F_m_feel_p18 {x_1 : Int32} {o : Nat} {S_3 : dg_S} {S : dg_S} {x_417 : Int32} {x_418 : Int32} {x_458 : Int32} {x_423 : Int32} {x_432 : Int32} {x_434 : Int32} {x_435 : Int32} {x_437 : Int32} {x_444 : Int32} {x_454 : Int32} {x_456 : Int32} (h0 : ¬ (x_1 ≤ x_417)) (h1 : ¬ (x_418 = (0 : Int32))) (h2 : x_423 = S_3.2.1 1 (x_417 : Int32).toNatClampNeg) (h3 : ¬ ((30 : Int32) < x_423)) (h4 : x_432 = x_417 + (1 : Int32)) (h5 : x_434 = S_3.2.1 1 (x_432 : Int32).toNatClampNeg) (h6 : x_435 = x_417 + (2 : Int32)) (h7 : x_437 = S_3.2.1 1 (x_435 : Int32).toNatClampNeg) (h8 : x_444 = F_m_isCell o S_3 x_434 x_437) (h9 : ¬ (x_444 = (0 : Int32))) (h10 : x_454 = x_417 + (3 : Int32)) (h11 : x_456 = S_3.2.1 1 (x_454 : Int32).toNatClampNeg) (h12 : x_456 ≤ (9 : Int32)) (h13 : x_458 = x_417 + 4) : (F_m_feel_B9 x_1 o S_3 S) (x_417, x_418) = Sum.inl (x_458, (1 : Int32)) := by
  replace h2 := Eq.symm h2
  subst h2
  replace h4 := Eq.symm h4
  subst h4
  replace h5 := Eq.symm h5
  subst h5
  replace h6 := Eq.symm h6
  subst h6
  replace h7 := Eq.symm h7
  subst h7
  replace h8 := Eq.symm h8
  subst h8
  replace h10 := Eq.symm h10
  subst h10
  replace h11 := Eq.symm h11
  subst h11
  replace h13 := Eq.symm h13
  subst h13
  exact (Eq.trans (if_neg h0) (Eq.trans (if_neg h1) (Eq.trans (if_neg h3) (Eq.trans (if_neg h9) (Eq.trans (if_pos h12) rfl)))))
theorem F_m_feel_p19 {x_1 : Int32} {o : Nat} {S_3 : dg_S} {S : dg_S} {x_417 : Int32} {x_418 : Int32} {x_469 : Int32} {x_423 : Int32} {x_432 : Int32} {x_434 : Int32} {x_435 : Int32} {x_437 : Int32} {x_444 : Int32} {x_454 : Int32} {x_456 : Int32} {x_465 : Int32} {x_467 : Int32} (h0 : ¬ (x_1 ≤ x_417)) (h1 : ¬ (x_418 = (0 : Int32))) (h2 : x_423 = S_3.2.1 1 (x_417 : Int32).toNatClampNeg) (h3 : ¬ ((30 : Int32) < x_423)) (h4 : x_432 = x_417 + (1 : Int32)) (h5 : x_434 = S_3.2.1 1 (x_432 : Int32).toNatClampNeg) (h6 : x_435 = x_417 + (2 : Int32)) (h7 : x_437 = S_3.2.1 1 (x_435 : Int32).toNatClampNeg) (h8 : x_444 = F_m_isCell o S_3 x_434 x_437) (h9 : ¬ (x_444 = (0 : Int32))) (h10 : x_454 = x_417 + (3 : Int32)) (h11 : x_456 = S_3.2.1 1 (x_454 : Int32).toNatClampNeg) (h12 : ¬ (x_456 ≤ (9 : Int32))) (h13 : x_465 = x_417 + (3 : Int32)) (h14 : x_467 = S_3.2.1 1 (x_465 : Int32).toNatClampNeg) (h15 : ¬ (x_467 = (255 : Int32))) (h16 : x_469 = x_417 + 4) : (F_m_feel_B9 x_1 o S_3 S) (x_417, x_418) = Sum.inl (x_469, (0 : Int32)) := by
  replace h2 := Eq.symm h2
  subst h2
  replace h4 := Eq.symm h4
  subst h4
  replace h5 := Eq.symm h5
  subst h5
  replace h6 := Eq.symm h6
  subst h6
  replace h7 := Eq.symm h7
  subst h7
  replace h8 := Eq.symm h8
  subst h8
  replace h10 := Eq.symm h10
  subst h10
  replace h11 := Eq.symm h11
  subst h11
  replace h13 := Eq.symm h13
  subst h13
  replace h14 := Eq.symm h14
  subst h14
  replace h16 := Eq.symm h16
  subst h16
  exact (Eq.trans (if_neg h0) (Eq.trans (if_neg h1) (Eq.trans (if_neg h3) (Eq.trans (if_neg h9) (Eq.trans (if_neg h12) (Eq.trans (if_neg h15) rfl))))))
theorem F_m_feel_p20 {x_1 : Int32} {o : Nat} {S_3 : dg_S} {S : dg_S} {x_417 : Int32} {x_418 : Int32} {x_476 : Int32} {x_423 : Int32} {x_432 : Int32} {x_434 : Int32} {x_435 : Int32} {x_437 : Int32} {x_444 : Int32} {x_454 : Int32} {x_456 : Int32} {x_465 : Int32} {x_467 : Int32} (h0 : ¬ (x_1 ≤ x_417)) (h1 : ¬ (x_418 = (0 : Int32))) (h2 : x_423 = S_3.2.1 1 (x_417 : Int32).toNatClampNeg) (h3 : ¬ ((30 : Int32) < x_423)) (h4 : x_432 = x_417 + (1 : Int32)) (h5 : x_434 = S_3.2.1 1 (x_432 : Int32).toNatClampNeg) (h6 : x_435 = x_417 + (2 : Int32)) (h7 : x_437 = S_3.2.1 1 (x_435 : Int32).toNatClampNeg) (h8 : x_444 = F_m_isCell o S_3 x_434 x_437) (h9 : ¬ (x_444 = (0 : Int32))) (h10 : x_454 = x_417 + (3 : Int32)) (h11 : x_456 = S_3.2.1 1 (x_454 : Int32).toNatClampNeg) (h12 : ¬ (x_456 ≤ (9 : Int32))) (h13 : x_465 = x_417 + (3 : Int32)) (h14 : x_467 = S_3.2.1 1 (x_465 : Int32).toNatClampNeg) (h15 : x_467 = (255 : Int32)) (h16 : x_476 = x_417 + 4) : (F_m_feel_B9 x_1 o S_3 S) (x_417, x_418) = Sum.inl (x_476, (1 : Int32)) := by
  replace h2 := Eq.symm h2
  subst h2
  replace h4 := Eq.symm h4
  subst h4
  replace h5 := Eq.symm h5
  subst h5
  replace h6 := Eq.symm h6
  subst h6
  replace h7 := Eq.symm h7
  subst h7
  replace h8 := Eq.symm h8
  subst h8
  replace h10 := Eq.symm h10
  subst h10
  replace h11 := Eq.symm h11
  subst h11
  replace h13 := Eq.symm h13
  subst h13
  replace h14 := Eq.symm h14
  subst h14
  replace h16 := Eq.symm h16
  subst h16
  exact (Eq.trans (if_neg h0) (Eq.trans (if_neg h1) (Eq.trans (if_neg h3) (Eq.trans (if_neg h9) (Eq.trans (if_neg h12) (Eq.trans (if_pos h15) rfl))))))
theorem F_m_feel_p21 {o : Nat} {S : dg_S} {x_1 : Int32} {S_3 : dg_S} {x_17 : Int32} (h0 : x_1 = zI S 0 1) (h1 : S_3 = dg_uF S 0 1 (.int (0 : Int32))) (h2 : ¬ (x_1 ≤ (0 : Int32))) (h3 : x_17 = x_1 - x_1 / (4 : Int32) * (4 : Int32)) (h4 : x_17 = (0 : Int32)) (h5 : ¬ ((64 : Int32) < x_1)) : F_m_feel o S = lp (F_m_feel_B9 x_1 o S_3 S) (S, (0 : Int32)) ((1604 - ((0 : Int32) : Int32).toInt).toNat + 1) ((0 : Int32), (1 : Int32)) := by
  replace h0 := Eq.symm h0
  subst h0
  replace h1 := Eq.symm h1
  subst h1
  replace h3 := Eq.symm h3
  subst h3
  exact (Eq.trans (if_neg h2) (Eq.trans (if_pos h4) (Eq.trans (if_neg h5) rfl)))
set_option maxHeartbeats 8000000 in
set_option maxRecDepth 100000 in
theorem c_m_feel (l : Launch) (g : Nat → ClassId) (D : va_G) (o : Nat) (S : dg_S) (ZB : ZBM S) (I : CM o S) (sz : Nat) : Met l yX12_feel (bw yX12_feel cX12_feel 4 (some .int)) ({ frames := 3, cells := 0, slots := 0, locals := 76 } : Room) (dk_Pc g D (dg_w g shM o rfM S) sz [.ref (o + 0)]) (va_Qi (fun (r : Int32) S' => CM o S' ∧ dg_sm shM [(0, 1), (0, 69)] [28, 45, 46, 47] S S' ∧ ((-1) ≤ (r).toInt ∧ (r).toInt ≤ 16) ∧ (∃ y9 : Int32, S'.1 0 1 = .int y9 ∧ ((y9).toInt = 0)) ∧ (S' = (F_m_feel o S).1 ∧ r = (F_m_feel o S).2) ∧ True) (dg_B g D shM o rfM) (dg_A o shM.length sz)) 0 0 (dg_A o shM.length sz) := by
  refine dg_met (cc := cX12_feel) (maxL := 4) (ret := (some .int)) (dk_dq rfl) rfl (Nat.le_of_ble_eq_true rfl) ?_
  intro p e s m args below meth c A hAe harg hx hb hr hml hts hown hlocks hin hP K hS hA1 hA ST hsz ls hl
  rw [← hAe]
  have F : CallFix p m c cX12_feel 4 s args (bw yX12_feel cX12_feel 4 (some .int)) RX12 := ⟨hx, hb, hml, hown, hts⟩
  have hl : lv_has ls 4 [(0, .ref (o + 0))] := hl
  have M_0 : dg_sm shM [(0, 1), (0, 69)] [28, 45, 46, 47] S S := dg_sm.rf
  refine lv_aload_n hx hb dX12_feel_0 rfl (lv_at hl 0 rfl) ?_
  obtain ⟨x_1, f_x_1, b_x_1⟩ := dg_I.int (i := 0) (k := 1) (lo := 0) (hi := 1600) I sM_0 (by decide +kernel)
  refine dg_get (C := RX12) (T := TX12) (N := 77) hx hb hts (fun w h => bw_mem (wU_X12 w h)) hown K hP sM_0 rfl 1 (dk_dq rfl) (hts _ (bw_mem wB_1072)) (fun _ h9 => h9) (v := .int x_1) f_x_1 dX12_feel_1 ?_
  refine lv_istore_n (lv' := [(1, .int x_1), (0, .ref (o + 0))]) hx hb dX12_feel_4 rfl hl (dk_dq rfl) rfl (fun ls hl => ?_)
  refine lv_aload_n hx hb dX12_feel_5 rfl (lv_at hl 1 rfl) ?_
  refine lv_iconst (v := 0) hx hb dX12_feel_6 (by decide +kernel) ?_
  have hz_2 : (0 : Int32).toInt = 0 := by decide +kernel
  refine dg_put (ci := 12) (v := .int 0) (ty := tyX12 1) (C := RX12) (T := TX12) (N := 77) hx hb hts (fun w h => bw_mem (wU_X12 w h)) tyX12 tyX12_ok nmX12 hown K hP hS hA1 sM_0 rfl 1 (dk_dq rfl) (hts _ (bw_mem wB_1072)) (fun _ h9 => h9) rfl (by decide +kernel) rfl rfl dX12_feel_7 (fun S_3 e_3 H locs hP hS => ?_)
  have I_3 := dg_I.uFi (lo := 0) (hi := 1600) I e_3 sM_0 (by decide +kernel) (show 0 ≤ ((0 : Int32)).toInt ∧ ((0 : Int32)).toInt ≤ 1600 from (by decide +kernel))
  have M_3 := dg_sm.uF M_0 e_3 sM_0 (dk_dq rfl)
  refine lv_iload_n hx hb dX12_feel_10 rfl (lv_at hl 0 rfl) ?_
  refine lv_if_le (tgt := 30) hx hb dX12_feel_11 (dk_dq rfl) (fun c_4 => ?_) (fun c_4 => ?_)
  · as_aux_lemma =>
      have jc_4 := dk_lec (k := 0) (by decide +kernel) c_4
      refine lv_iconst (v := 0) hx hb dX12_feel_30 (by decide +kernel) ?_
      refine lv_istore_n (lv' := [(2, .int 0), (1, .int x_1), (0, .ref (o + 0))]) hx hb dX12_feel_31 rfl hl (dk_dq rfl) rfl (fun ls hl => ?_)
      refine lv_iconst (v := 0) hx hb dX12_feel_32 (by decide +kernel) ?_
      refine lv_istore_n (lv' := [(3, .int 0), (2, .int 0), (1, .int x_1), (0, .ref (o + 0))]) hx hb dX12_feel_33 rfl hl (dk_dq rfl) rfl (fun ls hl => ?_)
      have J_9 : ((0 : Int32).toInt = 1 → (dk_felt (S.2.1 1) (x_1 : Int32).toInt ∧ 0 < (x_1 : Int32).toInt ∧ (x_1 : Int32).toInt ≤ 64 ∧ (x_1 : Int32).toInt % 4 = 0)) → (F_m_feel o S = F_m_feel_J1 o S_3) → ∀ (H : Heap) (locs : List Loc), va_P D vwCl (dg_w g shM o rfM S_3) H → va_S A s.heap H locs → ∀ ls : Array Slot, lv_has ls 4 [(3, .int 0), (2, .int 0), (1, .int x_1), (0, .ref (o + 0))] → W p l e ({ frames := 3, cells := 0, slots := 0, locals := 76 } : Room) s m args below meth c H locs 0 0 (MQ below (va_Qi (fun (r : Int32) S' => CM o S' ∧ dg_sm shM [(0, 1), (0, 69)] [28, 45, 46, 47] S S' ∧ ((-1) ≤ (r).toInt ∧ (r).toInt ≤ 16) ∧ (∃ y9 : Int32, S'.1 0 1 = .int y9 ∧ ((y9).toInt = 0)) ∧ (S' = (F_m_feel o S).1 ∧ r = (F_m_feel o S).2) ∧ True) (dg_B g D shM o rfM) A) args s 0 0 A) (F0 m 116 ls []) := by
        intro rel_0 hF_1 H locs hP hS ls hl
        refine lv_iload_n hx hb dX12_feel_116 rfl (lv_at hl 1 rfl) ?_
        refine lv_if_ne (tgt := 126) hx hb dX12_feel_117 (dk_dq rfl) (fun c => absurd (by decide +kernel) c) (fun _ => ?_)
        refine lv_aload_n hx hb dX12_feel_120 rfl (lv_at hl 3 rfl) ?_
        refine lv_iconst (v := 5) hx hb dX12_feel_121 (by decide +kernel) ?_
        have hz_10 : (5 : Int32).toInt = 5 := by decide +kernel
        refine dg_calli hS hA1 hA (va_runV (As := [.int 5]) (rest := []) F (c_m_refuses l g D o S_3 5 (by decide +kernel) I_3 H.size) (cwV 1 hts (bw_V wB_1079 wB_1080 wB_1081 wB_297 wB_1078) rfl rfl rfl (by decide +kernel) ⟨Nat.le_of_ble_eq_true rfl, Nat.le_of_ble_eq_true rfl⟩) (dg_preV sM_0 rfl K ST hP hS hA1 hA) rfl rfl hl.1 rfl (lv_room (Nat.le_of_ble_eq_true rfl)) dX12_feel_122 ⟨Nat.le_of_ble_eq_true rfl, Nat.le_of_ble_eq_true rfl⟩) (fun x_11 S_12 hw_12 H locs hP hS => ?_)
        obtain ⟨I_12, m_12, w_12_0, w_12_1, -⟩ := hw_12
        have M_12 := dg_sm.tr M_3 m_12 (dk_dq rfl) (dk_dq rfl)
        have w_12_0 : (-1) ≤ (x_11).toInt ∧ (x_11).toInt ≤ (-1) := w_12_0
        have hz_13 : (0 : Int32).toInt = 0 := by decide +kernel
        refine W.widen (k := 0) (n := 0) (Nat.le_of_ble_eq_true rfl) (Nat.le_of_ble_eq_true rfl) ?_
        exact dg_iret hx hb hr hlocks rfl hP hS ⟨I_12, M_12, (by omega), ⟨0, ((m_12.1 0 1 _ sM_0 (dk_dq rfl)).trans (dg_uF_at e_3)), (by omega)⟩, ⟨congrArg Prod.fst (Eq.symm (Eq.trans hF_1 (F_m_feel_p0 w_12_1.1 w_12_1.2))), congrArg Prod.snd (Eq.symm (Eq.trans hF_1 (F_m_feel_p0 w_12_1.1 w_12_1.2)))⟩, trivial⟩ dX12_feel_125
      have L_14 : ∀ (n : Nat), ((0 : Int32).toInt = 1 → (0 < (x_1 : Int32).toInt ∧ (x_1 : Int32).toInt ≤ 64 ∧ (x_1 : Int32).toInt % 4 = 0)) → ((0 : Int32).toInt % 4 = 0) → ((0 : Int32).toInt = 1 → dk_felt (S.2.1 1) (0 : Int32).toInt) → ((1604 - (0 : Int32).toInt).toNat < n) → (F_m_feel o S = lp (F_m_feel_B2 o S_3) (S, (0 : Int32)) n ()) → ∀ (H : Heap) (locs : List Loc), va_P D vwCl (dg_w g shM o rfM S_3) H → va_S A s.heap H locs → ∀ ls : Array Slot, lv_has ls 4 [(3, .int 0), (2, .int 0), (1, .int x_1), (0, .ref (o + 0))] → W p l e ({ frames := 3, cells := 0, slots := 0, locals := 76 } : Room) s m args below meth c H locs 0 0 (MQ below (va_Qi (fun (r : Int32) S' => CM o S' ∧ dg_sm shM [(0, 1), (0, 69)] [28, 45, 46, 47] S S' ∧ ((-1) ≤ (r).toInt ∧ (r).toInt ≤ 16) ∧ (∃ y9 : Int32, S'.1 0 1 = .int y9 ∧ ((y9).toInt = 0)) ∧ (S' = (F_m_feel o S).1 ∧ r = (F_m_feel o S).2) ∧ True) (dg_B g D shM o rfM) A) args s 0 0 A) (F0 m 34 ls []) := by
        intro n
        induction n with
        | zero =>
          intro rel_0 rel_1 rel_2 hmu hF_2 H locs hP hS ls hl
          omega
        | succ n ih =>
          intro rel_0 rel_1 rel_2 hmu hF_2 H locs hP hS ls hl
          refine lv_iload_n hx hb dX12_feel_34 rfl (lv_at hl 0 rfl) ?_
          refine lv_iload_n hx hb dX12_feel_35 rfl (lv_at hl 2 rfl) ?_
          refine lv_icmp_ge (tgt := 116) hx hb dX12_feel_36 (dk_dq rfl) (fun _ => ?_) (fun c => absurd (dk_lep (k := 0) (by decide +kernel) (by omega)) c)
          exact J_9  (fun h9 => ⟨fun j hj => rel_2 (by omega) j (by omega), by omega, by omega, by omega⟩) (lp_r hF_2 (F_m_feel_p1)) _ _ hP hS _ (lv_sub hl [0, 1, 2, 3] rfl)
      have hz_15 : (0 : Int32).toInt = 0 := by decide +kernel
      have hz_16 : (0 : Int32).toInt = 0 := by decide +kernel
      exact L_14 ((1604 - (0 : Int32).toInt).toNat + 1)  (by omega) (by omega) (fun h9 => absurd h9 (by decide +kernel)) (by first | exact mu_lt hmu (by omega) (by omega) | omega) (F_m_feel_p2 (zI_eq f_x_1) e_3 c_4) _ _ hP hS _ (lv_sub hl [0, 1, 2, 3] rfl)
  · as_aux_lemma =>
      have jc_4 := dk_nlec (k := 0) (by decide +kernel) c_4
      refine lv_iload_n hx hb dX12_feel_14 rfl (lv_at hl 0 rfl) ?_
      refine lv_iconst (v := 4) hx hb dX12_feel_15 (by decide +kernel) ?_
      refine lv_irem hx hb dX12_feel_16 (by decide +kernel) ?_
      refine lv_topi (fun x_17 ex_17 => ?_)
      have jx_17 : (x_17).toInt = (x_1).toInt % 4 := by rw [ex_17]; exact dk_remL (by omega) (by decide +kernel) (dk_dq rfl)
      refine lv_if_ne (tgt := 30) hx hb dX12_feel_17 (dk_dq rfl) (fun c_18 => ?_) (fun c_18 => ?_)
      · as_aux_lemma =>
          have jc_18 := dk_neqc (k := 0) (by decide +kernel) c_18
          refine lv_iconst (v := 0) hx hb dX12_feel_30 (by decide +kernel) ?_
          refine lv_istore_n (lv' := [(2, .int 0), (1, .int x_1), (0, .ref (o + 0))]) hx hb dX12_feel_31 rfl hl (dk_dq rfl) rfl (fun ls hl => ?_)
          refine lv_iconst (v := 0) hx hb dX12_feel_32 (by decide +kernel) ?_
          refine lv_istore_n (lv' := [(3, .int 0), (2, .int 0), (1, .int x_1), (0, .ref (o + 0))]) hx hb dX12_feel_33 rfl hl (dk_dq rfl) rfl (fun ls hl => ?_)
          have J_23 : ((0 : Int32).toInt = 1 → (dk_felt (S.2.1 1) (x_1 : Int32).toInt ∧ 0 < (x_1 : Int32).toInt ∧ (x_1 : Int32).toInt ≤ 64 ∧ (x_1 : Int32).toInt % 4 = 0)) → (F_m_feel o S = F_m_feel_J3 o S_3) → ∀ (H : Heap) (locs : List Loc), va_P D vwCl (dg_w g shM o rfM S_3) H → va_S A s.heap H locs → ∀ ls : Array Slot, lv_has ls 4 [(3, .int 0), (2, .int 0), (1, .int x_1), (0, .ref (o + 0))] → W p l e ({ frames := 3, cells := 0, slots := 0, locals := 76 } : Room) s m args below meth c H locs 0 0 (MQ below (va_Qi (fun (r : Int32) S' => CM o S' ∧ dg_sm shM [(0, 1), (0, 69)] [28, 45, 46, 47] S S' ∧ ((-1) ≤ (r).toInt ∧ (r).toInt ≤ 16) ∧ (∃ y9 : Int32, S'.1 0 1 = .int y9 ∧ ((y9).toInt = 0)) ∧ (S' = (F_m_feel o S).1 ∧ r = (F_m_feel o S).2) ∧ True) (dg_B g D shM o rfM) A) args s 0 0 A) (F0 m 116 ls []) := by
            intro rel_0 hF_3 H locs hP hS ls hl
            refine lv_iload_n hx hb dX12_feel_116 rfl (lv_at hl 1 rfl) ?_
            refine lv_if_ne (tgt := 126) hx hb dX12_feel_117 (dk_dq rfl) (fun c => absurd (by decide +kernel) c) (fun _ => ?_)
            refine lv_aload_n hx hb dX12_feel_120 rfl (lv_at hl 3 rfl) ?_
            refine lv_iconst (v := 5) hx hb dX12_feel_121 (by decide +kernel) ?_
            have hz_24 : (5 : Int32).toInt = 5 := by decide +kernel
            refine dg_calli hS hA1 hA (va_runV (As := [.int 5]) (rest := []) F (c_m_refuses l g D o S_3 5 (by decide +kernel) I_3 H.size) (cwV 1 hts (bw_V wB_1079 wB_1080 wB_1081 wB_297 wB_1078) rfl rfl rfl (by decide +kernel) ⟨Nat.le_of_ble_eq_true rfl, Nat.le_of_ble_eq_true rfl⟩) (dg_preV sM_0 rfl K ST hP hS hA1 hA) rfl rfl hl.1 rfl (lv_room (Nat.le_of_ble_eq_true rfl)) dX12_feel_122 ⟨Nat.le_of_ble_eq_true rfl, Nat.le_of_ble_eq_true rfl⟩) (fun x_25 S_26 hw_26 H locs hP hS => ?_)
            obtain ⟨I_26, m_26, w_26_0, w_26_1, -⟩ := hw_26
            have M_26 := dg_sm.tr M_3 m_26 (dk_dq rfl) (dk_dq rfl)
            have w_26_0 : (-1) ≤ (x_25).toInt ∧ (x_25).toInt ≤ (-1) := w_26_0
            have hz_27 : (0 : Int32).toInt = 0 := by decide +kernel
            refine W.widen (k := 0) (n := 0) (Nat.le_of_ble_eq_true rfl) (Nat.le_of_ble_eq_true rfl) ?_
            exact dg_iret hx hb hr hlocks rfl hP hS ⟨I_26, M_26, (by omega), ⟨0, ((m_26.1 0 1 _ sM_0 (dk_dq rfl)).trans (dg_uF_at e_3)), (by omega)⟩, ⟨congrArg Prod.fst (Eq.symm (Eq.trans hF_3 (F_m_feel_p3 w_26_1.1 w_26_1.2))), congrArg Prod.snd (Eq.symm (Eq.trans hF_3 (F_m_feel_p3 w_26_1.1 w_26_1.2)))⟩, trivial⟩ dX12_feel_125
          have L_28 : ∀ (n : Nat), ((0 : Int32).toInt = 1 → (0 < (x_1 : Int32).toInt ∧ (x_1 : Int32).toInt ≤ 64 ∧ (x_1 : Int32).toInt % 4 = 0)) → ((0 : Int32).toInt % 4 = 0) → ((0 : Int32).toInt = 1 → dk_felt (S.2.1 1) (0 : Int32).toInt) → ((1604 - (0 : Int32).toInt).toNat < n) → (F_m_feel o S = lp (F_m_feel_B4 o S_3) (S, (0 : Int32)) n ()) → ∀ (H : Heap) (locs : List Loc), va_P D vwCl (dg_w g shM o rfM S_3) H → va_S A s.heap H locs → ∀ ls : Array Slot, lv_has ls 4 [(3, .int 0), (2, .int 0), (1, .int x_1), (0, .ref (o + 0))] → W p l e ({ frames := 3, cells := 0, slots := 0, locals := 76 } : Room) s m args below meth c H locs 0 0 (MQ below (va_Qi (fun (r : Int32) S' => CM o S' ∧ dg_sm shM [(0, 1), (0, 69)] [28, 45, 46, 47] S S' ∧ ((-1) ≤ (r).toInt ∧ (r).toInt ≤ 16) ∧ (∃ y9 : Int32, S'.1 0 1 = .int y9 ∧ ((y9).toInt = 0)) ∧ (S' = (F_m_feel o S).1 ∧ r = (F_m_feel o S).2) ∧ True) (dg_B g D shM o rfM) A) args s 0 0 A) (F0 m 34 ls []) := by
            intro n
            induction n with
            | zero =>
              intro rel_0 rel_1 rel_2 hmu hF_4 H locs hP hS ls hl
              omega
            | succ n ih =>
              intro rel_0 rel_1 rel_2 hmu hF_4 H locs hP hS ls hl
              refine lv_iload_n hx hb dX12_feel_34 rfl (lv_at hl 0 rfl) ?_
              refine lv_iload_n hx hb dX12_feel_35 rfl (lv_at hl 2 rfl) ?_
              refine lv_icmp_ge (tgt := 116) hx hb dX12_feel_36 (dk_dq rfl) (fun c => absurd c (fun z => absurd (dk_lec (k := 0) (by decide +kernel) z) (by omega))) (fun _ => ?_)
              refine lv_iload_n hx hb dX12_feel_39 rfl (lv_at hl 1 rfl) ?_
              refine lv_if_eq (tgt := 116) hx hb dX12_feel_40 (dk_dq rfl) (fun _ => ?_) (fun c => absurd (by decide +kernel) c)
              exact J_23  (fun h9 => ⟨fun j hj => rel_2 (by omega) j (by omega), by omega, by omega, by omega⟩) (lp_r hF_4 (F_m_feel_p4)) _ _ hP hS _ (lv_sub hl [0, 1, 2, 3] rfl)
          have hz_29 : (0 : Int32).toInt = 0 := by decide +kernel
          have hz_30 : (0 : Int32).toInt = 0 := by decide +kernel
          exact L_28 ((1604 - (0 : Int32).toInt).toNat + 1)  (by omega) (by omega) (fun h9 => absurd h9 (by decide +kernel)) (by first | exact mu_lt hmu (by omega) (by omega) | omega) (F_m_feel_p5 (zI_eq f_x_1) e_3 c_4 ex_17 c_18) _ _ hP hS _ (lv_sub hl [0, 1, 2, 3] rfl)
      · as_aux_lemma =>
          have jc_18 := dk_eqc (k := 0) (by decide +kernel) c_18
          refine lv_iload_n hx hb dX12_feel_20 rfl (lv_at hl 0 rfl) ?_
          refine lv_bipush (v := 64) hx hb dX12_feel_21 (by decide +kernel) ?_
          refine lv_icmp_gt (tgt := 30) hx hb dX12_feel_23 (dk_dq rfl) (fun c_31 => ?_) (fun c_31 => ?_)
          · as_aux_lemma =>
              have jc_31 := dk_gtc (k := 64) (by decide +kernel) c_31
              refine lv_iconst (v := 0) hx hb dX12_feel_30 (by decide +kernel) ?_
              refine lv_istore_n (lv' := [(2, .int 0), (1, .int x_1), (0, .ref (o + 0))]) hx hb dX12_feel_31 rfl hl (dk_dq rfl) rfl (fun ls hl => ?_)
              refine lv_iconst (v := 0) hx hb dX12_feel_32 (by decide +kernel) ?_
              refine lv_istore_n (lv' := [(3, .int 0), (2, .int 0), (1, .int x_1), (0, .ref (o + 0))]) hx hb dX12_feel_33 rfl hl (dk_dq rfl) rfl (fun ls hl => ?_)
              have J_36 : ((0 : Int32).toInt = 1 → (dk_felt (S.2.1 1) (x_1 : Int32).toInt ∧ 0 < (x_1 : Int32).toInt ∧ (x_1 : Int32).toInt ≤ 64 ∧ (x_1 : Int32).toInt % 4 = 0)) → (F_m_feel o S = F_m_feel_J5 o S_3) → ∀ (H : Heap) (locs : List Loc), va_P D vwCl (dg_w g shM o rfM S_3) H → va_S A s.heap H locs → ∀ ls : Array Slot, lv_has ls 4 [(3, .int 0), (2, .int 0), (1, .int x_1), (0, .ref (o + 0))] → W p l e ({ frames := 3, cells := 0, slots := 0, locals := 76 } : Room) s m args below meth c H locs 0 0 (MQ below (va_Qi (fun (r : Int32) S' => CM o S' ∧ dg_sm shM [(0, 1), (0, 69)] [28, 45, 46, 47] S S' ∧ ((-1) ≤ (r).toInt ∧ (r).toInt ≤ 16) ∧ (∃ y9 : Int32, S'.1 0 1 = .int y9 ∧ ((y9).toInt = 0)) ∧ (S' = (F_m_feel o S).1 ∧ r = (F_m_feel o S).2) ∧ True) (dg_B g D shM o rfM) A) args s 0 0 A) (F0 m 116 ls []) := by
                intro rel_0 hF_5 H locs hP hS ls hl
                refine lv_iload_n hx hb dX12_feel_116 rfl (lv_at hl 1 rfl) ?_
                refine lv_if_ne (tgt := 126) hx hb dX12_feel_117 (dk_dq rfl) (fun c => absurd (by decide +kernel) c) (fun _ => ?_)
                refine lv_aload_n hx hb dX12_feel_120 rfl (lv_at hl 3 rfl) ?_
                refine lv_iconst (v := 5) hx hb dX12_feel_121 (by decide +kernel) ?_
                have hz_37 : (5 : Int32).toInt = 5 := by decide +kernel
                refine dg_calli hS hA1 hA (va_runV (As := [.int 5]) (rest := []) F (c_m_refuses l g D o S_3 5 (by decide +kernel) I_3 H.size) (cwV 1 hts (bw_V wB_1079 wB_1080 wB_1081 wB_297 wB_1078) rfl rfl rfl (by decide +kernel) ⟨Nat.le_of_ble_eq_true rfl, Nat.le_of_ble_eq_true rfl⟩) (dg_preV sM_0 rfl K ST hP hS hA1 hA) rfl rfl hl.1 rfl (lv_room (Nat.le_of_ble_eq_true rfl)) dX12_feel_122 ⟨Nat.le_of_ble_eq_true rfl, Nat.le_of_ble_eq_true rfl⟩) (fun x_38 S_39 hw_39 H locs hP hS => ?_)
                obtain ⟨I_39, m_39, w_39_0, w_39_1, -⟩ := hw_39
                have M_39 := dg_sm.tr M_3 m_39 (dk_dq rfl) (dk_dq rfl)
                have w_39_0 : (-1) ≤ (x_38).toInt ∧ (x_38).toInt ≤ (-1) := w_39_0
                have hz_40 : (0 : Int32).toInt = 0 := by decide +kernel
                refine W.widen (k := 0) (n := 0) (Nat.le_of_ble_eq_true rfl) (Nat.le_of_ble_eq_true rfl) ?_
                exact dg_iret hx hb hr hlocks rfl hP hS ⟨I_39, M_39, (by omega), ⟨0, ((m_39.1 0 1 _ sM_0 (dk_dq rfl)).trans (dg_uF_at e_3)), (by omega)⟩, ⟨congrArg Prod.fst (Eq.symm (Eq.trans hF_5 (F_m_feel_p6 w_39_1.1 w_39_1.2))), congrArg Prod.snd (Eq.symm (Eq.trans hF_5 (F_m_feel_p6 w_39_1.1 w_39_1.2)))⟩, trivial⟩ dX12_feel_125
              have L_41 : ∀ (n : Nat), ((0 : Int32).toInt = 1 → (0 < (x_1 : Int32).toInt ∧ (x_1 : Int32).toInt ≤ 64 ∧ (x_1 : Int32).toInt % 4 = 0)) → ((0 : Int32).toInt % 4 = 0) → ((0 : Int32).toInt = 1 → dk_felt (S.2.1 1) (0 : Int32).toInt) → ((1604 - (0 : Int32).toInt).toNat < n) → (F_m_feel o S = lp (F_m_feel_B6 o S_3) (S, (0 : Int32)) n ()) → ∀ (H : Heap) (locs : List Loc), va_P D vwCl (dg_w g shM o rfM S_3) H → va_S A s.heap H locs → ∀ ls : Array Slot, lv_has ls 4 [(3, .int 0), (2, .int 0), (1, .int x_1), (0, .ref (o + 0))] → W p l e ({ frames := 3, cells := 0, slots := 0, locals := 76 } : Room) s m args below meth c H locs 0 0 (MQ below (va_Qi (fun (r : Int32) S' => CM o S' ∧ dg_sm shM [(0, 1), (0, 69)] [28, 45, 46, 47] S S' ∧ ((-1) ≤ (r).toInt ∧ (r).toInt ≤ 16) ∧ (∃ y9 : Int32, S'.1 0 1 = .int y9 ∧ ((y9).toInt = 0)) ∧ (S' = (F_m_feel o S).1 ∧ r = (F_m_feel o S).2) ∧ True) (dg_B g D shM o rfM) A) args s 0 0 A) (F0 m 34 ls []) := by
                intro n
                induction n with
                | zero =>
                  intro rel_0 rel_1 rel_2 hmu hF_6 H locs hP hS ls hl
                  omega
                | succ n ih =>
                  intro rel_0 rel_1 rel_2 hmu hF_6 H locs hP hS ls hl
                  refine lv_iload_n hx hb dX12_feel_34 rfl (lv_at hl 0 rfl) ?_
                  refine lv_iload_n hx hb dX12_feel_35 rfl (lv_at hl 2 rfl) ?_
                  refine lv_icmp_ge (tgt := 116) hx hb dX12_feel_36 (dk_dq rfl) (fun c => absurd c (fun z => absurd (dk_lec (k := 0) (by decide +kernel) z) (by omega))) (fun _ => ?_)
                  refine lv_iload_n hx hb dX12_feel_39 rfl (lv_at hl 1 rfl) ?_
                  refine lv_if_eq (tgt := 116) hx hb dX12_feel_40 (dk_dq rfl) (fun _ => ?_) (fun c => absurd (by decide +kernel) c)
                  exact J_36  (fun h9 => ⟨fun j hj => rel_2 (by omega) j (by omega), by omega, by omega, by omega⟩) (lp_r hF_6 (F_m_feel_p7)) _ _ hP hS _ (lv_sub hl [0, 1, 2, 3] rfl)
              have hz_42 : (0 : Int32).toInt = 0 := by decide +kernel
              have hz_43 : (0 : Int32).toInt = 0 := by decide +kernel
              exact L_41 ((1604 - (0 : Int32).toInt).toNat + 1)  (by omega) (by omega) (fun h9 => absurd h9 (by decide +kernel)) (by first | exact mu_lt hmu (by omega) (by omega) | omega) (F_m_feel_p8 (zI_eq f_x_1) e_3 c_4 ex_17 c_18 c_31) _ _ hP hS _ (lv_sub hl [0, 1, 2, 3] rfl)
          · as_aux_lemma =>
              have jc_31 := dk_ngtc (k := 64) (by decide +kernel) c_31
              refine lv_iconst (v := 1) hx hb dX12_feel_26 (by decide +kernel) ?_
              refine lv_goto (tgt := 31) hx hb dX12_feel_27 (dk_dq rfl) ?_
              refine lv_istore_n (lv' := [(2, .int 1), (1, .int x_1), (0, .ref (o + 0))]) hx hb dX12_feel_31 rfl hl (dk_dq rfl) rfl (fun ls hl => ?_)
              refine lv_iconst (v := 0) hx hb dX12_feel_32 (by decide +kernel) ?_
              refine lv_istore_n (lv' := [(3, .int 0), (2, .int 1), (1, .int x_1), (0, .ref (o + 0))]) hx hb dX12_feel_33 rfl hl (dk_dq rfl) rfl (fun ls hl => ?_)
              have J_247 : ∀ (x_136 : Int32) (x_137 : Int32), (0 ≤ (x_136).toInt ∧ (x_136).toInt ≤ 1604) → (0 ≤ (x_137).toInt ∧ (x_137).toInt ≤ 1) → ((x_137 : Int32).toInt = 1 → (dk_felt (S.2.1 1) (x_1 : Int32).toInt ∧ 0 < (x_1 : Int32).toInt ∧ (x_1 : Int32).toInt ≤ 64 ∧ (x_1 : Int32).toInt % 4 = 0)) → (F_m_feel o S = F_m_feel_J7 x_137 o S_3 x_1 S) → ∀ (H : Heap) (locs : List Loc), va_P D vwCl (dg_w g shM o rfM S_3) H → va_S A s.heap H locs → ∀ ls : Array Slot, lv_has ls 4 [(3, .int x_136), (2, .int x_137), (1, .int x_1), (0, .ref (o + 0))] → W p l e ({ frames := 3, cells := 0, slots := 0, locals := 76 } : Room) s m args below meth c H locs 0 0 (MQ below (va_Qi (fun (r : Int32) S' => CM o S' ∧ dg_sm shM [(0, 1), (0, 69)] [28, 45, 46, 47] S S' ∧ ((-1) ≤ (r).toInt ∧ (r).toInt ≤ 16) ∧ (∃ y9 : Int32, S'.1 0 1 = .int y9 ∧ ((y9).toInt = 0)) ∧ (S' = (F_m_feel o S).1 ∧ r = (F_m_feel o S).2) ∧ True) (dg_B g D shM o rfM) A) args s 0 0 A) (F0 m 116 ls []) := by
                as_aux_lemma =>
                  intro x_136 x_137 b_x_136 b_x_137 rel_0 hF_7 H locs hP hS ls hl
                  refine lv_iload_n hx hb dX12_feel_116 rfl (lv_at hl 1 rfl) ?_
                  refine lv_if_ne (tgt := 126) hx hb dX12_feel_117 (dk_dq rfl) (fun c_248 => ?_) (fun c_248 => ?_)
                  · as_aux_lemma =>
                      have jc_248 := dk_neqc (k := 0) (by decide +kernel) c_248
                      obtain ⟨hfl, hn1, hn2, hn3⟩ := rel_0 (by omega)
                      refine lv_aload_n hx hb dX12_feel_126 rfl (lv_at hl 3 rfl) ?_
                      refine lv_iload_n hx hb dX12_feel_127 rfl (lv_at hl 2 rfl) ?_
                      refine lv_iconst (v := 4) hx hb dX12_feel_128 (by decide +kernel) ?_
                      refine lv_idiv hx hb dX12_feel_129 (by decide +kernel) ?_
                      refine lv_topi (fun x_249 ex_249 => ?_)
                      have jx_249 : (x_249).toInt = (x_1).toInt / 4 := by rw [ex_249]; exact dk_divL (by omega) (by decide +kernel) (dk_dq rfl)
                      refine dg_put (ci := 12) (v := .int x_249) (ty := tyX12 69) (C := RX12) (T := TX12) (N := 77) hx hb hts (fun w h => bw_mem (wU_X12 w h)) tyX12 tyX12_ok nmX12 hown K hP hS hA1 sM_0 rfl 69 (dk_dq rfl) (hts _ (bw_mem wB_1193)) (fun _ h9 => h9) rfl (by decide +kernel) rfl rfl dX12_feel_130 (fun S_250 e_250 H locs hP hS => ?_)
                      have I_250 := dg_I.uFi (lo := 0) (hi := 16) I_3 e_250 sM_0 (by decide +kernel) (show 0 ≤ (x_249).toInt ∧ (x_249).toInt ≤ 16 from (by omega))
                      have M_250 := dg_sm.uF M_3 e_250 sM_0 (dk_dq rfl)
                      refine lv_iconst (v := 0) hx hb dX12_feel_133 (by decide +kernel) ?_
                      refine lv_istore_n (lv' := [(3, .int 0), (2, .int x_137), (1, .int x_1), (0, .ref (o + 0))]) hx hb dX12_feel_134 rfl hl (dk_dq rfl) rfl (fun ls hl => ?_)
                      have L_318 : ∀ (n : Nat) (x_316 : Int32), (0 ≤ (x_316).toInt ∧ (x_316).toInt ≤ 16) → ((17 - (x_316).toInt).toNat < n) → ∀ S_317 : dg_S, CM o S_317 → dg_sm shM [(0, 1), (0, 69)] [28, 45, 46, 47] S S_317 → S_317.1 0 1 = .int 0 → S_317.1 0 69 = .int x_249 → (F_m_feel o S = lp (F_m_feel_B8 x_249) (S, (0 : Int32)) n (x_316, S_317)) → ∀ (H : Heap) (locs : List Loc), va_P D vwCl (dg_w g shM o rfM S_317) H → va_S A s.heap H locs → ∀ ls : Array Slot, lv_has ls 4 [(3, .int x_316), (2, .int x_137), (1, .int x_1), (0, .ref (o + 0))] → W p l e ({ frames := 3, cells := 0, slots := 0, locals := 76 } : Room) s m args below meth c H locs 0 0 (MQ below (va_Qi (fun (r : Int32) S' => CM o S' ∧ dg_sm shM [(0, 1), (0, 69)] [28, 45, 46, 47] S S' ∧ ((-1) ≤ (r).toInt ∧ (r).toInt ≤ 16) ∧ (∃ y9 : Int32, S'.1 0 1 = .int y9 ∧ ((y9).toInt = 0)) ∧ (S' = (F_m_feel o S).1 ∧ r = (F_m_feel o S).2) ∧ True) (dg_B g D shM o rfM) A) args s 0 0 A) (F0 m 135 ls []) := by
                        as_aux_lemma =>
                          intro n
                          induction n with
                          | zero =>
                            intro x_316 b_x_316 hmu S_317 I_317 M_317 ff_317_1_0 ff_317_69_0 hF_8 H locs hP hS ls hl
                            omega
                          | succ n ih =>
                            as_aux_lemma =>
                              intro x_316 b_x_316 hmu S_317 I_317 M_317 ff_317_1_0 ff_317_69_0 hF_8 H locs hP hS ls hl
                              refine lv_iload_n hx hb dX12_feel_135 rfl (lv_at hl 0 rfl) ?_
                              refine lv_aload_n hx hb dX12_feel_136 rfl (lv_at hl 3 rfl) ?_
                              refine dg_get (C := RX12) (T := TX12) (N := 77) hx hb hts (fun w h => bw_mem (wU_X12 w h)) hown K hP sM_0 rfl 69 (dk_dq rfl) (hts _ (bw_mem wB_1193)) (fun _ h9 => h9) (v := .int x_249) ff_317_69_0 dX12_feel_137 ?_
                              refine lv_icmp_ge (tgt := 229) hx hb dX12_feel_140 (dk_dq rfl) (fun c_319 => ?_) (fun c_319 => ?_)
                              · have jc_319 := dk_gec (k := (x_249).toInt) rfl c_319
                                refine lv_aload_n hx hb dX12_feel_229 rfl (lv_at hl 3 rfl) ?_
                                refine dg_get (C := RX12) (T := TX12) (N := 77) hx hb hts (fun w h => bw_mem (wU_X12 w h)) hown K hP sM_0 rfl 69 (dk_dq rfl) (hts _ (bw_mem wB_1193)) (fun _ h9 => h9) (v := .int x_249) ff_317_69_0 dX12_feel_230 ?_
                                have hz_320 : (0 : Int32).toInt = 0 := by decide +kernel
                                refine W.widen (k := 0) (n := 0) (Nat.le_of_ble_eq_true rfl) (Nat.le_of_ble_eq_true rfl) ?_
                                exact dg_iret hx hb hr hlocks rfl hP hS ⟨I_317, M_317, (by omega), ⟨0, ff_317_1_0, (by omega)⟩, ⟨congrArg Prod.fst (Eq.symm (lp_r hF_8 (F_m_feel_p9 c_319))), congrArg Prod.snd (Eq.symm (lp_r hF_8 (F_m_feel_p9 c_319)))⟩, trivial⟩ dX12_feel_233
                              · as_aux_lemma =>
                                  have jc_319 := dk_ngec (k := (x_249).toInt) rfl c_319
                                  refine lv_aload_n hx hb dX12_feel_143 rfl (lv_at hl 3 rfl) ?_
                                  refine dg_get (C := RX12) (T := TX12) (N := 77) hx hb hts (fun w h => bw_mem (wU_X12 w h)) hown K hP sM_0 rfl 70 (dk_dq rfl) (hts _ (bw_mem wB_1275)) (fun _ h9 => h9) (v := .ref (o + 45)) (show S_317.1 0 70 = .ref (o + 45) from dg_I.rel (d := 45) I_317 sM_0 (by decide +kernel)) dX12_feel_144 ?_
                                  refine lv_iload_n hx hb dX12_feel_147 rfl (lv_at hl 0 rfl) ?_
                                  refine lv_aload_n hx hb dX12_feel_148 rfl (lv_at hl 3 rfl) ?_
                                  refine dg_get (C := RX12) (T := TX12) (N := 77) hx hb hts (fun w h => bw_mem (wU_X12 w h)) hown K hP sM_0 rfl 0 (dk_dq rfl) (hts _ (bw_mem wB_290)) (fun _ h9 => h9) (v := .ref (o + 1)) (show S_317.1 0 0 = .ref (o + 1) from dg_I.rel (d := 1) I_317 sM_0 (by decide +kernel)) dX12_feel_149 ?_
                                  refine lv_iconst (v := 4) hx hb dX12_feel_152 (by decide +kernel) ?_
                                  refine lv_iload_n hx hb dX12_feel_153 rfl (lv_at hl 0 rfl) ?_
                                  refine lv_imul hx hb dX12_feel_154 ?_
                                  refine lv_topi (fun x_321 ex_321 => ?_)
                                  have jx_321 : (x_321).toInt = 4 * (x_316).toInt := by rw [ex_321]; exact dk_mulT2 (by decide +kernel) rfl (by omega)
                                  have hin_322 : vp_in x_321 1800 := (dk_inv2 (by omega))
                                  refine dg_iald hx hb K hP sM_1 hin_322 dX12_feel_155 (fun x_323 ex_323 => ?_)
                                  have b_x_323 := dk_all_at (dg_I.row (lo := 0) (hi := 255) I_317 sM_1 (by decide +kernel)) hin_322 ex_323
                                  have hin_324 : vp_in x_316 16 := (dk_inv2 (by omega))
                                  refine dg_iast hx hb K hP hS hA1 sM_45 hin_324 dX12_feel_156 (fun S_325 e_325 H locs hP hS => ?_)
                                  have I_325 := dg_I.ufu (lo := 0) (hi := 255) I_317 e_325 sM_45 (by decide +kernel) (show 0 ≤ (x_323).toInt ∧ (x_323).toInt ≤ 255 from (by omega))
                                  have M_325 := dg_sm.uf M_317 e_325 sM_45 (dk_dq rfl)
                                  refine lv_aload_n hx hb dX12_feel_157 rfl (lv_at hl 3 rfl) ?_
                                  refine dg_get (C := RX12) (T := TX12) (N := 77) hx hb hts (fun w h => bw_mem (wU_X12 w h)) hown K hP sM_0 rfl 71 (dk_dq rfl) (hts _ (bw_mem wB_1276)) (fun _ h9 => h9) (v := .ref (o + 46)) (show S_325.1 0 71 = .ref (o + 46) from dg_I.rel (d := 46) I_325 sM_0 (by decide +kernel)) dX12_feel_158 ?_
                                  refine lv_iload_n hx hb dX12_feel_161 rfl (lv_at hl 0 rfl) ?_
                                  refine lv_bipush (v := 8) hx hb dX12_feel_162 (by decide +kernel) ?_
                                  refine lv_aload_n hx hb dX12_feel_164 rfl (lv_at hl 3 rfl) ?_
                                  refine dg_get (C := RX12) (T := TX12) (N := 77) hx hb hts (fun w h => bw_mem (wU_X12 w h)) hown K hP sM_0 rfl 0 (dk_dq rfl) (hts _ (bw_mem wB_290)) (fun _ h9 => h9) (v := .ref (o + 1)) (show S_325.1 0 0 = .ref (o + 1) from dg_I.rel (d := 1) I_325 sM_0 (by decide +kernel)) dX12_feel_165 ?_
                                  refine lv_iconst (v := 4) hx hb dX12_feel_168 (by decide +kernel) ?_
                                  refine lv_iload_n hx hb dX12_feel_169 rfl (lv_at hl 0 rfl) ?_
                                  refine lv_imul hx hb dX12_feel_170 ?_
                                  refine lv_topi (fun x_326 ex_326 => ?_)
                                  have jx_326 : (x_326).toInt = 4 * (x_316).toInt := by rw [ex_326]; exact dk_mulT2 (by decide +kernel) rfl (by omega)
                                  refine lv_iconst (v := 2) hx hb dX12_feel_171 (by decide +kernel) ?_
                                  refine lv_iadd hx hb dX12_feel_172 ?_
                                  refine lv_topi (fun x_327 ex_327 => ?_)
                                  have jx_327 : (x_327).toInt = (x_326).toInt + 2 := by rw [ex_327]; exact dk_addT2 rfl (by decide +kernel) (by omega)
                                  have hin_328 : vp_in x_327 1800 := (dk_inv2 (by omega))
                                  refine dg_iald hx hb K hP sM_1 hin_328 dX12_feel_173 (fun x_329 ex_329 => ?_)
                                  have b_x_329 := dk_all_at (dg_I.row (lo := 0) (hi := 255) I_325 sM_1 (by decide +kernel)) hin_328 ex_329
                                  have hfe_x_329 : (x_329).toInt ≤ 6 := dk_felt.at2 hfl (show x_329 = S.2.1 1 (x_327 : Int32).toNatClampNeg from by rw [ex_329, (((dg_uf_ne e_325 (dk_dq rfl)).trans (M_317.2 1 _ sM_1 (dk_dq rfl)).1))]) (j := (x_316).toInt) (by omega) (by omega) (by omega)
                                  refine lv_imul hx hb dX12_feel_174 ?_
                                  refine lv_topi (fun x_330 ex_330 => ?_)
                                  have jx_330 : (x_330).toInt = 8 * (x_329).toInt := by rw [ex_330]; exact dk_mulT2 (by decide +kernel) rfl (by omega)
                                  as_aux_lemma =>
                                    refine lv_aload_n hx hb dX12_feel_175 rfl (lv_at hl 3 rfl) ?_
                                    refine dg_get (C := RX12) (T := TX12) (N := 77) hx hb hts (fun w h => bw_mem (wU_X12 w h)) hown K hP sM_0 rfl 0 (dk_dq rfl) (hts _ (bw_mem wB_290)) (fun _ h9 => h9) (v := .ref (o + 1)) (show S_325.1 0 0 = .ref (o + 1) from dg_I.rel (d := 1) I_325 sM_0 (by decide +kernel)) dX12_feel_176 ?_
                                    refine lv_iconst (v := 4) hx hb dX12_feel_179 (by decide +kernel) ?_
                                    refine lv_iload_n hx hb dX12_feel_180 rfl (lv_at hl 0 rfl) ?_
                                    refine lv_imul hx hb dX12_feel_181 ?_
                                    refine lv_topi (fun x_331 ex_331 => ?_)
                                    have jx_331 : (x_331).toInt = 4 * (x_316).toInt := by rw [ex_331]; exact dk_mulT2 (by decide +kernel) rfl (by omega)
                                    refine lv_iconst (v := 1) hx hb dX12_feel_182 (by decide +kernel) ?_
                                    refine lv_iadd hx hb dX12_feel_183 ?_
                                    refine lv_topi (fun x_332 ex_332 => ?_)
                                    have jx_332 : (x_332).toInt = (x_331).toInt + 1 := by rw [ex_332]; exact dk_addT2 rfl (by decide +kernel) (by omega)
                                    have hin_333 : vp_in x_332 1800 := (dk_inv2 (by omega))
                                    refine dg_iald hx hb K hP sM_1 hin_333 dX12_feel_184 (fun x_334 ex_334 => ?_)
                                    have b_x_334 := dk_all_at (dg_I.row (lo := 0) (hi := 255) I_325 sM_1 (by decide +kernel)) hin_333 ex_334
                                    have hfe_x_334 : (x_334).toInt ≤ 6 := dk_felt.at1 hfl (show x_334 = S.2.1 1 (x_332 : Int32).toNatClampNeg from by rw [ex_334, (((dg_uf_ne e_325 (dk_dq rfl)).trans (M_317.2 1 _ sM_1 (dk_dq rfl)).1))]) (j := (x_316).toInt) (by omega) (by omega) (by omega)
                                    refine lv_iadd hx hb dX12_feel_185 ?_
                                    refine lv_topi (fun x_335 ex_335 => ?_)
                                    have jx_335 : (x_335).toInt = (x_330).toInt + (x_334).toInt := by rw [ex_335]; exact dk_addT2 rfl rfl (by omega)
                                    have hin_336 : vp_in x_316 16 := (dk_inv2 (by omega))
                                    refine dg_iast hx hb K hP hS hA1 sM_46 hin_336 dX12_feel_186 (fun S_337 e_337 H locs hP hS => ?_)
                                    have I_337 := dg_I.ufu (lo := 0) (hi := 63) I_325 e_337 sM_46 (by decide +kernel) (show 0 ≤ (x_335).toInt ∧ (x_335).toInt ≤ 63 from (by omega))
                                    have M_337 := dg_sm.uf M_325 e_337 sM_46 (dk_dq rfl)
                                    refine lv_aload_n hx hb dX12_feel_187 rfl (lv_at hl 3 rfl) ?_
                                    refine dg_get (C := RX12) (T := TX12) (N := 77) hx hb hts (fun w h => bw_mem (wU_X12 w h)) hown K hP sM_0 rfl 72 (dk_dq rfl) (hts _ (bw_mem wB_1277)) (fun _ h9 => h9) (v := .ref (o + 47)) (show S_337.1 0 72 = .ref (o + 47) from dg_I.rel (d := 47) I_337 sM_0 (by decide +kernel)) dX12_feel_188 ?_
                                    refine lv_iload_n hx hb dX12_feel_191 rfl (lv_at hl 0 rfl) ?_
                                    refine lv_aload_n hx hb dX12_feel_192 rfl (lv_at hl 3 rfl) ?_
                                    refine dg_get (C := RX12) (T := TX12) (N := 77) hx hb hts (fun w h => bw_mem (wU_X12 w h)) hown K hP sM_0 rfl 0 (dk_dq rfl) (hts _ (bw_mem wB_290)) (fun _ h9 => h9) (v := .ref (o + 1)) (show S_337.1 0 0 = .ref (o + 1) from dg_I.rel (d := 1) I_337 sM_0 (by decide +kernel)) dX12_feel_193 ?_
                                    refine lv_iconst (v := 4) hx hb dX12_feel_196 (by decide +kernel) ?_
                                    refine lv_iload_n hx hb dX12_feel_197 rfl (lv_at hl 0 rfl) ?_
                                    refine lv_imul hx hb dX12_feel_198 ?_
                                    refine lv_topi (fun x_338 ex_338 => ?_)
                                    have jx_338 : (x_338).toInt = 4 * (x_316).toInt := by rw [ex_338]; exact dk_mulT2 (by decide +kernel) rfl (by omega)
                                    refine lv_iconst (v := 3) hx hb dX12_feel_199 (by decide +kernel) ?_
                                    refine lv_iadd hx hb dX12_feel_200 ?_
                                    refine lv_topi (fun x_339 ex_339 => ?_)
                                    have jx_339 : (x_339).toInt = (x_338).toInt + 3 := by rw [ex_339]; exact dk_addT2 rfl (by decide +kernel) (by omega)
                                    have hin_340 : vp_in x_339 1800 := (dk_inv2 (by omega))
                                    refine dg_iald hx hb K hP sM_1 hin_340 dX12_feel_201 (fun x_341 ex_341 => ?_)
                                    have b_x_341 := dk_all_at (dg_I.row (lo := 0) (hi := 255) I_337 sM_1 (by decide +kernel)) hin_340 ex_341
                                    refine lv_sipush (v := 255) hx hb dX12_feel_202 (by decide +kernel) ?_
                                    as_aux_lemma =>
                                      refine lv_icmp_ne (tgt := 212) hx hb dX12_feel_205 (dk_dq rfl) (fun c_342 => ?_) (fun c_342 => ?_)
                                      · as_aux_lemma =>
                                          have jc_342 := dk_neqc (k := 255) (by decide +kernel) c_342
                                          refine lv_aload_n hx hb dX12_feel_212 rfl (lv_at hl 3 rfl) ?_
                                          refine dg_get (C := RX12) (T := TX12) (N := 77) hx hb hts (fun w h => bw_mem (wU_X12 w h)) hown K hP sM_0 rfl 0 (dk_dq rfl) (hts _ (bw_mem wB_290)) (fun _ h9 => h9) (v := .ref (o + 1)) (show S_337.1 0 0 = .ref (o + 1) from dg_I.rel (d := 1) I_337 sM_0 (by decide +kernel)) dX12_feel_213 ?_
                                          refine lv_iconst (v := 4) hx hb dX12_feel_216 (by decide +kernel) ?_
                                          refine lv_iload_n hx hb dX12_feel_217 rfl (lv_at hl 0 rfl) ?_
                                          refine lv_imul hx hb dX12_feel_218 ?_
                                          refine lv_topi (fun x_343 ex_343 => ?_)
                                          have jx_343 : (x_343).toInt = 4 * (x_316).toInt := by rw [ex_343]; exact dk_mulT2 (by decide +kernel) rfl (by omega)
                                          refine lv_iconst (v := 3) hx hb dX12_feel_219 (by decide +kernel) ?_
                                          refine lv_iadd hx hb dX12_feel_220 ?_
                                          refine lv_topi (fun x_344 ex_344 => ?_)
                                          have jx_344 : (x_344).toInt = (x_343).toInt + 3 := by rw [ex_344]; exact dk_addT2 rfl (by decide +kernel) (by omega)
                                          have hin_345 : vp_in x_344 1800 := (dk_inv2 (by omega))
                                          refine dg_iald hx hb K hP sM_1 hin_345 dX12_feel_221 (fun x_346 ex_346 => ?_)
                                          have b_x_346 := dk_all_at (dg_I.row (lo := 0) (hi := 255) I_337 sM_1 (by decide +kernel)) hin_345 ex_346
                                          have hin_347 : vp_in x_316 16 := (dk_inv2 (by omega))
                                          refine dg_iast hx hb K hP hS hA1 sM_47 hin_347 dX12_feel_222 (fun S_348 e_348 H locs hP hS => ?_)
                                          have I_348 := dg_I.uf0 I_337 e_348 sM_47 (by decide +kernel)
                                          have M_348 := dg_sm.uf M_337 e_348 sM_47 (dk_dq rfl)
                                          obtain ⟨x_349, ex_349⟩ : ∃ z, z = x_316 + 1 := ⟨_, rfl⟩
                                          have jx_349 : (x_349).toInt = (x_316).toInt + 1 := by rw [ex_349]; exact dk_addT2 rfl (by decide +kernel) (by omega)
                                          refine lv_iinc (v := x_349) (lv' := [(3, .int x_349), (2, .int x_137), (1, .int x_1), (0, .ref (o + 0))]) hx hb dX12_feel_223 hl (k := 0) rfl (by rw [ex_349]; rfl) (dk_dq rfl) rfl (fun ls hl => ?_)
                                          refine lv_goto (tgt := 135) hx hb dX12_feel_226 (dk_dq rfl) ?_
                                          exact ih x_349 (by omega) (by first | exact mu_lt hmu (by omega) (by omega) | omega) S_348 I_348 M_348 (((dg_uf_F e_348 0 1).trans ((dg_uf_F e_337 0 1).trans (dg_uf_F e_325 0 1))).trans ff_317_1_0) (((dg_uf_F e_348 0 69).trans ((dg_uf_F e_337 0 69).trans (dg_uf_F e_325 0 69))).trans ff_317_69_0) (lp_l hF_8 (F_m_feel_p10 c_319 ex_321 (Eq.symm ex_323.symm) e_325 ex_326 ex_327 (Eq.symm ex_329.symm) ex_330 ex_331 ex_332 (Eq.symm ex_334.symm) ex_335 e_337 ex_338 ex_339 (Eq.symm ex_341.symm) c_342 ex_343 ex_344 (Eq.symm ex_346.symm) e_348 ex_349)) _ _ hP hS _ (lv_sub hl [0, 1, 2, 3] rfl)
                                      · have jc_342 := dk_eqc (k := 255) (by decide +kernel) c_342
                                        refine lv_iconst (v := (-1)) hx hb dX12_feel_208 (by decide +kernel) ?_
                                        refine lv_goto (tgt := 222) hx hb dX12_feel_209 (dk_dq rfl) ?_
                                        have hin_350 : vp_in x_316 16 := (dk_inv2 (by omega))
                                        have hz_352 : (-1 : Int32).toInt = (-1) := by decide +kernel
                                        refine dg_iast hx hb K hP hS hA1 sM_47 hin_350 dX12_feel_222 (fun S_351 e_351 H locs hP hS => ?_)
                                        have I_351 := dg_I.uf0 I_337 e_351 sM_47 (by decide +kernel)
                                        have M_351 := dg_sm.uf M_337 e_351 sM_47 (dk_dq rfl)
                                        obtain ⟨x_353, ex_353⟩ : ∃ z, z = x_316 + 1 := ⟨_, rfl⟩
                                        have jx_353 : (x_353).toInt = (x_316).toInt + 1 := by rw [ex_353]; exact dk_addT2 rfl (by decide +kernel) (by omega)
                                        refine lv_iinc (v := x_353) (lv' := [(3, .int x_353), (2, .int x_137), (1, .int x_1), (0, .ref (o + 0))]) hx hb dX12_feel_223 hl (k := 0) rfl (by rw [ex_353]; rfl) (dk_dq rfl) rfl (fun ls hl => ?_)
                                        refine lv_goto (tgt := 135) hx hb dX12_feel_226 (dk_dq rfl) ?_
                                        exact ih x_353 (by omega) (by first | exact mu_lt hmu (by omega) (by omega) | omega) S_351 I_351 M_351 (((dg_uf_F e_351 0 1).trans ((dg_uf_F e_337 0 1).trans (dg_uf_F e_325 0 1))).trans ff_317_1_0) (((dg_uf_F e_351 0 69).trans ((dg_uf_F e_337 0 69).trans (dg_uf_F e_325 0 69))).trans ff_317_69_0) (lp_l hF_8 (F_m_feel_p11 c_319 ex_321 (Eq.symm ex_323.symm) e_325 ex_326 ex_327 (Eq.symm ex_329.symm) ex_330 ex_331 ex_332 (Eq.symm ex_334.symm) ex_335 e_337 ex_338 ex_339 (Eq.symm ex_341.symm) c_342 e_351 ex_353)) _ _ hP hS _ (lv_sub hl [0, 1, 2, 3] rfl)
                      have hz_354 : (0 : Int32).toInt = 0 := by decide +kernel
                      have hz_355 : (0 : Int32).toInt = 0 := by decide +kernel
                      exact L_318 ((17 - ((0 : Int32)).toInt).toNat + 1) 0 (by decide +kernel) (by first | exact mu_lt hmu (by omega) (by omega) | omega) S_250 I_250 M_250 ((dg_uF_ne e_250 (fun z => absurd z.2 (dk_dq rfl))).trans (dg_uF_at e_3)) (dg_uF_at e_250) (Eq.trans hF_7 (F_m_feel_p12 c_248 ex_249 e_250)) _ _ hP hS _ (lv_sub hl [0, 1, 2, 3] rfl)
                  · have jc_248 := dk_eqc (k := 0) (by decide +kernel) c_248
                    refine lv_aload_n hx hb dX12_feel_120 rfl (lv_at hl 3 rfl) ?_
                    refine lv_iconst (v := 5) hx hb dX12_feel_121 (by decide +kernel) ?_
                    have hz_356 : (5 : Int32).toInt = 5 := by decide +kernel
                    refine dg_calli hS hA1 hA (va_runV (As := [.int 5]) (rest := []) F (c_m_refuses l g D o S_3 5 (by decide +kernel) I_3 H.size) (cwV 1 hts (bw_V wB_1079 wB_1080 wB_1081 wB_297 wB_1078) rfl rfl rfl (by decide +kernel) ⟨Nat.le_of_ble_eq_true rfl, Nat.le_of_ble_eq_true rfl⟩) (dg_preV sM_0 rfl K ST hP hS hA1 hA) rfl rfl hl.1 rfl (lv_room (Nat.le_of_ble_eq_true rfl)) dX12_feel_122 ⟨Nat.le_of_ble_eq_true rfl, Nat.le_of_ble_eq_true rfl⟩) (fun x_357 S_358 hw_358 H locs hP hS => ?_)
                    obtain ⟨I_358, m_358, w_358_0, w_358_1, -⟩ := hw_358
                    have M_358 := dg_sm.tr M_3 m_358 (dk_dq rfl) (dk_dq rfl)
                    have w_358_0 : (-1) ≤ (x_357).toInt ∧ (x_357).toInt ≤ (-1) := w_358_0
                    have hz_359 : (0 : Int32).toInt = 0 := by decide +kernel
                    refine W.widen (k := 0) (n := 0) (Nat.le_of_ble_eq_true rfl) (Nat.le_of_ble_eq_true rfl) ?_
                    exact dg_iret hx hb hr hlocks rfl hP hS ⟨I_358, M_358, (by omega), ⟨0, ((m_358.1 0 1 _ sM_0 (dk_dq rfl)).trans (dg_uF_at e_3)), (by omega)⟩, ⟨congrArg Prod.fst (Eq.symm (Eq.trans hF_7 (F_m_feel_p13 c_248 w_358_1.1 w_358_1.2))), congrArg Prod.snd (Eq.symm (Eq.trans hF_7 (F_m_feel_p13 c_248 w_358_1.1 w_358_1.2)))⟩, trivial⟩ dX12_feel_125
              have L_419 : ∀ (n : Nat) (x_417 : Int32) (x_418 : Int32), (0 ≤ (x_417).toInt ∧ (x_417).toInt ≤ 1604) → (0 ≤ (x_418).toInt ∧ (x_418).toInt ≤ 1) → ((x_418 : Int32).toInt = 1 → (0 < (x_1 : Int32).toInt ∧ (x_1 : Int32).toInt ≤ 64 ∧ (x_1 : Int32).toInt % 4 = 0)) → ((x_417 : Int32).toInt % 4 = 0) → ((x_418 : Int32).toInt = 1 → dk_felt (S.2.1 1) (x_417 : Int32).toInt) → ((1604 - (x_417 : Int32).toInt).toNat < n) → (F_m_feel o S = lp (F_m_feel_B9 x_1 o S_3 S) (S, (0 : Int32)) n (x_417, x_418)) → ∀ (H : Heap) (locs : List Loc), va_P D vwCl (dg_w g shM o rfM S_3) H → va_S A s.heap H locs → ∀ ls : Array Slot, lv_has ls 4 [(3, .int x_417), (2, .int x_418), (1, .int x_1), (0, .ref (o + 0))] → W p l e ({ frames := 3, cells := 0, slots := 0, locals := 76 } : Room) s m args below meth c H locs 0 0 (MQ below (va_Qi (fun (r : Int32) S' => CM o S' ∧ dg_sm shM [(0, 1), (0, 69)] [28, 45, 46, 47] S S' ∧ ((-1) ≤ (r).toInt ∧ (r).toInt ≤ 16) ∧ (∃ y9 : Int32, S'.1 0 1 = .int y9 ∧ ((y9).toInt = 0)) ∧ (S' = (F_m_feel o S).1 ∧ r = (F_m_feel o S).2) ∧ True) (dg_B g D shM o rfM) A) args s 0 0 A) (F0 m 34 ls []) := by
                as_aux_lemma =>
                  intro n
                  induction n with
                  | zero =>
                    intro x_417 x_418 b_x_417 b_x_418 rel_0 rel_1 rel_2 hmu hF_9 H locs hP hS ls hl
                    omega
                  | succ n ih =>
                    as_aux_lemma =>
                      intro x_417 x_418 b_x_417 b_x_418 rel_0 rel_1 rel_2 hmu hF_9 H locs hP hS ls hl
                      refine lv_iload_n hx hb dX12_feel_34 rfl (lv_at hl 0 rfl) ?_
                      refine lv_iload_n hx hb dX12_feel_35 rfl (lv_at hl 2 rfl) ?_
                      refine lv_icmp_ge (tgt := 116) hx hb dX12_feel_36 (dk_dq rfl) (fun c_420 => ?_) (fun c_420 => ?_)
                      · have jc_420 := dk_gec (k := (x_1).toInt) rfl c_420
                        exact J_247 x_417 x_418 (by omega) (by omega) (fun h9 => ⟨fun j hj => rel_2 (by omega) j (by omega), by omega, by omega, by omega⟩) (lp_r hF_9 (F_m_feel_p14 c_420)) _ _ hP hS _ (lv_sub hl [0, 1, 2, 3] rfl)
                      · as_aux_lemma =>
                          have jc_420 := dk_ngec (k := (x_1).toInt) rfl c_420
                          refine lv_iload_n hx hb dX12_feel_39 rfl (lv_at hl 1 rfl) ?_
                          refine lv_if_eq (tgt := 116) hx hb dX12_feel_40 (dk_dq rfl) (fun c_421 => ?_) (fun c_421 => ?_)
                          · have jc_421 := dk_eqc (k := 0) (by decide +kernel) c_421
                            exact J_247 x_417 x_418 (by omega) (by omega) (fun h9 => ⟨fun j hj => rel_2 (by omega) j (by omega), by omega, by omega, by omega⟩) (lp_r hF_9 (F_m_feel_p15 c_420 c_421)) _ _ hP hS _ (lv_sub hl [0, 1, 2, 3] rfl)
                          · as_aux_lemma =>
                              have jc_421 := dk_neqc (k := 0) (by decide +kernel) c_421
                              refine lv_aload_n hx hb dX12_feel_43 rfl (lv_at hl 3 rfl) ?_
                              refine dg_get (C := RX12) (T := TX12) (N := 77) hx hb hts (fun w h => bw_mem (wU_X12 w h)) hown K hP sM_0 rfl 0 (dk_dq rfl) (hts _ (bw_mem wB_290)) (fun _ h9 => h9) (v := .ref (o + 1)) (show S_3.1 0 0 = .ref (o + 1) from dg_I.rel (d := 1) I_3 sM_0 (by decide +kernel)) dX12_feel_44 ?_
                              refine lv_iload_n hx hb dX12_feel_47 rfl (lv_at hl 0 rfl) ?_
                              have hin_422 : vp_in x_417 1800 := (dk_inv2 (by omega))
                              refine dg_iald hx hb K hP sM_1 hin_422 dX12_feel_48 (fun x_423 ex_423 => ?_)
                              have b_x_423 := dk_all_at (dg_I.row (lo := 0) (hi := 255) I_3 sM_1 (by decide +kernel)) hin_422 ex_423
                              refine lv_bipush (v := 30) hx hb dX12_feel_49 (by decide +kernel) ?_
                              refine lv_icmp_gt (tgt := 108) hx hb dX12_feel_51 (dk_dq rfl) (fun c_424 => ?_) (fun c_424 => ?_)
                              · have jc_424 := dk_gtc (k := 30) (by decide +kernel) c_424
                                refine lv_iconst (v := 0) hx hb dX12_feel_108 (by decide +kernel) ?_
                                refine lv_istore_n (lv' := [(2, .int 0), (3, .int x_417), (1, .int x_1), (0, .ref (o + 0))]) hx hb dX12_feel_109 rfl hl (dk_dq rfl) rfl (fun ls hl => ?_)
                                obtain ⟨x_425, ex_425⟩ : ∃ z, z = x_417 + 4 := ⟨_, rfl⟩
                                have jx_425 : (x_425).toInt = (x_417).toInt + 4 := by rw [ex_425]; exact dk_addT2 rfl (by decide +kernel) (by omega)
                                refine lv_iinc (v := x_425) (lv' := [(3, .int x_425), (2, .int 0), (1, .int x_1), (0, .ref (o + 0))]) hx hb dX12_feel_110 hl (k := 1) rfl (by rw [ex_425]; rfl) (dk_dq rfl) rfl (fun ls hl => ?_)
                                refine lv_goto (tgt := 34) hx hb dX12_feel_113 (dk_dq rfl) ?_
                                have hz_426 : (0 : Int32).toInt = 0 := by decide +kernel
                                have hz_427 : (0 : Int32).toInt = 0 := by decide +kernel
                                have hz_428 : (0 : Int32).toInt = 0 := by decide +kernel
                                have hz_429 : (0 : Int32).toInt = 0 := by decide +kernel
                                have hz_430 : (0 : Int32).toInt = 0 := by decide +kernel
                                have hz_431 : (0 : Int32).toInt = 0 := by decide +kernel
                                exact ih x_425 0 (by omega) (by decide +kernel) (by omega) (by omega) (fun h9 => absurd h9 (by decide +kernel)) (by first | exact mu_lt hmu (by omega) (by omega) | omega) (lp_l hF_9 (F_m_feel_p16 c_420 c_421 (Eq.symm ex_423.symm) c_424 ex_425)) _ _ hP hS _ (lv_sub hl [0, 1, 2, 3] rfl)
                              · as_aux_lemma =>
                                  have jc_424 := dk_ngtc (k := 30) (by decide +kernel) c_424
                                  refine lv_aload_n hx hb dX12_feel_54 rfl (lv_at hl 3 rfl) ?_
                                  refine lv_aload_n hx hb dX12_feel_55 rfl (lv_at hl 3 rfl) ?_
                                  refine dg_get (C := RX12) (T := TX12) (N := 77) hx hb hts (fun w h => bw_mem (wU_X12 w h)) hown K hP sM_0 rfl 0 (dk_dq rfl) (hts _ (bw_mem wB_290)) (fun _ h9 => h9) (v := .ref (o + 1)) (show S_3.1 0 0 = .ref (o + 1) from dg_I.rel (d := 1) I_3 sM_0 (by decide +kernel)) dX12_feel_56 ?_
                                  refine lv_iload_n hx hb dX12_feel_59 rfl (lv_at hl 0 rfl) ?_
                                  refine lv_iconst (v := 1) hx hb dX12_feel_60 (by decide +kernel) ?_
                                  refine lv_iadd hx hb dX12_feel_61 ?_
                                  refine lv_topi (fun x_432 ex_432 => ?_)
                                  have jx_432 : (x_432).toInt = (x_417).toInt + 1 := by rw [ex_432]; exact dk_addT2 rfl (by decide +kernel) (by omega)
                                  have hin_433 : vp_in x_432 1800 := (dk_inv2 (by omega))
                                  refine dg_iald hx hb K hP sM_1 hin_433 dX12_feel_62 (fun x_434 ex_434 => ?_)
                                  have b_x_434 := dk_all_at (dg_I.row (lo := 0) (hi := 255) I_3 sM_1 (by decide +kernel)) hin_433 ex_434
                                  refine lv_aload_n hx hb dX12_feel_63 rfl (lv_at hl 3 rfl) ?_
                                  refine dg_get (C := RX12) (T := TX12) (N := 77) hx hb hts (fun w h => bw_mem (wU_X12 w h)) hown K hP sM_0 rfl 0 (dk_dq rfl) (hts _ (bw_mem wB_290)) (fun _ h9 => h9) (v := .ref (o + 1)) (show S_3.1 0 0 = .ref (o + 1) from dg_I.rel (d := 1) I_3 sM_0 (by decide +kernel)) dX12_feel_64 ?_
                                  refine lv_iload_n hx hb dX12_feel_67 rfl (lv_at hl 0 rfl) ?_
                                  refine lv_iconst (v := 2) hx hb dX12_feel_68 (by decide +kernel) ?_
                                  refine lv_iadd hx hb dX12_feel_69 ?_
                                  refine lv_topi (fun x_435 ex_435 => ?_)
                                  have jx_435 : (x_435).toInt = (x_417).toInt + 2 := by rw [ex_435]; exact dk_addT2 rfl (by decide +kernel) (by omega)
                                  have hin_436 : vp_in x_435 1800 := (dk_inv2 (by omega))
                                  refine dg_iald hx hb K hP sM_1 hin_436 dX12_feel_70 (fun x_437 ex_437 => ?_)
                                  have b_x_437 := dk_all_at (dg_I.row (lo := 0) (hi := 255) I_3 sM_1 (by decide +kernel)) hin_436 ex_437
                                  obtain ⟨x_438, f_x_438, b_x_438⟩ := dg_I.int (i := 0) (k := 13) (lo := 0) (hi := 1) I sM_0 (by decide +kernel)
                                  obtain ⟨x_439, f_x_439, b_x_439⟩ := dg_I.int (i := 0) (k := 47) (lo := 0) (hi := 1) I sM_0 (by decide +kernel)
                                  obtain ⟨x_440, f_x_440⟩ : ∃ x, S_3.2.1 2 (x_438 : Int32).toNatClampNeg = x := ⟨_, rfl⟩
                                  have hin_441 : vp_in (x_438 : Int32) 2 := (dk_inv2 (by omega))
                                  have b_x_440 := dk_all_at (dg_I.row (lo := 0) (hi := 9999) I_3 sM_2 (by decide +kernel)) hin_441 f_x_440.symm
                                  have ex_440 := f_x_440.symm
                                  have zb_x_440 : (x_440).toInt ≤ 7 ∧ ((x_439 : Int32).toInt = 1 → 3 ≤ (x_440).toInt) := by rw [ex_440]; exact ⟨((ZBM.keep ZB (dg_sm.uF (WF := [(0, 1)]) (WA := []) dg_sm.rf e_3 sM_0 (dk_dq rfl)) (dk_dq rfl) (dk_dq rfl) (dk_dq rfl) (dk_dq rfl) (dk_dq rfl)) x_438 x_439 ((dg_uF_ne e_3 (fun z => absurd z.2 (dk_dq rfl))).trans f_x_438) ((dg_uF_ne e_3 (fun z => absurd z.2 (dk_dq rfl))).trans f_x_439)).1, fun h9 => (((ZBM.keep ZB (dg_sm.uF (WF := [(0, 1)]) (WA := []) dg_sm.rf e_3 sM_0 (dk_dq rfl)) (dk_dq rfl) (dk_dq rfl) (dk_dq rfl) (dk_dq rfl) (dk_dq rfl)) x_438 x_439 ((dg_uF_ne e_3 (fun z => absurd z.2 (dk_dq rfl))).trans f_x_438) ((dg_uF_ne e_3 (fun z => absurd z.2 (dk_dq rfl))).trans f_x_439)).2.2.2 h9).1⟩
                                  obtain ⟨x_442, f_x_442⟩ : ∃ x, S_3.2.1 3 (x_438 : Int32).toNatClampNeg = x := ⟨_, rfl⟩
                                  have hin_443 : vp_in (x_438 : Int32) 2 := (dk_inv2 (by omega))
                                  have b_x_442 := dk_all_at (dg_I.row (lo := 0) (hi := 9999) I_3 sM_3 (by decide +kernel)) hin_443 f_x_442.symm
                                  have ex_442 := f_x_442.symm
                                  have zb_x_442 : (x_442).toInt ≤ 7 ∧ ((x_439 : Int32).toInt = 1 → 3 ≤ (x_442).toInt) := by rw [ex_442]; exact ⟨((ZBM.keep ZB (dg_sm.uF (WF := [(0, 1)]) (WA := []) dg_sm.rf e_3 sM_0 (dk_dq rfl)) (dk_dq rfl) (dk_dq rfl) (dk_dq rfl) (dk_dq rfl) (dk_dq rfl)) x_438 x_439 ((dg_uF_ne e_3 (fun z => absurd z.2 (dk_dq rfl))).trans f_x_438) ((dg_uF_ne e_3 (fun z => absurd z.2 (dk_dq rfl))).trans f_x_439)).2.1, fun h9 => (((ZBM.keep ZB (dg_sm.uF (WF := [(0, 1)]) (WA := []) dg_sm.rf e_3 sM_0 (dk_dq rfl)) (dk_dq rfl) (dk_dq rfl) (dk_dq rfl) (dk_dq rfl) (dk_dq rfl)) x_438 x_439 ((dg_uF_ne e_3 (fun z => absurd z.2 (dk_dq rfl))).trans f_x_438) ((dg_uF_ne e_3 (fun z => absurd z.2 (dk_dq rfl))).trans f_x_439)).2.2.2 h9).2⟩
                                  refine dg_calli hS hA1 hA (va_runV (As := [.int x_434, .int x_437]) (rest := []) F (c_m_isCell l g D o S_3 x_434 x_437 x_438 ((dg_uF_ne e_3 (fun z => absurd z.2 (dk_dq rfl))).trans f_x_438) (by omega) x_439 ((dg_uF_ne e_3 (fun z => absurd z.2 (dk_dq rfl))).trans f_x_439) (by omega) x_440 f_x_440 (by omega) x_442 f_x_442 (by omega) (ZBM.keep ZB (dg_sm.uF (WF := [(0, 1)]) (WA := []) dg_sm.rf e_3 sM_0 (dk_dq rfl)) (dk_dq rfl) (dk_dq rfl) (dk_dq rfl) (dk_dq rfl) (dk_dq rfl)) I_3 H.size) (cwV 2 hts (bw_V wB_1087 wB_1088 wB_1089 wB_297 wB_1086) rfl rfl rfl (by decide +kernel) ⟨Nat.le_of_ble_eq_true rfl, Nat.le_of_ble_eq_true rfl⟩) (dg_preV sM_0 rfl K ST hP hS hA1 hA) rfl rfl hl.1 rfl (lv_room (Nat.le_of_ble_eq_true rfl)) dX12_feel_71 ⟨Nat.le_of_ble_eq_true rfl, Nat.le_of_ble_eq_true rfl⟩) (fun x_444 S_445 hw_445 H locs hP hS => ?_)
                                  rw [hw_445.1] at hP
                                  obtain ⟨hq_445, w_445_0, w_445_1, w_445_2, w_445_3, -⟩ := hw_445
                                  have w_445_0 : 0 ≤ (x_444).toInt ∧ (x_444).toInt ≤ 1 := w_445_0
                                  have w_445_1 : (x_444).toInt = 1 → (0 ≤ (x_434).toInt ∧ (x_434).toInt ≤ 6 ∧ 0 ≤ (x_437).toInt ∧ (x_437).toInt ≤ 6) := w_445_1
                                  have w_445_2 : (x_444).toInt = 1 ↔ ((x_439).toInt = 1 ∧ 0 ≤ (x_434).toInt ∧ (x_434).toInt < (x_440).toInt ∧ 0 ≤ (x_437).toInt ∧ (x_437).toInt < (x_442).toInt) := w_445_2
                                  as_aux_lemma =>
                                    refine lv_if_eq (tgt := 108) hx hb dX12_feel_74 (dk_dq rfl) (fun c_446 => ?_) (fun c_446 => ?_)
                                    · have jc_446 := dk_eqc (k := 0) (by decide +kernel) c_446
                                      refine lv_iconst (v := 0) hx hb dX12_feel_108 (by decide +kernel) ?_
                                      refine lv_istore_n (lv' := [(2, .int 0), (3, .int x_417), (1, .int x_1), (0, .ref (o + 0))]) hx hb dX12_feel_109 rfl hl (dk_dq rfl) rfl (fun ls hl => ?_)
                                      obtain ⟨x_447, ex_447⟩ : ∃ z, z = x_417 + 4 := ⟨_, rfl⟩
                                      have jx_447 : (x_447).toInt = (x_417).toInt + 4 := by rw [ex_447]; exact dk_addT2 rfl (by decide +kernel) (by omega)
                                      refine lv_iinc (v := x_447) (lv' := [(3, .int x_447), (2, .int 0), (1, .int x_1), (0, .ref (o + 0))]) hx hb dX12_feel_110 hl (k := 1) rfl (by rw [ex_447]; rfl) (dk_dq rfl) rfl (fun ls hl => ?_)
                                      refine lv_goto (tgt := 34) hx hb dX12_feel_113 (dk_dq rfl) ?_
                                      have hz_448 : (0 : Int32).toInt = 0 := by decide +kernel
                                      have hz_449 : (0 : Int32).toInt = 0 := by decide +kernel
                                      have hz_450 : (0 : Int32).toInt = 0 := by decide +kernel
                                      have hz_451 : (0 : Int32).toInt = 0 := by decide +kernel
                                      have hz_452 : (0 : Int32).toInt = 0 := by decide +kernel
                                      have hz_453 : (0 : Int32).toInt = 0 := by decide +kernel
                                      exact ih x_447 0 (by omega) (by decide +kernel) (by omega) (by omega) (fun h9 => absurd h9 (by decide +kernel)) (by first | exact mu_lt hmu (by omega) (by omega) | omega) (lp_l hF_9 (F_m_feel_p17 c_420 c_421 (Eq.symm ex_423.symm) c_424 ex_432 (Eq.symm ex_434.symm) ex_435 (Eq.symm ex_437.symm) w_445_3 c_446 ex_447)) _ _ hP hS _ (lv_sub hl [0, 1, 2, 3] rfl)
                                    · as_aux_lemma =>
                                        have jc_446 := dk_neqc (k := 0) (by decide +kernel) c_446
                                        refine lv_aload_n hx hb dX12_feel_77 rfl (lv_at hl 3 rfl) ?_
                                        refine dg_get (C := RX12) (T := TX12) (N := 77) hx hb hts (fun w h => bw_mem (wU_X12 w h)) hown K hP sM_0 rfl 0 (dk_dq rfl) (hts _ (bw_mem wB_290)) (fun _ h9 => h9) (v := .ref (o + 1)) (show S_3.1 0 0 = .ref (o + 1) from dg_I.rel (d := 1) I_3 sM_0 (by decide +kernel)) dX12_feel_78 ?_
                                        refine lv_iload_n hx hb dX12_feel_81 rfl (lv_at hl 0 rfl) ?_
                                        refine lv_iconst (v := 3) hx hb dX12_feel_82 (by decide +kernel) ?_
                                        refine lv_iadd hx hb dX12_feel_83 ?_
                                        refine lv_topi (fun x_454 ex_454 => ?_)
                                        have jx_454 : (x_454).toInt = (x_417).toInt + 3 := by rw [ex_454]; exact dk_addT2 rfl (by decide +kernel) (by omega)
                                        have hin_455 : vp_in x_454 1800 := (dk_inv2 (by omega))
                                        refine dg_iald hx hb K hP sM_1 hin_455 dX12_feel_84 (fun x_456 ex_456 => ?_)
                                        have b_x_456 := dk_all_at (dg_I.row (lo := 0) (hi := 255) I_3 sM_1 (by decide +kernel)) hin_455 ex_456
                                        refine lv_bipush (v := 9) hx hb dX12_feel_85 (by decide +kernel) ?_
                                        refine lv_icmp_le (tgt := 104) hx hb dX12_feel_87 (dk_dq rfl) (fun c_457 => ?_) (fun c_457 => ?_)
                                        · have jc_457 := dk_lec (k := 9) (by decide +kernel) c_457
                                          refine lv_iconst (v := 1) hx hb dX12_feel_104 (by decide +kernel) ?_
                                          refine lv_goto (tgt := 109) hx hb dX12_feel_105 (dk_dq rfl) ?_
                                          refine lv_istore_n (lv' := [(2, .int 1), (3, .int x_417), (1, .int x_1), (0, .ref (o + 0))]) hx hb dX12_feel_109 rfl hl (dk_dq rfl) rfl (fun ls hl => ?_)
                                          obtain ⟨x_458, ex_458⟩ : ∃ z, z = x_417 + 4 := ⟨_, rfl⟩
                                          have jx_458 : (x_458).toInt = (x_417).toInt + 4 := by rw [ex_458]; exact dk_addT2 rfl (by decide +kernel) (by omega)
                                          refine lv_iinc (v := x_458) (lv' := [(3, .int x_458), (2, .int 1), (1, .int x_1), (0, .ref (o + 0))]) hx hb dX12_feel_110 hl (k := 1) rfl (by rw [ex_458]; rfl) (dk_dq rfl) rfl (fun ls hl => ?_)
                                          refine lv_goto (tgt := 34) hx hb dX12_feel_113 (dk_dq rfl) ?_
                                          have hz_459 : (1 : Int32).toInt = 1 := by decide +kernel
                                          have hz_460 : (1 : Int32).toInt = 1 := by decide +kernel
                                          have hz_461 : (1 : Int32).toInt = 1 := by decide +kernel
                                          have hz_462 : (1 : Int32).toInt = 1 := by decide +kernel
                                          have hz_463 : (1 : Int32).toInt = 1 := by decide +kernel
                                          have hz_464 : (1 : Int32).toInt = 1 := by decide +kernel
                                          exact ih x_458 1 (by omega) (by decide +kernel) (by omega) (by omega) (fun _ => dk_felt.more (rel_2 (by omega)) (by omega) (by omega) (by omega) (by omega) (show x_434 = S.2.1 1 (x_432 : Int32).toNatClampNeg from by rw [ex_434, ((dg_uF_f e_3 1))]) (show x_437 = S.2.1 1 (x_435 : Int32).toNatClampNeg from by rw [ex_437, ((dg_uF_f e_3 1))]) (by omega) (by omega) (by omega)) (by first | exact mu_lt hmu (by omega) (by omega) | omega) (lp_l hF_9 (F_m_feel_p18 c_420 c_421 (Eq.symm ex_423.symm) c_424 ex_432 (Eq.symm ex_434.symm) ex_435 (Eq.symm ex_437.symm) w_445_3 c_446 ex_454 (Eq.symm ex_456.symm) c_457 ex_458)) _ _ hP hS _ (lv_sub hl [0, 1, 2, 3] rfl)
                                        · as_aux_lemma =>
                                            have jc_457 := dk_nlec (k := 9) (by decide +kernel) c_457
                                            refine lv_aload_n hx hb dX12_feel_90 rfl (lv_at hl 3 rfl) ?_
                                            refine dg_get (C := RX12) (T := TX12) (N := 77) hx hb hts (fun w h => bw_mem (wU_X12 w h)) hown K hP sM_0 rfl 0 (dk_dq rfl) (hts _ (bw_mem wB_290)) (fun _ h9 => h9) (v := .ref (o + 1)) (show S_3.1 0 0 = .ref (o + 1) from dg_I.rel (d := 1) I_3 sM_0 (by decide +kernel)) dX12_feel_91 ?_
                                            refine lv_iload_n hx hb dX12_feel_94 rfl (lv_at hl 0 rfl) ?_
                                            refine lv_iconst (v := 3) hx hb dX12_feel_95 (by decide +kernel) ?_
                                            refine lv_iadd hx hb dX12_feel_96 ?_
                                            refine lv_topi (fun x_465 ex_465 => ?_)
                                            have jx_465 : (x_465).toInt = (x_417).toInt + 3 := by rw [ex_465]; exact dk_addT2 rfl (by decide +kernel) (by omega)
                                            have hin_466 : vp_in x_465 1800 := (dk_inv2 (by omega))
                                            refine dg_iald hx hb K hP sM_1 hin_466 dX12_feel_97 (fun x_467 ex_467 => ?_)
                                            have b_x_467 := dk_all_at (dg_I.row (lo := 0) (hi := 255) I_3 sM_1 (by decide +kernel)) hin_466 ex_467
                                            refine lv_sipush (v := 255) hx hb dX12_feel_98 (by decide +kernel) ?_
                                            refine lv_icmp_ne (tgt := 108) hx hb dX12_feel_101 (dk_dq rfl) (fun c_468 => ?_) (fun c_468 => ?_)
                                            · have jc_468 := dk_neqc (k := 255) (by decide +kernel) c_468
                                              refine lv_iconst (v := 0) hx hb dX12_feel_108 (by decide +kernel) ?_
                                              refine lv_istore_n (lv' := [(2, .int 0), (3, .int x_417), (1, .int x_1), (0, .ref (o + 0))]) hx hb dX12_feel_109 rfl hl (dk_dq rfl) rfl (fun ls hl => ?_)
                                              obtain ⟨x_469, ex_469⟩ : ∃ z, z = x_417 + 4 := ⟨_, rfl⟩
                                              have jx_469 : (x_469).toInt = (x_417).toInt + 4 := by rw [ex_469]; exact dk_addT2 rfl (by decide +kernel) (by omega)
                                              refine lv_iinc (v := x_469) (lv' := [(3, .int x_469), (2, .int 0), (1, .int x_1), (0, .ref (o + 0))]) hx hb dX12_feel_110 hl (k := 1) rfl (by rw [ex_469]; rfl) (dk_dq rfl) rfl (fun ls hl => ?_)
                                              refine lv_goto (tgt := 34) hx hb dX12_feel_113 (dk_dq rfl) ?_
                                              have hz_470 : (0 : Int32).toInt = 0 := by decide +kernel
                                              have hz_471 : (0 : Int32).toInt = 0 := by decide +kernel
                                              have hz_472 : (0 : Int32).toInt = 0 := by decide +kernel
                                              have hz_473 : (0 : Int32).toInt = 0 := by decide +kernel
                                              have hz_474 : (0 : Int32).toInt = 0 := by decide +kernel
                                              have hz_475 : (0 : Int32).toInt = 0 := by decide +kernel
                                              exact ih x_469 0 (by omega) (by decide +kernel) (by omega) (by omega) (fun h9 => absurd h9 (by decide +kernel)) (by first | exact mu_lt hmu (by omega) (by omega) | omega) (lp_l hF_9 (F_m_feel_p19 c_420 c_421 (Eq.symm ex_423.symm) c_424 ex_432 (Eq.symm ex_434.symm) ex_435 (Eq.symm ex_437.symm) w_445_3 c_446 ex_454 (Eq.symm ex_456.symm) c_457 ex_465 (Eq.symm ex_467.symm) c_468 ex_469)) _ _ hP hS _ (lv_sub hl [0, 1, 2, 3] rfl)
                                            · have jc_468 := dk_eqc (k := 255) (by decide +kernel) c_468
                                              refine lv_iconst (v := 1) hx hb dX12_feel_104 (by decide +kernel) ?_
                                              refine lv_goto (tgt := 109) hx hb dX12_feel_105 (dk_dq rfl) ?_
                                              refine lv_istore_n (lv' := [(2, .int 1), (3, .int x_417), (1, .int x_1), (0, .ref (o + 0))]) hx hb dX12_feel_109 rfl hl (dk_dq rfl) rfl (fun ls hl => ?_)
                                              obtain ⟨x_476, ex_476⟩ : ∃ z, z = x_417 + 4 := ⟨_, rfl⟩
                                              have jx_476 : (x_476).toInt = (x_417).toInt + 4 := by rw [ex_476]; exact dk_addT2 rfl (by decide +kernel) (by omega)
                                              refine lv_iinc (v := x_476) (lv' := [(3, .int x_476), (2, .int 1), (1, .int x_1), (0, .ref (o + 0))]) hx hb dX12_feel_110 hl (k := 1) rfl (by rw [ex_476]; rfl) (dk_dq rfl) rfl (fun ls hl => ?_)
                                              refine lv_goto (tgt := 34) hx hb dX12_feel_113 (dk_dq rfl) ?_
                                              have hz_477 : (1 : Int32).toInt = 1 := by decide +kernel
                                              have hz_478 : (1 : Int32).toInt = 1 := by decide +kernel
                                              have hz_479 : (1 : Int32).toInt = 1 := by decide +kernel
                                              have hz_480 : (1 : Int32).toInt = 1 := by decide +kernel
                                              have hz_481 : (1 : Int32).toInt = 1 := by decide +kernel
                                              have hz_482 : (1 : Int32).toInt = 1 := by decide +kernel
                                              exact ih x_476 1 (by omega) (by decide +kernel) (by omega) (by omega) (fun _ => dk_felt.more (rel_2 (by omega)) (by omega) (by omega) (by omega) (by omega) (show x_434 = S.2.1 1 (x_432 : Int32).toNatClampNeg from by rw [ex_434, ((dg_uF_f e_3 1))]) (show x_437 = S.2.1 1 (x_435 : Int32).toNatClampNeg from by rw [ex_437, ((dg_uF_f e_3 1))]) (by omega) (by omega) (by omega)) (by first | exact mu_lt hmu (by omega) (by omega) | omega) (lp_l hF_9 (F_m_feel_p20 c_420 c_421 (Eq.symm ex_423.symm) c_424 ex_432 (Eq.symm ex_434.symm) ex_435 (Eq.symm ex_437.symm) w_445_3 c_446 ex_454 (Eq.symm ex_456.symm) c_457 ex_465 (Eq.symm ex_467.symm) c_468 ex_476)) _ _ hP hS _ (lv_sub hl [0, 1, 2, 3] rfl)
              have hz_483 : (0 : Int32).toInt = 0 := by decide +kernel
              have hz_484 : (1 : Int32).toInt = 1 := by decide +kernel
              have hz_485 : (0 : Int32).toInt = 0 := by decide +kernel
              have hz_486 : (1 : Int32).toInt = 1 := by decide +kernel
              have hz_487 : (1 : Int32).toInt = 1 := by decide +kernel
              have hz_488 : (0 : Int32).toInt = 0 := by decide +kernel
              have hz_489 : (0 : Int32).toInt = 0 := by decide +kernel
              have hz_490 : (1 : Int32).toInt = 1 := by decide +kernel
              have hz_491 : (0 : Int32).toInt = 0 := by decide +kernel
              have hz_492 : (1 : Int32).toInt = 1 := by decide +kernel
              have hz_493 : (0 : Int32).toInt = 0 := by decide +kernel
              have hz_494 : (1 : Int32).toInt = 1 := by decide +kernel
              exact L_419 ((1604 - ((0 : Int32) : Int32).toInt).toNat + 1) 0 1 (by decide +kernel) (by decide +kernel) (by omega) (by omega) (fun _ => dk_felt.none (by omega)) (by first | exact mu_lt hmu (by omega) (by omega) | omega) (F_m_feel_p21 (zI_eq f_x_1) e_3 c_4 ex_17 c_18 c_31) _ _ hP hS _ (lv_sub hl [0, 1, 2, 3] rfl)
      