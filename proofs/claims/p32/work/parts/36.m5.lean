/-! 36.m5.lean.txt -/
theorem dX12_begin_0 : decode cX12_begin 0 = .ok (.aload_n 0, 1) := by decide +kernel
theorem dX12_begin_1 : decode cX12_begin 1 = .ok (.getfield 162, 3) := by decide +kernel
theorem dX12_begin_4 : decode cX12_begin 4 = .ok (.iconst 0, 1) := by decide +kernel
theorem dX12_begin_5 : decode cX12_begin 5 = .ok (.iconst 0, 1) := by decide +kernel
theorem dX12_begin_6 : decode cX12_begin 6 = .ok (.iastore, 1) := by decide +kernel
theorem dX12_begin_7 : decode cX12_begin 7 = .ok (.aload_n 0, 1) := by decide +kernel
theorem dX12_begin_8 : decode cX12_begin 8 = .ok (.getfield 165, 3) := by decide +kernel
theorem dX12_begin_11 : decode cX12_begin 11 = .ok (.iconst 0, 1) := by decide +kernel
theorem dX12_begin_12 : decode cX12_begin 12 = .ok (.iconst 0, 1) := by decide +kernel
theorem dX12_begin_13 : decode cX12_begin 13 = .ok (.iastore, 1) := by decide +kernel
theorem dX12_begin_14 : decode cX12_begin 14 = .ok (.aload_n 0, 1) := by decide +kernel
theorem dX12_begin_15 : decode cX12_begin 15 = .ok (.getfield 174, 3) := by decide +kernel
theorem dX12_begin_18 : decode cX12_begin 18 = .ok (.iconst 0, 1) := by decide +kernel
theorem dX12_begin_19 : decode cX12_begin 19 = .ok (.iconst 0, 1) := by decide +kernel
theorem dX12_begin_20 : decode cX12_begin 20 = .ok (.iastore, 1) := by decide +kernel
theorem dX12_begin_21 : decode cX12_begin 21 = .ok (.aload_n 0, 1) := by decide +kernel
theorem dX12_begin_22 : decode cX12_begin 22 = .ok (.getfield 177, 3) := by decide +kernel
theorem dX12_begin_25 : decode cX12_begin 25 = .ok (.iconst 0, 1) := by decide +kernel
theorem dX12_begin_26 : decode cX12_begin 26 = .ok (.iconst 0, 1) := by decide +kernel
theorem dX12_begin_27 : decode cX12_begin 27 = .ok (.iastore, 1) := by decide +kernel
theorem dX12_begin_28 : decode cX12_begin 28 = .ok (.iconst 0, 1) := by decide +kernel
theorem dX12_begin_29 : decode cX12_begin 29 = .ok (.istore_n 1, 1) := by decide +kernel
theorem dX12_begin_30 : decode cX12_begin 30 = .ok (.iload_n 1, 1) := by decide +kernel
theorem dX12_begin_31 : decode cX12_begin 31 = .ok (.bipush 64, 2) := by decide +kernel
theorem dX12_begin_33 : decode cX12_begin 33 = .ok (.if_icmp .ge 53, 3) := by decide +kernel
theorem dX12_begin_36 : decode cX12_begin 36 = .ok (.aload_n 0, 1) := by decide +kernel
theorem dX12_begin_37 : decode cX12_begin 37 = .ok (.getfield 168, 3) := by decide +kernel
theorem dX12_begin_40 : decode cX12_begin 40 = .ok (.iload_n 1, 1) := by decide +kernel
theorem dX12_begin_41 : decode cX12_begin 41 = .ok (.iload_n 1, 1) := by decide +kernel
theorem dX12_begin_42 : decode cX12_begin 42 = .ok (.aload_n 0, 1) := by decide +kernel
theorem dX12_begin_43 : decode cX12_begin 43 = .ok (.getfield 60, 3) := by decide +kernel
theorem dX12_begin_46 : decode cX12_begin 46 = .ok (.aload_n 0, 1) := by decide +kernel
theorem dX12_begin_47 : decode cX12_begin 47 = .ok (.getfield 51, 3) := by decide +kernel
theorem dX12_begin_50 : decode cX12_begin 50 = .ok (.iaload, 1) := by decide +kernel
theorem dX12_begin_51 : decode cX12_begin 51 = .ok (.if_icmp .ne 7, 3) := by decide +kernel
theorem dX12_begin_54 : decode cX12_begin 54 = .ok (.iconst (-1), 1) := by decide +kernel
theorem dX12_begin_55 : decode cX12_begin 55 = .ok (.goto 17, 3) := by decide +kernel
theorem dX12_begin_58 : decode cX12_begin 58 = .ok (.aload_n 0, 1) := by decide +kernel
theorem dX12_begin_59 : decode cX12_begin 59 = .ok (.getfield 69, 3) := by decide +kernel
theorem dX12_begin_62 : decode cX12_begin 62 = .ok (.bipush 64, 2) := by decide +kernel
theorem dX12_begin_64 : decode cX12_begin 64 = .ok (.aload_n 0, 1) := by decide +kernel
theorem dX12_begin_65 : decode cX12_begin 65 = .ok (.getfield 51, 3) := by decide +kernel
theorem dX12_begin_68 : decode cX12_begin 68 = .ok (.imul, 1) := by decide +kernel
theorem dX12_begin_69 : decode cX12_begin 69 = .ok (.iload_n 1, 1) := by decide +kernel
theorem dX12_begin_70 : decode cX12_begin 70 = .ok (.iadd, 1) := by decide +kernel
theorem dX12_begin_71 : decode cX12_begin 71 = .ok (.iaload, 1) := by decide +kernel
theorem dX12_begin_72 : decode cX12_begin 72 = .ok (.iastore, 1) := by decide +kernel
theorem dX12_begin_73 : decode cX12_begin 73 = .ok (.aload_n 0, 1) := by decide +kernel
theorem dX12_begin_74 : decode cX12_begin 74 = .ok (.getfield 171, 3) := by decide +kernel
theorem dX12_begin_77 : decode cX12_begin 77 = .ok (.iload_n 1, 1) := by decide +kernel
theorem dX12_begin_78 : decode cX12_begin 78 = .ok (.iconst 0, 1) := by decide +kernel
theorem dX12_begin_79 : decode cX12_begin 79 = .ok (.iastore, 1) := by decide +kernel
theorem dX12_begin_80 : decode cX12_begin 80 = .ok (.iinc 1 1, 3) := by decide +kernel
theorem dX12_begin_83 : decode cX12_begin 83 = .ok (.goto (-53), 3) := by decide +kernel
theorem dX12_begin_86 : decode cX12_begin 86 = .ok (.iconst 0, 1) := by decide +kernel
theorem dX12_begin_87 : decode cX12_begin 87 = .ok (.istore_n 1, 1) := by decide +kernel
theorem dX12_begin_88 : decode cX12_begin 88 = .ok (.iload_n 1, 1) := by decide +kernel
theorem dX12_begin_89 : decode cX12_begin 89 = .ok (.bipush 16, 2) := by decide +kernel
theorem dX12_begin_91 : decode cX12_begin 91 = .ok (.if_icmp .ge 49, 3) := by decide +kernel
theorem dX12_begin_94 : decode cX12_begin 94 = .ok (.aload_n 0, 1) := by decide +kernel
theorem dX12_begin_95 : decode cX12_begin 95 = .ok (.getfield 180, 3) := by decide +kernel
theorem dX12_begin_98 : decode cX12_begin 98 = .ok (.iload_n 1, 1) := by decide +kernel
theorem dX12_begin_99 : decode cX12_begin 99 = .ok (.aload_n 0, 1) := by decide +kernel
theorem dX12_begin_100 : decode cX12_begin 100 = .ok (.getfield 78, 3) := by decide +kernel
theorem dX12_begin_103 : decode cX12_begin 103 = .ok (.bipush 16, 2) := by decide +kernel
theorem dX12_begin_105 : decode cX12_begin 105 = .ok (.aload_n 0, 1) := by decide +kernel
theorem dX12_begin_106 : decode cX12_begin 106 = .ok (.getfield 51, 3) := by decide +kernel
theorem dX12_begin_109 : decode cX12_begin 109 = .ok (.imul, 1) := by decide +kernel
theorem dX12_begin_110 : decode cX12_begin 110 = .ok (.iload_n 1, 1) := by decide +kernel
theorem dX12_begin_111 : decode cX12_begin 111 = .ok (.iadd, 1) := by decide +kernel
theorem dX12_begin_112 : decode cX12_begin 112 = .ok (.iaload, 1) := by decide +kernel
theorem dX12_begin_113 : decode cX12_begin 113 = .ok (.iastore, 1) := by decide +kernel
theorem dX12_begin_114 : decode cX12_begin 114 = .ok (.aload_n 0, 1) := by decide +kernel
theorem dX12_begin_115 : decode cX12_begin 115 = .ok (.getfield 183, 3) := by decide +kernel
theorem dX12_begin_118 : decode cX12_begin 118 = .ok (.iload_n 1, 1) := by decide +kernel
theorem dX12_begin_119 : decode cX12_begin 119 = .ok (.aload_n 0, 1) := by decide +kernel
theorem dX12_begin_120 : decode cX12_begin 120 = .ok (.getfield 81, 3) := by decide +kernel
theorem dX12_begin_123 : decode cX12_begin 123 = .ok (.bipush 16, 2) := by decide +kernel
theorem dX12_begin_125 : decode cX12_begin 125 = .ok (.aload_n 0, 1) := by decide +kernel
theorem dX12_begin_126 : decode cX12_begin 126 = .ok (.getfield 51, 3) := by decide +kernel
theorem dX12_begin_129 : decode cX12_begin 129 = .ok (.imul, 1) := by decide +kernel
theorem dX12_begin_130 : decode cX12_begin 130 = .ok (.iload_n 1, 1) := by decide +kernel
theorem dX12_begin_131 : decode cX12_begin 131 = .ok (.iadd, 1) := by decide +kernel
theorem dX12_begin_132 : decode cX12_begin 132 = .ok (.iaload, 1) := by decide +kernel
theorem dX12_begin_133 : decode cX12_begin 133 = .ok (.iastore, 1) := by decide +kernel
theorem dX12_begin_134 : decode cX12_begin 134 = .ok (.iinc 1 1, 3) := by decide +kernel
theorem dX12_begin_137 : decode cX12_begin 137 = .ok (.goto (-49), 3) := by decide +kernel
theorem dX12_begin_140 : decode cX12_begin 140 = .ok (.iconst 0, 1) := by decide +kernel
theorem dX12_begin_141 : decode cX12_begin 141 = .ok (.istore_n 1, 1) := by decide +kernel
theorem dX12_begin_142 : decode cX12_begin 142 = .ok (.iload_n 1, 1) := by decide +kernel
theorem dX12_begin_143 : decode cX12_begin 143 = .ok (.bipush 10, 2) := by decide +kernel
theorem dX12_begin_145 : decode cX12_begin 145 = .ok (.if_icmp .ge 16, 3) := by decide +kernel
theorem dX12_begin_148 : decode cX12_begin 148 = .ok (.aload_n 0, 1) := by decide +kernel
theorem dX12_begin_149 : decode cX12_begin 149 = .ok (.getfield 186, 3) := by decide +kernel
theorem dX12_begin_152 : decode cX12_begin 152 = .ok (.iload_n 1, 1) := by decide +kernel
theorem dX12_begin_153 : decode cX12_begin 153 = .ok (.iconst 0, 1) := by decide +kernel
theorem dX12_begin_154 : decode cX12_begin 154 = .ok (.iastore, 1) := by decide +kernel
theorem dX12_begin_155 : decode cX12_begin 155 = .ok (.iinc 1 1, 3) := by decide +kernel
theorem dX12_begin_158 : decode cX12_begin 158 = .ok (.goto (-16), 3) := by decide +kernel
theorem dX12_begin_161 : decode cX12_begin 161 = .ok (.aload_n 0, 1) := by decide +kernel
theorem dX12_begin_162 : decode cX12_begin 162 = .ok (.aload_n 0, 1) := by decide +kernel
theorem dX12_begin_163 : decode cX12_begin 163 = .ok (.getfield 63, 3) := by decide +kernel
theorem dX12_begin_166 : decode cX12_begin 166 = .ok (.aload_n 0, 1) := by decide +kernel
theorem dX12_begin_167 : decode cX12_begin 167 = .ok (.getfield 51, 3) := by decide +kernel
theorem dX12_begin_170 : decode cX12_begin 170 = .ok (.iaload, 1) := by decide +kernel
theorem dX12_begin_171 : decode cX12_begin 171 = .ok (.putfield 204, 3) := by decide +kernel
theorem dX12_begin_174 : decode cX12_begin 174 = .ok (.aload_n 0, 1) := by decide +kernel
theorem dX12_begin_175 : decode cX12_begin 175 = .ok (.getfield 189, 3) := by decide +kernel
theorem dX12_begin_178 : decode cX12_begin 178 = .ok (.iconst 0, 1) := by decide +kernel
theorem dX12_begin_179 : decode cX12_begin 179 = .ok (.iconst 0, 1) := by decide +kernel
theorem dX12_begin_180 : decode cX12_begin 180 = .ok (.iastore, 1) := by decide +kernel
theorem dX12_begin_181 : decode cX12_begin 181 = .ok (.aload_n 0, 1) := by decide +kernel
theorem dX12_begin_182 : decode cX12_begin 182 = .ok (.iconst 0, 1) := by decide +kernel
theorem dX12_begin_183 : decode cX12_begin 183 = .ok (.putfield 198, 3) := by decide +kernel
theorem dX12_begin_186 : decode cX12_begin 186 = .ok (.aload_n 0, 1) := by decide +kernel
theorem dX12_begin_187 : decode cX12_begin 187 = .ok (.iconst 0, 1) := by decide +kernel
theorem dX12_begin_188 : decode cX12_begin 188 = .ok (.putfield 222, 3) := by decide +kernel
theorem dX12_begin_191 : decode cX12_begin 191 = .ok (.return_, 1) := by decide +kernel
theorem dX12_has_0 : decode cX12_has 0 = .ok (.iconst 0, 1) := by decide +kernel
theorem dX12_has_1 : decode cX12_has 1 = .ok (.istore_n 2, 1) := by decide +kernel
theorem dX12_has_2 : decode cX12_has 2 = .ok (.iload_n 1, 1) := by decide +kernel
theorem dX12_has_3 : decode cX12_has 3 = .ok (.tableswitch 333 0 16 #[81, 91, 101, 111, 121, 131, 138, 179, 225, 262, 272, 297, 304, 310, 317, 322, 327], 81) := by decide +kernel
theorem dX12_has_84 : decode cX12_has 84 = .ok (.aload_n 0, 1) := by decide +kernel
theorem dX12_has_85 : decode cX12_has 85 = .ok (.getfield 54, 3) := by decide +kernel
theorem dX12_has_88 : decode cX12_has 88 = .ok (.aload_n 0, 1) := by decide +kernel
theorem dX12_has_89 : decode cX12_has 89 = .ok (.getfield 51, 3) := by decide +kernel
theorem dX12_has_92 : decode cX12_has 92 = .ok (.iaload, 1) := by decide +kernel
theorem dX12_has_93 : decode cX12_has 93 = .ok (.ireturn, 1) := by decide +kernel
theorem dX12_has_94 : decode cX12_has 94 = .ok (.aload_n 0, 1) := by decide +kernel
theorem dX12_has_95 : decode cX12_has 95 = .ok (.getfield 57, 3) := by decide +kernel
theorem dX12_has_98 : decode cX12_has 98 = .ok (.aload_n 0, 1) := by decide +kernel
theorem dX12_has_99 : decode cX12_has 99 = .ok (.getfield 51, 3) := by decide +kernel
theorem dX12_has_102 : decode cX12_has 102 = .ok (.iaload, 1) := by decide +kernel
theorem dX12_has_103 : decode cX12_has 103 = .ok (.ireturn, 1) := by decide +kernel
theorem dX12_has_104 : decode cX12_has 104 = .ok (.aload_n 0, 1) := by decide +kernel
theorem dX12_has_105 : decode cX12_has 105 = .ok (.getfield 72, 3) := by decide +kernel
theorem dX12_has_108 : decode cX12_has 108 = .ok (.aload_n 0, 1) := by decide +kernel
theorem dX12_has_109 : decode cX12_has 109 = .ok (.getfield 51, 3) := by decide +kernel
theorem dX12_has_112 : decode cX12_has 112 = .ok (.iaload, 1) := by decide +kernel
theorem dX12_has_113 : decode cX12_has 113 = .ok (.ireturn, 1) := by decide +kernel
theorem dX12_has_114 : decode cX12_has 114 = .ok (.aload_n 0, 1) := by decide +kernel
theorem dX12_has_115 : decode cX12_has 115 = .ok (.getfield 75, 3) := by decide +kernel
theorem dX12_has_118 : decode cX12_has 118 = .ok (.aload_n 0, 1) := by decide +kernel
theorem dX12_has_119 : decode cX12_has 119 = .ok (.getfield 51, 3) := by decide +kernel
theorem dX12_has_122 : decode cX12_has 122 = .ok (.iaload, 1) := by decide +kernel
theorem dX12_has_123 : decode cX12_has 123 = .ok (.ireturn, 1) := by decide +kernel
theorem dX12_has_124 : decode cX12_has 124 = .ok (.aload_n 0, 1) := by decide +kernel
theorem dX12_has_125 : decode cX12_has 125 = .ok (.getfield 84, 3) := by decide +kernel
theorem dX12_has_128 : decode cX12_has 128 = .ok (.aload_n 0, 1) := by decide +kernel
theorem dX12_has_129 : decode cX12_has 129 = .ok (.getfield 51, 3) := by decide +kernel
theorem dX12_has_132 : decode cX12_has 132 = .ok (.iaload, 1) := by decide +kernel
theorem dX12_has_133 : decode cX12_has 133 = .ok (.ireturn, 1) := by decide +kernel
theorem dX12_has_134 : decode cX12_has 134 = .ok (.aload_n 0, 1) := by decide +kernel
theorem dX12_has_135 : decode cX12_has 135 = .ok (.getfield 162, 3) := by decide +kernel
theorem dX12_has_138 : decode cX12_has 138 = .ok (.iconst 0, 1) := by decide +kernel
theorem dX12_has_139 : decode cX12_has 139 = .ok (.iaload, 1) := by decide +kernel
theorem dX12_has_140 : decode cX12_has 140 = .ok (.ireturn, 1) := by decide +kernel
theorem dX12_has_141 : decode cX12_has 141 = .ok (.iconst 0, 1) := by decide +kernel
theorem dX12_has_142 : decode cX12_has 142 = .ok (.istore_n 3, 1) := by decide +kernel
theorem dX12_has_143 : decode cX12_has 143 = .ok (.iload_n 3, 1) := by decide +kernel
theorem dX12_has_144 : decode cX12_has 144 = .ok (.bipush 64, 2) := by decide +kernel
theorem dX12_has_146 : decode cX12_has 146 = .ok (.if_icmp .ge 34, 3) := by decide +kernel
theorem dX12_has_149 : decode cX12_has 149 = .ok (.iload_n 2, 1) := by decide +kernel
theorem dX12_has_150 : decode cX12_has 150 = .ok (.aload_n 0, 1) := by decide +kernel
theorem dX12_has_151 : decode cX12_has 151 = .ok (.iload_n 3, 1) := by decide +kernel
theorem dX12_has_152 : decode cX12_has 152 = .ok (.invokevirtual 503, 3) := by decide +kernel
theorem dX12_has_155 : decode cX12_has 155 = .ok (.ifCond .eq 16, 3) := by decide +kernel
theorem dX12_has_158 : decode cX12_has 158 = .ok (.aload_n 0, 1) := by decide +kernel
theorem dX12_has_159 : decode cX12_has 159 = .ok (.iconst 0, 1) := by decide +kernel
theorem dX12_has_160 : decode cX12_has 160 = .ok (.iload_n 3, 1) := by decide +kernel
theorem dX12_has_161 : decode cX12_has 161 = .ok (.invokevirtual 460, 3) := by decide +kernel
theorem dX12_has_164 : decode cX12_has 164 = .ok (.ifCond .eq 7, 3) := by decide +kernel
theorem dX12_has_167 : decode cX12_has 167 = .ok (.iconst 1, 1) := by decide +kernel
theorem dX12_has_168 : decode cX12_has 168 = .ok (.goto 4, 3) := by decide +kernel
theorem dX12_has_171 : decode cX12_has 171 = .ok (.iconst 0, 1) := by decide +kernel
theorem dX12_has_172 : decode cX12_has 172 = .ok (.iadd, 1) := by decide +kernel
theorem dX12_has_173 : decode cX12_has 173 = .ok (.istore_n 2, 1) := by decide +kernel
theorem dX12_has_174 : decode cX12_has 174 = .ok (.iinc 3 1, 3) := by decide +kernel
theorem dX12_has_177 : decode cX12_has 177 = .ok (.goto (-34), 3) := by decide +kernel
theorem dX12_has_180 : decode cX12_has 180 = .ok (.iload_n 2, 1) := by decide +kernel
theorem dX12_has_181 : decode cX12_has 181 = .ok (.ireturn, 1) := by decide +kernel
theorem dX12_has_182 : decode cX12_has 182 = .ok (.aload_n 0, 1) := by decide +kernel
theorem dX12_has_183 : decode cX12_has 183 = .ok (.iconst 0, 1) := by decide +kernel
theorem dX12_has_184 : decode cX12_has 184 = .ok (.invokevirtual 484, 3) := by decide +kernel
theorem dX12_has_187 : decode cX12_has 187 = .ok (.iconst 0, 1) := by decide +kernel
theorem dX12_has_188 : decode cX12_has 188 = .ok (.istore_n 3, 1) := by decide +kernel
theorem dX12_has_189 : decode cX12_has 189 = .ok (.iload_n 3, 1) := by decide +kernel
theorem dX12_has_190 : decode cX12_has 190 = .ok (.bipush 64, 2) := by decide +kernel
theorem dX12_has_192 : decode cX12_has 192 = .ok (.if_icmp .ge 34, 3) := by decide +kernel
theorem dX12_has_195 : decode cX12_has 195 = .ok (.iload_n 2, 1) := by decide +kernel
theorem dX12_has_196 : decode cX12_has 196 = .ok (.aload_n 0, 1) := by decide +kernel
theorem dX12_has_197 : decode cX12_has 197 = .ok (.iload_n 3, 1) := by decide +kernel
theorem dX12_has_198 : decode cX12_has 198 = .ok (.invokevirtual 503, 3) := by decide +kernel
theorem dX12_has_201 : decode cX12_has 201 = .ok (.ifCond .eq 16, 3) := by decide +kernel
theorem dX12_has_204 : decode cX12_has 204 = .ok (.aload_n 0, 1) := by decide +kernel
theorem dX12_has_205 : decode cX12_has 205 = .ok (.iconst 0, 1) := by decide +kernel
theorem dX12_has_206 : decode cX12_has 206 = .ok (.iload_n 3, 1) := by decide +kernel
theorem dX12_has_207 : decode cX12_has 207 = .ok (.invokevirtual 463, 3) := by decide +kernel
theorem dX12_has_210 : decode cX12_has 210 = .ok (.ifCond .eq 7, 3) := by decide +kernel
theorem dX12_has_213 : decode cX12_has 213 = .ok (.iconst 1, 1) := by decide +kernel
theorem dX12_has_214 : decode cX12_has 214 = .ok (.goto 4, 3) := by decide +kernel
theorem dX12_has_217 : decode cX12_has 217 = .ok (.iconst 0, 1) := by decide +kernel
theorem dX12_has_218 : decode cX12_has 218 = .ok (.iadd, 1) := by decide +kernel
theorem dX12_has_219 : decode cX12_has 219 = .ok (.istore_n 2, 1) := by decide +kernel
theorem dX12_has_220 : decode cX12_has 220 = .ok (.iinc 3 1, 3) := by decide +kernel
theorem dX12_has_223 : decode cX12_has 223 = .ok (.goto (-34), 3) := by decide +kernel
theorem dX12_has_226 : decode cX12_has 226 = .ok (.iload_n 2, 1) := by decide +kernel
theorem dX12_has_227 : decode cX12_has 227 = .ok (.ireturn, 1) := by decide +kernel
theorem dX12_has_228 : decode cX12_has 228 = .ok (.iconst 0, 1) := by decide +kernel
theorem dX12_has_229 : decode cX12_has 229 = .ok (.istore_n 3, 1) := by decide +kernel
theorem dX12_has_230 : decode cX12_has 230 = .ok (.iload_n 3, 1) := by decide +kernel
theorem dX12_has_231 : decode cX12_has 231 = .ok (.bipush 64, 2) := by decide +kernel
theorem dX12_has_233 : decode cX12_has 233 = .ok (.if_icmp .ge 30, 3) := by decide +kernel
theorem dX12_has_236 : decode cX12_has 236 = .ok (.iload_n 2, 1) := by decide +kernel
theorem dX12_has_237 : decode cX12_has 237 = .ok (.aload_n 0, 1) := by decide +kernel
theorem dX12_has_238 : decode cX12_has 238 = .ok (.iload_n 3, 1) := by decide +kernel
theorem dX12_has_239 : decode cX12_has 239 = .ok (.invokevirtual 503, 3) := by decide +kernel
theorem dX12_has_242 : decode cX12_has 242 = .ok (.ifCond .eq 12, 3) := by decide +kernel
theorem dX12_has_245 : decode cX12_has 245 = .ok (.aload_n 0, 1) := by decide +kernel
theorem dX12_has_246 : decode cX12_has 246 = .ok (.getfield 171, 3) := by decide +kernel
theorem dX12_has_249 : decode cX12_has 249 = .ok (.iload_n 3, 1) := by decide +kernel
theorem dX12_has_250 : decode cX12_has 250 = .ok (.iaload, 1) := by decide +kernel
theorem dX12_has_251 : decode cX12_has 251 = .ok (.goto 4, 3) := by decide +kernel
theorem dX12_has_254 : decode cX12_has 254 = .ok (.iconst 0, 1) := by decide +kernel
theorem dX12_has_255 : decode cX12_has 255 = .ok (.iadd, 1) := by decide +kernel
theorem dX12_has_256 : decode cX12_has 256 = .ok (.istore_n 2, 1) := by decide +kernel
theorem dX12_has_257 : decode cX12_has 257 = .ok (.iinc 3 1, 3) := by decide +kernel
theorem dX12_has_260 : decode cX12_has 260 = .ok (.goto (-30), 3) := by decide +kernel
theorem dX12_has_263 : decode cX12_has 263 = .ok (.iload_n 2, 1) := by decide +kernel
theorem dX12_has_264 : decode cX12_has 264 = .ok (.ireturn, 1) := by decide +kernel
theorem dX12_has_265 : decode cX12_has 265 = .ok (.aload_n 0, 1) := by decide +kernel
theorem dX12_has_266 : decode cX12_has 266 = .ok (.getfield 174, 3) := by decide +kernel
theorem dX12_has_269 : decode cX12_has 269 = .ok (.iconst 0, 1) := by decide +kernel
theorem dX12_has_270 : decode cX12_has 270 = .ok (.iaload, 1) := by decide +kernel
theorem dX12_has_271 : decode cX12_has 271 = .ok (.invokestatic 515, 3) := by decide +kernel
theorem dX12_has_274 : decode cX12_has 274 = .ok (.ireturn, 1) := by decide +kernel
theorem dX12_has_275 : decode cX12_has 275 = .ok (.iconst 0, 1) := by decide +kernel
theorem dX12_has_276 : decode cX12_has 276 = .ok (.istore_n 3, 1) := by decide +kernel
theorem dX12_has_277 : decode cX12_has 277 = .ok (.iload_n 3, 1) := by decide +kernel
theorem dX12_has_278 : decode cX12_has 278 = .ok (.bipush 10, 2) := by decide +kernel
theorem dX12_has_280 : decode cX12_has 280 = .ok (.if_icmp .ge 18, 3) := by decide +kernel
theorem dX12_has_283 : decode cX12_has 283 = .ok (.iload_n 2, 1) := by decide +kernel
theorem dX12_has_284 : decode cX12_has 284 = .ok (.aload_n 0, 1) := by decide +kernel
theorem dX12_has_285 : decode cX12_has 285 = .ok (.getfield 186, 3) := by decide +kernel
theorem dX12_has_288 : decode cX12_has 288 = .ok (.iload_n 3, 1) := by decide +kernel
theorem dX12_has_289 : decode cX12_has 289 = .ok (.iaload, 1) := by decide +kernel
theorem dX12_has_290 : decode cX12_has 290 = .ok (.iadd, 1) := by decide +kernel
theorem dX12_has_291 : decode cX12_has 291 = .ok (.istore_n 2, 1) := by decide +kernel
theorem dX12_has_292 : decode cX12_has 292 = .ok (.iinc 3 1, 3) := by decide +kernel
theorem dX12_has_295 : decode cX12_has 295 = .ok (.goto (-18), 3) := by decide +kernel
theorem dX12_has_298 : decode cX12_has 298 = .ok (.iload_n 2, 1) := by decide +kernel
theorem dX12_has_299 : decode cX12_has 299 = .ok (.ireturn, 1) := by decide +kernel
theorem dX12_has_300 : decode cX12_has 300 = .ok (.aload_n 0, 1) := by decide +kernel
theorem dX12_has_301 : decode cX12_has 301 = .ok (.getfield 165, 3) := by decide +kernel
theorem dX12_has_304 : decode cX12_has 304 = .ok (.iconst 0, 1) := by decide +kernel
theorem dX12_has_305 : decode cX12_has 305 = .ok (.iaload, 1) := by decide +kernel
theorem dX12_has_306 : decode cX12_has 306 = .ok (.ireturn, 1) := by decide +kernel
theorem dX12_has_307 : decode cX12_has 307 = .ok (.aload_n 0, 1) := by decide +kernel
theorem dX12_has_308 : decode cX12_has 308 = .ok (.iconst 0, 1) := by decide +kernel
theorem dX12_has_309 : decode cX12_has 309 = .ok (.invokevirtual 518, 3) := by decide +kernel
theorem dX12_has_312 : decode cX12_has 312 = .ok (.ireturn, 1) := by decide +kernel
theorem dX12_has_313 : decode cX12_has 313 = .ok (.aload_n 0, 1) := by decide +kernel
theorem dX12_has_314 : decode cX12_has 314 = .ok (.getfield 189, 3) := by decide +kernel
theorem dX12_has_317 : decode cX12_has 317 = .ok (.iconst 0, 1) := by decide +kernel
theorem dX12_has_318 : decode cX12_has 318 = .ok (.iaload, 1) := by decide +kernel
theorem dX12_has_319 : decode cX12_has 319 = .ok (.ireturn, 1) := by decide +kernel
theorem dX12_has_320 : decode cX12_has 320 = .ok (.aload_n 0, 1) := by decide +kernel
theorem dX12_has_321 : decode cX12_has 321 = .ok (.getfield 222, 3) := by decide +kernel
theorem dX12_has_324 : decode cX12_has 324 = .ok (.ireturn, 1) := by decide +kernel
theorem dX12_has_325 : decode cX12_has 325 = .ok (.aload_n 0, 1) := by decide +kernel
theorem dX12_has_326 : decode cX12_has 326 = .ok (.getfield 198, 3) := by decide +kernel
theorem dX12_has_329 : decode cX12_has 329 = .ok (.ireturn, 1) := by decide +kernel
theorem dX12_has_330 : decode cX12_has 330 = .ok (.aload_n 0, 1) := by decide +kernel
theorem dX12_has_331 : decode cX12_has 331 = .ok (.getfield 201, 3) := by decide +kernel
theorem dX12_has_334 : decode cX12_has 334 = .ok (.l2i, 1) := by decide +kernel
theorem dX12_has_335 : decode cX12_has 335 = .ok (.ireturn, 1) := by decide +kernel
theorem dX12_has_336 : decode cX12_has 336 = .ok (.iconst (-1), 1) := by decide +kernel
theorem dX12_has_337 : decode cX12_has 337 = .ok (.ireturn, 1) := by decide +kernel
theorem dX12_letter_0 : decode cX12_letter 0 = .ok (.iload_n 1, 1) := by decide +kernel
theorem dX12_letter_1 : decode cX12_letter 1 = .ok (.ifCond .ne 11, 3) := by decide +kernel
theorem dX12_letter_4 : decode cX12_letter 4 = .ok (.aload_n 0, 1) := by decide +kernel
theorem dX12_letter_5 : decode cX12_letter 5 = .ok (.iload_n 2, 1) := by decide +kernel
theorem dX12_letter_6 : decode cX12_letter 6 = .ok (.invokevirtual 521, 3) := by decide +kernel
theorem dX12_letter_9 : decode cX12_letter 9 = .ok (.goto 21, 3) := by decide +kernel
theorem dX12_letter_12 : decode cX12_letter 12 = .ok (.iload_n 1, 1) := by decide +kernel
theorem dX12_letter_13 : decode cX12_letter 13 = .ok (.iconst 1, 1) := by decide +kernel
theorem dX12_letter_14 : decode cX12_letter 14 = .ok (.if_icmp .ne 15, 3) := by decide +kernel
theorem dX12_letter_17 : decode cX12_letter 17 = .ok (.aload_n 0, 1) := by decide +kernel
theorem dX12_letter_18 : decode cX12_letter 18 = .ok (.iload_n 2, 1) := by decide +kernel
theorem dX12_letter_19 : decode cX12_letter 19 = .ok (.invokevirtual 524, 3) := by decide +kernel
theorem dX12_letter_22 : decode cX12_letter 22 = .ok (.ifCond .eq 7, 3) := by decide +kernel
theorem dX12_letter_25 : decode cX12_letter 25 = .ok (.iconst 1, 1) := by decide +kernel
theorem dX12_letter_26 : decode cX12_letter 26 = .ok (.goto 4, 3) := by decide +kernel
theorem dX12_letter_29 : decode cX12_letter 29 = .ok (.iconst 0, 1) := by decide +kernel
theorem dX12_letter_30 : decode cX12_letter 30 = .ok (.istore 4, 2) := by decide +kernel
theorem dX12_letter_32 : decode cX12_letter 32 = .ok (.iload 4, 2) := by decide +kernel
theorem dX12_letter_34 : decode cX12_letter 34 = .ok (.ifCond .eq 12, 3) := by decide +kernel
theorem dX12_letter_37 : decode cX12_letter 37 = .ok (.iload_n 3, 1) := by decide +kernel
theorem dX12_letter_38 : decode cX12_letter 38 = .ok (.iconst 0, 1) := by decide +kernel
theorem dX12_letter_39 : decode cX12_letter 39 = .ok (.iconst 5, 1) := by decide +kernel
theorem dX12_letter_40 : decode cX12_letter 40 = .ok (.invokestatic 333, 3) := by decide +kernel
theorem dX12_letter_43 : decode cX12_letter 43 = .ok (.ifCond .ne 5, 3) := by decide +kernel
theorem dX12_letter_46 : decode cX12_letter 46 = .ok (.iconst (-1), 1) := by decide +kernel
theorem dX12_letter_47 : decode cX12_letter 47 = .ok (.ireturn, 1) := by decide +kernel
theorem dX12_letter_48 : decode cX12_letter 48 = .ok (.iload_n 1, 1) := by decide +kernel
theorem dX12_letter_49 : decode cX12_letter 49 = .ok (.ifCond .ne 20, 3) := by decide +kernel
theorem dX12_letter_52 : decode cX12_letter 52 = .ok (.aload_n 0, 1) := by decide +kernel
theorem dX12_letter_53 : decode cX12_letter 53 = .ok (.getfield 108, 3) := by decide +kernel
theorem dX12_letter_56 : decode cX12_letter 56 = .ok (.bipush 6, 2) := by decide +kernel
theorem dX12_letter_58 : decode cX12_letter 58 = .ok (.aload_n 0, 1) := by decide +kernel
theorem dX12_letter_59 : decode cX12_letter 59 = .ok (.getfield 51, 3) := by decide +kernel
theorem dX12_letter_62 : decode cX12_letter 62 = .ok (.imul, 1) := by decide +kernel
theorem dX12_letter_63 : decode cX12_letter 63 = .ok (.iload_n 2, 1) := by decide +kernel
theorem dX12_letter_64 : decode cX12_letter 64 = .ok (.iadd, 1) := by decide +kernel
theorem dX12_letter_65 : decode cX12_letter 65 = .ok (.laload, 1) := by decide +kernel
theorem dX12_letter_66 : decode cX12_letter 66 = .ok (.goto 16, 3) := by decide +kernel
theorem dX12_letter_69 : decode cX12_letter 69 = .ok (.aload_n 0, 1) := by decide +kernel
theorem dX12_letter_70 : decode cX12_letter 70 = .ok (.getfield 112, 3) := by decide +kernel
theorem dX12_letter_73 : decode cX12_letter 73 = .ok (.iconst 5, 1) := by decide +kernel
theorem dX12_letter_74 : decode cX12_letter 74 = .ok (.aload_n 0, 1) := by decide +kernel
theorem dX12_letter_75 : decode cX12_letter 75 = .ok (.getfield 51, 3) := by decide +kernel
theorem dX12_letter_78 : decode cX12_letter 78 = .ok (.imul, 1) := by decide +kernel
theorem dX12_letter_79 : decode cX12_letter 79 = .ok (.iload_n 2, 1) := by decide +kernel
theorem dX12_letter_80 : decode cX12_letter 80 = .ok (.iadd, 1) := by decide +kernel
theorem dX12_letter_81 : decode cX12_letter 81 = .ok (.laload, 1) := by decide +kernel
theorem dX12_letter_82 : decode cX12_letter 82 = .ok (.lstore 5, 2) := by decide +kernel
theorem dX12_letter_84 : decode cX12_letter 84 = .ok (.iconst 0, 1) := by decide +kernel
theorem dX12_letter_85 : decode cX12_letter 85 = .ok (.istore 7, 2) := by decide +kernel
theorem dX12_letter_87 : decode cX12_letter 87 = .ok (.lload 5, 2) := by decide +kernel
theorem dX12_letter_89 : decode cX12_letter 89 = .ok (.lstore 8, 2) := by decide +kernel
theorem dX12_letter_91 : decode cX12_letter 91 = .ok (.lload 8, 2) := by decide +kernel
theorem dX12_letter_93 : decode cX12_letter 93 = .ok (.lconst 0, 1) := by decide +kernel
theorem dX12_letter_94 : decode cX12_letter 94 = .ok (.lcmp, 1) := by decide +kernel
theorem dX12_letter_95 : decode cX12_letter 95 = .ok (.ifCond .le 16, 3) := by decide +kernel
theorem dX12_letter_98 : decode cX12_letter 98 = .ok (.iinc 7 1, 3) := by decide +kernel
theorem dX12_letter_101 : decode cX12_letter 101 = .ok (.lload 8, 2) := by decide +kernel
theorem dX12_letter_103 : decode cX12_letter 103 = .ok (.bipush 8, 2) := by decide +kernel
theorem dX12_letter_105 : decode cX12_letter 105 = .ok (.lshr, 1) := by decide +kernel
theorem dX12_letter_106 : decode cX12_letter 106 = .ok (.lstore 8, 2) := by decide +kernel
theorem dX12_letter_108 : decode cX12_letter 108 = .ok (.goto (-17), 3) := by decide +kernel
theorem dX12_letter_111 : decode cX12_letter 111 = .ok (.iload_n 3, 1) := by decide +kernel
theorem dX12_letter_112 : decode cX12_letter 112 = .ok (.iload 7, 2) := by decide +kernel
theorem dX12_letter_114 : decode cX12_letter 114 = .ok (.if_icmp .lt 7, 3) := by decide +kernel
theorem dX12_letter_117 : decode cX12_letter 117 = .ok (.iconst 0, 1) := by decide +kernel
theorem dX12_letter_118 : decode cX12_letter 118 = .ok (.goto 25, 3) := by decide +kernel
theorem dX12_letter_121 : decode cX12_letter 121 = .ok (.lload 5, 2) := by decide +kernel
theorem dX12_letter_123 : decode cX12_letter 123 = .ok (.bipush 8, 2) := by decide +kernel
theorem dX12_letter_125 : decode cX12_letter 125 = .ok (.iload 7, 2) := by decide +kernel
theorem dX12_letter_127 : decode cX12_letter 127 = .ok (.iconst 1, 1) := by decide +kernel
theorem dX12_letter_128 : decode cX12_letter 128 = .ok (.isub, 1) := by decide +kernel
theorem dX12_letter_129 : decode cX12_letter 129 = .ok (.iload_n 3, 1) := by decide +kernel
theorem dX12_letter_130 : decode cX12_letter 130 = .ok (.isub, 1) := by decide +kernel
theorem dX12_letter_131 : decode cX12_letter 131 = .ok (.imul, 1) := by decide +kernel
theorem dX12_letter_132 : decode cX12_letter 132 = .ok (.lshr, 1) := by decide +kernel
theorem dX12_letter_133 : decode cX12_letter 133 = .ok (.ldc2_w 527, 3) := by decide +kernel
theorem dX12_letter_136 : decode cX12_letter 136 = .ok (.land, 1) := by decide +kernel
theorem dX12_letter_137 : decode cX12_letter 137 = .ok (.l2i, 1) := by decide +kernel
theorem dX12_letter_138 : decode cX12_letter 138 = .ok (.bipush 97, 2) := by decide +kernel
theorem dX12_letter_140 : decode cX12_letter 140 = .ok (.isub, 1) := by decide +kernel
theorem dX12_letter_141 : decode cX12_letter 141 = .ok (.iconst 1, 1) := by decide +kernel
theorem dX12_letter_142 : decode cX12_letter 142 = .ok (.iadd, 1) := by decide +kernel
theorem dX12_letter_143 : decode cX12_letter 143 = .ok (.ireturn, 1) := by decide +kernel
theorem dX12_cell_0 : decode cX12_cell 0 = .ok (.aload_n 0, 1) := by decide +kernel
theorem dX12_cell_1 : decode cX12_cell 1 = .ok (.iload_n 1, 1) := by decide +kernel
theorem dX12_cell_2 : decode cX12_cell 2 = .ok (.iload_n 2, 1) := by decide +kernel
theorem dX12_cell_3 : decode cX12_cell 3 = .ok (.invokevirtual 452, 3) := by decide +kernel
theorem dX12_cell_6 : decode cX12_cell 6 = .ok (.ifCond .ne 5, 3) := by decide +kernel
theorem dX12_cell_9 : decode cX12_cell 9 = .ok (.iconst (-1), 1) := by decide +kernel
theorem dX12_cell_10 : decode cX12_cell 10 = .ok (.ireturn, 1) := by decide +kernel
theorem dX12_cell_11 : decode cX12_cell 11 = .ok (.bipush 8, 2) := by decide +kernel
theorem dX12_cell_13 : decode cX12_cell 13 = .ok (.iload_n 2, 1) := by decide +kernel
theorem dX12_cell_14 : decode cX12_cell 14 = .ok (.imul, 1) := by decide +kernel
theorem dX12_cell_15 : decode cX12_cell 15 = .ok (.iload_n 1, 1) := by decide +kernel
theorem dX12_cell_16 : decode cX12_cell 16 = .ok (.iadd, 1) := by decide +kernel
theorem dX12_cell_17 : decode cX12_cell 17 = .ok (.istore 4, 2) := by decide +kernel
theorem dX12_cell_19 : decode cX12_cell 19 = .ok (.aload_n 0, 1) := by decide +kernel
theorem dX12_cell_20 : decode cX12_cell 20 = .ok (.iconst 0, 1) := by decide +kernel
theorem dX12_cell_21 : decode cX12_cell 21 = .ok (.invokevirtual 484, 3) := by decide +kernel
theorem dX12_cell_24 : decode cX12_cell 24 = .ok (.iload_n 3, 1) := by decide +kernel
theorem dX12_cell_25 : decode cX12_cell 25 = .ok (.tableswitch 148 0 5 #[39, 47, 63, 79, 87, 122], 39) := by decide +kernel
theorem dX12_cell_64 : decode cX12_cell 64 = .ok (.aload_n 0, 1) := by decide +kernel
theorem dX12_cell_65 : decode cX12_cell 65 = .ok (.getfield 168, 3) := by decide +kernel
theorem dX12_cell_68 : decode cX12_cell 68 = .ok (.iload 4, 2) := by decide +kernel
theorem dX12_cell_70 : decode cX12_cell 70 = .ok (.iaload, 1) := by decide +kernel
theorem dX12_cell_71 : decode cX12_cell 71 = .ok (.ireturn, 1) := by decide +kernel
theorem dX12_cell_72 : decode cX12_cell 72 = .ok (.aload_n 0, 1) := by decide +kernel
theorem dX12_cell_73 : decode cX12_cell 73 = .ok (.iconst 0, 1) := by decide +kernel
theorem dX12_cell_74 : decode cX12_cell 74 = .ok (.iload 4, 2) := by decide +kernel
theorem dX12_cell_76 : decode cX12_cell 76 = .ok (.invokevirtual 460, 3) := by decide +kernel
theorem dX12_cell_79 : decode cX12_cell 79 = .ok (.ifCond .eq 7, 3) := by decide +kernel
theorem dX12_cell_82 : decode cX12_cell 82 = .ok (.iconst 1, 1) := by decide +kernel
theorem dX12_cell_83 : decode cX12_cell 83 = .ok (.goto 4, 3) := by decide +kernel
theorem dX12_cell_86 : decode cX12_cell 86 = .ok (.iconst 0, 1) := by decide +kernel
theorem dX12_cell_87 : decode cX12_cell 87 = .ok (.ireturn, 1) := by decide +kernel
theorem dX12_cell_88 : decode cX12_cell 88 = .ok (.aload_n 0, 1) := by decide +kernel
theorem dX12_cell_89 : decode cX12_cell 89 = .ok (.iconst 0, 1) := by decide +kernel
theorem dX12_cell_90 : decode cX12_cell 90 = .ok (.iload 4, 2) := by decide +kernel
theorem dX12_cell_92 : decode cX12_cell 92 = .ok (.invokevirtual 463, 3) := by decide +kernel
theorem dX12_cell_95 : decode cX12_cell 95 = .ok (.ifCond .eq 7, 3) := by decide +kernel
theorem dX12_cell_98 : decode cX12_cell 98 = .ok (.iconst 1, 1) := by decide +kernel
theorem dX12_cell_99 : decode cX12_cell 99 = .ok (.goto 4, 3) := by decide +kernel
theorem dX12_cell_102 : decode cX12_cell 102 = .ok (.iconst 0, 1) := by decide +kernel
theorem dX12_cell_103 : decode cX12_cell 103 = .ok (.ireturn, 1) := by decide +kernel
theorem dX12_cell_104 : decode cX12_cell 104 = .ok (.aload_n 0, 1) := by decide +kernel
theorem dX12_cell_105 : decode cX12_cell 105 = .ok (.getfield 171, 3) := by decide +kernel
theorem dX12_cell_108 : decode cX12_cell 108 = .ok (.iload 4, 2) := by decide +kernel
theorem dX12_cell_110 : decode cX12_cell 110 = .ok (.iaload, 1) := by decide +kernel
theorem dX12_cell_111 : decode cX12_cell 111 = .ok (.ireturn, 1) := by decide +kernel
theorem dX12_cell_112 : decode cX12_cell 112 = .ok (.aload_n 0, 1) := by decide +kernel
theorem dX12_cell_113 : decode cX12_cell 113 = .ok (.iconst 0, 1) := by decide +kernel
theorem dX12_cell_114 : decode cX12_cell 114 = .ok (.iload 4, 2) := by decide +kernel
theorem dX12_cell_116 : decode cX12_cell 116 = .ok (.invokevirtual 460, 3) := by decide +kernel
theorem dX12_cell_119 : decode cX12_cell 119 = .ok (.ifCond .eq 26, 3) := by decide +kernel
theorem dX12_cell_122 : decode cX12_cell 122 = .ok (.aload_n 0, 1) := by decide +kernel
theorem dX12_cell_123 : decode cX12_cell 123 = .ok (.getfield 213, 3) := by decide +kernel
theorem dX12_cell_126 : decode cX12_cell 126 = .ok (.iload 4, 2) := by decide +kernel
theorem dX12_cell_128 : decode cX12_cell 128 = .ok (.iaload, 1) := by decide +kernel
theorem dX12_cell_129 : decode cX12_cell 129 = .ok (.ldc_w 456, 3) := by decide +kernel
theorem dX12_cell_132 : decode cX12_cell 132 = .ok (.if_icmp .ge 13, 3) := by decide +kernel
theorem dX12_cell_135 : decode cX12_cell 135 = .ok (.aload_n 0, 1) := by decide +kernel
theorem dX12_cell_136 : decode cX12_cell 136 = .ok (.getfield 213, 3) := by decide +kernel
theorem dX12_cell_139 : decode cX12_cell 139 = .ok (.iload 4, 2) := by decide +kernel
theorem dX12_cell_141 : decode cX12_cell 141 = .ok (.iaload, 1) := by decide +kernel
theorem dX12_cell_142 : decode cX12_cell 142 = .ok (.goto 4, 3) := by decide +kernel
theorem dX12_cell_145 : decode cX12_cell 145 = .ok (.iconst (-1), 1) := by decide +kernel
theorem dX12_cell_146 : decode cX12_cell 146 = .ok (.ireturn, 1) := by decide +kernel
theorem dX12_cell_147 : decode cX12_cell 147 = .ok (.aload_n 0, 1) := by decide +kernel
theorem dX12_cell_148 : decode cX12_cell 148 = .ok (.iconst 0, 1) := by decide +kernel
theorem dX12_cell_149 : decode cX12_cell 149 = .ok (.iload 4, 2) := by decide +kernel
theorem dX12_cell_151 : decode cX12_cell 151 = .ok (.invokevirtual 490, 3) := by decide +kernel
theorem dX12_cell_154 : decode cX12_cell 154 = .ok (.ifCond .eq 17, 3) := by decide +kernel
theorem dX12_cell_157 : decode cX12_cell 157 = .ok (.aload_n 0, 1) := by decide +kernel
theorem dX12_cell_158 : decode cX12_cell 158 = .ok (.iconst 0, 1) := by decide +kernel
theorem dX12_cell_159 : decode cX12_cell 159 = .ok (.iload 4, 2) := by decide +kernel
theorem dX12_cell_161 : decode cX12_cell 161 = .ok (.invokevirtual 493, 3) := by decide +kernel
theorem dX12_cell_164 : decode cX12_cell 164 = .ok (.ifCond .ne 7, 3) := by decide +kernel
theorem dX12_cell_167 : decode cX12_cell 167 = .ok (.iconst 1, 1) := by decide +kernel
theorem dX12_cell_168 : decode cX12_cell 168 = .ok (.goto 4, 3) := by decide +kernel
theorem dX12_cell_171 : decode cX12_cell 171 = .ok (.iconst 0, 1) := by decide +kernel
theorem dX12_cell_172 : decode cX12_cell 172 = .ok (.ireturn, 1) := by decide +kernel
theorem dX12_cell_173 : decode cX12_cell 173 = .ok (.iconst (-1), 1) := by decide +kernel
theorem dX12_cell_174 : decode cX12_cell 174 = .ok (.ireturn, 1) := by decide +kernel
theorem dX12_hurt_0 : decode cX12_hurt 0 = .ok (.aload_n 0, 1) := by decide +kernel
theorem dX12_hurt_1 : decode cX12_hurt 1 = .ok (.iload_n 1, 1) := by decide +kernel
theorem dX12_hurt_2 : decode cX12_hurt 2 = .ok (.invokevirtual 521, 3) := by decide +kernel
theorem dX12_hurt_5 : decode cX12_hurt 5 = .ok (.ifCond .eq 24, 3) := by decide +kernel
theorem dX12_hurt_8 : decode cX12_hurt 8 = .ok (.aload_n 0, 1) := by decide +kernel
theorem dX12_hurt_9 : decode cX12_hurt 9 = .ok (.getfield 174, 3) := by decide +kernel
theorem dX12_hurt_12 : decode cX12_hurt 12 = .ok (.iconst 0, 1) := by decide +kernel
theorem dX12_hurt_13 : decode cX12_hurt 13 = .ok (.iaload, 1) := by decide +kernel
theorem dX12_hurt_14 : decode cX12_hurt 14 = .ok (.iload_n 1, 1) := by decide +kernel
theorem dX12_hurt_15 : decode cX12_hurt 15 = .ok (.invokestatic 487, 3) := by decide +kernel
theorem dX12_hurt_18 : decode cX12_hurt 18 = .ok (.ifCond .eq 7, 3) := by decide +kernel
theorem dX12_hurt_21 : decode cX12_hurt 21 = .ok (.iconst 1, 1) := by decide +kernel
theorem dX12_hurt_22 : decode cX12_hurt 22 = .ok (.goto 8, 3) := by decide +kernel
theorem dX12_hurt_25 : decode cX12_hurt 25 = .ok (.iconst 0, 1) := by decide +kernel
theorem dX12_hurt_26 : decode cX12_hurt 26 = .ok (.goto 4, 3) := by decide +kernel
theorem dX12_hurt_29 : decode cX12_hurt 29 = .ok (.iconst (-1), 1) := by decide +kernel
theorem dX12_hurt_30 : decode cX12_hurt 30 = .ok (.ireturn, 1) := by decide +kernel
theorem dX12_plan_0 : decode cX12_plan 0 = .ok (.iload_n 1, 1) := by decide +kernel
theorem dX12_plan_1 : decode cX12_plan 1 = .ok (.iconst 0, 1) := by decide +kernel
theorem dX12_plan_2 : decode cX12_plan 2 = .ok (.aload_n 0, 1) := by decide +kernel
theorem dX12_plan_3 : decode cX12_plan 3 = .ok (.getfield 75, 3) := by decide +kernel
theorem dX12_plan_6 : decode cX12_plan 6 = .ok (.aload_n 0, 1) := by decide +kernel
theorem dX12_plan_7 : decode cX12_plan 7 = .ok (.getfield 51, 3) := by decide +kernel
theorem dX12_plan_10 : decode cX12_plan 10 = .ok (.iaload, 1) := by decide +kernel
theorem dX12_plan_11 : decode cX12_plan 11 = .ok (.iconst 1, 1) := by decide +kernel
theorem dX12_plan_12 : decode cX12_plan 12 = .ok (.isub, 1) := by decide +kernel
theorem dX12_plan_13 : decode cX12_plan 13 = .ok (.invokestatic 333, 3) := by decide +kernel
theorem dX12_plan_16 : decode cX12_plan 16 = .ok (.ifCond .eq 12, 3) := by decide +kernel
theorem dX12_plan_19 : decode cX12_plan 19 = .ok (.iload_n 2, 1) := by decide +kernel
theorem dX12_plan_20 : decode cX12_plan 20 = .ok (.iconst 0, 1) := by decide +kernel
theorem dX12_plan_21 : decode cX12_plan 21 = .ok (.iconst 2, 1) := by decide +kernel
theorem dX12_plan_22 : decode cX12_plan 22 = .ok (.invokestatic 333, 3) := by decide +kernel
theorem dX12_plan_25 : decode cX12_plan 25 = .ok (.ifCond .ne 7, 3) := by decide +kernel
theorem dX12_plan_28 : decode cX12_plan 28 = .ok (.iconst (-1), 1) := by decide +kernel
theorem dX12_plan_29 : decode cX12_plan 29 = .ok (.goto 28, 3) := by decide +kernel
theorem dX12_plan_32 : decode cX12_plan 32 = .ok (.iload_n 2, 1) := by decide +kernel
theorem dX12_plan_33 : decode cX12_plan 33 = .ok (.ifCond .ne 12, 3) := by decide +kernel
theorem dX12_plan_36 : decode cX12_plan 36 = .ok (.aload_n 0, 1) := by decide +kernel
theorem dX12_plan_37 : decode cX12_plan 37 = .ok (.getfield 180, 3) := by decide +kernel
theorem dX12_plan_40 : decode cX12_plan 40 = .ok (.iload_n 1, 1) := by decide +kernel
theorem dX12_plan_41 : decode cX12_plan 41 = .ok (.iaload, 1) := by decide +kernel
theorem dX12_plan_42 : decode cX12_plan 42 = .ok (.goto 15, 3) := by decide +kernel
theorem dX12_plan_45 : decode cX12_plan 45 = .ok (.aload_n 0, 1) := by decide +kernel
theorem dX12_plan_46 : decode cX12_plan 46 = .ok (.getfield 183, 3) := by decide +kernel
theorem dX12_plan_49 : decode cX12_plan 49 = .ok (.iload_n 1, 1) := by decide +kernel
theorem dX12_plan_50 : decode cX12_plan 50 = .ok (.iaload, 1) := by decide +kernel
theorem dX12_plan_51 : decode cX12_plan 51 = .ok (.iload_n 2, 1) := by decide +kernel
theorem dX12_plan_52 : decode cX12_plan 52 = .ok (.iconst 1, 1) := by decide +kernel
theorem dX12_plan_53 : decode cX12_plan 53 = .ok (.isub, 1) := by decide +kernel
theorem dX12_plan_54 : decode cX12_plan 54 = .ok (.invokestatic 529, 3) := by decide +kernel
theorem dX12_plan_57 : decode cX12_plan 57 = .ok (.ireturn, 1) := by decide +kernel
theorem dX12_canSell_0 : decode cX12_canSell 0 = .ok (.aload_n 0, 1) := by decide +kernel
theorem dX12_canSell_1 : decode cX12_canSell 1 = .ok (.iload_n 1, 1) := by decide +kernel
theorem dX12_canSell_2 : decode cX12_canSell 2 = .ok (.invokevirtual 524, 3) := by decide +kernel
theorem dX12_canSell_5 : decode cX12_canSell 5 = .ok (.ifCond .eq 54, 3) := by decide +kernel
theorem dX12_canSell_8 : decode cX12_canSell 8 = .ok (.aload_n 0, 1) := by decide +kernel
theorem dX12_canSell_9 : decode cX12_canSell 9 = .ok (.getfield 177, 3) := by decide +kernel
theorem dX12_canSell_12 : decode cX12_canSell 12 = .ok (.iconst 0, 1) := by decide +kernel
theorem dX12_canSell_13 : decode cX12_canSell 13 = .ok (.iaload, 1) := by decide +kernel
theorem dX12_canSell_14 : decode cX12_canSell 14 = .ok (.iload_n 1, 1) := by decide +kernel
theorem dX12_canSell_15 : decode cX12_canSell 15 = .ok (.invokestatic 487, 3) := by decide +kernel
theorem dX12_canSell_18 : decode cX12_canSell 18 = .ok (.ifCond .ne 41, 3) := by decide +kernel
theorem dX12_canSell_21 : decode cX12_canSell 21 = .ok (.aload_n 0, 1) := by decide +kernel
theorem dX12_canSell_22 : decode cX12_canSell 22 = .ok (.iconst 0, 1) := by decide +kernel
theorem dX12_canSell_23 : decode cX12_canSell 23 = .ok (.aload_n 0, 1) := by decide +kernel
theorem dX12_canSell_24 : decode cX12_canSell 24 = .ok (.getfield 87, 3) := by decide +kernel
theorem dX12_canSell_27 : decode cX12_canSell 27 = .ok (.iconst 5, 1) := by decide +kernel
theorem dX12_canSell_28 : decode cX12_canSell 28 = .ok (.aload_n 0, 1) := by decide +kernel
theorem dX12_canSell_29 : decode cX12_canSell 29 = .ok (.getfield 51, 3) := by decide +kernel
theorem dX12_canSell_32 : decode cX12_canSell 32 = .ok (.imul, 1) := by decide +kernel
theorem dX12_canSell_33 : decode cX12_canSell 33 = .ok (.iload_n 1, 1) := by decide +kernel
theorem dX12_canSell_34 : decode cX12_canSell 34 = .ok (.iadd, 1) := by decide +kernel
theorem dX12_canSell_35 : decode cX12_canSell 35 = .ok (.iaload, 1) := by decide +kernel
theorem dX12_canSell_36 : decode cX12_canSell 36 = .ok (.invokevirtual 532, 3) := by decide +kernel
theorem dX12_canSell_39 : decode cX12_canSell 39 = .ok (.aload_n 0, 1) := by decide +kernel
theorem dX12_canSell_40 : decode cX12_canSell 40 = .ok (.getfield 90, 3) := by decide +kernel
theorem dX12_canSell_43 : decode cX12_canSell 43 = .ok (.iconst 5, 1) := by decide +kernel
theorem dX12_canSell_44 : decode cX12_canSell 44 = .ok (.aload_n 0, 1) := by decide +kernel
theorem dX12_canSell_45 : decode cX12_canSell 45 = .ok (.getfield 51, 3) := by decide +kernel
theorem dX12_canSell_48 : decode cX12_canSell 48 = .ok (.imul, 1) := by decide +kernel
theorem dX12_canSell_49 : decode cX12_canSell 49 = .ok (.iload_n 1, 1) := by decide +kernel
theorem dX12_canSell_50 : decode cX12_canSell 50 = .ok (.iadd, 1) := by decide +kernel
theorem dX12_canSell_51 : decode cX12_canSell 51 = .ok (.iaload, 1) := by decide +kernel
theorem dX12_canSell_52 : decode cX12_canSell 52 = .ok (.if_icmp .lt 7, 3) := by decide +kernel
theorem dX12_canSell_55 : decode cX12_canSell 55 = .ok (.iconst 1, 1) := by decide +kernel
theorem dX12_canSell_56 : decode cX12_canSell 56 = .ok (.goto 4, 3) := by decide +kernel
theorem dX12_canSell_59 : decode cX12_canSell 59 = .ok (.iconst 0, 1) := by decide +kernel
theorem dX12_canSell_60 : decode cX12_canSell 60 = .ok (.ireturn, 1) := by decide +kernel
theorem dX12_order_0 : decode cX12_order 0 = .ok (.aload_n 0, 1) := by decide +kernel
theorem dX12_order_1 : decode cX12_order 1 = .ok (.iload_n 1, 1) := by decide +kernel
theorem dX12_order_2 : decode cX12_order 2 = .ok (.invokevirtual 524, 3) := by decide +kernel
theorem dX12_order_5 : decode cX12_order 5 = .ok (.ifCond .ne 5, 3) := by decide +kernel
theorem dX12_order_8 : decode cX12_order 8 = .ok (.iconst (-1), 1) := by decide +kernel
theorem dX12_order_9 : decode cX12_order 9 = .ok (.ireturn, 1) := by decide +kernel
theorem dX12_order_10 : decode cX12_order 10 = .ok (.iload_n 2, 1) := by decide +kernel
theorem dX12_order_11 : decode cX12_order 11 = .ok (.tableswitch 108 0 4 #[33, 47, 61, 75, 94], 33) := by decide +kernel
theorem dX12_order_44 : decode cX12_order 44 = .ok (.aload_n 0, 1) := by decide +kernel
theorem dX12_order_45 : decode cX12_order 45 = .ok (.getfield 87, 3) := by decide +kernel
theorem dX12_order_48 : decode cX12_order 48 = .ok (.iconst 5, 1) := by decide +kernel
theorem dX12_order_49 : decode cX12_order 49 = .ok (.aload_n 0, 1) := by decide +kernel
theorem dX12_order_50 : decode cX12_order 50 = .ok (.getfield 51, 3) := by decide +kernel
theorem dX12_order_53 : decode cX12_order 53 = .ok (.imul, 1) := by decide +kernel
theorem dX12_order_54 : decode cX12_order 54 = .ok (.iload_n 1, 1) := by decide +kernel
theorem dX12_order_55 : decode cX12_order 55 = .ok (.iadd, 1) := by decide +kernel
theorem dX12_order_56 : decode cX12_order 56 = .ok (.iaload, 1) := by decide +kernel
theorem dX12_order_57 : decode cX12_order 57 = .ok (.ireturn, 1) := by decide +kernel
theorem dX12_order_58 : decode cX12_order 58 = .ok (.aload_n 0, 1) := by decide +kernel
theorem dX12_order_59 : decode cX12_order 59 = .ok (.getfield 90, 3) := by decide +kernel
theorem dX12_order_62 : decode cX12_order 62 = .ok (.iconst 5, 1) := by decide +kernel
theorem dX12_order_63 : decode cX12_order 63 = .ok (.aload_n 0, 1) := by decide +kernel
theorem dX12_order_64 : decode cX12_order 64 = .ok (.getfield 51, 3) := by decide +kernel
theorem dX12_order_67 : decode cX12_order 67 = .ok (.imul, 1) := by decide +kernel
theorem dX12_order_68 : decode cX12_order 68 = .ok (.iload_n 1, 1) := by decide +kernel
theorem dX12_order_69 : decode cX12_order 69 = .ok (.iadd, 1) := by decide +kernel
theorem dX12_order_70 : decode cX12_order 70 = .ok (.iaload, 1) := by decide +kernel
theorem dX12_order_71 : decode cX12_order 71 = .ok (.ireturn, 1) := by decide +kernel
theorem dX12_order_72 : decode cX12_order 72 = .ok (.aload_n 0, 1) := by decide +kernel
theorem dX12_order_73 : decode cX12_order 73 = .ok (.getfield 93, 3) := by decide +kernel
theorem dX12_order_76 : decode cX12_order 76 = .ok (.iconst 5, 1) := by decide +kernel
theorem dX12_order_77 : decode cX12_order 77 = .ok (.aload_n 0, 1) := by decide +kernel
theorem dX12_order_78 : decode cX12_order 78 = .ok (.getfield 51, 3) := by decide +kernel
theorem dX12_order_81 : decode cX12_order 81 = .ok (.imul, 1) := by decide +kernel
theorem dX12_order_82 : decode cX12_order 82 = .ok (.iload_n 1, 1) := by decide +kernel
theorem dX12_order_83 : decode cX12_order 83 = .ok (.iadd, 1) := by decide +kernel
theorem dX12_order_84 : decode cX12_order 84 = .ok (.iaload, 1) := by decide +kernel
theorem dX12_order_85 : decode cX12_order 85 = .ok (.ireturn, 1) := by decide +kernel
theorem dX12_order_86 : decode cX12_order 86 = .ok (.aload_n 0, 1) := by decide +kernel
theorem dX12_order_87 : decode cX12_order 87 = .ok (.getfield 177, 3) := by decide +kernel
theorem dX12_order_90 : decode cX12_order 90 = .ok (.iconst 0, 1) := by decide +kernel
theorem dX12_order_91 : decode cX12_order 91 = .ok (.iaload, 1) := by decide +kernel
theorem dX12_order_92 : decode cX12_order 92 = .ok (.iload_n 1, 1) := by decide +kernel
theorem dX12_order_93 : decode cX12_order 93 = .ok (.invokestatic 487, 3) := by decide +kernel
theorem dX12_order_96 : decode cX12_order 96 = .ok (.ifCond .eq 7, 3) := by decide +kernel
theorem dX12_order_99 : decode cX12_order 99 = .ok (.iconst 1, 1) := by decide +kernel
theorem dX12_order_100 : decode cX12_order 100 = .ok (.goto 4, 3) := by decide +kernel
theorem dX12_order_103 : decode cX12_order 103 = .ok (.iconst 0, 1) := by decide +kernel
theorem dX12_order_104 : decode cX12_order 104 = .ok (.ireturn, 1) := by decide +kernel
theorem dX12_order_105 : decode cX12_order 105 = .ok (.aload_n 0, 1) := by decide +kernel
theorem dX12_order_106 : decode cX12_order 106 = .ok (.iload_n 1, 1) := by decide +kernel
theorem dX12_order_107 : decode cX12_order 107 = .ok (.invokevirtual 535, 3) := by decide +kernel
theorem dX12_order_110 : decode cX12_order 110 = .ok (.ifCond .eq 7, 3) := by decide +kernel
theorem dX12_order_113 : decode cX12_order 113 = .ok (.iconst 1, 1) := by decide +kernel
theorem dX12_order_114 : decode cX12_order 114 = .ok (.goto 4, 3) := by decide +kernel
theorem dX12_order_117 : decode cX12_order 117 = .ok (.iconst 0, 1) := by decide +kernel
theorem dX12_order_118 : decode cX12_order 118 = .ok (.ireturn, 1) := by decide +kernel
theorem dX12_order_119 : decode cX12_order 119 = .ok (.iconst (-1), 1) := by decide +kernel
theorem dX12_order_120 : decode cX12_order 120 = .ok (.ireturn, 1) := by decide +kernel
theorem dX12_tubs_0 : decode cX12_tubs 0 = .ok (.iload_n 1, 1) := by decide +kernel
theorem dX12_tubs_1 : decode cX12_tubs 1 = .ok (.iconst 0, 1) := by decide +kernel
theorem dX12_tubs_2 : decode cX12_tubs 2 = .ok (.bipush 9, 2) := by decide +kernel
theorem dX12_tubs_4 : decode cX12_tubs 4 = .ok (.invokestatic 333, 3) := by decide +kernel
theorem dX12_tubs_7 : decode cX12_tubs 7 = .ok (.ifCond .eq 12, 3) := by decide +kernel
theorem dX12_tubs_10 : decode cX12_tubs 10 = .ok (.aload_n 0, 1) := by decide +kernel
theorem dX12_tubs_11 : decode cX12_tubs 11 = .ok (.getfield 186, 3) := by decide +kernel
theorem dX12_tubs_14 : decode cX12_tubs 14 = .ok (.iload_n 1, 1) := by decide +kernel
theorem dX12_tubs_15 : decode cX12_tubs 15 = .ok (.iaload, 1) := by decide +kernel
theorem dX12_tubs_16 : decode cX12_tubs 16 = .ok (.goto 4, 3) := by decide +kernel
theorem dX12_tubs_19 : decode cX12_tubs 19 = .ok (.iconst (-1), 1) := by decide +kernel
theorem dX12_tubs_20 : decode cX12_tubs 20 = .ok (.ireturn, 1) := by decide +kernel
theorem wB_1192 : Cond.fieldLink RX12 198 "DarkMineModel" "undos" "I" ∈ dgB := List.mem_filter.mpr ⟨tbl_6 _ (List.mem_of_getElem? (i := 224) (by decide +kernel)), by decide +kernel⟩
theorem wB_1193 : Cond.fieldLink RX12 222 "DarkMineModel" "feltMany" "I" ∈ dgB := List.mem_filter.mpr ⟨tbl_6 _ (List.mem_of_getElem? (i := 232) (by decide +kernel)), by decide +kernel⟩
theorem wB_1194 : Cond.code yX12_bits cX12_bits 3 (some .int) ∈ dgB := List.mem_filter.mpr ⟨tbl_8 _ (List.mem_of_getElem? (i := 158) rfl), rfl⟩
theorem wB_1195 : Cond.methodLink RX12 515 yX12_bits ∈ dgB := List.mem_filter.mpr ⟨tbl_8 _ (List.mem_of_getElem? (i := 156) (by decide +kernel)), by decide +kernel⟩
theorem wB_1196 : Cond.static yX12_bits ∈ dgB := List.mem_filter.mpr ⟨tbl_8 _ (List.mem_of_getElem? (i := 157) (by decide +kernel)), by decide +kernel⟩
theorem wB_1197 : Cond.code yX12_worthOf cX12_worthOf 4 (some .int) ∈ dgB := List.mem_filter.mpr ⟨tbl_8 _ (List.mem_of_getElem? (i := 162) rfl), rfl⟩
theorem wB_1198 : Cond.methodLink RX12 518 yX12_worthOf ∈ dgB := List.mem_filter.mpr ⟨tbl_8 _ (List.mem_of_getElem? (i := 159) (by decide +kernel)), by decide +kernel⟩
theorem wB_1199 : Cond.instanceMethod yX12_worthOf ∈ dgB := List.mem_filter.mpr ⟨tbl_8 _ (List.mem_of_getElem? (i := 161) (by decide +kernel)), by decide +kernel⟩
theorem wB_1200 : Cond.selects RX12 yX12_worthOf yX12_worthOf ∈ dgB := List.mem_filter.mpr ⟨List.mem_of_getElem? (i := 123) (by decide +kernel), by decide +kernel⟩
theorem wB_1201 : Cond.fieldLink RX12 201 "DarkMineModel" "seeds" "J" ∈ dgB := List.mem_filter.mpr ⟨tbl_6 _ (List.mem_of_getElem? (i := 225) (by decide +kernel)), by decide +kernel⟩
theorem wB_1202 : Cond.code yX12_isOrder cX12_isOrder 2 (some .boolean) ∈ dgB := List.mem_filter.mpr ⟨tbl_8 _ (List.mem_of_getElem? (i := 178) rfl), rfl⟩
theorem wB_1203 : Cond.methodLink RX12 524 yX12_isOrder ∈ dgB := List.mem_filter.mpr ⟨tbl_8 _ (List.mem_of_getElem? (i := 175) (by decide +kernel)), by decide +kernel⟩
theorem wB_1204 : Cond.instanceMethod yX12_isOrder ∈ dgB := List.mem_filter.mpr ⟨tbl_8 _ (List.mem_of_getElem? (i := 177) (by decide +kernel)), by decide +kernel⟩
theorem wB_1205 : Cond.selects RX12 yX12_isOrder yX12_isOrder ∈ dgB := List.mem_filter.mpr ⟨List.mem_of_getElem? (i := 126) (by decide +kernel), by decide +kernel⟩
theorem wB_1206 : Cond.constantLong RX12 527 (255) ∈ dgB := List.mem_filter.mpr ⟨tbl_8 _ (List.mem_of_getElem? (i := 179) (by decide +kernel)), by decide +kernel⟩
theorem wB_1207 : Cond.code yX12_isMiner cX12_isMiner 2 (some .boolean) ∈ dgB := List.mem_filter.mpr ⟨tbl_8 _ (List.mem_of_getElem? (i := 174) rfl), rfl⟩
theorem wB_1208 : Cond.methodLink RX12 521 yX12_isMiner ∈ dgB := List.mem_filter.mpr ⟨tbl_8 _ (List.mem_of_getElem? (i := 171) (by decide +kernel)), by decide +kernel⟩
theorem wB_1209 : Cond.instanceMethod yX12_isMiner ∈ dgB := List.mem_filter.mpr ⟨tbl_8 _ (List.mem_of_getElem? (i := 173) (by decide +kernel)), by decide +kernel⟩
theorem wB_1210 : Cond.selects RX12 yX12_isMiner yX12_isMiner ∈ dgB := List.mem_filter.mpr ⟨List.mem_of_getElem? (i := 125) (by decide +kernel), by decide +kernel⟩
theorem wB_1211 : Cond.code yX12_partOf cX12_partOf 2 (some .int) ∈ dgB := List.mem_filter.mpr ⟨tbl_8 _ (List.mem_of_getElem? (i := 236) rfl), rfl⟩
theorem wB_1212 : Cond.methodLink RX12 529 yX12_partOf ∈ dgB := List.mem_filter.mpr ⟨tbl_8 _ (List.mem_of_getElem? (i := 234) (by decide +kernel)), by decide +kernel⟩
theorem wB_1213 : Cond.static yX12_partOf ∈ dgB := List.mem_filter.mpr ⟨tbl_8 _ (List.mem_of_getElem? (i := 235) (by decide +kernel)), by decide +kernel⟩
theorem wB_1214 : Cond.code yX12_tubsFrom cX12_tubsFrom 5 (some .int) ∈ dgB := List.mem_filter.mpr ⟨tbl_9 _ (List.mem_of_getElem? (i := 8) rfl), rfl⟩
theorem wB_1215 : Cond.methodLink RX12 532 yX12_tubsFrom ∈ dgB := List.mem_filter.mpr ⟨tbl_9 _ (List.mem_of_getElem? (i := 5) (by decide +kernel)), by decide +kernel⟩
theorem wB_1216 : Cond.instanceMethod yX12_tubsFrom ∈ dgB := List.mem_filter.mpr ⟨tbl_9 _ (List.mem_of_getElem? (i := 7) (by decide +kernel)), by decide +kernel⟩
theorem wB_1217 : Cond.selects RX12 yX12_tubsFrom yX12_tubsFrom ∈ dgB := List.mem_filter.mpr ⟨List.mem_of_getElem? (i := 135) (by decide +kernel), by decide +kernel⟩
theorem wB_1218 : Cond.code yX12_canSell cX12_canSell 2 (some .boolean) ∈ dgB := List.mem_filter.mpr ⟨tbl_9 _ (List.mem_of_getElem? (i := 4) rfl), rfl⟩
theorem wB_1219 : Cond.methodLink RX12 535 yX12_canSell ∈ dgB := List.mem_filter.mpr ⟨tbl_9 _ (List.mem_of_getElem? (i := 1) (by decide +kernel)), by decide +kernel⟩
theorem wB_1220 : Cond.instanceMethod yX12_canSell ∈ dgB := List.mem_filter.mpr ⟨tbl_9 _ (List.mem_of_getElem? (i := 3) (by decide +kernel)), by decide +kernel⟩
theorem wB_1221 : Cond.selects RX12 yX12_canSell yX12_canSell ∈ dgB := List.mem_filter.mpr ⟨List.mem_of_getElem? (i := 134) (by decide +kernel), by decide +kernel⟩
set_option maxHeartbeats 8000000 in
set_option maxRecDepth 100000 in
theorem c_m_begin (l : Launch) (g : Nat → ClassId) (D : va_G) (o : Nat) (S : dg_S) (ZB : ZBM S) (ZS : ZSM S) (I : CM o S) (sz : Nat) : Met l yX12_begin (bw yX12_begin cX12_begin 2 none) ({ frames := 1, cells := 0, slots := 0, locals := 32 } : Room) (dk_Pc g D (dg_w g shM o rfM S) sz [.ref (o + 0)]) (va_Qv (fun S' => CM o S' ∧ dg_sm shM [(0, 61), (0, 63), (0, 69)] [29, 30, 31, 32, 33, 34, 35, 36, 37, 38] S S' ∧ ZSM S' ∧ True) (dg_B g D shM o rfM) (dg_A o shM.length sz)) 0 0 (dg_A o shM.length sz) := by
  refine dg_met (cc := cX12_begin) (maxL := 2) (ret := none) (by decide) rfl (Nat.le_of_ble_eq_true rfl) ?_
  intro p e s m args below meth c A hAe harg hx hb hr hml hts hown hlocks hin hP K hS hA1 hA ST hsz ls hl
  rw [← hAe]
  have F : CallFix p m c cX12_begin 2 s args (bw yX12_begin cX12_begin 2 none) RX12 := ⟨hx, hb, hml, hown, hts⟩
  have hl : lv_has ls 2 [(0, .ref (o + 0))] := hl
  have M_0 : dg_sm shM [(0, 61), (0, 63), (0, 69)] [29, 30, 31, 32, 33, 34, 35, 36, 37, 38] S S := dg_sm.rf
  refine lv_aload_n hx hb dX12_begin_0 rfl (lv_at hl 0 rfl) ?_
  refine dg_get (C := RX12) (T := TX12) (N := 77) hx hb hts (fun w h => bw_mem (wU_X12 w h)) hown K hP sM_0 rfl 49 (by decide) (hts _ (bw_mem wB_1108)) (fun _ h9 => h9) (v := .ref (o + 29)) (show S.1 0 49 = .ref (o + 29) from dg_I.rel (d := 29) I sM_0 (by decide +kernel)) dX12_begin_1 ?_
  refine lv_iconst (v := 0) hx hb dX12_begin_4 (by decide +kernel) ?_
  refine lv_iconst (v := 0) hx hb dX12_begin_5 (by decide +kernel) ?_
  have hin_1 : vp_in (0 : Int32) 22 := (dk_in (by decide +kernel))
  have hz_3 : (0 : Int32).toInt = 0 := by decide +kernel
  have hz_4 : (0 : Int32).toInt = 0 := by decide +kernel
  refine dg_iast hx hb K hP hS hA1 sM_29 hin_1 dX12_begin_6 (fun S_2 e_2 H locs hP hS => ?_)
  have I_2 := dg_I.ufu (lo := 0) (hi := 2000) I e_2 sM_29 (by decide +kernel) (show 0 ≤ ((0 : Int32)).toInt ∧ ((0 : Int32)).toInt ≤ 2000 from (by decide +kernel))
  have M_2 := dg_sm.uf M_0 e_2 sM_29 (by decide)
  have ZS_2 := ZSM.up ZS hin_1 e_2 (by omega)
  refine lv_aload_n hx hb dX12_begin_7 rfl (lv_at hl 0 rfl) ?_
  refine dg_get (C := RX12) (T := TX12) (N := 77) hx hb hts (fun w h => bw_mem (wU_X12 w h)) hown K hP sM_0 rfl 50 (by decide) (hts _ (bw_mem wB_1129)) (fun _ h9 => h9) (v := .ref (o + 30)) (show S_2.1 0 50 = .ref (o + 30) from dg_I.rel (d := 30) I_2 sM_0 (by decide +kernel)) dX12_begin_8 ?_
  refine lv_iconst (v := 0) hx hb dX12_begin_11 (by decide +kernel) ?_
  refine lv_iconst (v := 0) hx hb dX12_begin_12 (by decide +kernel) ?_
  have hin_5 : vp_in (0 : Int32) 22 := (dk_in (by decide +kernel))
  have hz_7 : (0 : Int32).toInt = 0 := by decide +kernel
  have hz_8 : (0 : Int32).toInt = 0 := by decide +kernel
  refine dg_iast hx hb K hP hS hA1 sM_30 hin_5 dX12_begin_13 (fun S_6 e_6 H locs hP hS => ?_)
  have I_6 := dg_I.uf0 I_2 e_6 sM_30 (by decide +kernel)
  have M_6 := dg_sm.uf M_2 e_6 sM_30 (by decide)
  refine lv_aload_n hx hb dX12_begin_14 rfl (lv_at hl 0 rfl) ?_
  refine dg_get (C := RX12) (T := TX12) (N := 77) hx hb hts (fun w h => bw_mem (wU_X12 w h)) hown K hP sM_0 rfl 53 (by decide) (hts _ (bw_mem wB_1130)) (fun _ h9 => h9) (v := .ref (o + 33)) (show S_6.1 0 53 = .ref (o + 33) from dg_I.rel (d := 33) I_6 sM_0 (by decide +kernel)) dX12_begin_15 ?_
  refine lv_iconst (v := 0) hx hb dX12_begin_18 (by decide +kernel) ?_
  refine lv_iconst (v := 0) hx hb dX12_begin_19 (by decide +kernel) ?_
  have hin_9 : vp_in (0 : Int32) 22 := (dk_in (by decide +kernel))
  have hz_11 : (0 : Int32).toInt = 0 := by decide +kernel
  have hz_12 : (0 : Int32).toInt = 0 := by decide +kernel
  refine dg_iast hx hb K hP hS hA1 sM_33 hin_9 dX12_begin_20 (fun S_10 e_10 H locs hP hS => ?_)
  have I_10 := dg_I.uf0 I_6 e_10 sM_33 (by decide +kernel)
  have M_10 := dg_sm.uf M_6 e_10 sM_33 (by decide)
  refine lv_aload_n hx hb dX12_begin_21 rfl (lv_at hl 0 rfl) ?_
  refine dg_get (C := RX12) (T := TX12) (N := 77) hx hb hts (fun w h => bw_mem (wU_X12 w h)) hown K hP sM_0 rfl 54 (by decide) (hts _ (bw_mem wB_1131)) (fun _ h9 => h9) (v := .ref (o + 34)) (show S_10.1 0 54 = .ref (o + 34) from dg_I.rel (d := 34) I_10 sM_0 (by decide +kernel)) dX12_begin_22 ?_
  refine lv_iconst (v := 0) hx hb dX12_begin_25 (by decide +kernel) ?_
  refine lv_iconst (v := 0) hx hb dX12_begin_26 (by decide +kernel) ?_
  have hin_13 : vp_in (0 : Int32) 22 := (dk_in (by decide +kernel))
  have hz_15 : (0 : Int32).toInt = 0 := by decide +kernel
  have hz_16 : (0 : Int32).toInt = 0 := by decide +kernel
  refine dg_iast hx hb K hP hS hA1 sM_34 hin_13 dX12_begin_27 (fun S_14 e_14 H locs hP hS => ?_)
  have I_14 := dg_I.uf0 I_10 e_14 sM_34 (by decide +kernel)
  have M_14 := dg_sm.uf M_10 e_14 sM_34 (by decide)
  refine lv_iconst (v := 0) hx hb dX12_begin_28 (by decide +kernel) ?_
  refine lv_istore_n (lv' := [(1, .int 0), (0, .ref (o + 0))]) hx hb dX12_begin_29 rfl hl (by decide) rfl (fun ls hl => ?_)
  have J_278 : ∀ (x_126 : Int32), (64 ≤ (x_126).toInt ∧ (x_126).toInt ≤ 2147483647) → ∀ S_277 : dg_S, CM o S_277 → dg_sm shM [(0, 61), (0, 63), (0, 69)] [29, 30, 31, 32, 33, 34, 35, 36, 37, 38] S S_277 → S_277.2.1 29 (0 : Int32).toNatClampNeg = 0 → S_277.2.1 30 (0 : Int32).toNatClampNeg = 0 → S_277.2.1 33 (0 : Int32).toNatClampNeg = 0 → S_277.2.1 34 (0 : Int32).toNatClampNeg = 0 → ZSM S_277 → ∀ (H : Heap) (locs : List Loc), va_P D vwCl (dg_w g shM o rfM S_277) H → va_S A s.heap H locs → ∀ ls : Array Slot, lv_has ls 2 [(1, .int x_126), (0, .ref (o + 0))] → W p l e ({ frames := 1, cells := 0, slots := 0, locals := 32 } : Room) s m args below meth c H locs 0 0 (MQ below (va_Qv (fun S' => CM o S' ∧ dg_sm shM [(0, 61), (0, 63), (0, 69)] [29, 30, 31, 32, 33, 34, 35, 36, 37, 38] S S' ∧ ZSM S' ∧ True) (dg_B g D shM o rfM) A) args s 0 0 A) (F0 m 86 ls []) := by
    intro x_126 b_x_126 S_277 I_277 M_277 frw_277_0 frw_277_1 frw_277_2 frw_277_3 ZS_277 H locs hP hS ls hl
    refine lv_iconst (v := 0) hx hb dX12_begin_86 (by decide +kernel) ?_
    refine lv_istore_n (lv' := [(1, .int 0), (0, .ref (o + 0))]) hx hb dX12_begin_87 rfl hl (by decide) rfl (fun ls hl => ?_)
    have J_429 : ∀ (x_375 : Int32), (16 ≤ (x_375).toInt ∧ (x_375).toInt ≤ 2147483647) → ∀ S_428 : dg_S, CM o S_428 → dg_sm shM [(0, 61), (0, 63), (0, 69)] [29, 30, 31, 32, 33, 34, 35, 36, 37, 38] S S_428 → S_428.2.1 29 (0 : Int32).toNatClampNeg = 0 → S_428.2.1 30 (0 : Int32).toNatClampNeg = 0 → S_428.2.1 33 (0 : Int32).toNatClampNeg = 0 → S_428.2.1 34 (0 : Int32).toNatClampNeg = 0 → ZSM S_428 → ∀ (H : Heap) (locs : List Loc), va_P D vwCl (dg_w g shM o rfM S_428) H → va_S A s.heap H locs → ∀ ls : Array Slot, lv_has ls 2 [(1, .int x_375), (0, .ref (o + 0))] → W p l e ({ frames := 1, cells := 0, slots := 0, locals := 32 } : Room) s m args below meth c H locs 0 0 (MQ below (va_Qv (fun S' => CM o S' ∧ dg_sm shM [(0, 61), (0, 63), (0, 69)] [29, 30, 31, 32, 33, 34, 35, 36, 37, 38] S S' ∧ ZSM S' ∧ True) (dg_B g D shM o rfM) A) args s 0 0 A) (F0 m 140 ls []) := by
      intro x_375 b_x_375 S_428 I_428 M_428 frw_428_0 frw_428_1 frw_428_2 frw_428_3 ZS_428 H locs hP hS ls hl
      refine lv_iconst (v := 0) hx hb dX12_begin_140 (by decide +kernel) ?_
      refine lv_istore_n (lv' := [(1, .int 0), (0, .ref (o + 0))]) hx hb dX12_begin_141 rfl hl (by decide) rfl (fun ls hl => ?_)
      have J_482 : ∀ (x_467 : Int32), (10 ≤ (x_467).toInt ∧ (x_467).toInt ≤ 2147483647) → ∀ S_481 : dg_S, CM o S_481 → dg_sm shM [(0, 61), (0, 63), (0, 69)] [29, 30, 31, 32, 33, 34, 35, 36, 37, 38] S S_481 → S_481.2.1 29 (0 : Int32).toNatClampNeg = 0 → S_481.2.1 30 (0 : Int32).toNatClampNeg = 0 → S_481.2.1 33 (0 : Int32).toNatClampNeg = 0 → S_481.2.1 34 (0 : Int32).toNatClampNeg = 0 → ZSM S_481 → ∀ (H : Heap) (locs : List Loc), va_P D vwCl (dg_w g shM o rfM S_481) H → va_S A s.heap H locs → ∀ ls : Array Slot, lv_has ls 2 [(1, .int x_467), (0, .ref (o + 0))] → W p l e ({ frames := 1, cells := 0, slots := 0, locals := 32 } : Room) s m args below meth c H locs 0 0 (MQ below (va_Qv (fun S' => CM o S' ∧ dg_sm shM [(0, 61), (0, 63), (0, 69)] [29, 30, 31, 32, 33, 34, 35, 36, 37, 38] S S' ∧ ZSM S' ∧ True) (dg_B g D shM o rfM) A) args s 0 0 A) (F0 m 161 ls []) := by
        intro x_467 b_x_467 S_481 I_481 M_481 frw_481_0 frw_481_1 frw_481_2 frw_481_3 ZS_481 H locs hP hS ls hl
        refine lv_aload_n hx hb dX12_begin_161 rfl (lv_at hl 1 rfl) ?_
        refine lv_aload_n hx hb dX12_begin_162 rfl (lv_at hl 1 rfl) ?_
        refine dg_get (C := RX12) (T := TX12) (N := 77) hx hb hts (fun w h => bw_mem (wU_X12 w h)) hown K hP sM_0 rfl 17 (by decide) (hts _ (bw_mem wB_480)) (fun _ h9 => h9) (v := .ref (o + 5)) (show S_481.1 0 17 = .ref (o + 5) from dg_I.rel (d := 5) I_481 sM_0 (by decide +kernel)) dX12_begin_163 ?_
        refine lv_aload_n hx hb dX12_begin_166 rfl (lv_at hl 1 rfl) ?_
        obtain ⟨x_483, f_x_483, b_x_483⟩ := dg_I.int (i := 0) (k := 13) (lo := 0) (hi := 1) I sM_0 (by decide +kernel)
        refine dg_get (C := RX12) (T := TX12) (N := 77) hx hb hts (fun w h => bw_mem (wU_X12 w h)) hown K hP sM_0 rfl 13 (by decide) (hts _ (bw_mem wB_1085)) (fun _ h9 => h9) (v := .int x_483) ((M_481.1 0 13 _ sM_0 (by decide)).trans f_x_483) dX12_begin_167 ?_
        have hin_484 : vp_in x_483 2 := (dk_inv (by omega) (by omega))
        refine dg_iald hx hb K hP sM_5 hin_484 dX12_begin_170 (fun x_485 ex_485 => ?_)
        have b_x_485 := dk_all_at (dg_I.row (lo := 0) (hi := 9999) I_481 sM_5 (by decide +kernel)) hin_484 ex_485
        refine dg_put (ci := 12) (v := .int x_485) (ty := tyX12 63) (C := RX12) (T := TX12) (N := 77) hx hb hts (fun w h => bw_mem (wU_X12 w h)) tyX12 tyX12_ok nmX12 hown K hP hS hA1 sM_0 rfl 63 (by decide) (hts _ (bw_mem wB_1096)) (fun _ h9 => h9) rfl (by decide +kernel) rfl rfl dX12_begin_171 (fun S_486 e_486 H locs hP hS => ?_)
        have I_486 := dg_I.uFi (lo := (-2147483648)) (hi := 2147483647) I_481 e_486 sM_0 (by decide +kernel) (show (-2147483648) ≤ (x_485).toInt ∧ (x_485).toInt ≤ 2147483647 from (dk_full _))
        have M_486 := dg_sm.uF M_481 e_486 sM_0 (by decide)
        refine lv_aload_n hx hb dX12_begin_174 rfl (lv_at hl 1 rfl) ?_
        refine dg_get (C := RX12) (T := TX12) (N := 77) hx hb hts (fun w h => bw_mem (wU_X12 w h)) hown K hP sM_0 rfl 58 (by decide) (hts _ (bw_mem wB_1127)) (fun _ h9 => h9) (v := .ref (o + 38)) (show S_486.1 0 58 = .ref (o + 38) from dg_I.rel (d := 38) I_486 sM_0 (by decide +kernel)) dX12_begin_175 ?_
        refine lv_iconst (v := 0) hx hb dX12_begin_178 (by decide +kernel) ?_
        refine lv_iconst (v := 0) hx hb dX12_begin_179 (by decide +kernel) ?_
        have hin_487 : vp_in (0 : Int32) 22 := (dk_in (by decide +kernel))
        have hz_489 : (0 : Int32).toInt = 0 := by decide +kernel
        have hz_490 : (0 : Int32).toInt = 0 := by decide +kernel
        refine dg_iast hx hb K hP hS hA1 sM_38 hin_487 dX12_begin_180 (fun S_488 e_488 H locs hP hS => ?_)
        have I_488 := dg_I.ufu (lo := 0) (hi := 40) I_486 e_488 sM_38 (by decide +kernel) (show 0 ≤ ((0 : Int32)).toInt ∧ ((0 : Int32)).toInt ≤ 40 from (by decide +kernel))
        have M_488 := dg_sm.uf M_486 e_488 sM_38 (by decide)
        refine lv_aload_n hx hb dX12_begin_181 rfl (lv_at hl 1 rfl) ?_
        refine lv_iconst (v := 0) hx hb dX12_begin_182 (by decide +kernel) ?_
        have hz_491 : (0 : Int32).toInt = 0 := by decide +kernel
        refine dg_put (ci := 12) (v := .int 0) (ty := tyX12 61) (C := RX12) (T := TX12) (N := 77) hx hb hts (fun w h => bw_mem (wU_X12 w h)) tyX12 tyX12_ok nmX12 hown K hP hS hA1 sM_0 rfl 61 (by decide) (hts _ (bw_mem wB_1192)) (fun _ h9 => h9) rfl (by decide +kernel) rfl rfl dX12_begin_183 (fun S_492 e_492 H locs hP hS => ?_)
        have I_492 := dg_I.uFi (lo := 0) (hi := 20) I_488 e_492 sM_0 (by decide +kernel) (show 0 ≤ ((0 : Int32)).toInt ∧ ((0 : Int32)).toInt ≤ 20 from (by decide +kernel))
        have M_492 := dg_sm.uF M_488 e_492 sM_0 (by decide)
        refine lv_aload_n hx hb dX12_begin_186 rfl (lv_at hl 1 rfl) ?_
        refine lv_iconst (v := 0) hx hb dX12_begin_187 (by decide +kernel) ?_
        have hz_493 : (0 : Int32).toInt = 0 := by decide +kernel
        refine dg_put (ci := 12) (v := .int 0) (ty := tyX12 69) (C := RX12) (T := TX12) (N := 77) hx hb hts (fun w h => bw_mem (wU_X12 w h)) tyX12 tyX12_ok nmX12 hown K hP hS hA1 sM_0 rfl 69 (by decide) (hts _ (bw_mem wB_1193)) (fun _ h9 => h9) rfl (by decide +kernel) rfl rfl dX12_begin_188 (fun S_494 e_494 H locs hP hS => ?_)
        have I_494 := dg_I.uFi (lo := 0) (hi := 16) I_492 e_494 sM_0 (by decide +kernel) (show 0 ≤ ((0 : Int32)).toInt ∧ ((0 : Int32)).toInt ≤ 16 from (by decide +kernel))
        have M_494 := dg_sm.uF M_492 e_494 sM_0 (by decide)
        refine W.widen (k := 0) (n := 0) (Nat.le_of_ble_eq_true rfl) (Nat.le_of_ble_eq_true rfl) ?_
        exact dg_vret hx hb hr hlocks hP hS ⟨I_494, M_494, (ZSM.keep (ZSM.keep (ZSM.keep (ZSM.keep ZS_481 (dg_sm.uF (WF := [(0, 63)]) (WA := []) dg_sm.rf e_486 sM_0 (by decide)) (by decide)) (dg_sm.uf (WF := []) (WA := [38]) dg_sm.rf e_488 sM_38 (by decide)) (by decide)) (dg_sm.uF (WF := [(0, 61)]) (WA := []) dg_sm.rf e_492 sM_0 (by decide)) (by decide)) (dg_sm.uF (WF := [(0, 69)]) (WA := []) dg_sm.rf e_494 sM_0 (by decide)) (by decide)), trivial⟩ dX12_begin_191
      have L_529 : ∀ (n : Nat) (x_527 : Int32), (0 ≤ (x_527).toInt ∧ (x_527).toInt ≤ 10) → ((11 - (x_527).toInt).toNat < n) → ∀ S_528 : dg_S, CM o S_528 → dg_sm shM [(0, 61), (0, 63), (0, 69)] [29, 30, 31, 32, 33, 34, 35, 36, 37, 38] S S_528 → S_528.2.1 29 (0 : Int32).toNatClampNeg = 0 → S_528.2.1 30 (0 : Int32).toNatClampNeg = 0 → S_528.2.1 33 (0 : Int32).toNatClampNeg = 0 → S_528.2.1 34 (0 : Int32).toNatClampNeg = 0 → ZSM S_528 → ∀ (H : Heap) (locs : List Loc), va_P D vwCl (dg_w g shM o rfM S_528) H → va_S A s.heap H locs → ∀ ls : Array Slot, lv_has ls 2 [(1, .int x_527), (0, .ref (o + 0))] → W p l e ({ frames := 1, cells := 0, slots := 0, locals := 32 } : Room) s m args below meth c H locs 0 0 (MQ below (va_Qv (fun S' => CM o S' ∧ dg_sm shM [(0, 61), (0, 63), (0, 69)] [29, 30, 31, 32, 33, 34, 35, 36, 37, 38] S S' ∧ ZSM S' ∧ True) (dg_B g D shM o rfM) A) args s 0 0 A) (F0 m 142 ls []) := by
        intro n
        induction n with
        | zero =>
          intro x_527 b_x_527 hmu S_528 I_528 M_528 frw_528_0 frw_528_1 frw_528_2 frw_528_3 ZS_528 H locs hP hS ls hl
          omega
        | succ n ih =>
          intro x_527 b_x_527 hmu S_528 I_528 M_528 frw_528_0 frw_528_1 frw_528_2 frw_528_3 ZS_528 H locs hP hS ls hl
          refine lv_iload_n hx hb dX12_begin_142 rfl (lv_at hl 0 rfl) ?_
          refine lv_bipush (v := 10) hx hb dX12_begin_143 (by decide +kernel) ?_
          refine lv_icmp_ge (tgt := 161) hx hb dX12_begin_145 (by decide) (fun c_530 => ?_) (fun c_530 => ?_)
          · have jc_530 := dk_gec (k := 10) (by decide +kernel) c_530
            have hf_530 := dk_full x_527
            exact J_482 x_527 (by omega) S_528 I_528 M_528 frw_528_0 frw_528_1 frw_528_2 frw_528_3 ZS_528 _ _ hP hS _ (lv_sub hl [0, 1] rfl)
          · have jc_530 := dk_ngec (k := 10) (by decide +kernel) c_530
            refine lv_aload_n hx hb dX12_begin_148 rfl (lv_at hl 1 rfl) ?_
            refine dg_get (C := RX12) (T := TX12) (N := 77) hx hb hts (fun w h => bw_mem (wU_X12 w h)) hown K hP sM_0 rfl 57 (by decide) (hts _ (bw_mem wB_1117)) (fun _ h9 => h9) (v := .ref (o + 37)) (show S_528.1 0 57 = .ref (o + 37) from dg_I.rel (d := 37) I_528 sM_0 (by decide +kernel)) dX12_begin_149 ?_
            refine lv_iload_n hx hb dX12_begin_152 rfl (lv_at hl 0 rfl) ?_
            refine lv_iconst (v := 0) hx hb dX12_begin_153 (by decide +kernel) ?_
            have hin_532 : vp_in x_527 220 := (dk_inv (by omega) (by omega))
            have hz_534 : (0 : Int32).toInt = 0 := by decide +kernel
            refine dg_iast hx hb K hP hS hA1 sM_37 hin_532 dX12_begin_154 (fun S_533 e_533 H locs hP hS => ?_)
            have I_533 := dg_I.uf0 I_528 e_533 sM_37 (by decide +kernel)
            have M_533 := dg_sm.uf M_528 e_533 sM_37 (by decide)
            obtain ⟨x_535, ex_535⟩ : ∃ z, z = x_527 + 1 := ⟨_, rfl⟩
            have jx_535 : (x_535).toInt = (x_527).toInt + 1 := by rw [ex_535]; exact dk_addT rfl (by decide +kernel) (by omega) (by omega)
            refine lv_iinc (v := x_535) (lv' := [(1, .int x_535), (0, .ref (o + 0))]) hx hb dX12_begin_155 hl (k := 0) rfl (by rw [ex_535]; rfl) (by decide) rfl (fun ls hl => ?_)
            refine lv_goto (tgt := 142) hx hb dX12_begin_158 (by decide) ?_
            exact ih x_535 (by omega) (by omega) S_533 I_533 M_533 ((congrFun (dg_uf_ne e_533 (by decide)) _).trans frw_528_0) ((congrFun (dg_uf_ne e_533 (by decide)) _).trans frw_528_1) ((congrFun (dg_uf_ne e_533 (by decide)) _).trans frw_528_2) ((congrFun (dg_uf_ne e_533 (by decide)) _).trans frw_528_3) (ZSM.keep ZS_528 (dg_sm.uf (WF := []) (WA := [37]) dg_sm.rf e_533 sM_37 (by decide)) (by decide)) _ _ hP hS _ (lv_sub hl [0, 1] rfl)
      have hz_536 : (0 : Int32).toInt = 0 := by decide +kernel
      have hz_537 : (0 : Int32).toInt = 0 := by decide +kernel
      exact L_529 ((11 - ((0 : Int32)).toInt).toNat + 1) 0 (by decide +kernel) (by omega) S_428 I_428 M_428 frw_428_0 frw_428_1 frw_428_2 frw_428_3 ZS_428 _ _ hP hS _ (lv_sub hl [0, 1] rfl)
    have L_621 : ∀ (n : Nat) (x_619 : Int32), (0 ≤ (x_619).toInt ∧ (x_619).toInt ≤ 16) → ((17 - (x_619).toInt).toNat < n) → ∀ S_620 : dg_S, CM o S_620 → dg_sm shM [(0, 61), (0, 63), (0, 69)] [29, 30, 31, 32, 33, 34, 35, 36, 37, 38] S S_620 → S_620.2.1 29 (0 : Int32).toNatClampNeg = 0 → S_620.2.1 30 (0 : Int32).toNatClampNeg = 0 → S_620.2.1 33 (0 : Int32).toNatClampNeg = 0 → S_620.2.1 34 (0 : Int32).toNatClampNeg = 0 → ZSM S_620 → ∀ (H : Heap) (locs : List Loc), va_P D vwCl (dg_w g shM o rfM S_620) H → va_S A s.heap H locs → ∀ ls : Array Slot, lv_has ls 2 [(1, .int x_619), (0, .ref (o + 0))] → W p l e ({ frames := 1, cells := 0, slots := 0, locals := 32 } : Room) s m args below meth c H locs 0 0 (MQ below (va_Qv (fun S' => CM o S' ∧ dg_sm shM [(0, 61), (0, 63), (0, 69)] [29, 30, 31, 32, 33, 34, 35, 36, 37, 38] S S' ∧ ZSM S' ∧ True) (dg_B g D shM o rfM) A) args s 0 0 A) (F0 m 88 ls []) := by
      intro n
      induction n with
      | zero =>
        intro x_619 b_x_619 hmu S_620 I_620 M_620 frw_620_0 frw_620_1 frw_620_2 frw_620_3 ZS_620 H locs hP hS ls hl
        omega
      | succ n ih =>
        intro x_619 b_x_619 hmu S_620 I_620 M_620 frw_620_0 frw_620_1 frw_620_2 frw_620_3 ZS_620 H locs hP hS ls hl
        refine lv_iload_n hx hb dX12_begin_88 rfl (lv_at hl 0 rfl) ?_
        refine lv_bipush (v := 16) hx hb dX12_begin_89 (by decide +kernel) ?_
        refine lv_icmp_ge (tgt := 140) hx hb dX12_begin_91 (by decide) (fun c_622 => ?_) (fun c_622 => ?_)
        · have jc_622 := dk_gec (k := 16) (by decide +kernel) c_622
          have hf_622 := dk_full x_619
          exact J_429 x_619 (by omega) S_620 I_620 M_620 frw_620_0 frw_620_1 frw_620_2 frw_620_3 ZS_620 _ _ hP hS _ (lv_sub hl [0, 1] rfl)
        · have jc_622 := dk_ngec (k := 16) (by decide +kernel) c_622
          refine lv_aload_n hx hb dX12_begin_94 rfl (lv_at hl 1 rfl) ?_
          refine dg_get (C := RX12) (T := TX12) (N := 77) hx hb hts (fun w h => bw_mem (wU_X12 w h)) hown K hP sM_0 rfl 55 (by decide) (hts _ (bw_mem wB_1132)) (fun _ h9 => h9) (v := .ref (o + 35)) (show S_620.1 0 55 = .ref (o + 35) from dg_I.rel (d := 35) I_620 sM_0 (by decide +kernel)) dX12_begin_95 ?_
          refine lv_iload_n hx hb dX12_begin_98 rfl (lv_at hl 0 rfl) ?_
          refine lv_aload_n hx hb dX12_begin_99 rfl (lv_at hl 1 rfl) ?_
          refine dg_get (C := RX12) (T := TX12) (N := 77) hx hb hts (fun w h => bw_mem (wU_X12 w h)) hown K hP sM_0 rfl 22 (by decide) (hts _ (bw_mem wB_396)) (fun _ h9 => h9) (v := .ref (o + 10)) (show S_620.1 0 22 = .ref (o + 10) from dg_I.rel (d := 10) I_620 sM_0 (by decide +kernel)) dX12_begin_100 ?_
          refine lv_bipush (v := 16) hx hb dX12_begin_103 (by decide +kernel) ?_
          refine lv_aload_n hx hb dX12_begin_105 rfl (lv_at hl 1 rfl) ?_
          obtain ⟨x_624, f_x_624, b_x_624⟩ := dg_I.int (i := 0) (k := 13) (lo := 0) (hi := 1) I sM_0 (by decide +kernel)
          refine dg_get (C := RX12) (T := TX12) (N := 77) hx hb hts (fun w h => bw_mem (wU_X12 w h)) hown K hP sM_0 rfl 13 (by decide) (hts _ (bw_mem wB_1085)) (fun _ h9 => h9) (v := .int x_624) ((M_620.1 0 13 _ sM_0 (by decide)).trans f_x_624) dX12_begin_106 ?_
          refine lv_imul hx hb dX12_begin_109 ?_
          refine lv_topi (fun x_625 ex_625 => ?_)
          have jx_625 : (x_625).toInt = 16 * (x_624).toInt := by rw [ex_625]; exact dk_mulT (by decide +kernel) rfl (by omega) (by omega)
          refine lv_iload_n hx hb dX12_begin_110 rfl (lv_at hl 0 rfl) ?_
          refine lv_iadd hx hb dX12_begin_111 ?_
          refine lv_topi (fun x_626 ex_626 => ?_)
          have jx_626 : (x_626).toInt = (x_625).toInt + (x_619).toInt := by rw [ex_626]; exact dk_addT rfl rfl (by omega) (by omega)
          have hin_627 : vp_in x_626 32 := (dk_inv (by omega) (by omega))
          refine dg_iald hx hb K hP sM_10 hin_627 dX12_begin_112 (fun x_628 ex_628 => ?_)
          have hin_629 : vp_in x_619 352 := (dk_inv (by omega) (by omega))
          refine dg_iast hx hb K hP hS hA1 sM_35 hin_629 dX12_begin_113 (fun S_630 e_630 H locs hP hS => ?_)
          have I_630 := dg_I.uf0 I_620 e_630 sM_35 (by decide +kernel)
          have M_630 := dg_sm.uf M_620 e_630 sM_35 (by decide)
          refine lv_aload_n hx hb dX12_begin_114 rfl (lv_at hl 1 rfl) ?_
          refine dg_get (C := RX12) (T := TX12) (N := 77) hx hb hts (fun w h => bw_mem (wU_X12 w h)) hown K hP sM_0 rfl 56 (by decide) (hts _ (bw_mem wB_1133)) (fun _ h9 => h9) (v := .ref (o + 36)) (show S_630.1 0 56 = .ref (o + 36) from dg_I.rel (d := 36) I_630 sM_0 (by decide +kernel)) dX12_begin_115 ?_
          refine lv_iload_n hx hb dX12_begin_118 rfl (lv_at hl 0 rfl) ?_
          refine lv_aload_n hx hb dX12_begin_119 rfl (lv_at hl 1 rfl) ?_
          refine dg_get (C := RX12) (T := TX12) (N := 77) hx hb hts (fun w h => bw_mem (wU_X12 w h)) hown K hP sM_0 rfl 23 (by decide) (hts _ (bw_mem wB_397)) (fun _ h9 => h9) (v := .ref (o + 11)) (show S_630.1 0 23 = .ref (o + 11) from dg_I.rel (d := 11) I_630 sM_0 (by decide +kernel)) dX12_begin_120 ?_
          refine lv_bipush (v := 16) hx hb dX12_begin_123 (by decide +kernel) ?_
          refine lv_aload_n hx hb dX12_begin_125 rfl (lv_at hl 1 rfl) ?_
          refine dg_get (C := RX12) (T := TX12) (N := 77) hx hb hts (fun w h => bw_mem (wU_X12 w h)) hown K hP sM_0 rfl 13 (by decide) (hts _ (bw_mem wB_1085)) (fun _ h9 => h9) (v := .int x_624) (((dg_uf_F e_630 0 13).trans (M_620.1 0 13 _ sM_0 (by decide))).trans f_x_624) dX12_begin_126 ?_
          refine lv_imul hx hb dX12_begin_129 ?_
          refine lv_topi (fun x_631 ex_631 => ?_)
          have jx_631 : (x_631).toInt = 16 * (x_624).toInt := by rw [ex_631]; exact dk_mulT (by decide +kernel) rfl (by omega) (by omega)
          refine lv_iload_n hx hb dX12_begin_130 rfl (lv_at hl 0 rfl) ?_
          refine lv_iadd hx hb dX12_begin_131 ?_
          refine lv_topi (fun x_632 ex_632 => ?_)
          have jx_632 : (x_632).toInt = (x_631).toInt + (x_619).toInt := by rw [ex_632]; exact dk_addT rfl rfl (by omega) (by omega)
          have hin_633 : vp_in x_632 32 := (dk_inv (by omega) (by omega))
          refine dg_iald hx hb K hP sM_11 hin_633 dX12_begin_132 (fun x_634 ex_634 => ?_)
          have b_x_634 := dk_all_at (dg_I.row (lo := 0) (hi := 63) I_630 sM_11 (by decide +kernel)) hin_633 ex_634
          have hin_635 : vp_in x_619 352 := (dk_inv (by omega) (by omega))
          refine dg_iast hx hb K hP hS hA1 sM_36 hin_635 dX12_begin_133 (fun S_636 e_636 H locs hP hS => ?_)
          have I_636 := dg_I.ufu (lo := 0) (hi := 63) I_630 e_636 sM_36 (by decide +kernel) (show 0 ≤ (x_634).toInt ∧ (x_634).toInt ≤ 63 from (by omega))
          have M_636 := dg_sm.uf M_630 e_636 sM_36 (by decide)
          obtain ⟨x_637, ex_637⟩ : ∃ z, z = x_619 + 1 := ⟨_, rfl⟩
          have jx_637 : (x_637).toInt = (x_619).toInt + 1 := by rw [ex_637]; exact dk_addT rfl (by decide +kernel) (by omega) (by omega)
          refine lv_iinc (v := x_637) (lv' := [(1, .int x_637), (0, .ref (o + 0))]) hx hb dX12_begin_134 hl (k := 0) rfl (by rw [ex_637]; rfl) (by decide) rfl (fun ls hl => ?_)
          refine lv_goto (tgt := 88) hx hb dX12_begin_137 (by decide) ?_
          exact ih x_637 (by omega) (by omega) S_636 I_636 M_636 ((congrFun ((dg_uf_ne e_636 (by decide)).trans (dg_uf_ne e_630 (by decide))) _).trans frw_620_0) ((congrFun ((dg_uf_ne e_636 (by decide)).trans (dg_uf_ne e_630 (by decide))) _).trans frw_620_1) ((congrFun ((dg_uf_ne e_636 (by decide)).trans (dg_uf_ne e_630 (by decide))) _).trans frw_620_2) ((congrFun ((dg_uf_ne e_636 (by decide)).trans (dg_uf_ne e_630 (by decide))) _).trans frw_620_3) (ZSM.keep (ZSM.keep ZS_620 (dg_sm.uf (WF := []) (WA := [35]) dg_sm.rf e_630 sM_35 (by decide)) (by decide)) (dg_sm.uf (WF := []) (WA := [36]) dg_sm.rf e_636 sM_36 (by decide)) (by decide)) _ _ hP hS _ (lv_sub hl [0, 1] rfl)
    have hz_638 : (0 : Int32).toInt = 0 := by decide +kernel
    have hz_639 : (0 : Int32).toInt = 0 := by decide +kernel
    exact L_621 ((17 - ((0 : Int32)).toInt).toNat + 1) 0 (by decide +kernel) (by omega) S_277 I_277 M_277 frw_277_0 frw_277_1 frw_277_2 frw_277_3 ZS_277 _ _ hP hS _ (lv_sub hl [0, 1] rfl)
  have L_734 : ∀ (n : Nat) (x_732 : Int32), (0 ≤ (x_732).toInt ∧ (x_732).toInt ≤ 64) → ((65 - (x_732).toInt).toNat < n) → ∀ S_733 : dg_S, CM o S_733 → dg_sm shM [(0, 61), (0, 63), (0, 69)] [29, 30, 31, 32, 33, 34, 35, 36, 37, 38] S S_733 → S_733.2.1 29 (0 : Int32).toNatClampNeg = 0 → S_733.2.1 30 (0 : Int32).toNatClampNeg = 0 → S_733.2.1 33 (0 : Int32).toNatClampNeg = 0 → S_733.2.1 34 (0 : Int32).toNatClampNeg = 0 → ZSM S_733 → ∀ (H : Heap) (locs : List Loc), va_P D vwCl (dg_w g shM o rfM S_733) H → va_S A s.heap H locs → ∀ ls : Array Slot, lv_has ls 2 [(1, .int x_732), (0, .ref (o + 0))] → W p l e ({ frames := 1, cells := 0, slots := 0, locals := 32 } : Room) s m args below meth c H locs 0 0 (MQ below (va_Qv (fun S' => CM o S' ∧ dg_sm shM [(0, 61), (0, 63), (0, 69)] [29, 30, 31, 32, 33, 34, 35, 36, 37, 38] S S' ∧ ZSM S' ∧ True) (dg_B g D shM o rfM) A) args s 0 0 A) (F0 m 30 ls []) := by
    intro n
    induction n with
    | zero =>
      intro x_732 b_x_732 hmu S_733 I_733 M_733 frw_733_0 frw_733_1 frw_733_2 frw_733_3 ZS_733 H locs hP hS ls hl
      omega
    | succ n ih =>
      intro x_732 b_x_732 hmu S_733 I_733 M_733 frw_733_0 frw_733_1 frw_733_2 frw_733_3 ZS_733 H locs hP hS ls hl
      refine lv_iload_n hx hb dX12_begin_30 rfl (lv_at hl 0 rfl) ?_
      refine lv_bipush (v := 64) hx hb dX12_begin_31 (by decide +kernel) ?_
      refine lv_icmp_ge (tgt := 86) hx hb dX12_begin_33 (by decide) (fun c_735 => ?_) (fun c_735 => ?_)
      · have jc_735 := dk_gec (k := 64) (by decide +kernel) c_735
        have hf_735 := dk_full x_732
        exact J_278 x_732 (by omega) S_733 I_733 M_733 frw_733_0 frw_733_1 frw_733_2 frw_733_3 ZS_733 _ _ hP hS _ (lv_sub hl [0, 1] rfl)
      · have jc_735 := dk_ngec (k := 64) (by decide +kernel) c_735
        refine lv_aload_n hx hb dX12_begin_36 rfl (lv_at hl 1 rfl) ?_
        refine dg_get (C := RX12) (T := TX12) (N := 77) hx hb hts (fun w h => bw_mem (wU_X12 w h)) hown K hP sM_0 rfl 51 (by decide) (hts _ (bw_mem wB_1090)) (fun _ h9 => h9) (v := .ref (o + 31)) (show S_733.1 0 51 = .ref (o + 31) from dg_I.rel (d := 31) I_733 sM_0 (by decide +kernel)) dX12_begin_37 ?_
        refine lv_iload_n hx hb dX12_begin_40 rfl (lv_at hl 0 rfl) ?_
        refine lv_iload_n hx hb dX12_begin_41 rfl (lv_at hl 0 rfl) ?_
        refine lv_aload_n hx hb dX12_begin_42 rfl (lv_at hl 1 rfl) ?_
        refine dg_get (C := RX12) (T := TX12) (N := 77) hx hb hts (fun w h => bw_mem (wU_X12 w h)) hown K hP sM_0 rfl 16 (by decide) (hts _ (bw_mem wB_481)) (fun _ h9 => h9) (v := .ref (o + 4)) (show S_733.1 0 16 = .ref (o + 4) from dg_I.rel (d := 4) I_733 sM_0 (by decide +kernel)) dX12_begin_43 ?_
        refine lv_aload_n hx hb dX12_begin_46 rfl (lv_at hl 1 rfl) ?_
        obtain ⟨x_737, f_x_737, b_x_737⟩ := dg_I.int (i := 0) (k := 13) (lo := 0) (hi := 1) I sM_0 (by decide +kernel)
        refine dg_get (C := RX12) (T := TX12) (N := 77) hx hb hts (fun w h => bw_mem (wU_X12 w h)) hown K hP sM_0 rfl 13 (by decide) (hts _ (bw_mem wB_1085)) (fun _ h9 => h9) (v := .int x_737) ((M_733.1 0 13 _ sM_0 (by decide)).trans f_x_737) dX12_begin_47 ?_
        have hin_738 : vp_in x_737 2 := (dk_inv (by omega) (by omega))
        refine dg_iald hx hb K hP sM_4 hin_738 dX12_begin_50 (fun x_739 ex_739 => ?_)
        have b_x_739 := dk_all_at (dg_I.row (lo := 0) (hi := 9999) I_733 sM_4 (by decide +kernel)) hin_738 ex_739
        obtain ⟨x_740, f_x_740, b_x_740⟩ := dg_I.int (i := 0) (k := 47) (lo := 0) (hi := 1) I sM_0 (by decide +kernel)
        have zb_x_739 : (x_739).toInt ≤ 63 := by rw [ex_739]; exact ((ZBM.keep ZB M_733 (by decide) (by decide) (by decide) (by decide) (by decide)) x_737 x_740 ((M_733.1 0 13 _ sM_0 (by decide)).trans f_x_737) ((M_733.1 0 47 _ sM_0 (by decide)).trans f_x_740)).2.2.1
        have J_753 : ∀ (x_746 : Int32), ((-1) ≤ (x_746).toInt ∧ (x_746).toInt ≤ 9) → ∀ (H : Heap) (locs : List Loc), va_P D vwCl (dg_w g shM o rfM S_733) H → va_S A s.heap H locs → ∀ ls : Array Slot, lv_has ls 2 [(1, .int x_732), (0, .ref (o + 0))] → W p l e ({ frames := 1, cells := 0, slots := 0, locals := 32 } : Room) s m args below meth c H locs 0 0 (MQ below (va_Qv (fun S' => CM o S' ∧ dg_sm shM [(0, 61), (0, 63), (0, 69)] [29, 30, 31, 32, 33, 34, 35, 36, 37, 38] S S' ∧ ZSM S' ∧ True) (dg_B g D shM o rfM) A) args s 0 0 A) (F0 m 72 ls [.int x_746, .int x_732, .ref (o + 31)]) := by
          intro x_746 b_x_746 H locs hP hS ls hl
          have hin_754 : vp_in x_732 1408 := (dk_inv (by omega) (by omega))
          refine dg_iast hx hb K hP hS hA1 sM_31 hin_754 dX12_begin_72 (fun S_755 e_755 H locs hP hS => ?_)
          have I_755 := dg_I.ufu (lo := (-1)) (hi := 9) I_733 e_755 sM_31 (by decide +kernel) (show (-1) ≤ (x_746).toInt ∧ (x_746).toInt ≤ 9 from (by omega))
          have M_755 := dg_sm.uf M_733 e_755 sM_31 (by decide)
          refine lv_aload_n hx hb dX12_begin_73 rfl (lv_at hl 1 rfl) ?_
          refine dg_get (C := RX12) (T := TX12) (N := 77) hx hb hts (fun w h => bw_mem (wU_X12 w h)) hown K hP sM_0 rfl 52 (by decide) (hts _ (bw_mem wB_1097)) (fun _ h9 => h9) (v := .ref (o + 32)) (show S_755.1 0 52 = .ref (o + 32) from dg_I.rel (d := 32) I_755 sM_0 (by decide +kernel)) dX12_begin_74 ?_
          refine lv_iload_n hx hb dX12_begin_77 rfl (lv_at hl 0 rfl) ?_
          refine lv_iconst (v := 0) hx hb dX12_begin_78 (by decide +kernel) ?_
          have hin_756 : vp_in x_732 1408 := (dk_inv (by omega) (by omega))
          have hz_758 : (0 : Int32).toInt = 0 := by decide +kernel
          refine dg_iast hx hb K hP hS hA1 sM_32 hin_756 dX12_begin_79 (fun S_757 e_757 H locs hP hS => ?_)
          have I_757 := dg_I.uf0 I_755 e_757 sM_32 (by decide +kernel)
          have M_757 := dg_sm.uf M_755 e_757 sM_32 (by decide)
          obtain ⟨x_759, ex_759⟩ : ∃ z, z = x_732 + 1 := ⟨_, rfl⟩
          have jx_759 : (x_759).toInt = (x_732).toInt + 1 := by rw [ex_759]; exact dk_addT rfl (by decide +kernel) (by omega) (by omega)
          refine lv_iinc (v := x_759) (lv' := [(1, .int x_759), (0, .ref (o + 0))]) hx hb dX12_begin_80 hl (k := 0) rfl (by rw [ex_759]; rfl) (by decide) rfl (fun ls hl => ?_)
          refine lv_goto (tgt := 30) hx hb dX12_begin_83 (by decide) ?_
          exact ih x_759 (by omega) (by omega) S_757 I_757 M_757 ((congrFun ((dg_uf_ne e_757 (by decide)).trans (dg_uf_ne e_755 (by decide))) _).trans frw_733_0) ((congrFun ((dg_uf_ne e_757 (by decide)).trans (dg_uf_ne e_755 (by decide))) _).trans frw_733_1) ((congrFun ((dg_uf_ne e_757 (by decide)).trans (dg_uf_ne e_755 (by decide))) _).trans frw_733_2) ((congrFun ((dg_uf_ne e_757 (by decide)).trans (dg_uf_ne e_755 (by decide))) _).trans frw_733_3) (ZSM.keep (ZSM.keep ZS_733 (dg_sm.uf (WF := []) (WA := [31]) dg_sm.rf e_755 sM_31 (by decide)) (by decide)) (dg_sm.uf (WF := []) (WA := [32]) dg_sm.rf e_757 sM_32 (by decide)) (by decide)) _ _ hP hS _ (lv_sub hl [0, 1] rfl)
        refine lv_icmp_ne (tgt := 58) hx hb dX12_begin_51 (by decide) (fun c_760 => ?_) (fun c_760 => ?_)
        · have jc_760 := dk_neqc (k := (x_739).toInt) rfl c_760
          refine lv_aload_n hx hb dX12_begin_58 rfl (lv_at hl 1 rfl) ?_
          refine dg_get (C := RX12) (T := TX12) (N := 77) hx hb hts (fun w h => bw_mem (wU_X12 w h)) hown K hP sM_0 rfl 19 (by decide) (hts _ (bw_mem wB_386)) (fun _ h9 => h9) (v := .ref (o + 7)) (show S_733.1 0 19 = .ref (o + 7) from dg_I.rel (d := 7) I_733 sM_0 (by decide +kernel)) dX12_begin_59 ?_
          refine lv_bipush (v := 64) hx hb dX12_begin_62 (by decide +kernel) ?_
          refine lv_aload_n hx hb dX12_begin_64 rfl (lv_at hl 1 rfl) ?_
          refine dg_get (C := RX12) (T := TX12) (N := 77) hx hb hts (fun w h => bw_mem (wU_X12 w h)) hown K hP sM_0 rfl 13 (by decide) (hts _ (bw_mem wB_1085)) (fun _ h9 => h9) (v := .int x_737) ((M_733.1 0 13 _ sM_0 (by decide)).trans f_x_737) dX12_begin_65 ?_
          refine lv_imul hx hb dX12_begin_68 ?_
          refine lv_topi (fun x_761 ex_761 => ?_)
          have jx_761 : (x_761).toInt = 64 * (x_737).toInt := by rw [ex_761]; exact dk_mulT (by decide +kernel) rfl (by omega) (by omega)
          refine lv_iload_n hx hb dX12_begin_69 rfl (lv_at hl 0 rfl) ?_
          refine lv_iadd hx hb dX12_begin_70 ?_
          refine lv_topi (fun x_762 ex_762 => ?_)
          have jx_762 : (x_762).toInt = (x_761).toInt + (x_732).toInt := by rw [ex_762]; exact dk_addT rfl rfl (by omega) (by omega)
          have hin_763 : vp_in x_762 128 := (dk_inv (by omega) (by omega))
          refine dg_iald hx hb K hP sM_7 hin_763 dX12_begin_71 (fun x_764 ex_764 => ?_)
          have b_x_764 := dk_all_at (dg_I.row (lo := 0) (hi := 9) I_733 sM_7 (by decide +kernel)) hin_763 ex_764
          exact J_753 x_764 (by omega) _ _ hP hS _ (lv_sub hl [0, 1] rfl)
        · have jc_760 := dk_eqc (k := (x_739).toInt) rfl c_760
          refine lv_iconst (v := (-1)) hx hb dX12_begin_54 (by decide +kernel) ?_
          refine lv_goto (tgt := 72) hx hb dX12_begin_55 (by decide) ?_
          have hz_765 : (-1 : Int32).toInt = (-1) := by decide +kernel
          exact J_753 (-1) (by decide +kernel) _ _ hP hS _ (lv_sub hl [0, 1] rfl)
  have hz_766 : (0 : Int32).toInt = 0 := by decide +kernel
  have hz_767 : (0 : Int32).toInt = 0 := by decide +kernel
  exact L_734 ((65 - ((0 : Int32)).toInt).toNat + 1) 0 (by decide +kernel) (by omega) S_14 I_14 M_14 ((congrFun ((dg_uf_ne e_14 (by decide)).trans ((dg_uf_ne e_10 (by decide)).trans (dg_uf_ne e_6 (by decide)))) _).trans ((congrFun (dg_uf_at e_2) _).trans (dg_upd_at rfl))) ((congrFun ((dg_uf_ne e_14 (by decide)).trans (dg_uf_ne e_10 (by decide))) _).trans ((congrFun (dg_uf_at e_6) _).trans (dg_upd_at rfl))) ((congrFun (dg_uf_ne e_14 (by decide)) _).trans ((congrFun (dg_uf_at e_10) _).trans (dg_upd_at rfl))) ((congrFun (dg_uf_at e_14) _).trans (dg_upd_at rfl)) (ZSM.keep (ZSM.keep (ZSM.keep ZS_2 (dg_sm.uf (WF := []) (WA := [30]) dg_sm.rf e_6 sM_30 (by decide)) (by decide)) (dg_sm.uf (WF := []) (WA := [33]) dg_sm.rf e_10 sM_33 (by decide)) (by decide)) (dg_sm.uf (WF := []) (WA := [34]) dg_sm.rf e_14 sM_34 (by decide)) (by decide)) _ _ hP hS _ (lv_sub hl [0, 1] rfl)
set_option maxHeartbeats 8000000 in
set_option maxRecDepth 100000 in
theorem c_m_has (l : Launch) (g : Nat → ClassId) (D : va_G) (o : Nat) (S : dg_S) (a1 : Int32) (ZB : ZBM S) (I : CM o S) (sz : Nat) : Met l yX12_has (bw yX12_has cX12_has 4 (some .int)) ({ frames := 5, cells := 0, slots := 0, locals := 126 } : Room) (dk_Pc g D (dg_w g shM o rfM S) sz [.ref (o + 0), .int a1]) (va_Qi (fun (r : Int32) S' => CM o S' ∧ dg_sm shM [] [42, 43] S S' ∧ True) (dg_B g D shM o rfM) (dg_A o shM.length sz)) 0 0 (dg_A o shM.length sz) := by
  refine dg_met (cc := cX12_has) (maxL := 4) (ret := (some .int)) (by decide) rfl (Nat.le_of_ble_eq_true rfl) ?_
  intro p e s m args below meth c A hAe harg hx hb hr hml hts hown hlocks hin hP K hS hA1 hA ST hsz ls hl
  rw [← hAe]
  have F : CallFix p m c cX12_has 4 s args (bw yX12_has cX12_has 4 (some .int)) RX12 := ⟨hx, hb, hml, hown, hts⟩
  have hl : lv_has ls 4 [(0, .ref (o + 0)), (1, .int a1)] := hl
  have M_0 : dg_sm shM [] [42, 43] S S := dg_sm.rf
  refine lv_iconst (v := 0) hx hb dX12_has_0 (by decide +kernel) ?_
  refine lv_istore_n (lv' := [(2, .int 0), (0, .ref (o + 0)), (1, .int a1)]) hx hb dX12_has_1 rfl hl (by decide) rfl (fun ls hl => ?_)
  refine lv_iload_n hx hb dX12_has_2 rfl (lv_at hl 2 rfl) ?_
  rcases (show ((a1).toInt < 0 ∨ 16 < (a1).toInt) ∨ (a1).toInt = 0 ∨ (a1).toInt = 1 ∨ (a1).toInt = 2 ∨ (a1).toInt = 3 ∨ (a1).toInt = 4 ∨ (a1).toInt = 5 ∨ (a1).toInt = 6 ∨ (a1).toInt = 7 ∨ (a1).toInt = 8 ∨ (a1).toInt = 9 ∨ (a1).toInt = 10 ∨ (a1).toInt = 11 ∨ (a1).toInt = 12 ∨ (a1).toInt = 13 ∨ (a1).toInt = 14 ∨ (a1).toInt = 15 ∨ (a1).toInt = 16 by omega) with jc_1 | jc_1 | jc_1 | jc_1 | jc_1 | jc_1 | jc_1 | jc_1 | jc_1 | jc_1 | jc_1 | jc_1 | jc_1 | jc_1 | jc_1 | jc_1 | jc_1 | jc_1
  · refine lv_tableOut (tgt := 336) hx hb dX12_has_3 jc_1 (by decide) ?_
    refine lv_iconst (v := (-1)) hx hb dX12_has_336 (by decide +kernel) ?_
    refine W.widen (k := 0) (n := 0) (Nat.le_of_ble_eq_true rfl) (Nat.le_of_ble_eq_true rfl) ?_
    exact dg_iret hx hb hr hlocks rfl hP hS ⟨I, M_0, trivial⟩ dX12_has_337
  · refine lv_tableIn (off := 81) (tgt := 84) hx hb dX12_has_3 (by rw [jc_1]; decide) (by rw [jc_1]; decide) (by rw [jc_1]; decide +kernel) (by decide) ?_
    refine lv_aload_n hx hb dX12_has_84 rfl (lv_at hl 1 rfl) ?_
    refine dg_get (C := RX12) (T := TX12) (N := 77) hx hb hts (fun w h => bw_mem (wU_X12 w h)) hown K hP sM_0 rfl 14 (by decide) (hts _ (bw_mem wB_372)) (fun _ h9 => h9) (v := .ref (o + 2)) (show S.1 0 14 = .ref (o + 2) from dg_I.rel (d := 2) I sM_0 (by decide +kernel)) dX12_has_85 ?_
    refine lv_aload_n hx hb dX12_has_88 rfl (lv_at hl 1 rfl) ?_
    obtain ⟨x_2, f_x_2, b_x_2⟩ := dg_I.int (i := 0) (k := 13) (lo := 0) (hi := 1) I sM_0 (by decide +kernel)
    refine dg_get (C := RX12) (T := TX12) (N := 77) hx hb hts (fun w h => bw_mem (wU_X12 w h)) hown K hP sM_0 rfl 13 (by decide) (hts _ (bw_mem wB_1085)) (fun _ h9 => h9) (v := .int x_2) f_x_2 dX12_has_89 ?_
    have hin_3 : vp_in x_2 2 := (dk_inv (by omega) (by omega))
    refine dg_iald hx hb K hP sM_2 hin_3 dX12_has_92 (fun x_4 ex_4 => ?_)
    have b_x_4 := dk_all_at (dg_I.row (lo := 0) (hi := 9999) I sM_2 (by decide +kernel)) hin_3 ex_4
    obtain ⟨x_5, f_x_5, b_x_5⟩ := dg_I.int (i := 0) (k := 47) (lo := 0) (hi := 1) I sM_0 (by decide +kernel)
    have zb_x_4 : (x_4).toInt ≤ 7 ∧ ((x_5 : Int32).toInt = 1 → 3 ≤ (x_4).toInt) := by rw [ex_4]; exact ⟨(ZB x_2 x_5 f_x_2 f_x_5).1, fun h9 => ((ZB x_2 x_5 f_x_2 f_x_5).2.2.2 h9).1⟩
    refine W.widen (k := 0) (n := 0) (Nat.le_of_ble_eq_true rfl) (Nat.le_of_ble_eq_true rfl) ?_
    exact dg_iret hx hb hr hlocks rfl hP hS ⟨I, M_0, trivial⟩ dX12_has_93
  · refine lv_tableIn (off := 91) (tgt := 94) hx hb dX12_has_3 (by rw [jc_1]; decide) (by rw [jc_1]; decide) (by rw [jc_1]; decide +kernel) (by decide) ?_
    refine lv_aload_n hx hb dX12_has_94 rfl (lv_at hl 1 rfl) ?_
    refine dg_get (C := RX12) (T := TX12) (N := 77) hx hb hts (fun w h => bw_mem (wU_X12 w h)) hown K hP sM_0 rfl 15 (by decide) (hts _ (bw_mem wB_377)) (fun _ h9 => h9) (v := .ref (o + 3)) (show S.1 0 15 = .ref (o + 3) from dg_I.rel (d := 3) I sM_0 (by decide +kernel)) dX12_has_95 ?_
    refine lv_aload_n hx hb dX12_has_98 rfl (lv_at hl 1 rfl) ?_
    obtain ⟨x_6, f_x_6, b_x_6⟩ := dg_I.int (i := 0) (k := 13) (lo := 0) (hi := 1) I sM_0 (by decide +kernel)
    refine dg_get (C := RX12) (T := TX12) (N := 77) hx hb hts (fun w h => bw_mem (wU_X12 w h)) hown K hP sM_0 rfl 13 (by decide) (hts _ (bw_mem wB_1085)) (fun _ h9 => h9) (v := .int x_6) f_x_6 dX12_has_99 ?_
    have hin_7 : vp_in x_6 2 := (dk_inv (by omega) (by omega))
    refine dg_iald hx hb K hP sM_3 hin_7 dX12_has_102 (fun x_8 ex_8 => ?_)
    have b_x_8 := dk_all_at (dg_I.row (lo := 0) (hi := 9999) I sM_3 (by decide +kernel)) hin_7 ex_8
    obtain ⟨x_9, f_x_9, b_x_9⟩ := dg_I.int (i := 0) (k := 47) (lo := 0) (hi := 1) I sM_0 (by decide +kernel)
    have zb_x_8 : (x_8).toInt ≤ 7 ∧ ((x_9 : Int32).toInt = 1 → 3 ≤ (x_8).toInt) := by rw [ex_8]; exact ⟨(ZB x_6 x_9 f_x_6 f_x_9).2.1, fun h9 => ((ZB x_6 x_9 f_x_6 f_x_9).2.2.2 h9).2⟩
    refine W.widen (k := 0) (n := 0) (Nat.le_of_ble_eq_true rfl) (Nat.le_of_ble_eq_true rfl) ?_
    exact dg_iret hx hb hr hlocks rfl hP hS ⟨I, M_0, trivial⟩ dX12_has_103
  · refine lv_tableIn (off := 101) (tgt := 104) hx hb dX12_has_3 (by rw [jc_1]; decide) (by rw [jc_1]; decide) (by rw [jc_1]; decide +kernel) (by decide) ?_
    refine lv_aload_n hx hb dX12_has_104 rfl (lv_at hl 1 rfl) ?_
    refine dg_get (C := RX12) (T := TX12) (N := 77) hx hb hts (fun w h => bw_mem (wU_X12 w h)) hown K hP sM_0 rfl 20 (by decide) (hts _ (bw_mem wB_352)) (fun _ h9 => h9) (v := .ref (o + 8)) (show S.1 0 20 = .ref (o + 8) from dg_I.rel (d := 8) I sM_0 (by decide +kernel)) dX12_has_105 ?_
    refine lv_aload_n hx hb dX12_has_108 rfl (lv_at hl 1 rfl) ?_
    obtain ⟨x_10, f_x_10, b_x_10⟩ := dg_I.int (i := 0) (k := 13) (lo := 0) (hi := 1) I sM_0 (by decide +kernel)
    refine dg_get (C := RX12) (T := TX12) (N := 77) hx hb hts (fun w h => bw_mem (wU_X12 w h)) hown K hP sM_0 rfl 13 (by decide) (hts _ (bw_mem wB_1085)) (fun _ h9 => h9) (v := .int x_10) f_x_10 dX12_has_109 ?_
    have hin_11 : vp_in x_10 2 := (dk_inv (by omega) (by omega))
    refine dg_iald hx hb K hP sM_8 hin_11 dX12_has_112 (fun x_12 ex_12 => ?_)
    have b_x_12 := dk_all_at (dg_I.row (lo := 0) (hi := 6) I sM_8 (by decide +kernel)) hin_11 ex_12
    refine W.widen (k := 0) (n := 0) (Nat.le_of_ble_eq_true rfl) (Nat.le_of_ble_eq_true rfl) ?_
    exact dg_iret hx hb hr hlocks rfl hP hS ⟨I, M_0, trivial⟩ dX12_has_113
  · refine lv_tableIn (off := 111) (tgt := 114) hx hb dX12_has_3 (by rw [jc_1]; decide) (by rw [jc_1]; decide) (by rw [jc_1]; decide +kernel) (by decide) ?_
    refine lv_aload_n hx hb dX12_has_114 rfl (lv_at hl 1 rfl) ?_
    refine dg_get (C := RX12) (T := TX12) (N := 77) hx hb hts (fun w h => bw_mem (wU_X12 w h)) hown K hP sM_0 rfl 21 (by decide) (hts _ (bw_mem wB_391)) (fun _ h9 => h9) (v := .ref (o + 9)) (show S.1 0 21 = .ref (o + 9) from dg_I.rel (d := 9) I sM_0 (by decide +kernel)) dX12_has_115 ?_
    refine lv_aload_n hx hb dX12_has_118 rfl (lv_at hl 1 rfl) ?_
    obtain ⟨x_13, f_x_13, b_x_13⟩ := dg_I.int (i := 0) (k := 13) (lo := 0) (hi := 1) I sM_0 (by decide +kernel)
    refine dg_get (C := RX12) (T := TX12) (N := 77) hx hb hts (fun w h => bw_mem (wU_X12 w h)) hown K hP sM_0 rfl 13 (by decide) (hts _ (bw_mem wB_1085)) (fun _ h9 => h9) (v := .int x_13) f_x_13 dX12_has_119 ?_
    have hin_14 : vp_in x_13 2 := (dk_inv (by omega) (by omega))
    refine dg_iald hx hb K hP sM_9 hin_14 dX12_has_122 (fun x_15 ex_15 => ?_)
    have b_x_15 := dk_all_at (dg_I.row (lo := 0) (hi := 16) I sM_9 (by decide +kernel)) hin_14 ex_15
    refine W.widen (k := 0) (n := 0) (Nat.le_of_ble_eq_true rfl) (Nat.le_of_ble_eq_true rfl) ?_
    exact dg_iret hx hb hr hlocks rfl hP hS ⟨I, M_0, trivial⟩ dX12_has_123
  · refine lv_tableIn (off := 121) (tgt := 124) hx hb dX12_has_3 (by rw [jc_1]; decide) (by rw [jc_1]; decide) (by rw [jc_1]; decide +kernel) (by decide) ?_
    refine lv_aload_n hx hb dX12_has_124 rfl (lv_at hl 1 rfl) ?_
    refine dg_get (C := RX12) (T := TX12) (N := 77) hx hb hts (fun w h => bw_mem (wU_X12 w h)) hown K hP sM_0 rfl 24 (by decide) (hts _ (bw_mem wB_355)) (fun _ h9 => h9) (v := .ref (o + 12)) (show S.1 0 24 = .ref (o + 12) from dg_I.rel (d := 12) I sM_0 (by decide +kernel)) dX12_has_125 ?_
    refine lv_aload_n hx hb dX12_has_128 rfl (lv_at hl 1 rfl) ?_
    obtain ⟨x_16, f_x_16, b_x_16⟩ := dg_I.int (i := 0) (k := 13) (lo := 0) (hi := 1) I sM_0 (by decide +kernel)
    refine dg_get (C := RX12) (T := TX12) (N := 77) hx hb hts (fun w h => bw_mem (wU_X12 w h)) hown K hP sM_0 rfl 13 (by decide) (hts _ (bw_mem wB_1085)) (fun _ h9 => h9) (v := .int x_16) f_x_16 dX12_has_129 ?_
    have hin_17 : vp_in x_16 2 := (dk_inv (by omega) (by omega))
    refine dg_iald hx hb K hP sM_12 hin_17 dX12_has_132 (fun x_18 ex_18 => ?_)
    have b_x_18 := dk_all_at (dg_I.row (lo := 0) (hi := 5) I sM_12 (by decide +kernel)) hin_17 ex_18
    refine W.widen (k := 0) (n := 0) (Nat.le_of_ble_eq_true rfl) (Nat.le_of_ble_eq_true rfl) ?_
    exact dg_iret hx hb hr hlocks rfl hP hS ⟨I, M_0, trivial⟩ dX12_has_133
  · refine lv_tableIn (off := 131) (tgt := 134) hx hb dX12_has_3 (by rw [jc_1]; decide) (by rw [jc_1]; decide) (by rw [jc_1]; decide +kernel) (by decide) ?_
    refine lv_aload_n hx hb dX12_has_134 rfl (lv_at hl 1 rfl) ?_
    refine dg_get (C := RX12) (T := TX12) (N := 77) hx hb hts (fun w h => bw_mem (wU_X12 w h)) hown K hP sM_0 rfl 49 (by decide) (hts _ (bw_mem wB_1108)) (fun _ h9 => h9) (v := .ref (o + 29)) (show S.1 0 49 = .ref (o + 29) from dg_I.rel (d := 29) I sM_0 (by decide +kernel)) dX12_has_135 ?_
    refine lv_iconst (v := 0) hx hb dX12_has_138 (by decide +kernel) ?_
    have hin_19 : vp_in (0 : Int32) 22 := (dk_in (by decide +kernel))
    refine dg_iald hx hb K hP sM_29 hin_19 dX12_has_139 (fun x_20 ex_20 => ?_)
    have b_x_20 := dk_all_at (dg_I.row (lo := 0) (hi := 2000) I sM_29 (by decide +kernel)) hin_19 ex_20
    refine W.widen (k := 0) (n := 0) (Nat.le_of_ble_eq_true rfl) (Nat.le_of_ble_eq_true rfl) ?_
    exact dg_iret hx hb hr hlocks rfl hP hS ⟨I, M_0, trivial⟩ dX12_has_140
  · refine lv_tableIn (off := 138) (tgt := 141) hx hb dX12_has_3 (by rw [jc_1]; decide) (by rw [jc_1]; decide) (by rw [jc_1]; decide +kernel) (by decide) ?_
    refine lv_iconst (v := 0) hx hb dX12_has_141 (by decide +kernel) ?_
    refine lv_istore_n (lv' := [(3, .int 0), (2, .int 0), (0, .ref (o + 0)), (1, .int a1)]) hx hb dX12_has_142 rfl hl (by decide) rfl (fun ls hl => ?_)
    have L_114 : ∀ (n : Nat) (x_112 : Int32) (x_113 : Int32), (0 ≤ (x_112).toInt ∧ (x_112).toInt ≤ 64) → ((65 - (x_112).toInt).toNat < n) → ∀ (H : Heap) (locs : List Loc), va_P D vwCl (dg_w g shM o rfM S) H → va_S A s.heap H locs → ∀ ls : Array Slot, lv_has ls 4 [(3, .int x_112), (2, .int x_113), (0, .ref (o + 0)), (1, .int a1)] → W p l e ({ frames := 5, cells := 0, slots := 0, locals := 126 } : Room) s m args below meth c H locs 0 0 (MQ below (va_Qi (fun (r : Int32) S' => CM o S' ∧ dg_sm shM [] [42, 43] S S' ∧ True) (dg_B g D shM o rfM) A) args s 0 0 A) (F0 m 143 ls []) := by
      intro n
      induction n with
      | zero =>
        intro x_112 x_113 b_x_112 hmu H locs hP hS ls hl
        omega
      | succ n ih =>
        intro x_112 x_113 b_x_112 hmu H locs hP hS ls hl
        refine lv_iload_n hx hb dX12_has_143 rfl (lv_at hl 0 rfl) ?_
        refine lv_bipush (v := 64) hx hb dX12_has_144 (by decide +kernel) ?_
        refine lv_icmp_ge (tgt := 180) hx hb dX12_has_146 (by decide) (fun c_115 => ?_) (fun c_115 => ?_)
        · have jc_115 := dk_gec (k := 64) (by decide +kernel) c_115
          refine lv_iload_n hx hb dX12_has_180 rfl (lv_at hl 1 rfl) ?_
          refine W.widen (k := 0) (n := 0) (Nat.le_of_ble_eq_true rfl) (Nat.le_of_ble_eq_true rfl) ?_
          exact dg_iret hx hb hr hlocks rfl hP hS ⟨I, M_0, trivial⟩ dX12_has_181
        · have jc_115 := dk_ngec (k := 64) (by decide +kernel) c_115
          refine lv_iload_n hx hb dX12_has_149 rfl (lv_at hl 1 rfl) ?_
          refine lv_aload_n hx hb dX12_has_150 rfl (lv_at hl 2 rfl) ?_
          refine lv_iload_n hx hb dX12_has_151 rfl (lv_at hl 0 rfl) ?_
          obtain ⟨x_116, f_x_116, b_x_116⟩ := dg_I.int (i := 0) (k := 13) (lo := 0) (hi := 1) I sM_0 (by decide +kernel)
          obtain ⟨x_117, f_x_117, b_x_117⟩ := dg_I.int (i := 0) (k := 47) (lo := 0) (hi := 1) I sM_0 (by decide +kernel)
          obtain ⟨x_118, f_x_118⟩ : ∃ x, S.2.1 2 (x_116 : Int32).toNatClampNeg = x := ⟨_, rfl⟩
          have hin_119 : vp_in (x_116 : Int32) 2 := (dk_inv (by omega) (by omega))
          have b_x_118 := dk_all_at (dg_I.row (lo := 0) (hi := 9999) I sM_2 (by decide +kernel)) hin_119 f_x_118.symm
          have ex_118 := f_x_118.symm
          have zb_x_118 : (x_118).toInt ≤ 7 ∧ ((x_117 : Int32).toInt = 1 → 3 ≤ (x_118).toInt) := by rw [ex_118]; exact ⟨(ZB x_116 x_117 f_x_116 f_x_117).1, fun h9 => ((ZB x_116 x_117 f_x_116 f_x_117).2.2.2 h9).1⟩
          obtain ⟨x_120, f_x_120⟩ : ∃ x, S.2.1 3 (x_116 : Int32).toNatClampNeg = x := ⟨_, rfl⟩
          have hin_121 : vp_in (x_116 : Int32) 2 := (dk_inv (by omega) (by omega))
          have b_x_120 := dk_all_at (dg_I.row (lo := 0) (hi := 9999) I sM_3 (by decide +kernel)) hin_121 f_x_120.symm
          have ex_120 := f_x_120.symm
          have zb_x_120 : (x_120).toInt ≤ 7 ∧ ((x_117 : Int32).toInt = 1 → 3 ≤ (x_120).toInt) := by rw [ex_120]; exact ⟨(ZB x_116 x_117 f_x_116 f_x_117).2.1, fun h9 => ((ZB x_116 x_117 f_x_116 f_x_117).2.2.2 h9).2⟩
          refine dg_calli hS hA1 hA (va_runV (As := [.int x_112]) (rest := [.int x_113]) F (c_m_isCellOf l g D o S x_112 (by omega) x_116 f_x_116 (by omega) x_117 f_x_117 (by omega) x_118 f_x_118 (by omega) x_120 f_x_120 (by omega) ZB I H.size) (cwV 1 hts (bw_V wB_1123 wB_1124 wB_1125 wB_297 wB_1122) rfl rfl rfl (by decide +kernel) ⟨Nat.le_of_ble_eq_true rfl, Nat.le_of_ble_eq_true rfl⟩) (dg_preV sM_0 rfl K ST hP hS hA1 hA) rfl rfl hl.1 rfl (lv_room (Nat.le_of_ble_eq_true rfl)) dX12_has_152 ⟨Nat.le_of_ble_eq_true rfl, Nat.le_of_ble_eq_true rfl⟩) (fun x_122 S_123 hw_123 H locs hP hS => ?_)
          rw [hw_123.1] at hP
          obtain ⟨hq_123, w_123_0, w_123_1, w_123_2, -⟩ := hw_123
          have w_123_0 : 0 ≤ (x_122).toInt ∧ (x_122).toInt ≤ 1 := w_123_0
          have w_123_1 : (x_122).toInt = 1 → 0 ≤ (x_112).toInt := w_123_1
          have w_123_2 : (x_122).toInt = 1 ↔ ((x_117).toInt = 1 ∧ 0 ≤ (x_112).toInt ∧ (x_112).toInt % 8 < (x_118).toInt ∧ (x_112).toInt / 8 < (x_120).toInt) := w_123_2
          have J_132 : ∀ (x_129 : Int32), (0 ≤ (x_129).toInt ∧ (x_129).toInt ≤ 1) → ∀ (H : Heap) (locs : List Loc), va_P D vwCl (dg_w g shM o rfM S) H → va_S A s.heap H locs → ∀ ls : Array Slot, lv_has ls 4 [(3, .int x_112), (2, .int x_113), (0, .ref (o + 0)), (1, .int a1)] → W p l e ({ frames := 5, cells := 0, slots := 0, locals := 126 } : Room) s m args below meth c H locs 0 0 (MQ below (va_Qi (fun (r : Int32) S' => CM o S' ∧ dg_sm shM [] [42, 43] S S' ∧ True) (dg_B g D shM o rfM) A) args s 0 0 A) (F0 m 172 ls [.int x_129, .int x_113]) := by
            intro x_129 b_x_129 H locs hP hS ls hl
            refine lv_iadd hx hb dX12_has_172 ?_
            refine lv_topi (fun x_133 ex_133 => ?_)
            refine lv_istore_n (lv' := [(2, .int x_133), (3, .int x_112), (0, .ref (o + 0)), (1, .int a1)]) hx hb dX12_has_173 rfl hl (by decide) rfl (fun ls hl => ?_)
            obtain ⟨x_134, ex_134⟩ : ∃ z, z = x_112 + 1 := ⟨_, rfl⟩
            have jx_134 : (x_134).toInt = (x_112).toInt + 1 := by rw [ex_134]; exact dk_addT rfl (by decide +kernel) (by omega) (by omega)
            refine lv_iinc (v := x_134) (lv' := [(3, .int x_134), (2, .int x_133), (0, .ref (o + 0)), (1, .int a1)]) hx hb dX12_has_174 hl (k := 1) rfl (by rw [ex_134]; rfl) (by decide) rfl (fun ls hl => ?_)
            refine lv_goto (tgt := 143) hx hb dX12_has_177 (by decide) ?_
            exact ih x_134 x_133 (by omega) (by omega) _ _ hP hS _ (lv_sub hl [0, 1, 2, 3] rfl)
          have J_135 : ∀ (H : Heap) (locs : List Loc), va_P D vwCl (dg_w g shM o rfM S) H → va_S A s.heap H locs → ∀ ls : Array Slot, lv_has ls 4 [(3, .int x_112), (2, .int x_113), (0, .ref (o + 0)), (1, .int a1)] → W p l e ({ frames := 5, cells := 0, slots := 0, locals := 126 } : Room) s m args below meth c H locs 0 0 (MQ below (va_Qi (fun (r : Int32) S' => CM o S' ∧ dg_sm shM [] [42, 43] S S' ∧ True) (dg_B g D shM o rfM) A) args s 0 0 A) (F0 m 171 ls [.int x_113]) := by
            intro H locs hP hS ls hl
            refine lv_iconst (v := 0) hx hb dX12_has_171 (by decide +kernel) ?_
            have hz_136 : (0 : Int32).toInt = 0 := by decide +kernel
            exact J_132 0 (by decide +kernel) _ _ hP hS _ (lv_sub hl [0, 1, 2, 3] rfl)
          refine lv_if_eq (tgt := 171) hx hb dX12_has_155 (by decide) (fun c_137 => ?_) (fun c_137 => ?_)
          · have jc_137 := dk_eqc (k := 0) (by decide +kernel) c_137
            exact J_135   _ _ hP hS _ (lv_sub hl [0, 1, 2, 3] rfl)
          · have jc_137 := dk_neqc (k := 0) (by decide +kernel) c_137
            refine lv_aload_n hx hb dX12_has_158 rfl (lv_at hl 2 rfl) ?_
            refine lv_iconst (v := 0) hx hb dX12_has_159 (by decide +kernel) ?_
            refine lv_iload_n hx hb dX12_has_160 rfl (lv_at hl 0 rfl) ?_
            have hz_138 : (0 : Int32).toInt = 0 := by decide +kernel
            refine dg_calli hS hA1 hA (va_runV (As := [.int 0, .int x_112]) (rest := [.int x_113]) F (c_m_isOpen l g D o S 0 (by decide +kernel) x_112 (by omega) I H.size) (cwV 2 hts (bw_V wB_1092 wB_1093 wB_1094 wB_297 wB_1091) rfl rfl rfl (by decide +kernel) ⟨Nat.le_of_ble_eq_true rfl, Nat.le_of_ble_eq_true rfl⟩) (dg_preV sM_0 rfl K ST hP hS hA1 hA) rfl rfl hl.1 rfl (lv_room (Nat.le_of_ble_eq_true rfl)) dX12_has_161 ⟨Nat.le_of_ble_eq_true rfl, Nat.le_of_ble_eq_true rfl⟩) (fun x_139 S_140 hw_140 H locs hP hS => ?_)
            rw [hw_140.1] at hP
            obtain ⟨hq_140, w_140_0, -⟩ := hw_140
            have w_140_0 : 0 ≤ (x_139).toInt ∧ (x_139).toInt ≤ 1 := w_140_0
            refine lv_if_eq (tgt := 171) hx hb dX12_has_164 (by decide) (fun c_141 => ?_) (fun c_141 => ?_)
            · have jc_141 := dk_eqc (k := 0) (by decide +kernel) c_141
              exact J_135   _ _ hP hS _ (lv_sub hl [0, 1, 2, 3] rfl)
            · have jc_141 := dk_neqc (k := 0) (by decide +kernel) c_141
              refine lv_iconst (v := 1) hx hb dX12_has_167 (by decide +kernel) ?_
              refine lv_goto (tgt := 172) hx hb dX12_has_168 (by decide) ?_
              have hz_142 : (1 : Int32).toInt = 1 := by decide +kernel
              exact J_132 1 (by decide +kernel) _ _ hP hS _ (lv_sub hl [0, 1, 2, 3] rfl)
    have hz_143 : (0 : Int32).toInt = 0 := by decide +kernel
    have hz_144 : (0 : Int32).toInt = 0 := by decide +kernel
    have hz_145 : (0 : Int32).toInt = 0 := by decide +kernel
    exact L_114 ((65 - ((0 : Int32)).toInt).toNat + 1) 0 0 (by decide +kernel) (by omega) _ _ hP hS _ (lv_sub hl [0, 1, 2, 3] rfl)
  · refine lv_tableIn (off := 179) (tgt := 182) hx hb dX12_has_3 (by rw [jc_1]; decide) (by rw [jc_1]; decide) (by rw [jc_1]; decide +kernel) (by decide) ?_
    refine lv_aload_n hx hb dX12_has_182 rfl (lv_at hl 1 rfl) ?_
    refine lv_iconst (v := 0) hx hb dX12_has_183 (by decide +kernel) ?_
    have hz_146 : (0 : Int32).toInt = 0 := by decide +kernel
    obtain ⟨x_147, f_x_147, b_x_147⟩ := dg_I.int (i := 0) (k := 13) (lo := 0) (hi := 1) I sM_0 (by decide +kernel)
    obtain ⟨x_148, f_x_148⟩ : ∃ x, S.2.1 4 (x_147 : Int32).toNatClampNeg = x := ⟨_, rfl⟩
    have hin_149 : vp_in (x_147 : Int32) 2 := (dk_inv (by omega) (by omega))
    have b_x_148 := dk_all_at (dg_I.row (lo := 0) (hi := 9999) I sM_4 (by decide +kernel)) hin_149 f_x_148.symm
    have ex_148 := f_x_148.symm
    obtain ⟨x_150, f_x_150, b_x_150⟩ := dg_I.int (i := 0) (k := 47) (lo := 0) (hi := 1) I sM_0 (by decide +kernel)
    have zb_x_148 : (x_148).toInt ≤ 63 := by rw [ex_148]; exact (ZB x_147 x_150 f_x_147 f_x_150).2.2.1
    refine dg_callv hS hA1 hA (va_runV (As := [.int 0]) (rest := []) F (c_m_measures l g D o S 0 (by decide +kernel) x_147 f_x_147 (by omega) x_148 f_x_148 (by omega) ZB I s.heap.size) (cwV 1 hts (bw_V wB_1161 wB_1162 wB_1163 wB_297 wB_1160) rfl rfl rfl (by decide +kernel) ⟨Nat.le_of_ble_eq_true rfl, Nat.le_of_ble_eq_true rfl⟩) (dg_preV sM_0 rfl K ST hP hS hA1 hA) rfl rfl hl.1 rfl (lv_room (Nat.le_of_ble_eq_true rfl)) dX12_has_184 ⟨Nat.le_of_ble_eq_true rfl, Nat.le_of_ble_eq_true rfl⟩) (fun S_151 hw_151 H locs hP hS => ?_)
    obtain ⟨I_151, m_151, -⟩ := hw_151
    have M_151 := dg_sm.tr M_0 m_151 (by decide) (by decide)
    refine lv_iconst (v := 0) hx hb dX12_has_187 (by decide +kernel) ?_
    refine lv_istore_n (lv' := [(3, .int 0), (2, .int 0), (0, .ref (o + 0)), (1, .int a1)]) hx hb dX12_has_188 rfl hl (by decide) rfl (fun ls hl => ?_)
    have L_235 : ∀ (n : Nat) (x_233 : Int32) (x_234 : Int32), (0 ≤ (x_233).toInt ∧ (x_233).toInt ≤ 64) → ((65 - (x_233).toInt).toNat < n) → ∀ (H : Heap) (locs : List Loc), va_P D vwCl (dg_w g shM o rfM S_151) H → va_S A s.heap H locs → ∀ ls : Array Slot, lv_has ls 4 [(3, .int x_233), (2, .int x_234), (0, .ref (o + 0)), (1, .int a1)] → W p l e ({ frames := 5, cells := 0, slots := 0, locals := 126 } : Room) s m args below meth c H locs 0 0 (MQ below (va_Qi (fun (r : Int32) S' => CM o S' ∧ dg_sm shM [] [42, 43] S S' ∧ True) (dg_B g D shM o rfM) A) args s 0 0 A) (F0 m 189 ls []) := by
      intro n
      induction n with
      | zero =>
        intro x_233 x_234 b_x_233 hmu H locs hP hS ls hl
        omega
      | succ n ih =>
        intro x_233 x_234 b_x_233 hmu H locs hP hS ls hl
        refine lv_iload_n hx hb dX12_has_189 rfl (lv_at hl 0 rfl) ?_
        refine lv_bipush (v := 64) hx hb dX12_has_190 (by decide +kernel) ?_
        refine lv_icmp_ge (tgt := 226) hx hb dX12_has_192 (by decide) (fun c_236 => ?_) (fun c_236 => ?_)
        · have jc_236 := dk_gec (k := 64) (by decide +kernel) c_236
          refine lv_iload_n hx hb dX12_has_226 rfl (lv_at hl 1 rfl) ?_
          refine W.widen (k := 0) (n := 0) (Nat.le_of_ble_eq_true rfl) (Nat.le_of_ble_eq_true rfl) ?_
          exact dg_iret hx hb hr hlocks rfl hP hS ⟨I_151, M_151, trivial⟩ dX12_has_227
        · have jc_236 := dk_ngec (k := 64) (by decide +kernel) c_236
          refine lv_iload_n hx hb dX12_has_195 rfl (lv_at hl 1 rfl) ?_
          refine lv_aload_n hx hb dX12_has_196 rfl (lv_at hl 2 rfl) ?_
          refine lv_iload_n hx hb dX12_has_197 rfl (lv_at hl 0 rfl) ?_
          obtain ⟨x_237, f_x_237⟩ : ∃ x, S_151.2.1 2 (x_147 : Int32).toNatClampNeg = x := ⟨_, rfl⟩
          have hin_238 : vp_in (x_147 : Int32) 2 := (dk_inv (by omega) (by omega))
          have b_x_237 := dk_all_at (dg_I.row (lo := 0) (hi := 9999) I_151 sM_2 (by decide +kernel)) hin_238 f_x_237.symm
          have ex_237 := f_x_237.symm
          have zb_x_237 : (x_237).toInt ≤ 7 ∧ ((x_150 : Int32).toInt = 1 → 3 ≤ (x_237).toInt) := by rw [ex_237]; exact ⟨((ZBM.keep ZB m_151 (by decide) (by decide) (by decide) (by decide) (by decide)) x_147 x_150 ((m_151.1 0 13 _ sM_0 (by decide)).trans f_x_147) ((m_151.1 0 47 _ sM_0 (by decide)).trans f_x_150)).1, fun h9 => (((ZBM.keep ZB m_151 (by decide) (by decide) (by decide) (by decide) (by decide)) x_147 x_150 ((m_151.1 0 13 _ sM_0 (by decide)).trans f_x_147) ((m_151.1 0 47 _ sM_0 (by decide)).trans f_x_150)).2.2.2 h9).1⟩
          obtain ⟨x_239, f_x_239⟩ : ∃ x, S_151.2.1 3 (x_147 : Int32).toNatClampNeg = x := ⟨_, rfl⟩
          have hin_240 : vp_in (x_147 : Int32) 2 := (dk_inv (by omega) (by omega))
          have b_x_239 := dk_all_at (dg_I.row (lo := 0) (hi := 9999) I_151 sM_3 (by decide +kernel)) hin_240 f_x_239.symm
          have ex_239 := f_x_239.symm
          have zb_x_239 : (x_239).toInt ≤ 7 ∧ ((x_150 : Int32).toInt = 1 → 3 ≤ (x_239).toInt) := by rw [ex_239]; exact ⟨((ZBM.keep ZB m_151 (by decide) (by decide) (by decide) (by decide) (by decide)) x_147 x_150 ((m_151.1 0 13 _ sM_0 (by decide)).trans f_x_147) ((m_151.1 0 47 _ sM_0 (by decide)).trans f_x_150)).2.1, fun h9 => (((ZBM.keep ZB m_151 (by decide) (by decide) (by decide) (by decide) (by decide)) x_147 x_150 ((m_151.1 0 13 _ sM_0 (by decide)).trans f_x_147) ((m_151.1 0 47 _ sM_0 (by decide)).trans f_x_150)).2.2.2 h9).2⟩
          refine dg_calli hS hA1 hA (va_runV (As := [.int x_233]) (rest := [.int x_234]) F (c_m_isCellOf l g D o S_151 x_233 (by omega) x_147 ((m_151.1 0 13 _ sM_0 (by decide)).trans f_x_147) (by omega) x_150 ((m_151.1 0 47 _ sM_0 (by decide)).trans f_x_150) (by omega) x_237 f_x_237 (by omega) x_239 f_x_239 (by omega) (ZBM.keep ZB m_151 (by decide) (by decide) (by decide) (by decide) (by decide)) I_151 H.size) (cwV 1 hts (bw_V wB_1123 wB_1124 wB_1125 wB_297 wB_1122) rfl rfl rfl (by decide +kernel) ⟨Nat.le_of_ble_eq_true rfl, Nat.le_of_ble_eq_true rfl⟩) (dg_preV sM_0 rfl K ST hP hS hA1 hA) rfl rfl hl.1 rfl (lv_room (Nat.le_of_ble_eq_true rfl)) dX12_has_198 ⟨Nat.le_of_ble_eq_true rfl, Nat.le_of_ble_eq_true rfl⟩) (fun x_241 S_242 hw_242 H locs hP hS => ?_)
          rw [hw_242.1] at hP
          obtain ⟨hq_242, w_242_0, w_242_1, w_242_2, -⟩ := hw_242
          have w_242_0 : 0 ≤ (x_241).toInt ∧ (x_241).toInt ≤ 1 := w_242_0
          have w_242_1 : (x_241).toInt = 1 → 0 ≤ (x_233).toInt := w_242_1
          have w_242_2 : (x_241).toInt = 1 ↔ ((x_150).toInt = 1 ∧ 0 ≤ (x_233).toInt ∧ (x_233).toInt % 8 < (x_237).toInt ∧ (x_233).toInt / 8 < (x_239).toInt) := w_242_2
          have J_251 : ∀ (x_248 : Int32), (0 ≤ (x_248).toInt ∧ (x_248).toInt ≤ 1) → ∀ (H : Heap) (locs : List Loc), va_P D vwCl (dg_w g shM o rfM S_151) H → va_S A s.heap H locs → ∀ ls : Array Slot, lv_has ls 4 [(3, .int x_233), (2, .int x_234), (0, .ref (o + 0)), (1, .int a1)] → W p l e ({ frames := 5, cells := 0, slots := 0, locals := 126 } : Room) s m args below meth c H locs 0 0 (MQ below (va_Qi (fun (r : Int32) S' => CM o S' ∧ dg_sm shM [] [42, 43] S S' ∧ True) (dg_B g D shM o rfM) A) args s 0 0 A) (F0 m 218 ls [.int x_248, .int x_234]) := by
            intro x_248 b_x_248 H locs hP hS ls hl
            refine lv_iadd hx hb dX12_has_218 ?_
            refine lv_topi (fun x_252 ex_252 => ?_)
            refine lv_istore_n (lv' := [(2, .int x_252), (3, .int x_233), (0, .ref (o + 0)), (1, .int a1)]) hx hb dX12_has_219 rfl hl (by decide) rfl (fun ls hl => ?_)
            obtain ⟨x_253, ex_253⟩ : ∃ z, z = x_233 + 1 := ⟨_, rfl⟩
            have jx_253 : (x_253).toInt = (x_233).toInt + 1 := by rw [ex_253]; exact dk_addT rfl (by decide +kernel) (by omega) (by omega)
            refine lv_iinc (v := x_253) (lv' := [(3, .int x_253), (2, .int x_252), (0, .ref (o + 0)), (1, .int a1)]) hx hb dX12_has_220 hl (k := 1) rfl (by rw [ex_253]; rfl) (by decide) rfl (fun ls hl => ?_)
            refine lv_goto (tgt := 189) hx hb dX12_has_223 (by decide) ?_
            exact ih x_253 x_252 (by omega) (by omega) _ _ hP hS _ (lv_sub hl [0, 1, 2, 3] rfl)
          have J_254 : ∀ (H : Heap) (locs : List Loc), va_P D vwCl (dg_w g shM o rfM S_151) H → va_S A s.heap H locs → ∀ ls : Array Slot, lv_has ls 4 [(3, .int x_233), (2, .int x_234), (0, .ref (o + 0)), (1, .int a1)] → W p l e ({ frames := 5, cells := 0, slots := 0, locals := 126 } : Room) s m args below meth c H locs 0 0 (MQ below (va_Qi (fun (r : Int32) S' => CM o S' ∧ dg_sm shM [] [42, 43] S S' ∧ True) (dg_B g D shM o rfM) A) args s 0 0 A) (F0 m 217 ls [.int x_234]) := by
            intro H locs hP hS ls hl
            refine lv_iconst (v := 0) hx hb dX12_has_217 (by decide +kernel) ?_
            have hz_255 : (0 : Int32).toInt = 0 := by decide +kernel
            exact J_251 0 (by decide +kernel) _ _ hP hS _ (lv_sub hl [0, 1, 2, 3] rfl)
          refine lv_if_eq (tgt := 217) hx hb dX12_has_201 (by decide) (fun c_256 => ?_) (fun c_256 => ?_)
          · have jc_256 := dk_eqc (k := 0) (by decide +kernel) c_256
            exact J_254   _ _ hP hS _ (lv_sub hl [0, 1, 2, 3] rfl)
          · have jc_256 := dk_neqc (k := 0) (by decide +kernel) c_256
            refine lv_aload_n hx hb dX12_has_204 rfl (lv_at hl 2 rfl) ?_
            refine lv_iconst (v := 0) hx hb dX12_has_205 (by decide +kernel) ?_
            refine lv_iload_n hx hb dX12_has_206 rfl (lv_at hl 0 rfl) ?_
            have hz_257 : (0 : Int32).toInt = 0 := by decide +kernel
            refine dg_calli hS hA1 hA (va_runV (As := [.int 0, .int x_233]) (rest := [.int x_234]) F (c_m_isLit l g D o S_151 0 (by decide +kernel) x_233 (by omega) I_151 H.size) (cwV 2 hts (bw_V wB_1104 wB_1105 wB_1106 wB_297 wB_1103) rfl rfl rfl (by decide +kernel) ⟨Nat.le_of_ble_eq_true rfl, Nat.le_of_ble_eq_true rfl⟩) (dg_preV sM_0 rfl K ST hP hS hA1 hA) rfl rfl hl.1 rfl (lv_room (Nat.le_of_ble_eq_true rfl)) dX12_has_207 ⟨Nat.le_of_ble_eq_true rfl, Nat.le_of_ble_eq_true rfl⟩) (fun x_258 S_259 hw_259 H locs hP hS => ?_)
            rw [hw_259.1] at hP
            obtain ⟨hq_259, w_259_0, -⟩ := hw_259
            have w_259_0 : 0 ≤ (x_258).toInt ∧ (x_258).toInt ≤ 1 := w_259_0
            refine lv_if_eq (tgt := 217) hx hb dX12_has_210 (by decide) (fun c_260 => ?_) (fun c_260 => ?_)
            · have jc_260 := dk_eqc (k := 0) (by decide +kernel) c_260
              exact J_254   _ _ hP hS _ (lv_sub hl [0, 1, 2, 3] rfl)
            · have jc_260 := dk_neqc (k := 0) (by decide +kernel) c_260
              refine lv_iconst (v := 1) hx hb dX12_has_213 (by decide +kernel) ?_
              refine lv_goto (tgt := 218) hx hb dX12_has_214 (by decide) ?_
              have hz_261 : (1 : Int32).toInt = 1 := by decide +kernel
              exact J_251 1 (by decide +kernel) _ _ hP hS _ (lv_sub hl [0, 1, 2, 3] rfl)
    have hz_262 : (0 : Int32).toInt = 0 := by decide +kernel
    have hz_263 : (0 : Int32).toInt = 0 := by decide +kernel
    have hz_264 : (0 : Int32).toInt = 0 := by decide +kernel
    exact L_235 ((65 - ((0 : Int32)).toInt).toNat + 1) 0 0 (by decide +kernel) (by omega) _ _ hP hS _ (lv_sub hl [0, 1, 2, 3] rfl)
  · refine lv_tableIn (off := 225) (tgt := 228) hx hb dX12_has_3 (by rw [jc_1]; decide) (by rw [jc_1]; decide) (by rw [jc_1]; decide +kernel) (by decide) ?_
    refine lv_iconst (v := 0) hx hb dX12_has_228 (by decide +kernel) ?_
    refine lv_istore_n (lv' := [(3, .int 0), (2, .int 0), (0, .ref (o + 0)), (1, .int a1)]) hx hb dX12_has_229 rfl hl (by decide) rfl (fun ls hl => ?_)
    have L_348 : ∀ (n : Nat) (x_346 : Int32) (x_347 : Int32), (0 ≤ (x_346).toInt ∧ (x_346).toInt ≤ 64) → ((65 - (x_346).toInt).toNat < n) → ∀ (H : Heap) (locs : List Loc), va_P D vwCl (dg_w g shM o rfM S) H → va_S A s.heap H locs → ∀ ls : Array Slot, lv_has ls 4 [(3, .int x_346), (2, .int x_347), (0, .ref (o + 0)), (1, .int a1)] → W p l e ({ frames := 5, cells := 0, slots := 0, locals := 126 } : Room) s m args below meth c H locs 0 0 (MQ below (va_Qi (fun (r : Int32) S' => CM o S' ∧ dg_sm shM [] [42, 43] S S' ∧ True) (dg_B g D shM o rfM) A) args s 0 0 A) (F0 m 230 ls []) := by
      intro n
      induction n with
      | zero =>
        intro x_346 x_347 b_x_346 hmu H locs hP hS ls hl
        omega
      | succ n ih =>
        intro x_346 x_347 b_x_346 hmu H locs hP hS ls hl
        refine lv_iload_n hx hb dX12_has_230 rfl (lv_at hl 0 rfl) ?_
        refine lv_bipush (v := 64) hx hb dX12_has_231 (by decide +kernel) ?_
        refine lv_icmp_ge (tgt := 263) hx hb dX12_has_233 (by decide) (fun c_349 => ?_) (fun c_349 => ?_)
        · have jc_349 := dk_gec (k := 64) (by decide +kernel) c_349
          refine lv_iload_n hx hb dX12_has_263 rfl (lv_at hl 1 rfl) ?_
          refine W.widen (k := 0) (n := 0) (Nat.le_of_ble_eq_true rfl) (Nat.le_of_ble_eq_true rfl) ?_
          exact dg_iret hx hb hr hlocks rfl hP hS ⟨I, M_0, trivial⟩ dX12_has_264
        · have jc_349 := dk_ngec (k := 64) (by decide +kernel) c_349
          refine lv_iload_n hx hb dX12_has_236 rfl (lv_at hl 1 rfl) ?_
          refine lv_aload_n hx hb dX12_has_237 rfl (lv_at hl 2 rfl) ?_
          refine lv_iload_n hx hb dX12_has_238 rfl (lv_at hl 0 rfl) ?_
          obtain ⟨x_350, f_x_350, b_x_350⟩ := dg_I.int (i := 0) (k := 13) (lo := 0) (hi := 1) I sM_0 (by decide +kernel)
          obtain ⟨x_351, f_x_351, b_x_351⟩ := dg_I.int (i := 0) (k := 47) (lo := 0) (hi := 1) I sM_0 (by decide +kernel)
          obtain ⟨x_352, f_x_352⟩ : ∃ x, S.2.1 2 (x_350 : Int32).toNatClampNeg = x := ⟨_, rfl⟩
          have hin_353 : vp_in (x_350 : Int32) 2 := (dk_inv (by omega) (by omega))
          have b_x_352 := dk_all_at (dg_I.row (lo := 0) (hi := 9999) I sM_2 (by decide +kernel)) hin_353 f_x_352.symm
          have ex_352 := f_x_352.symm
          have zb_x_352 : (x_352).toInt ≤ 7 ∧ ((x_351 : Int32).toInt = 1 → 3 ≤ (x_352).toInt) := by rw [ex_352]; exact ⟨(ZB x_350 x_351 f_x_350 f_x_351).1, fun h9 => ((ZB x_350 x_351 f_x_350 f_x_351).2.2.2 h9).1⟩
          obtain ⟨x_354, f_x_354⟩ : ∃ x, S.2.1 3 (x_350 : Int32).toNatClampNeg = x := ⟨_, rfl⟩
          have hin_355 : vp_in (x_350 : Int32) 2 := (dk_inv (by omega) (by omega))
          have b_x_354 := dk_all_at (dg_I.row (lo := 0) (hi := 9999) I sM_3 (by decide +kernel)) hin_355 f_x_354.symm
          have ex_354 := f_x_354.symm
          have zb_x_354 : (x_354).toInt ≤ 7 ∧ ((x_351 : Int32).toInt = 1 → 3 ≤ (x_354).toInt) := by rw [ex_354]; exact ⟨(ZB x_350 x_351 f_x_350 f_x_351).2.1, fun h9 => ((ZB x_350 x_351 f_x_350 f_x_351).2.2.2 h9).2⟩
          refine dg_calli hS hA1 hA (va_runV (As := [.int x_346]) (rest := [.int x_347]) F (c_m_isCellOf l g D o S x_346 (by omega) x_350 f_x_350 (by omega) x_351 f_x_351 (by omega) x_352 f_x_352 (by omega) x_354 f_x_354 (by omega) ZB I H.size) (cwV 1 hts (bw_V wB_1123 wB_1124 wB_1125 wB_297 wB_1122) rfl rfl rfl (by decide +kernel) ⟨Nat.le_of_ble_eq_true rfl, Nat.le_of_ble_eq_true rfl⟩) (dg_preV sM_0 rfl K ST hP hS hA1 hA) rfl rfl hl.1 rfl (lv_room (Nat.le_of_ble_eq_true rfl)) dX12_has_239 ⟨Nat.le_of_ble_eq_true rfl, Nat.le_of_ble_eq_true rfl⟩) (fun x_356 S_357 hw_357 H locs hP hS => ?_)
          rw [hw_357.1] at hP
          obtain ⟨hq_357, w_357_0, w_357_1, w_357_2, -⟩ := hw_357
          have w_357_0 : 0 ≤ (x_356).toInt ∧ (x_356).toInt ≤ 1 := w_357_0
          have w_357_1 : (x_356).toInt = 1 → 0 ≤ (x_346).toInt := w_357_1
          have w_357_2 : (x_356).toInt = 1 ↔ ((x_351).toInt = 1 ∧ 0 ≤ (x_346).toInt ∧ (x_346).toInt % 8 < (x_352).toInt ∧ (x_346).toInt / 8 < (x_354).toInt) := w_357_2
          have J_364 : ∀ (x_361 : Int32), ∀ (H : Heap) (locs : List Loc), va_P D vwCl (dg_w g shM o rfM S) H → va_S A s.heap H locs → ∀ ls : Array Slot, lv_has ls 4 [(3, .int x_346), (2, .int x_347), (0, .ref (o + 0)), (1, .int a1)] → W p l e ({ frames := 5, cells := 0, slots := 0, locals := 126 } : Room) s m args below meth c H locs 0 0 (MQ below (va_Qi (fun (r : Int32) S' => CM o S' ∧ dg_sm shM [] [42, 43] S S' ∧ True) (dg_B g D shM o rfM) A) args s 0 0 A) (F0 m 255 ls [.int x_361, .int x_347]) := by
            intro x_361 H locs hP hS ls hl
            refine lv_iadd hx hb dX12_has_255 ?_
            refine lv_topi (fun x_365 ex_365 => ?_)
            refine lv_istore_n (lv' := [(2, .int x_365), (3, .int x_346), (0, .ref (o + 0)), (1, .int a1)]) hx hb dX12_has_256 rfl hl (by decide) rfl (fun ls hl => ?_)
            obtain ⟨x_366, ex_366⟩ : ∃ z, z = x_346 + 1 := ⟨_, rfl⟩
            have jx_366 : (x_366).toInt = (x_346).toInt + 1 := by rw [ex_366]; exact dk_addT rfl (by decide +kernel) (by omega) (by omega)
            refine lv_iinc (v := x_366) (lv' := [(3, .int x_366), (2, .int x_365), (0, .ref (o + 0)), (1, .int a1)]) hx hb dX12_has_257 hl (k := 1) rfl (by rw [ex_366]; rfl) (by decide) rfl (fun ls hl => ?_)
            refine lv_goto (tgt := 230) hx hb dX12_has_260 (by decide) ?_
            exact ih x_366 x_365 (by omega) (by omega) _ _ hP hS _ (lv_sub hl [0, 1, 2, 3] rfl)
          refine lv_if_eq (tgt := 254) hx hb dX12_has_242 (by decide) (fun c_367 => ?_) (fun c_367 => ?_)
          · have jc_367 := dk_eqc (k := 0) (by decide +kernel) c_367
            refine lv_iconst (v := 0) hx hb dX12_has_254 (by decide +kernel) ?_
            exact J_364 0  _ _ hP hS _ (lv_sub hl [0, 1, 2, 3] rfl)
          · have jc_367 := dk_neqc (k := 0) (by decide +kernel) c_367
            refine lv_aload_n hx hb dX12_has_245 rfl (lv_at hl 2 rfl) ?_
            refine dg_get (C := RX12) (T := TX12) (N := 77) hx hb hts (fun w h => bw_mem (wU_X12 w h)) hown K hP sM_0 rfl 52 (by decide) (hts _ (bw_mem wB_1097)) (fun _ h9 => h9) (v := .ref (o + 32)) (show S.1 0 52 = .ref (o + 32) from dg_I.rel (d := 32) I sM_0 (by decide +kernel)) dX12_has_246 ?_
            refine lv_iload_n hx hb dX12_has_249 rfl (lv_at hl 0 rfl) ?_
            have hin_368 : vp_in x_346 1408 := (dk_inv (by omega) (by omega))
            refine dg_iald hx hb K hP sM_32 hin_368 dX12_has_250 (fun x_369 ex_369 => ?_)
            refine lv_goto (tgt := 255) hx hb dX12_has_251 (by decide) ?_
            exact J_364 x_369  _ _ hP hS _ (lv_sub hl [0, 1, 2, 3] rfl)
    have hz_370 : (0 : Int32).toInt = 0 := by decide +kernel
    have hz_371 : (0 : Int32).toInt = 0 := by decide +kernel
    have hz_372 : (0 : Int32).toInt = 0 := by decide +kernel
    exact L_348 ((65 - ((0 : Int32)).toInt).toNat + 1) 0 0 (by decide +kernel) (by omega) _ _ hP hS _ (lv_sub hl [0, 1, 2, 3] rfl)
  · refine lv_tableIn (off := 262) (tgt := 265) hx hb dX12_has_3 (by rw [jc_1]; decide) (by rw [jc_1]; decide) (by rw [jc_1]; decide +kernel) (by decide) ?_
    refine lv_aload_n hx hb dX12_has_265 rfl (lv_at hl 1 rfl) ?_
    refine dg_get (C := RX12) (T := TX12) (N := 77) hx hb hts (fun w h => bw_mem (wU_X12 w h)) hown K hP sM_0 rfl 53 (by decide) (hts _ (bw_mem wB_1130)) (fun _ h9 => h9) (v := .ref (o + 33)) (show S.1 0 53 = .ref (o + 33) from dg_I.rel (d := 33) I sM_0 (by decide +kernel)) dX12_has_266 ?_
    refine lv_iconst (v := 0) hx hb dX12_has_269 (by decide +kernel) ?_
    have hin_373 : vp_in (0 : Int32) 22 := (dk_in (by decide +kernel))
    refine dg_iald hx hb K hP sM_33 hin_373 dX12_has_270 (fun x_374 ex_374 => ?_)
    refine dg_calli hS hA1 hA (va_runS (As := [.int x_374]) (rest := []) F (c_m_bits l g D o S x_374 I s.heap.size) (va_cwS 1 hts (bw_S wB_1195 wB_1196 wB_297 wB_1194) rfl rfl rfl (by decide +kernel) ⟨Nat.le_of_ble_eq_true rfl, Nat.le_of_ble_eq_true rfl⟩) (dg_preS K ST hP hS hA1 hA) rfl rfl hl.1 rfl (lv_room (Nat.le_of_ble_eq_true rfl)) dX12_has_271 ⟨Nat.le_of_ble_eq_true rfl, Nat.le_of_ble_eq_true rfl⟩) (fun x_375 S_376 hw_376 H locs hP hS => ?_)
    rw [hw_376.1] at hP
    refine W.widen (k := 0) (n := 0) (Nat.le_of_ble_eq_true rfl) (Nat.le_of_ble_eq_true rfl) ?_
    exact dg_iret hx hb hr hlocks rfl hP hS ⟨I, M_0, trivial⟩ dX12_has_274
  · refine lv_tableIn (off := 272) (tgt := 275) hx hb dX12_has_3 (by rw [jc_1]; decide) (by rw [jc_1]; decide) (by rw [jc_1]; decide +kernel) (by decide) ?_
    refine lv_iconst (v := 0) hx hb dX12_has_275 (by decide +kernel) ?_
    refine lv_istore_n (lv' := [(3, .int 0), (2, .int 0), (0, .ref (o + 0)), (1, .int a1)]) hx hb dX12_has_276 rfl hl (by decide) rfl (fun ls hl => ?_)
    have L_408 : ∀ (n : Nat) (x_406 : Int32) (x_407 : Int32), (0 ≤ (x_406).toInt ∧ (x_406).toInt ≤ 10) → ((11 - (x_406).toInt).toNat < n) → ∀ (H : Heap) (locs : List Loc), va_P D vwCl (dg_w g shM o rfM S) H → va_S A s.heap H locs → ∀ ls : Array Slot, lv_has ls 4 [(3, .int x_406), (2, .int x_407), (0, .ref (o + 0)), (1, .int a1)] → W p l e ({ frames := 5, cells := 0, slots := 0, locals := 126 } : Room) s m args below meth c H locs 0 0 (MQ below (va_Qi (fun (r : Int32) S' => CM o S' ∧ dg_sm shM [] [42, 43] S S' ∧ True) (dg_B g D shM o rfM) A) args s 0 0 A) (F0 m 277 ls []) := by
      intro n
      induction n with
      | zero =>
        intro x_406 x_407 b_x_406 hmu H locs hP hS ls hl
        omega
      | succ n ih =>
        intro x_406 x_407 b_x_406 hmu H locs hP hS ls hl
        refine lv_iload_n hx hb dX12_has_277 rfl (lv_at hl 0 rfl) ?_
        refine lv_bipush (v := 10) hx hb dX12_has_278 (by decide +kernel) ?_
        refine lv_icmp_ge (tgt := 298) hx hb dX12_has_280 (by decide) (fun c_409 => ?_) (fun c_409 => ?_)
        · have jc_409 := dk_gec (k := 10) (by decide +kernel) c_409
          refine lv_iload_n hx hb dX12_has_298 rfl (lv_at hl 1 rfl) ?_
          refine W.widen (k := 0) (n := 0) (Nat.le_of_ble_eq_true rfl) (Nat.le_of_ble_eq_true rfl) ?_
          exact dg_iret hx hb hr hlocks rfl hP hS ⟨I, M_0, trivial⟩ dX12_has_299
        · have jc_409 := dk_ngec (k := 10) (by decide +kernel) c_409
          refine lv_iload_n hx hb dX12_has_283 rfl (lv_at hl 1 rfl) ?_
          refine lv_aload_n hx hb dX12_has_284 rfl (lv_at hl 2 rfl) ?_
          refine dg_get (C := RX12) (T := TX12) (N := 77) hx hb hts (fun w h => bw_mem (wU_X12 w h)) hown K hP sM_0 rfl 57 (by decide) (hts _ (bw_mem wB_1117)) (fun _ h9 => h9) (v := .ref (o + 37)) (show S.1 0 57 = .ref (o + 37) from dg_I.rel (d := 37) I sM_0 (by decide +kernel)) dX12_has_285 ?_
          refine lv_iload_n hx hb dX12_has_288 rfl (lv_at hl 0 rfl) ?_
          have hin_410 : vp_in x_406 220 := (dk_inv (by omega) (by omega))
          refine dg_iald hx hb K hP sM_37 hin_410 dX12_has_289 (fun x_411 ex_411 => ?_)
          refine lv_iadd hx hb dX12_has_290 ?_
          refine lv_topi (fun x_412 ex_412 => ?_)
          refine lv_istore_n (lv' := [(2, .int x_412), (3, .int x_406), (0, .ref (o + 0)), (1, .int a1)]) hx hb dX12_has_291 rfl hl (by decide) rfl (fun ls hl => ?_)
          obtain ⟨x_413, ex_413⟩ : ∃ z, z = x_406 + 1 := ⟨_, rfl⟩
          have jx_413 : (x_413).toInt = (x_406).toInt + 1 := by rw [ex_413]; exact dk_addT rfl (by decide +kernel) (by omega) (by omega)
          refine lv_iinc (v := x_413) (lv' := [(3, .int x_413), (2, .int x_412), (0, .ref (o + 0)), (1, .int a1)]) hx hb dX12_has_292 hl (k := 1) rfl (by rw [ex_413]; rfl) (by decide) rfl (fun ls hl => ?_)
          refine lv_goto (tgt := 277) hx hb dX12_has_295 (by decide) ?_
          exact ih x_413 x_412 (by omega) (by omega) _ _ hP hS _ (lv_sub hl [0, 1, 2, 3] rfl)
    have hz_414 : (0 : Int32).toInt = 0 := by decide +kernel
    have hz_415 : (0 : Int32).toInt = 0 := by decide +kernel
    have hz_416 : (0 : Int32).toInt = 0 := by decide +kernel
    exact L_408 ((11 - ((0 : Int32)).toInt).toNat + 1) 0 0 (by decide +kernel) (by omega) _ _ hP hS _ (lv_sub hl [0, 1, 2, 3] rfl)
  · refine lv_tableIn (off := 297) (tgt := 300) hx hb dX12_has_3 (by rw [jc_1]; decide) (by rw [jc_1]; decide) (by rw [jc_1]; decide +kernel) (by decide) ?_
    refine lv_aload_n hx hb dX12_has_300 rfl (lv_at hl 1 rfl) ?_
    refine dg_get (C := RX12) (T := TX12) (N := 77) hx hb hts (fun w h => bw_mem (wU_X12 w h)) hown K hP sM_0 rfl 50 (by decide) (hts _ (bw_mem wB_1129)) (fun _ h9 => h9) (v := .ref (o + 30)) (show S.1 0 50 = .ref (o + 30) from dg_I.rel (d := 30) I sM_0 (by decide +kernel)) dX12_has_301 ?_
    refine lv_iconst (v := 0) hx hb dX12_has_304 (by decide +kernel) ?_
    have hin_417 : vp_in (0 : Int32) 22 := (dk_in (by decide +kernel))
    refine dg_iald hx hb K hP sM_30 hin_417 dX12_has_305 (fun x_418 ex_418 => ?_)
    refine W.widen (k := 0) (n := 0) (Nat.le_of_ble_eq_true rfl) (Nat.le_of_ble_eq_true rfl) ?_
    exact dg_iret hx hb hr hlocks rfl hP hS ⟨I, M_0, trivial⟩ dX12_has_306
  · refine lv_tableIn (off := 304) (tgt := 307) hx hb dX12_has_3 (by rw [jc_1]; decide) (by rw [jc_1]; decide) (by rw [jc_1]; decide +kernel) (by decide) ?_
    refine lv_aload_n hx hb dX12_has_307 rfl (lv_at hl 1 rfl) ?_
    refine lv_iconst (v := 0) hx hb dX12_has_308 (by decide +kernel) ?_
    have hz_419 : (0 : Int32).toInt = 0 := by decide +kernel
    refine dg_calli hS hA1 hA (va_runV (As := [.int 0]) (rest := []) F (c_m_worthOf l g D o S 0 (by decide +kernel) ZB I s.heap.size) (cwV 1 hts (bw_V wB_1198 wB_1199 wB_1200 wB_297 wB_1197) rfl rfl rfl (by decide +kernel) ⟨Nat.le_of_ble_eq_true rfl, Nat.le_of_ble_eq_true rfl⟩) (dg_preV sM_0 rfl K ST hP hS hA1 hA) rfl rfl hl.1 rfl (lv_room (Nat.le_of_ble_eq_true rfl)) dX12_has_309 ⟨Nat.le_of_ble_eq_true rfl, Nat.le_of_ble_eq_true rfl⟩) (fun x_420 S_421 hw_421 H locs hP hS => ?_)
    rw [hw_421.1] at hP
    refine W.widen (k := 0) (n := 0) (Nat.le_of_ble_eq_true rfl) (Nat.le_of_ble_eq_true rfl) ?_
    exact dg_iret hx hb hr hlocks rfl hP hS ⟨I, M_0, trivial⟩ dX12_has_312
  · refine lv_tableIn (off := 310) (tgt := 313) hx hb dX12_has_3 (by rw [jc_1]; decide) (by rw [jc_1]; decide) (by rw [jc_1]; decide +kernel) (by decide) ?_
    refine lv_aload_n hx hb dX12_has_313 rfl (lv_at hl 1 rfl) ?_
    refine dg_get (C := RX12) (T := TX12) (N := 77) hx hb hts (fun w h => bw_mem (wU_X12 w h)) hown K hP sM_0 rfl 58 (by decide) (hts _ (bw_mem wB_1127)) (fun _ h9 => h9) (v := .ref (o + 38)) (show S.1 0 58 = .ref (o + 38) from dg_I.rel (d := 38) I sM_0 (by decide +kernel)) dX12_has_314 ?_
    refine lv_iconst (v := 0) hx hb dX12_has_317 (by decide +kernel) ?_
    have hin_422 : vp_in (0 : Int32) 22 := (dk_in (by decide +kernel))
    refine dg_iald hx hb K hP sM_38 hin_422 dX12_has_318 (fun x_423 ex_423 => ?_)
    have b_x_423 := dk_all_at (dg_I.row (lo := 0) (hi := 40) I sM_38 (by decide +kernel)) hin_422 ex_423
    refine W.widen (k := 0) (n := 0) (Nat.le_of_ble_eq_true rfl) (Nat.le_of_ble_eq_true rfl) ?_
    exact dg_iret hx hb hr hlocks rfl hP hS ⟨I, M_0, trivial⟩ dX12_has_319
  · refine lv_tableIn (off := 317) (tgt := 320) hx hb dX12_has_3 (by rw [jc_1]; decide) (by rw [jc_1]; decide) (by rw [jc_1]; decide +kernel) (by decide) ?_
    refine lv_aload_n hx hb dX12_has_320 rfl (lv_at hl 1 rfl) ?_
    obtain ⟨x_424, f_x_424, b_x_424⟩ := dg_I.int (i := 0) (k := 69) (lo := 0) (hi := 16) I sM_0 (by decide +kernel)
    refine dg_get (C := RX12) (T := TX12) (N := 77) hx hb hts (fun w h => bw_mem (wU_X12 w h)) hown K hP sM_0 rfl 69 (by decide) (hts _ (bw_mem wB_1193)) (fun _ h9 => h9) (v := .int x_424) f_x_424 dX12_has_321 ?_
    refine W.widen (k := 0) (n := 0) (Nat.le_of_ble_eq_true rfl) (Nat.le_of_ble_eq_true rfl) ?_
    exact dg_iret hx hb hr hlocks rfl hP hS ⟨I, M_0, trivial⟩ dX12_has_324
  · refine lv_tableIn (off := 322) (tgt := 325) hx hb dX12_has_3 (by rw [jc_1]; decide) (by rw [jc_1]; decide) (by rw [jc_1]; decide +kernel) (by decide) ?_
    refine lv_aload_n hx hb dX12_has_325 rfl (lv_at hl 1 rfl) ?_
    obtain ⟨x_425, f_x_425, b_x_425⟩ := dg_I.int (i := 0) (k := 61) (lo := 0) (hi := 20) I sM_0 (by decide +kernel)
    refine dg_get (C := RX12) (T := TX12) (N := 77) hx hb hts (fun w h => bw_mem (wU_X12 w h)) hown K hP sM_0 rfl 61 (by decide) (hts _ (bw_mem wB_1192)) (fun _ h9 => h9) (v := .int x_425) f_x_425 dX12_has_326 ?_
    refine W.widen (k := 0) (n := 0) (Nat.le_of_ble_eq_true rfl) (Nat.le_of_ble_eq_true rfl) ?_
    exact dg_iret hx hb hr hlocks rfl hP hS ⟨I, M_0, trivial⟩ dX12_has_329
  · refine lv_tableIn (off := 327) (tgt := 330) hx hb dX12_has_3 (by rw [jc_1]; decide) (by rw [jc_1]; decide) (by rw [jc_1]; decide +kernel) (by decide) ?_
    refine lv_aload_n hx hb dX12_has_330 rfl (lv_at hl 1 rfl) ?_
    obtain ⟨x_426, f_x_426⟩ := dg_I.long (i := 0) (k := 62) I sM_0 (by decide +kernel)
    refine dg_get (C := RX12) (T := TX12) (N := 77) hx hb hts (fun w h => bw_mem (wU_X12 w h)) hown K hP sM_0 rfl 62 (by decide) (hts _ (bw_mem wB_1201)) (fun _ h9 => h9) (v := .long x_426) f_x_426 dX12_has_331 ?_
    obtain ⟨x_427, ex_427⟩ : ∃ z, (x_426 : Int64).toInt32 = z := ⟨_, rfl⟩
    refine lv_l2i (v := x_427) hx hb dX12_has_334 ex_427 ?_
    have hli_x_427 := dk_l2i ex_427
    refine W.widen (k := 0) (n := 0) (Nat.le_of_ble_eq_true rfl) (Nat.le_of_ble_eq_true rfl) ?_
    exact dg_iret hx hb hr hlocks rfl hP hS ⟨I, M_0, trivial⟩ dX12_has_335
set_option maxHeartbeats 8000000 in
set_option maxRecDepth 100000 in
theorem c_m_letter (l : Launch) (g : Nat → ClassId) (D : va_G) (o : Nat) (S : dg_S) (a1 : Int32) (a2 : Int32) (a3 : Int32) (bk : Int32) (f_bk : S.1 0 13 = .int bk) (b_bk : 0 ≤ (bk).toInt ∧ (bk).toInt ≤ 1) (mi : Int32) (f_mi : S.2.1 8 (bk : Int32).toNatClampNeg = mi) (b_mi : 0 ≤ (mi).toInt ∧ (mi).toInt ≤ 6) (od : Int32) (f_od : S.2.1 12 (bk : Int32).toNatClampNeg = od) (b_od : 0 ≤ (od).toInt ∧ (od).toInt ≤ 5) (I : CM o S) (sz : Nat) : Met l yX12_letter (bw yX12_letter cX12_letter 10 (some .int)) ({ frames := 2, cells := 0, slots := 0, locals := 54 } : Room) (dk_Pc g D (dg_w g shM o rfM S) sz [.ref (o + 0), .int a1, .int a2, .int a3]) (va_Qi (fun (r : Int32) S' => S' = S ∧ (((a1).toInt = 0 → 0 ≤ (a2).toInt → (a2).toInt < (mi).toInt → 0 ≤ (a3).toInt → (a3).toInt < 6 → LTR (S.2.2 20 (6 * (bk : Int32).toNatClampNeg + (a2 : Int32).toNatClampNeg)) a3 r) ∧ ((a1).toInt = 1 → 0 ≤ (a2).toInt → (a2).toInt < (od).toInt → 0 ≤ (a3).toInt → (a3).toInt < 6 → LTR (S.2.2 21 (5 * (bk : Int32).toNatClampNeg + (a2 : Int32).toNatClampNeg)) a3 r) ∧ (¬ ((a1).toInt = 0 ∧ 0 ≤ (a2).toInt ∧ (a2).toInt < (mi).toInt) → ¬ ((a1).toInt = 1 ∧ 0 ≤ (a2).toInt ∧ (a2).toInt < (od).toInt) → (r).toInt = -1) ∧ (((a3).toInt < 0 ∨ 6 ≤ (a3).toInt) → (r).toInt = -1)) ∧ True) (dg_B g D shM o rfM) (dg_A o shM.length sz)) 0 0 (dg_A o shM.length sz) := by
  refine dg_met (cc := cX12_letter) (maxL := 10) (ret := (some .int)) (by decide) rfl (Nat.le_of_ble_eq_true rfl) ?_
  intro p e s m args below meth c A hAe harg hx hb hr hml hts hown hlocks hin hP K hS hA1 hA ST hsz ls hl
  rw [← hAe]
  have F : CallFix p m c cX12_letter 10 s args (bw yX12_letter cX12_letter 10 (some .int)) RX12 := ⟨hx, hb, hml, hown, hts⟩
  have hl : lv_has ls 10 [(0, .ref (o + 0)), (1, .int a1), (2, .int a2), (3, .int a3)] := hl
  have M_0 : dg_sm shM [] [] S S := dg_sm.rf
  refine lv_iload_n hx hb dX12_letter_0 rfl (lv_at hl 1 rfl) ?_
  refine lv_if_ne (tgt := 12) hx hb dX12_letter_1 (by decide) (fun c_1 => ?_) (fun c_1 => ?_)
  · have jc_1 := dk_neqc (k := 0) (by decide +kernel) c_1
    refine lv_iload_n hx hb dX12_letter_12 rfl (lv_at hl 1 rfl) ?_
    refine lv_iconst (v := 1) hx hb dX12_letter_13 (by decide +kernel) ?_
    refine lv_icmp_ne (tgt := 29) hx hb dX12_letter_14 (by decide) (fun c_2 => ?_) (fun c_2 => ?_)
    · have jc_2 := dk_neqc (k := 1) (by decide +kernel) c_2
      refine lv_iconst (v := 0) hx hb dX12_letter_29 (by decide +kernel) ?_
      refine lv_istore (lv' := [(4, .int 0), (0, .ref (o + 0)), (1, .int a1), (2, .int a2), (3, .int a3)]) hx hb dX12_letter_30 hl (by decide) rfl (fun ls hl => ?_)
      refine lv_iload hx hb dX12_letter_32 (lv_at hl 0 rfl) ?_
      refine lv_if_eq (tgt := 46) hx hb dX12_letter_34 (by decide) (fun _ => ?_) (fun c => absurd (by decide +kernel) c)
      refine lv_iconst (v := (-1)) hx hb dX12_letter_46 (by decide +kernel) ?_
      have hz_3 : (-1 : Int32).toInt = (-1) := by decide +kernel
      refine W.widen (k := 0) (n := 0) (Nat.le_of_ble_eq_true rfl) (Nat.le_of_ble_eq_true rfl) ?_
      exact dg_iret hx hb hr hlocks rfl hP hS ⟨rfl, ⟨(fun q1 q2 q3 q4 q5 => by exfalso; omega), (fun q1 q2 q3 q4 q5 => by exfalso; omega), fun _ _ => by omega, fun _ => by omega⟩, trivial⟩ dX12_letter_47
    · have jc_2 := dk_eqc (k := 1) (by decide +kernel) c_2
      refine lv_aload_n hx hb dX12_letter_17 rfl (lv_at hl 0 rfl) ?_
      refine lv_iload_n hx hb dX12_letter_18 rfl (lv_at hl 2 rfl) ?_
      refine dg_calli hS hA1 hA (va_runV (As := [.int a2]) (rest := []) F (c_m_isOrder l g D o S a2 bk f_bk (by omega) od f_od (by omega) I s.heap.size) (cwV 1 hts (bw_V wB_1203 wB_1204 wB_1205 wB_297 wB_1202) rfl rfl rfl (by decide +kernel) ⟨Nat.le_of_ble_eq_true rfl, Nat.le_of_ble_eq_true rfl⟩) (dg_preV sM_0 rfl K ST hP hS hA1 hA) rfl rfl hl.1 rfl (lv_room (Nat.le_of_ble_eq_true rfl)) dX12_letter_19 ⟨Nat.le_of_ble_eq_true rfl, Nat.le_of_ble_eq_true rfl⟩) (fun x_4 S_5 hw_5 H locs hP hS => ?_)
      rw [hw_5.1] at hP
      obtain ⟨hq_5, w_5_0, w_5_1, w_5_2, -⟩ := hw_5
      have w_5_0 : 0 ≤ (x_4).toInt ∧ (x_4).toInt ≤ 1 := w_5_0
      have w_5_1 : (x_4).toInt = 1 → (0 ≤ (a2).toInt ∧ (a2).toInt ≤ 4) := w_5_1
      have w_5_2 : (x_4).toInt = 1 ↔ (0 ≤ (a2).toInt ∧ (a2).toInt < (od).toInt) := w_5_2
      refine lv_if_eq (tgt := 29) hx hb dX12_letter_22 (by decide) (fun c_6 => ?_) (fun c_6 => ?_)
      · have jc_6 := dk_eqc (k := 0) (by decide +kernel) c_6
        refine lv_iconst (v := 0) hx hb dX12_letter_29 (by decide +kernel) ?_
        refine lv_istore (lv' := [(4, .int 0), (0, .ref (o + 0)), (1, .int a1), (2, .int a2), (3, .int a3)]) hx hb dX12_letter_30 hl (by decide) rfl (fun ls hl => ?_)
        refine lv_iload hx hb dX12_letter_32 (lv_at hl 0 rfl) ?_
        refine lv_if_eq (tgt := 46) hx hb dX12_letter_34 (by decide) (fun _ => ?_) (fun c => absurd (by decide +kernel) c)
        refine lv_iconst (v := (-1)) hx hb dX12_letter_46 (by decide +kernel) ?_
        have hz_7 : (-1 : Int32).toInt = (-1) := by decide +kernel
        refine W.widen (k := 0) (n := 0) (Nat.le_of_ble_eq_true rfl) (Nat.le_of_ble_eq_true rfl) ?_
        exact dg_iret hx hb hr hlocks rfl hP hS ⟨rfl, ⟨(fun q1 q2 q3 q4 q5 => by exfalso; omega), (fun q1 q2 q3 q4 q5 => by exfalso; omega), fun _ _ => by omega, fun _ => by omega⟩, trivial⟩ dX12_letter_47
      · have jc_6 := dk_neqc (k := 0) (by decide +kernel) c_6
        refine lv_iconst (v := 1) hx hb dX12_letter_25 (by decide +kernel) ?_
        refine lv_goto (tgt := 30) hx hb dX12_letter_26 (by decide) ?_
        refine lv_istore (lv' := [(4, .int 1), (0, .ref (o + 0)), (1, .int a1), (2, .int a2), (3, .int a3)]) hx hb dX12_letter_30 hl (by decide) rfl (fun ls hl => ?_)
        refine lv_iload hx hb dX12_letter_32 (lv_at hl 0 rfl) ?_
        refine lv_if_eq (tgt := 46) hx hb dX12_letter_34 (by decide) (fun c => absurd c (by decide +kernel)) (fun _ => ?_)
        refine lv_iload_n hx hb dX12_letter_37 rfl (lv_at hl 4 rfl) ?_
        refine lv_iconst (v := 0) hx hb dX12_letter_38 (by decide +kernel) ?_
        refine lv_iconst (v := 5) hx hb dX12_letter_39 (by decide +kernel) ?_
        refine dg_calli hS hA1 hA (va_runS (As := [.int a3, .int 0, .int 5]) (rest := []) F (c_m_is l g D o S a3 0 5 I H.size) (va_cwS 3 hts (bw_S wB_362 wB_363 wB_297 wB_361) rfl rfl rfl (by decide +kernel) ⟨Nat.le_of_ble_eq_true rfl, Nat.le_of_ble_eq_true rfl⟩) (dg_preS K ST hP hS hA1 hA) rfl rfl hl.1 rfl (lv_room (Nat.le_of_ble_eq_true rfl)) dX12_letter_40 ⟨Nat.le_of_ble_eq_true rfl, Nat.le_of_ble_eq_true rfl⟩) (fun x_8 S_9 hw_9 H locs hP hS => ?_)
        rw [hw_9.1] at hP
        obtain ⟨hq_9, w_9_0, w_9_1, -⟩ := hw_9
        have hz_10 : (0 : Int32).toInt = 0 := by decide +kernel
        have hz_11 : (5 : Int32).toInt = 5 := by decide +kernel
        have w_9_0 : 0 ≤ (x_8).toInt ∧ (x_8).toInt ≤ 1 := w_9_0
        have w_9_1 : (x_8).toInt = 1 ↔ (((0 : Int32)).toInt ≤ (a3).toInt ∧ (a3).toInt ≤ ((5 : Int32)).toInt) := w_9_1
        refine lv_if_ne (tgt := 48) hx hb dX12_letter_43 (by decide) (fun c_12 => ?_) (fun c_12 => ?_)
        · have jc_12 := dk_neqc (k := 0) (by decide +kernel) c_12
          refine lv_iload_n hx hb dX12_letter_48 rfl (lv_at hl 2 rfl) ?_
          refine lv_if_ne (tgt := 69) hx hb dX12_letter_49 (by decide) (fun _ => ?_) (fun c => absurd c (fun z => absurd (dk_eqc (k := 0) (by decide +kernel) z) (by omega)))
          refine lv_aload_n hx hb dX12_letter_69 rfl (lv_at hl 1 rfl) ?_
          refine dg_get (C := RX12) (T := TX12) (N := 77) hx hb hts (fun w h => bw_mem (wU_X12 w h)) hown K hP sM_0 rfl 33 (by decide) (hts _ (bw_mem wB_360)) (fun _ h9 => h9) (v := .ref (o + 21)) (show S.1 0 33 = .ref (o + 21) from dg_I.rel (d := 21) I sM_0 (by decide +kernel)) dX12_letter_70 ?_
          refine lv_iconst (v := 5) hx hb dX12_letter_73 (by decide +kernel) ?_
          refine lv_aload_n hx hb dX12_letter_74 rfl (lv_at hl 1 rfl) ?_
          refine dg_get (C := RX12) (T := TX12) (N := 77) hx hb hts (fun w h => bw_mem (wU_X12 w h)) hown K hP sM_0 rfl 13 (by decide) (hts _ (bw_mem wB_1085)) (fun _ h9 => h9) (v := .int bk) f_bk dX12_letter_75 ?_
          refine lv_imul hx hb dX12_letter_78 ?_
          refine lv_topi (fun x_13 ex_13 => ?_)
          have jx_13 : (x_13).toInt = 5 * (bk).toInt := by rw [ex_13]; exact dk_mulT (by decide +kernel) rfl (by omega) (by omega)
          refine lv_iload_n hx hb dX12_letter_79 rfl (lv_at hl 3 rfl) ?_
          refine lv_iadd hx hb dX12_letter_80 ?_
          refine lv_topi (fun x_14 ex_14 => ?_)
          have jx_14 : (x_14).toInt = (x_13).toInt + (a2).toInt := by rw [ex_14]; exact dk_addT rfl rfl (by omega) (by omega)
          have hin_15 : vp_in x_14 10 := (dk_inv (by omega) (by omega))
          refine dg_lald hx hb K hP sM_21 hin_15 dX12_letter_81 (fun x_16 ex_16 => ?_)
          have kn_x_16 : (S.2.2 21 (5 * (bk : Int32).toNatClampNeg + (a2 : Int32).toNatClampNeg)) = x_16 := by rw [show 5 * (bk : Int32).toNatClampNeg + (a2 : Int32).toNatClampNeg = (x_14 : Int32).toNatClampNeg from by have h7 := dk_clN bk; have h8 := dk_clN a2; have h9 := dk_clN x_14; omega]; exact ex_16.symm
          refine lv_lstore (lv' := [(5, .long x_16), (4, .int 1), (0, .ref (o + 0)), (1, .int a1), (2, .int a2), (3, .int a3)]) hx hb dX12_letter_82 hl (by decide) rfl (fun ls hl => ?_)
          refine lv_iconst (v := 0) hx hb dX12_letter_84 (by decide +kernel) ?_
          refine lv_istore (lv' := [(7, .int 0), (5, .long x_16), (4, .int 1), (0, .ref (o + 0)), (1, .int a1), (2, .int a2), (3, .int a3)]) hx hb dX12_letter_85 hl (by decide) rfl (fun ls hl => ?_)
          refine lv_lload hx hb dX12_letter_87 (lv_at hl 1 rfl) ?_
          refine lv_lstore (lv' := [(8, .long x_16), (7, .int 0), (5, .long x_16), (4, .int 1), (0, .ref (o + 0)), (1, .int a1), (2, .int a2), (3, .int a3)]) hx hb dX12_letter_89 hl (by decide) rfl (fun ls hl => ?_)
          have J_47 : ∀ (x_35 : Int64) (x_36 : Int32), (0 ≤ (x_36).toInt ∧ (x_36).toInt ≤ 8) → (m_hid (NBY x_16 x_36)) → ∀ (H : Heap) (locs : List Loc), va_P D vwCl (dg_w g shM o rfM S) H → va_S A s.heap H locs → ∀ ls : Array Slot, lv_has ls 10 [(8, .long x_35), (7, .int x_36), (5, .long x_16), (4, .int 1), (0, .ref (o + 0)), (1, .int a1), (2, .int a2), (3, .int a3)] → W p l e ({ frames := 2, cells := 0, slots := 0, locals := 54 } : Room) s m args below meth c H locs 0 0 (MQ below (va_Qi (fun (r : Int32) S' => S' = S ∧ (((a1).toInt = 0 → 0 ≤ (a2).toInt → (a2).toInt < (mi).toInt → 0 ≤ (a3).toInt → (a3).toInt < 6 → LTR (S.2.2 20 (6 * (bk : Int32).toNatClampNeg + (a2 : Int32).toNatClampNeg)) a3 r) ∧ ((a1).toInt = 1 → 0 ≤ (a2).toInt → (a2).toInt < (od).toInt → 0 ≤ (a3).toInt → (a3).toInt < 6 → LTR (S.2.2 21 (5 * (bk : Int32).toNatClampNeg + (a2 : Int32).toNatClampNeg)) a3 r) ∧ (¬ ((a1).toInt = 0 ∧ 0 ≤ (a2).toInt ∧ (a2).toInt < (mi).toInt) → ¬ ((a1).toInt = 1 ∧ 0 ≤ (a2).toInt ∧ (a2).toInt < (od).toInt) → (r).toInt = -1) ∧ (((a3).toInt < 0 ∨ 6 ≤ (a3).toInt) → (r).toInt = -1)) ∧ True) (dg_B g D shM o rfM) A) args s 0 0 A) (F0 m 111 ls []) := by
            intro x_35 x_36 b_x_36 rel_0 H locs hP hS ls hl
            refine lv_iload_n hx hb dX12_letter_111 rfl (lv_at hl 7 rfl) ?_
            refine lv_iload hx hb dX12_letter_112 (lv_at hl 1 rfl) ?_
            refine lv_icmp_lt (tgt := 121) hx hb dX12_letter_114 (by decide) (fun c_48 => ?_) (fun c_48 => ?_)
            · have jc_48 := dk_ltc (k := (x_36).toInt) rfl c_48
              refine lv_lload hx hb dX12_letter_121 (lv_at hl 2 rfl) ?_
              refine lv_bipush (v := 8) hx hb dX12_letter_123 (by decide +kernel) ?_
              refine lv_iload hx hb dX12_letter_125 (lv_at hl 1 rfl) ?_
              refine lv_iconst (v := 1) hx hb dX12_letter_127 (by decide +kernel) ?_
              refine lv_isub hx hb dX12_letter_128 ?_
              refine lv_topi (fun x_49 ex_49 => ?_)
              have jx_49 : (x_49).toInt = (x_36).toInt - 1 := by rw [ex_49]; exact dk_subT rfl (by decide +kernel) (by omega) (by omega)
              refine lv_iload_n hx hb dX12_letter_129 rfl (lv_at hl 7 rfl) ?_
              refine lv_isub hx hb dX12_letter_130 ?_
              refine lv_topi (fun x_50 ex_50 => ?_)
              have jx_50 : (x_50).toInt = (x_49).toInt - (a3).toInt := by rw [ex_50]; exact dk_subT rfl rfl (by omega) (by omega)
              refine lv_imul hx hb dX12_letter_131 ?_
              refine lv_topi (fun x_51 ex_51 => ?_)
              have jx_51 : (x_51).toInt = 8 * (x_50).toInt := by rw [ex_51]; exact dk_mulT (by decide +kernel) rfl (by omega) (by omega)
              refine lv_lshr hx hb dX12_letter_132 rfl ?_
              refine lv_topl (fun x_52 ex_52 => ?_)
              refine lv_ldc2 hx hb hown (hts _ (bw_mem wB_1206)) dX12_letter_133 ?_
              refine lv_land hx hb dX12_letter_136 ?_
              refine lv_topl (fun x_53 ex_53 => ?_)
              obtain ⟨x_54, ex_54⟩ : ∃ z, (x_53 : Int64).toInt32 = z := ⟨_, rfl⟩
              refine lv_l2i (v := x_54) hx hb dX12_letter_137 ex_54 ?_
              have hli_x_54 := dk_l2i ex_54
              refine lv_bipush (v := 97) hx hb dX12_letter_138 (by decide +kernel) ?_
              refine lv_isub hx hb dX12_letter_140 ?_
              refine lv_topi (fun x_55 ex_55 => ?_)
              refine lv_iconst (v := 1) hx hb dX12_letter_141 (by decide +kernel) ?_
              refine lv_iadd hx hb dX12_letter_142 ?_
              refine lv_topi (fun x_56 ex_56 => ?_)
              refine W.widen (k := 0) (n := 0) (Nat.le_of_ble_eq_true rfl) (Nat.le_of_ble_eq_true rfl) ?_
              exact dg_iret hx hb hr hlocks rfl hP hS ⟨rfl, ⟨(fun q1 q2 q3 q4 q5 => by exfalso; omega), (fun _ _ _ _ _ => by rw [kn_x_16]; exact (LTR.y rel_0.out (by omega) (by omega) (by omega) ex_52 ex_53 ex_54 ex_55 ex_56)), (fun q1 q2 => by exfalso; omega), (fun q1 => by exfalso; omega)⟩, trivial⟩ dX12_letter_143
            · have jc_48 := dk_nltc (k := (x_36).toInt) rfl c_48
              refine lv_iconst (v := 0) hx hb dX12_letter_117 (by decide +kernel) ?_
              refine lv_goto (tgt := 143) hx hb dX12_letter_118 (by decide) ?_
              have hz_57 : (0 : Int32).toInt = 0 := by decide +kernel
              refine W.widen (k := 0) (n := 0) (Nat.le_of_ble_eq_true rfl) (Nat.le_of_ble_eq_true rfl) ?_
              exact dg_iret hx hb hr hlocks rfl hP hS ⟨rfl, ⟨(fun q1 q2 q3 q4 q5 => by exfalso; omega), (fun _ _ _ _ _ => by rw [kn_x_16]; exact (LTR.zr rel_0.out (by omega) (by decide +kernel))), (fun q1 q2 => by exfalso; omega), (fun q1 => by exfalso; omega)⟩, trivial⟩ dX12_letter_143
          have L_73 : ∀ (n : Nat) (x_71 : Int64) (x_72 : Int32), (0 ≤ (x_72).toInt ∧ (x_72).toInt ≤ 8) → (m_hid (NBs x_16 x_71 x_72)) → (((x_71).toInt).toNat < n) → ∀ (H : Heap) (locs : List Loc), va_P D vwCl (dg_w g shM o rfM S) H → va_S A s.heap H locs → ∀ ls : Array Slot, lv_has ls 10 [(8, .long x_71), (7, .int x_72), (5, .long x_16), (4, .int 1), (0, .ref (o + 0)), (1, .int a1), (2, .int a2), (3, .int a3)] → W p l e ({ frames := 2, cells := 0, slots := 0, locals := 54 } : Room) s m args below meth c H locs 0 0 (MQ below (va_Qi (fun (r : Int32) S' => S' = S ∧ (((a1).toInt = 0 → 0 ≤ (a2).toInt → (a2).toInt < (mi).toInt → 0 ≤ (a3).toInt → (a3).toInt < 6 → LTR (S.2.2 20 (6 * (bk : Int32).toNatClampNeg + (a2 : Int32).toNatClampNeg)) a3 r) ∧ ((a1).toInt = 1 → 0 ≤ (a2).toInt → (a2).toInt < (od).toInt → 0 ≤ (a3).toInt → (a3).toInt < 6 → LTR (S.2.2 21 (5 * (bk : Int32).toNatClampNeg + (a2 : Int32).toNatClampNeg)) a3 r) ∧ (¬ ((a1).toInt = 0 ∧ 0 ≤ (a2).toInt ∧ (a2).toInt < (mi).toInt) → ¬ ((a1).toInt = 1 ∧ 0 ≤ (a2).toInt ∧ (a2).toInt < (od).toInt) → (r).toInt = -1) ∧ (((a3).toInt < 0 ∨ 6 ≤ (a3).toInt) → (r).toInt = -1)) ∧ True) (dg_B g D shM o rfM) A) args s 0 0 A) (F0 m 91 ls []) := by
            intro n
            induction n with
            | zero =>
              intro x_71 x_72 b_x_72 rel_0 hmu H locs hP hS ls hl
              omega
            | succ n ih =>
              intro x_71 x_72 b_x_72 rel_0 hmu H locs hP hS ls hl
              refine lv_lload hx hb dX12_letter_91 (lv_at hl 0 rfl) ?_
              refine lv_lconst (v := 0) hx hb dX12_letter_93 (by decide +kernel) ?_
              refine W.lcmp hx hb dX12_letter_94 ?_
              refine lv_topi (fun x_74 ex_74 => ?_)
              have hz_74 : (0 : Int64).toInt = 0 := by decide +kernel
              have hlc_x_74 := dk_lcmp ex_74
              refine lv_if_le (tgt := 111) hx hb dX12_letter_95 (by decide) (fun c_76 => ?_) (fun c_76 => ?_)
              · have jc_76 := dk_lec (k := 0) (by decide +kernel) c_76
                exact J_47 x_71 x_72 (by omega) (m_hid.mk (NBs.e rel_0.out (by omega))) _ _ hP hS _ (lv_sub hl [0, 1, 2, 3, 4, 5, 6, 7] rfl)
              · have jc_76 := dk_nlec (k := 0) (by decide +kernel) c_76
                have hn8 : (x_72).toInt ≤ 7 := NBs.lt rel_0.out (by omega)
                obtain ⟨x_77, ex_77⟩ : ∃ z, z = x_72 + 1 := ⟨_, rfl⟩
                have jx_77 : (x_77).toInt = (x_72).toInt + 1 := by rw [ex_77]; exact dk_addT rfl (by decide +kernel) (by omega) (by omega)
                refine lv_iinc (v := x_77) (lv' := [(7, .int x_77), (8, .long x_71), (5, .long x_16), (4, .int 1), (0, .ref (o + 0)), (1, .int a1), (2, .int a2), (3, .int a3)]) hx hb dX12_letter_98 hl (k := 1) rfl (by rw [ex_77]; rfl) (by decide) rfl (fun ls hl => ?_)
                refine lv_lload hx hb dX12_letter_101 (lv_at hl 1 rfl) ?_
                refine lv_bipush (v := 8) hx hb dX12_letter_103 (by decide +kernel) ?_
                refine lv_lshr hx hb dX12_letter_105 rfl ?_
                refine lv_topl (fun x_78 ex_78 => ?_)
                have hsh_x_78 : 0 ≤ (x_78).toInt ∧ (x_78).toInt < (x_71).toInt := by rw [ex_78]; exact dk_lshr8 (x := x_71) (by omega)
                refine lv_lstore (lv' := [(8, .long x_78), (7, .int x_77), (5, .long x_16), (4, .int 1), (0, .ref (o + 0)), (1, .int a1), (2, .int a2), (3, .int a3)]) hx hb dX12_letter_106 hl (by decide) rfl (fun ls hl => ?_)
                refine lv_goto (tgt := 91) hx hb dX12_letter_108 (by decide) ?_
                exact ih x_78 x_77 (by omega) (m_hid.mk (NBs.st rel_0.out (by omega) ex_78 (by omega))) (by omega) _ _ hP hS _ (lv_sub hl [0, 1, 2, 3, 4, 5, 6, 7] rfl)
          have hz_79 : (0 : Int32).toInt = 0 := by decide +kernel
          have hz_80 : (0 : Int32).toInt = 0 := by decide +kernel
          have hz_81 : (0 : Int32).toInt = 0 := by decide +kernel
          exact L_73 ((((x_16 : Int64)).toInt).toNat + 1) x_16 0 (by decide +kernel) (m_hid.mk (NBs.zr (by decide +kernel))) (by omega) _ _ hP hS _ (lv_sub hl [0, 1, 2, 3, 4, 5, 6, 7] rfl)
        · have jc_12 := dk_eqc (k := 0) (by decide +kernel) c_12
          refine lv_iconst (v := (-1)) hx hb dX12_letter_46 (by decide +kernel) ?_
          have hz_82 : (-1 : Int32).toInt = (-1) := by decide +kernel
          refine W.widen (k := 0) (n := 0) (Nat.le_of_ble_eq_true rfl) (Nat.le_of_ble_eq_true rfl) ?_
          exact dg_iret hx hb hr hlocks rfl hP hS ⟨rfl, ⟨(fun q1 q2 q3 q4 q5 => by exfalso; omega), (fun q1 q2 q3 q4 q5 => by exfalso; omega), fun _ _ => by omega, fun _ => by omega⟩, trivial⟩ dX12_letter_47
  · have jc_1 := dk_eqc (k := 0) (by decide +kernel) c_1
    refine lv_aload_n hx hb dX12_letter_4 rfl (lv_at hl 0 rfl) ?_
    refine lv_iload_n hx hb dX12_letter_5 rfl (lv_at hl 2 rfl) ?_
    refine dg_calli hS hA1 hA (va_runV (As := [.int a2]) (rest := []) F (c_m_isMiner l g D o S a2 bk f_bk (by omega) mi f_mi (by omega) I s.heap.size) (cwV 1 hts (bw_V wB_1208 wB_1209 wB_1210 wB_297 wB_1207) rfl rfl rfl (by decide +kernel) ⟨Nat.le_of_ble_eq_true rfl, Nat.le_of_ble_eq_true rfl⟩) (dg_preV sM_0 rfl K ST hP hS hA1 hA) rfl rfl hl.1 rfl (lv_room (Nat.le_of_ble_eq_true rfl)) dX12_letter_6 ⟨Nat.le_of_ble_eq_true rfl, Nat.le_of_ble_eq_true rfl⟩) (fun x_83 S_84 hw_84 H locs hP hS => ?_)
    rw [hw_84.1] at hP
    obtain ⟨hq_84, w_84_0, w_84_1, w_84_2, -⟩ := hw_84
    have w_84_0 : 0 ≤ (x_83).toInt ∧ (x_83).toInt ≤ 1 := w_84_0
    have w_84_1 : (x_83).toInt = 1 → (0 ≤ (a2).toInt ∧ (a2).toInt ≤ 5) := w_84_1
    have w_84_2 : (x_83).toInt = 1 ↔ (0 ≤ (a2).toInt ∧ (a2).toInt < (mi).toInt) := w_84_2
    refine lv_goto (tgt := 30) hx hb dX12_letter_9 (by decide) ?_
    refine lv_istore (lv' := [(4, .int x_83), (0, .ref (o + 0)), (1, .int a1), (2, .int a2), (3, .int a3)]) hx hb dX12_letter_30 hl (by decide) rfl (fun ls hl => ?_)
    refine lv_iload hx hb dX12_letter_32 (lv_at hl 0 rfl) ?_
    refine lv_if_eq (tgt := 46) hx hb dX12_letter_34 (by decide) (fun c_85 => ?_) (fun c_85 => ?_)
    · have jc_85 := dk_eqc (k := 0) (by decide +kernel) c_85
      refine lv_iconst (v := (-1)) hx hb dX12_letter_46 (by decide +kernel) ?_
      have hz_86 : (-1 : Int32).toInt = (-1) := by decide +kernel
      refine W.widen (k := 0) (n := 0) (Nat.le_of_ble_eq_true rfl) (Nat.le_of_ble_eq_true rfl) ?_
      exact dg_iret hx hb hr hlocks rfl hP hS ⟨rfl, ⟨(fun q1 q2 q3 q4 q5 => by exfalso; omega), (fun q1 q2 q3 q4 q5 => by exfalso; omega), fun _ _ => by omega, fun _ => by omega⟩, trivial⟩ dX12_letter_47
    · have jc_85 := dk_neqc (k := 0) (by decide +kernel) c_85
      refine lv_iload_n hx hb dX12_letter_37 rfl (lv_at hl 4 rfl) ?_
      refine lv_iconst (v := 0) hx hb dX12_letter_38 (by decide +kernel) ?_
      refine lv_iconst (v := 5) hx hb dX12_letter_39 (by decide +kernel) ?_
      refine dg_calli hS hA1 hA (va_runS (As := [.int a3, .int 0, .int 5]) (rest := []) F (c_m_is l g D o S a3 0 5 I H.size) (va_cwS 3 hts (bw_S wB_362 wB_363 wB_297 wB_361) rfl rfl rfl (by decide +kernel) ⟨Nat.le_of_ble_eq_true rfl, Nat.le_of_ble_eq_true rfl⟩) (dg_preS K ST hP hS hA1 hA) rfl rfl hl.1 rfl (lv_room (Nat.le_of_ble_eq_true rfl)) dX12_letter_40 ⟨Nat.le_of_ble_eq_true rfl, Nat.le_of_ble_eq_true rfl⟩) (fun x_87 S_88 hw_88 H locs hP hS => ?_)
      rw [hw_88.1] at hP
      obtain ⟨hq_88, w_88_0, w_88_1, -⟩ := hw_88
      have hz_89 : (0 : Int32).toInt = 0 := by decide +kernel
      have hz_90 : (5 : Int32).toInt = 5 := by decide +kernel
      have w_88_0 : 0 ≤ (x_87).toInt ∧ (x_87).toInt ≤ 1 := w_88_0
      have w_88_1 : (x_87).toInt = 1 ↔ (((0 : Int32)).toInt ≤ (a3).toInt ∧ (a3).toInt ≤ ((5 : Int32)).toInt) := w_88_1
      refine lv_if_ne (tgt := 48) hx hb dX12_letter_43 (by decide) (fun c_91 => ?_) (fun c_91 => ?_)
      · have jc_91 := dk_neqc (k := 0) (by decide +kernel) c_91
        refine lv_iload_n hx hb dX12_letter_48 rfl (lv_at hl 2 rfl) ?_
        refine lv_if_ne (tgt := 69) hx hb dX12_letter_49 (by decide) (fun c => absurd (dk_eqp (k := 0) (by decide +kernel) (by omega)) c) (fun _ => ?_)
        refine lv_aload_n hx hb dX12_letter_52 rfl (lv_at hl 1 rfl) ?_
        refine dg_get (C := RX12) (T := TX12) (N := 77) hx hb hts (fun w h => bw_mem (wU_X12 w h)) hown K hP sM_0 rfl 32 (by decide) (hts _ (bw_mem wB_354)) (fun _ h9 => h9) (v := .ref (o + 20)) (show S.1 0 32 = .ref (o + 20) from dg_I.rel (d := 20) I sM_0 (by decide +kernel)) dX12_letter_53 ?_
        refine lv_bipush (v := 6) hx hb dX12_letter_56 (by decide +kernel) ?_
        refine lv_aload_n hx hb dX12_letter_58 rfl (lv_at hl 1 rfl) ?_
        refine dg_get (C := RX12) (T := TX12) (N := 77) hx hb hts (fun w h => bw_mem (wU_X12 w h)) hown K hP sM_0 rfl 13 (by decide) (hts _ (bw_mem wB_1085)) (fun _ h9 => h9) (v := .int bk) f_bk dX12_letter_59 ?_
        refine lv_imul hx hb dX12_letter_62 ?_
        refine lv_topi (fun x_92 ex_92 => ?_)
        have jx_92 : (x_92).toInt = 6 * (bk).toInt := by rw [ex_92]; exact dk_mulT (by decide +kernel) rfl (by omega) (by omega)
        refine lv_iload_n hx hb dX12_letter_63 rfl (lv_at hl 3 rfl) ?_
        refine lv_iadd hx hb dX12_letter_64 ?_
        refine lv_topi (fun x_93 ex_93 => ?_)
        have jx_93 : (x_93).toInt = (x_92).toInt + (a2).toInt := by rw [ex_93]; exact dk_addT rfl rfl (by omega) (by omega)
        have hin_94 : vp_in x_93 12 := (dk_inv (by omega) (by omega))
        refine dg_lald hx hb K hP sM_20 hin_94 dX12_letter_65 (fun x_95 ex_95 => ?_)
        have kn_x_95 : (S.2.2 20 (6 * (bk : Int32).toNatClampNeg + (a2 : Int32).toNatClampNeg)) = x_95 := by rw [show 6 * (bk : Int32).toNatClampNeg + (a2 : Int32).toNatClampNeg = (x_93 : Int32).toNatClampNeg from by have h7 := dk_clN bk; have h8 := dk_clN a2; have h9 := dk_clN x_93; omega]; exact ex_95.symm
        refine lv_goto (tgt := 82) hx hb dX12_letter_66 (by decide) ?_
        refine lv_lstore (lv' := [(5, .long x_95), (4, .int x_83), (0, .ref (o + 0)), (1, .int a1), (2, .int a2), (3, .int a3)]) hx hb dX12_letter_82 hl (by decide) rfl (fun ls hl => ?_)
        refine lv_iconst (v := 0) hx hb dX12_letter_84 (by decide +kernel) ?_
        refine lv_istore (lv' := [(7, .int 0), (5, .long x_95), (4, .int x_83), (0, .ref (o + 0)), (1, .int a1), (2, .int a2), (3, .int a3)]) hx hb dX12_letter_85 hl (by decide) rfl (fun ls hl => ?_)
        refine lv_lload hx hb dX12_letter_87 (lv_at hl 1 rfl) ?_
        refine lv_lstore (lv' := [(8, .long x_95), (7, .int 0), (5, .long x_95), (4, .int x_83), (0, .ref (o + 0)), (1, .int a1), (2, .int a2), (3, .int a3)]) hx hb dX12_letter_89 hl (by decide) rfl (fun ls hl => ?_)
        have J_126 : ∀ (x_114 : Int64) (x_115 : Int32), (0 ≤ (x_115).toInt ∧ (x_115).toInt ≤ 8) → (m_hid (NBY x_95 x_115)) → ∀ (H : Heap) (locs : List Loc), va_P D vwCl (dg_w g shM o rfM S) H → va_S A s.heap H locs → ∀ ls : Array Slot, lv_has ls 10 [(8, .long x_114), (7, .int x_115), (5, .long x_95), (4, .int x_83), (0, .ref (o + 0)), (1, .int a1), (2, .int a2), (3, .int a3)] → W p l e ({ frames := 2, cells := 0, slots := 0, locals := 54 } : Room) s m args below meth c H locs 0 0 (MQ below (va_Qi (fun (r : Int32) S' => S' = S ∧ (((a1).toInt = 0 → 0 ≤ (a2).toInt → (a2).toInt < (mi).toInt → 0 ≤ (a3).toInt → (a3).toInt < 6 → LTR (S.2.2 20 (6 * (bk : Int32).toNatClampNeg + (a2 : Int32).toNatClampNeg)) a3 r) ∧ ((a1).toInt = 1 → 0 ≤ (a2).toInt → (a2).toInt < (od).toInt → 0 ≤ (a3).toInt → (a3).toInt < 6 → LTR (S.2.2 21 (5 * (bk : Int32).toNatClampNeg + (a2 : Int32).toNatClampNeg)) a3 r) ∧ (¬ ((a1).toInt = 0 ∧ 0 ≤ (a2).toInt ∧ (a2).toInt < (mi).toInt) → ¬ ((a1).toInt = 1 ∧ 0 ≤ (a2).toInt ∧ (a2).toInt < (od).toInt) → (r).toInt = -1) ∧ (((a3).toInt < 0 ∨ 6 ≤ (a3).toInt) → (r).toInt = -1)) ∧ True) (dg_B g D shM o rfM) A) args s 0 0 A) (F0 m 111 ls []) := by
          intro x_114 x_115 b_x_115 rel_0 H locs hP hS ls hl
          refine lv_iload_n hx hb dX12_letter_111 rfl (lv_at hl 7 rfl) ?_
          refine lv_iload hx hb dX12_letter_112 (lv_at hl 1 rfl) ?_
          refine lv_icmp_lt (tgt := 121) hx hb dX12_letter_114 (by decide) (fun c_127 => ?_) (fun c_127 => ?_)
          · have jc_127 := dk_ltc (k := (x_115).toInt) rfl c_127
            refine lv_lload hx hb dX12_letter_121 (lv_at hl 2 rfl) ?_
            refine lv_bipush (v := 8) hx hb dX12_letter_123 (by decide +kernel) ?_
            refine lv_iload hx hb dX12_letter_125 (lv_at hl 1 rfl) ?_
            refine lv_iconst (v := 1) hx hb dX12_letter_127 (by decide +kernel) ?_
            refine lv_isub hx hb dX12_letter_128 ?_
            refine lv_topi (fun x_128 ex_128 => ?_)
            have jx_128 : (x_128).toInt = (x_115).toInt - 1 := by rw [ex_128]; exact dk_subT rfl (by decide +kernel) (by omega) (by omega)
            refine lv_iload_n hx hb dX12_letter_129 rfl (lv_at hl 7 rfl) ?_
            refine lv_isub hx hb dX12_letter_130 ?_
            refine lv_topi (fun x_129 ex_129 => ?_)
            have jx_129 : (x_129).toInt = (x_128).toInt - (a3).toInt := by rw [ex_129]; exact dk_subT rfl rfl (by omega) (by omega)
            refine lv_imul hx hb dX12_letter_131 ?_
            refine lv_topi (fun x_130 ex_130 => ?_)
            have jx_130 : (x_130).toInt = 8 * (x_129).toInt := by rw [ex_130]; exact dk_mulT (by decide +kernel) rfl (by omega) (by omega)
            refine lv_lshr hx hb dX12_letter_132 rfl ?_
            refine lv_topl (fun x_131 ex_131 => ?_)
            refine lv_ldc2 hx hb hown (hts _ (bw_mem wB_1206)) dX12_letter_133 ?_
            refine lv_land hx hb dX12_letter_136 ?_
            refine lv_topl (fun x_132 ex_132 => ?_)
            obtain ⟨x_133, ex_133⟩ : ∃ z, (x_132 : Int64).toInt32 = z := ⟨_, rfl⟩
            refine lv_l2i (v := x_133) hx hb dX12_letter_137 ex_133 ?_
            have hli_x_133 := dk_l2i ex_133
            refine lv_bipush (v := 97) hx hb dX12_letter_138 (by decide +kernel) ?_
            refine lv_isub hx hb dX12_letter_140 ?_
            refine lv_topi (fun x_134 ex_134 => ?_)
            refine lv_iconst (v := 1) hx hb dX12_letter_141 (by decide +kernel) ?_
            refine lv_iadd hx hb dX12_letter_142 ?_
            refine lv_topi (fun x_135 ex_135 => ?_)
            refine W.widen (k := 0) (n := 0) (Nat.le_of_ble_eq_true rfl) (Nat.le_of_ble_eq_true rfl) ?_
            exact dg_iret hx hb hr hlocks rfl hP hS ⟨rfl, ⟨(fun _ _ _ _ _ => by rw [kn_x_95]; exact (LTR.y rel_0.out (by omega) (by omega) (by omega) ex_131 ex_132 ex_133 ex_134 ex_135)), (fun q1 q2 q3 q4 q5 => by exfalso; omega), (fun q1 q2 => by exfalso; omega), (fun q1 => by exfalso; omega)⟩, trivial⟩ dX12_letter_143
          · have jc_127 := dk_nltc (k := (x_115).toInt) rfl c_127
            refine lv_iconst (v := 0) hx hb dX12_letter_117 (by decide +kernel) ?_
            refine lv_goto (tgt := 143) hx hb dX12_letter_118 (by decide) ?_
            have hz_136 : (0 : Int32).toInt = 0 := by decide +kernel
            refine W.widen (k := 0) (n := 0) (Nat.le_of_ble_eq_true rfl) (Nat.le_of_ble_eq_true rfl) ?_
            exact dg_iret hx hb hr hlocks rfl hP hS ⟨rfl, ⟨(fun _ _ _ _ _ => by rw [kn_x_95]; exact (LTR.zr rel_0.out (by omega) (by decide +kernel))), (fun q1 q2 q3 q4 q5 => by exfalso; omega), (fun q1 q2 => by exfalso; omega), (fun q1 => by exfalso; omega)⟩, trivial⟩ dX12_letter_143
        have L_152 : ∀ (n : Nat) (x_150 : Int64) (x_151 : Int32), (0 ≤ (x_151).toInt ∧ (x_151).toInt ≤ 8) → (m_hid (NBs x_95 x_150 x_151)) → (((x_150).toInt).toNat < n) → ∀ (H : Heap) (locs : List Loc), va_P D vwCl (dg_w g shM o rfM S) H → va_S A s.heap H locs → ∀ ls : Array Slot, lv_has ls 10 [(8, .long x_150), (7, .int x_151), (5, .long x_95), (4, .int x_83), (0, .ref (o + 0)), (1, .int a1), (2, .int a2), (3, .int a3)] → W p l e ({ frames := 2, cells := 0, slots := 0, locals := 54 } : Room) s m args below meth c H locs 0 0 (MQ below (va_Qi (fun (r : Int32) S' => S' = S ∧ (((a1).toInt = 0 → 0 ≤ (a2).toInt → (a2).toInt < (mi).toInt → 0 ≤ (a3).toInt → (a3).toInt < 6 → LTR (S.2.2 20 (6 * (bk : Int32).toNatClampNeg + (a2 : Int32).toNatClampNeg)) a3 r) ∧ ((a1).toInt = 1 → 0 ≤ (a2).toInt → (a2).toInt < (od).toInt → 0 ≤ (a3).toInt → (a3).toInt < 6 → LTR (S.2.2 21 (5 * (bk : Int32).toNatClampNeg + (a2 : Int32).toNatClampNeg)) a3 r) ∧ (¬ ((a1).toInt = 0 ∧ 0 ≤ (a2).toInt ∧ (a2).toInt < (mi).toInt) → ¬ ((a1).toInt = 1 ∧ 0 ≤ (a2).toInt ∧ (a2).toInt < (od).toInt) → (r).toInt = -1) ∧ (((a3).toInt < 0 ∨ 6 ≤ (a3).toInt) → (r).toInt = -1)) ∧ True) (dg_B g D shM o rfM) A) args s 0 0 A) (F0 m 91 ls []) := by
          intro n
          induction n with
          | zero =>
            intro x_150 x_151 b_x_151 rel_0 hmu H locs hP hS ls hl
            omega
          | succ n ih =>
            intro x_150 x_151 b_x_151 rel_0 hmu H locs hP hS ls hl
            refine lv_lload hx hb dX12_letter_91 (lv_at hl 0 rfl) ?_
            refine lv_lconst (v := 0) hx hb dX12_letter_93 (by decide +kernel) ?_
            refine W.lcmp hx hb dX12_letter_94 ?_
            refine lv_topi (fun x_153 ex_153 => ?_)
            have hz_153 : (0 : Int64).toInt = 0 := by decide +kernel
            have hlc_x_153 := dk_lcmp ex_153
            refine lv_if_le (tgt := 111) hx hb dX12_letter_95 (by decide) (fun c_155 => ?_) (fun c_155 => ?_)
            · have jc_155 := dk_lec (k := 0) (by decide +kernel) c_155
              exact J_126 x_150 x_151 (by omega) (m_hid.mk (NBs.e rel_0.out (by omega))) _ _ hP hS _ (lv_sub hl [0, 1, 2, 3, 4, 5, 6, 7] rfl)
            · have jc_155 := dk_nlec (k := 0) (by decide +kernel) c_155
              have hn8 : (x_151).toInt ≤ 7 := NBs.lt rel_0.out (by omega)
              obtain ⟨x_156, ex_156⟩ : ∃ z, z = x_151 + 1 := ⟨_, rfl⟩
              have jx_156 : (x_156).toInt = (x_151).toInt + 1 := by rw [ex_156]; exact dk_addT rfl (by decide +kernel) (by omega) (by omega)
              refine lv_iinc (v := x_156) (lv' := [(7, .int x_156), (8, .long x_150), (5, .long x_95), (4, .int x_83), (0, .ref (o + 0)), (1, .int a1), (2, .int a2), (3, .int a3)]) hx hb dX12_letter_98 hl (k := 1) rfl (by rw [ex_156]; rfl) (by decide) rfl (fun ls hl => ?_)
              refine lv_lload hx hb dX12_letter_101 (lv_at hl 1 rfl) ?_
              refine lv_bipush (v := 8) hx hb dX12_letter_103 (by decide +kernel) ?_
              refine lv_lshr hx hb dX12_letter_105 rfl ?_
              refine lv_topl (fun x_157 ex_157 => ?_)
              have hsh_x_157 : 0 ≤ (x_157).toInt ∧ (x_157).toInt < (x_150).toInt := by rw [ex_157]; exact dk_lshr8 (x := x_150) (by omega)
              refine lv_lstore (lv' := [(8, .long x_157), (7, .int x_156), (5, .long x_95), (4, .int x_83), (0, .ref (o + 0)), (1, .int a1), (2, .int a2), (3, .int a3)]) hx hb dX12_letter_106 hl (by decide) rfl (fun ls hl => ?_)
              refine lv_goto (tgt := 91) hx hb dX12_letter_108 (by decide) ?_
              exact ih x_157 x_156 (by omega) (m_hid.mk (NBs.st rel_0.out (by omega) ex_157 (by omega))) (by omega) _ _ hP hS _ (lv_sub hl [0, 1, 2, 3, 4, 5, 6, 7] rfl)
        have hz_158 : (0 : Int32).toInt = 0 := by decide +kernel
        have hz_159 : (0 : Int32).toInt = 0 := by decide +kernel
        have hz_160 : (0 : Int32).toInt = 0 := by decide +kernel
        exact L_152 ((((x_95 : Int64)).toInt).toNat + 1) x_95 0 (by decide +kernel) (m_hid.mk (NBs.zr (by decide +kernel))) (by omega) _ _ hP hS _ (lv_sub hl [0, 1, 2, 3, 4, 5, 6, 7] rfl)
      · have jc_91 := dk_eqc (k := 0) (by decide +kernel) c_91
        refine lv_iconst (v := (-1)) hx hb dX12_letter_46 (by decide +kernel) ?_
        have hz_161 : (-1 : Int32).toInt = (-1) := by decide +kernel
        refine W.widen (k := 0) (n := 0) (Nat.le_of_ble_eq_true rfl) (Nat.le_of_ble_eq_true rfl) ?_
        exact dg_iret hx hb hr hlocks rfl hP hS ⟨rfl, ⟨(fun q1 q2 q3 q4 q5 => by exfalso; omega), (fun q1 q2 q3 q4 q5 => by exfalso; omega), fun _ _ => by omega, fun _ => by omega⟩, trivial⟩ dX12_letter_47
set_option maxHeartbeats 8000000 in
set_option maxRecDepth 100000 in
theorem c_m_cell (l : Launch) (g : Nat → ClassId) (D : va_G) (o : Nat) (S : dg_S) (a1 : Int32) (a2 : Int32) (a3 : Int32) (ZB : ZBM S) (ZW : ZWM S) (I : CM o S) (sz : Nat) : Met l yX12_cell (bw yX12_cell cX12_cell 5 (some .int)) ({ frames := 7, cells := 0, slots := 0, locals := 169 } : Room) (dk_Pc g D (dg_w g shM o rfM S) sz [.ref (o + 0), .int a1, .int a2, .int a3]) (va_Qi (fun (r : Int32) S' => CM o S' ∧ dg_sm shM [] [40, 41, 42, 43] S S' ∧ True) (dg_B g D shM o rfM) (dg_A o shM.length sz)) 0 0 (dg_A o shM.length sz) := by
  refine dg_met (cc := cX12_cell) (maxL := 5) (ret := (some .int)) (by decide) rfl (Nat.le_of_ble_eq_true rfl) ?_
  intro p e s m args below meth c A hAe harg hx hb hr hml hts hown hlocks hin hP K hS hA1 hA ST hsz ls hl
  rw [← hAe]
  have F : CallFix p m c cX12_cell 5 s args (bw yX12_cell cX12_cell 5 (some .int)) RX12 := ⟨hx, hb, hml, hown, hts⟩
  have hl : lv_has ls 5 [(0, .ref (o + 0)), (1, .int a1), (2, .int a2), (3, .int a3)] := hl
  have M_0 : dg_sm shM [] [40, 41, 42, 43] S S := dg_sm.rf
  refine lv_aload_n hx hb dX12_cell_0 rfl (lv_at hl 0 rfl) ?_
  refine lv_iload_n hx hb dX12_cell_1 rfl (lv_at hl 1 rfl) ?_
  refine lv_iload_n hx hb dX12_cell_2 rfl (lv_at hl 2 rfl) ?_
  obtain ⟨x_1, f_x_1, b_x_1⟩ := dg_I.int (i := 0) (k := 13) (lo := 0) (hi := 1) I sM_0 (by decide +kernel)
  obtain ⟨x_2, f_x_2, b_x_2⟩ := dg_I.int (i := 0) (k := 47) (lo := 0) (hi := 1) I sM_0 (by decide +kernel)
  obtain ⟨x_3, f_x_3⟩ : ∃ x, S.2.1 2 (x_1 : Int32).toNatClampNeg = x := ⟨_, rfl⟩
  have hin_4 : vp_in (x_1 : Int32) 2 := (dk_inv (by omega) (by omega))
  have b_x_3 := dk_all_at (dg_I.row (lo := 0) (hi := 9999) I sM_2 (by decide +kernel)) hin_4 f_x_3.symm
  have ex_3 := f_x_3.symm
  have zb_x_3 : (x_3).toInt ≤ 7 ∧ ((x_2 : Int32).toInt = 1 → 3 ≤ (x_3).toInt) := by rw [ex_3]; exact ⟨(ZB x_1 x_2 f_x_1 f_x_2).1, fun h9 => ((ZB x_1 x_2 f_x_1 f_x_2).2.2.2 h9).1⟩
  obtain ⟨x_5, f_x_5⟩ : ∃ x, S.2.1 3 (x_1 : Int32).toNatClampNeg = x := ⟨_, rfl⟩
  have hin_6 : vp_in (x_1 : Int32) 2 := (dk_inv (by omega) (by omega))
  have b_x_5 := dk_all_at (dg_I.row (lo := 0) (hi := 9999) I sM_3 (by decide +kernel)) hin_6 f_x_5.symm
  have ex_5 := f_x_5.symm
  have zb_x_5 : (x_5).toInt ≤ 7 ∧ ((x_2 : Int32).toInt = 1 → 3 ≤ (x_5).toInt) := by rw [ex_5]; exact ⟨(ZB x_1 x_2 f_x_1 f_x_2).2.1, fun h9 => ((ZB x_1 x_2 f_x_1 f_x_2).2.2.2 h9).2⟩
  refine dg_calli hS hA1 hA (va_runV (As := [.int a1, .int a2]) (rest := []) F (c_m_isCell l g D o S a1 a2 x_1 f_x_1 (by omega) x_2 f_x_2 (by omega) x_3 f_x_3 (by omega) x_5 f_x_5 (by omega) ZB I s.heap.size) (cwV 2 hts (bw_V wB_1087 wB_1088 wB_1089 wB_297 wB_1086) rfl rfl rfl (by decide +kernel) ⟨Nat.le_of_ble_eq_true rfl, Nat.le_of_ble_eq_true rfl⟩) (dg_preV sM_0 rfl K ST hP hS hA1 hA) rfl rfl hl.1 rfl (lv_room (Nat.le_of_ble_eq_true rfl)) dX12_cell_3 ⟨Nat.le_of_ble_eq_true rfl, Nat.le_of_ble_eq_true rfl⟩) (fun x_7 S_8 hw_8 H locs hP hS => ?_)
  rw [hw_8.1] at hP
  obtain ⟨hq_8, w_8_0, w_8_1, w_8_2, -⟩ := hw_8
  have w_8_0 : 0 ≤ (x_7).toInt ∧ (x_7).toInt ≤ 1 := w_8_0
  have w_8_1 : (x_7).toInt = 1 → (0 ≤ (a1).toInt ∧ (a1).toInt ≤ 6 ∧ 0 ≤ (a2).toInt ∧ (a2).toInt ≤ 6) := w_8_1
  have w_8_2 : (x_7).toInt = 1 ↔ ((x_2).toInt = 1 ∧ 0 ≤ (a1).toInt ∧ (a1).toInt < (x_3).toInt ∧ 0 ≤ (a2).toInt ∧ (a2).toInt < (x_5).toInt) := w_8_2
  refine lv_if_ne (tgt := 11) hx hb dX12_cell_6 (by decide) (fun c_9 => ?_) (fun c_9 => ?_)
  · have jc_9 := dk_neqc (k := 0) (by decide +kernel) c_9
    refine lv_bipush (v := 8) hx hb dX12_cell_11 (by decide +kernel) ?_
    refine lv_iload_n hx hb dX12_cell_13 rfl (lv_at hl 2 rfl) ?_
    refine lv_imul hx hb dX12_cell_14 ?_
    refine lv_topi (fun x_10 ex_10 => ?_)
    have jx_10 : (x_10).toInt = 8 * (a2).toInt := by rw [ex_10]; exact dk_mulT (by decide +kernel) rfl (by omega) (by omega)
    refine lv_iload_n hx hb dX12_cell_15 rfl (lv_at hl 1 rfl) ?_
    refine lv_iadd hx hb dX12_cell_16 ?_
    refine lv_topi (fun x_11 ex_11 => ?_)
    have jx_11 : (x_11).toInt = (x_10).toInt + (a1).toInt := by rw [ex_11]; exact dk_addT rfl rfl (by omega) (by omega)
    refine lv_istore (lv' := [(4, .int x_11), (0, .ref (o + 0)), (1, .int a1), (2, .int a2), (3, .int a3)]) hx hb dX12_cell_17 hl (by decide) rfl (fun ls hl => ?_)
    refine lv_aload_n hx hb dX12_cell_19 rfl (lv_at hl 1 rfl) ?_
    refine lv_iconst (v := 0) hx hb dX12_cell_20 (by decide +kernel) ?_
    have hz_12 : (0 : Int32).toInt = 0 := by decide +kernel
    obtain ⟨x_13, f_x_13⟩ : ∃ x, S.2.1 4 (x_1 : Int32).toNatClampNeg = x := ⟨_, rfl⟩
    have hin_14 : vp_in (x_1 : Int32) 2 := (dk_inv (by omega) (by omega))
    have b_x_13 := dk_all_at (dg_I.row (lo := 0) (hi := 9999) I sM_4 (by decide +kernel)) hin_14 f_x_13.symm
    have ex_13 := f_x_13.symm
    have zb_x_13 : (x_13).toInt ≤ 63 := by rw [ex_13]; exact (ZB x_1 x_2 f_x_1 f_x_2).2.2.1
    refine dg_callv hS hA1 hA (va_runV (As := [.int 0]) (rest := []) F (c_m_measures l g D o S 0 (by decide +kernel) x_1 f_x_1 (by omega) x_13 f_x_13 (by omega) ZB I H.size) (cwV 1 hts (bw_V wB_1161 wB_1162 wB_1163 wB_297 wB_1160) rfl rfl rfl (by decide +kernel) ⟨Nat.le_of_ble_eq_true rfl, Nat.le_of_ble_eq_true rfl⟩) (dg_preV sM_0 rfl K ST hP hS hA1 hA) rfl rfl hl.1 rfl (lv_room (Nat.le_of_ble_eq_true rfl)) dX12_cell_21 ⟨Nat.le_of_ble_eq_true rfl, Nat.le_of_ble_eq_true rfl⟩) (fun S_15 hw_15 H locs hP hS => ?_)
    obtain ⟨I_15, m_15, -⟩ := hw_15
    have M_15 := dg_sm.tr M_0 m_15 (by decide) (by decide)
    refine lv_iload_n hx hb dX12_cell_24 rfl (lv_at hl 4 rfl) ?_
    rcases (show ((a3).toInt < 0 ∨ 5 < (a3).toInt) ∨ (a3).toInt = 0 ∨ (a3).toInt = 1 ∨ (a3).toInt = 2 ∨ (a3).toInt = 3 ∨ (a3).toInt = 4 ∨ (a3).toInt = 5 by omega) with jc_16 | jc_16 | jc_16 | jc_16 | jc_16 | jc_16 | jc_16
    · refine lv_tableOut (tgt := 173) hx hb dX12_cell_25 jc_16 (by decide) ?_
      refine lv_iconst (v := (-1)) hx hb dX12_cell_173 (by decide +kernel) ?_
      refine W.widen (k := 0) (n := 0) (Nat.le_of_ble_eq_true rfl) (Nat.le_of_ble_eq_true rfl) ?_
      exact dg_iret hx hb hr hlocks rfl hP hS ⟨I_15, M_15, trivial⟩ dX12_cell_174
    · refine lv_tableIn (off := 39) (tgt := 64) hx hb dX12_cell_25 (by rw [jc_16]; decide) (by rw [jc_16]; decide) (by rw [jc_16]; decide +kernel) (by decide) ?_
      refine lv_aload_n hx hb dX12_cell_64 rfl (lv_at hl 1 rfl) ?_
      refine dg_get (C := RX12) (T := TX12) (N := 77) hx hb hts (fun w h => bw_mem (wU_X12 w h)) hown K hP sM_0 rfl 51 (by decide) (hts _ (bw_mem wB_1090)) (fun _ h9 => h9) (v := .ref (o + 31)) (show S_15.1 0 51 = .ref (o + 31) from dg_I.rel (d := 31) I_15 sM_0 (by decide +kernel)) dX12_cell_65 ?_
      refine lv_iload hx hb dX12_cell_68 (lv_at hl 0 rfl) ?_
      have hin_17 : vp_in x_11 1408 := (dk_inv (by omega) (by omega))
      refine dg_iald hx hb K hP sM_31 hin_17 dX12_cell_70 (fun x_18 ex_18 => ?_)
      have b_x_18 := dk_all_at (dg_I.row (lo := (-1)) (hi := 9) I_15 sM_31 (by decide +kernel)) hin_17 ex_18
      refine W.widen (k := 0) (n := 0) (Nat.le_of_ble_eq_true rfl) (Nat.le_of_ble_eq_true rfl) ?_
      exact dg_iret hx hb hr hlocks rfl hP hS ⟨I_15, M_15, trivial⟩ dX12_cell_71
    · refine lv_tableIn (off := 47) (tgt := 72) hx hb dX12_cell_25 (by rw [jc_16]; decide) (by rw [jc_16]; decide) (by rw [jc_16]; decide +kernel) (by decide) ?_
      refine lv_aload_n hx hb dX12_cell_72 rfl (lv_at hl 1 rfl) ?_
      refine lv_iconst (v := 0) hx hb dX12_cell_73 (by decide +kernel) ?_
      refine lv_iload hx hb dX12_cell_74 (lv_at hl 0 rfl) ?_
      have hz_19 : (0 : Int32).toInt = 0 := by decide +kernel
      refine dg_calli hS hA1 hA (va_runV (As := [.int 0, .int x_11]) (rest := []) F (c_m_isOpen l g D o S_15 0 (by decide +kernel) x_11 (by omega) I_15 H.size) (cwV 2 hts (bw_V wB_1092 wB_1093 wB_1094 wB_297 wB_1091) rfl rfl rfl (by decide +kernel) ⟨Nat.le_of_ble_eq_true rfl, Nat.le_of_ble_eq_true rfl⟩) (dg_preV sM_0 rfl K ST hP hS hA1 hA) rfl rfl hl.1 rfl (lv_room (Nat.le_of_ble_eq_true rfl)) dX12_cell_76 ⟨Nat.le_of_ble_eq_true rfl, Nat.le_of_ble_eq_true rfl⟩) (fun x_20 S_21 hw_21 H locs hP hS => ?_)
      rw [hw_21.1] at hP
      obtain ⟨hq_21, w_21_0, -⟩ := hw_21
      have w_21_0 : 0 ≤ (x_20).toInt ∧ (x_20).toInt ≤ 1 := w_21_0
      refine lv_if_eq (tgt := 86) hx hb dX12_cell_79 (by decide) (fun c_22 => ?_) (fun c_22 => ?_)
      · have jc_22 := dk_eqc (k := 0) (by decide +kernel) c_22
        refine lv_iconst (v := 0) hx hb dX12_cell_86 (by decide +kernel) ?_
        refine W.widen (k := 0) (n := 0) (Nat.le_of_ble_eq_true rfl) (Nat.le_of_ble_eq_true rfl) ?_
        exact dg_iret hx hb hr hlocks rfl hP hS ⟨I_15, M_15, trivial⟩ dX12_cell_87
      · have jc_22 := dk_neqc (k := 0) (by decide +kernel) c_22
        refine lv_iconst (v := 1) hx hb dX12_cell_82 (by decide +kernel) ?_
        refine lv_goto (tgt := 87) hx hb dX12_cell_83 (by decide) ?_
        refine W.widen (k := 0) (n := 0) (Nat.le_of_ble_eq_true rfl) (Nat.le_of_ble_eq_true rfl) ?_
        exact dg_iret hx hb hr hlocks rfl hP hS ⟨I_15, M_15, trivial⟩ dX12_cell_87
    · refine lv_tableIn (off := 63) (tgt := 88) hx hb dX12_cell_25 (by rw [jc_16]; decide) (by rw [jc_16]; decide) (by rw [jc_16]; decide +kernel) (by decide) ?_
      refine lv_aload_n hx hb dX12_cell_88 rfl (lv_at hl 1 rfl) ?_
      refine lv_iconst (v := 0) hx hb dX12_cell_89 (by decide +kernel) ?_
      refine lv_iload hx hb dX12_cell_90 (lv_at hl 0 rfl) ?_
      have hz_23 : (0 : Int32).toInt = 0 := by decide +kernel
      refine dg_calli hS hA1 hA (va_runV (As := [.int 0, .int x_11]) (rest := []) F (c_m_isLit l g D o S_15 0 (by decide +kernel) x_11 (by omega) I_15 H.size) (cwV 2 hts (bw_V wB_1104 wB_1105 wB_1106 wB_297 wB_1103) rfl rfl rfl (by decide +kernel) ⟨Nat.le_of_ble_eq_true rfl, Nat.le_of_ble_eq_true rfl⟩) (dg_preV sM_0 rfl K ST hP hS hA1 hA) rfl rfl hl.1 rfl (lv_room (Nat.le_of_ble_eq_true rfl)) dX12_cell_92 ⟨Nat.le_of_ble_eq_true rfl, Nat.le_of_ble_eq_true rfl⟩) (fun x_24 S_25 hw_25 H locs hP hS => ?_)
      rw [hw_25.1] at hP
      obtain ⟨hq_25, w_25_0, -⟩ := hw_25
      have w_25_0 : 0 ≤ (x_24).toInt ∧ (x_24).toInt ≤ 1 := w_25_0
      refine lv_if_eq (tgt := 102) hx hb dX12_cell_95 (by decide) (fun c_26 => ?_) (fun c_26 => ?_)
      · have jc_26 := dk_eqc (k := 0) (by decide +kernel) c_26
        refine lv_iconst (v := 0) hx hb dX12_cell_102 (by decide +kernel) ?_
        refine W.widen (k := 0) (n := 0) (Nat.le_of_ble_eq_true rfl) (Nat.le_of_ble_eq_true rfl) ?_
        exact dg_iret hx hb hr hlocks rfl hP hS ⟨I_15, M_15, trivial⟩ dX12_cell_103
      · have jc_26 := dk_neqc (k := 0) (by decide +kernel) c_26
        refine lv_iconst (v := 1) hx hb dX12_cell_98 (by decide +kernel) ?_
        refine lv_goto (tgt := 103) hx hb dX12_cell_99 (by decide) ?_
        refine W.widen (k := 0) (n := 0) (Nat.le_of_ble_eq_true rfl) (Nat.le_of_ble_eq_true rfl) ?_
        exact dg_iret hx hb hr hlocks rfl hP hS ⟨I_15, M_15, trivial⟩ dX12_cell_103
    · refine lv_tableIn (off := 79) (tgt := 104) hx hb dX12_cell_25 (by rw [jc_16]; decide) (by rw [jc_16]; decide) (by rw [jc_16]; decide +kernel) (by decide) ?_
      refine lv_aload_n hx hb dX12_cell_104 rfl (lv_at hl 1 rfl) ?_
      refine dg_get (C := RX12) (T := TX12) (N := 77) hx hb hts (fun w h => bw_mem (wU_X12 w h)) hown K hP sM_0 rfl 52 (by decide) (hts _ (bw_mem wB_1097)) (fun _ h9 => h9) (v := .ref (o + 32)) (show S_15.1 0 52 = .ref (o + 32) from dg_I.rel (d := 32) I_15 sM_0 (by decide +kernel)) dX12_cell_105 ?_
      refine lv_iload hx hb dX12_cell_108 (lv_at hl 0 rfl) ?_
      have hin_27 : vp_in x_11 1408 := (dk_inv (by omega) (by omega))
      refine dg_iald hx hb K hP sM_32 hin_27 dX12_cell_110 (fun x_28 ex_28 => ?_)
      refine W.widen (k := 0) (n := 0) (Nat.le_of_ble_eq_true rfl) (Nat.le_of_ble_eq_true rfl) ?_
      exact dg_iret hx hb hr hlocks rfl hP hS ⟨I_15, M_15, trivial⟩ dX12_cell_111
    · refine lv_tableIn (off := 87) (tgt := 112) hx hb dX12_cell_25 (by rw [jc_16]; decide) (by rw [jc_16]; decide) (by rw [jc_16]; decide +kernel) (by decide) ?_
      refine lv_aload_n hx hb dX12_cell_112 rfl (lv_at hl 1 rfl) ?_
      refine lv_iconst (v := 0) hx hb dX12_cell_113 (by decide +kernel) ?_
      refine lv_iload hx hb dX12_cell_114 (lv_at hl 0 rfl) ?_
      have hz_29 : (0 : Int32).toInt = 0 := by decide +kernel
      refine dg_calli hS hA1 hA (va_runV (As := [.int 0, .int x_11]) (rest := []) F (c_m_isOpen l g D o S_15 0 (by decide +kernel) x_11 (by omega) I_15 H.size) (cwV 2 hts (bw_V wB_1092 wB_1093 wB_1094 wB_297 wB_1091) rfl rfl rfl (by decide +kernel) ⟨Nat.le_of_ble_eq_true rfl, Nat.le_of_ble_eq_true rfl⟩) (dg_preV sM_0 rfl K ST hP hS hA1 hA) rfl rfl hl.1 rfl (lv_room (Nat.le_of_ble_eq_true rfl)) dX12_cell_116 ⟨Nat.le_of_ble_eq_true rfl, Nat.le_of_ble_eq_true rfl⟩) (fun x_30 S_31 hw_31 H locs hP hS => ?_)
      rw [hw_31.1] at hP
      obtain ⟨hq_31, w_31_0, -⟩ := hw_31
      have w_31_0 : 0 ≤ (x_30).toInt ∧ (x_30).toInt ≤ 1 := w_31_0
      refine lv_if_eq (tgt := 145) hx hb dX12_cell_119 (by decide) (fun c_32 => ?_) (fun c_32 => ?_)
      · have jc_32 := dk_eqc (k := 0) (by decide +kernel) c_32
        refine lv_iconst (v := (-1)) hx hb dX12_cell_145 (by decide +kernel) ?_
        refine W.widen (k := 0) (n := 0) (Nat.le_of_ble_eq_true rfl) (Nat.le_of_ble_eq_true rfl) ?_
        exact dg_iret hx hb hr hlocks rfl hP hS ⟨I_15, M_15, trivial⟩ dX12_cell_146
      · have jc_32 := dk_neqc (k := 0) (by decide +kernel) c_32
        refine lv_aload_n hx hb dX12_cell_122 rfl (lv_at hl 1 rfl) ?_
        refine dg_get (C := RX12) (T := TX12) (N := 77) hx hb hts (fun w h => bw_mem (wU_X12 w h)) hown K hP sM_0 rfl 66 (by decide) (hts _ (bw_mem wB_1095)) (fun _ h9 => h9) (v := .ref (o + 42)) (show S_15.1 0 66 = .ref (o + 42) from dg_I.rel (d := 42) I_15 sM_0 (by decide +kernel)) dX12_cell_123 ?_
        refine lv_iload hx hb dX12_cell_126 (lv_at hl 0 rfl) ?_
        have hin_33 : vp_in x_11 64 := (dk_inv (by omega) (by omega))
        refine dg_iald hx hb K hP sM_42 hin_33 dX12_cell_128 (fun x_34 ex_34 => ?_)
        refine lv_ldcw hx hb hown (hts _ (bw_mem wB_1102)) dX12_cell_129 ?_
        refine lv_icmp_ge (tgt := 145) hx hb dX12_cell_132 (by decide) (fun c_35 => ?_) (fun c_35 => ?_)
        · have jc_35 := dk_gec (k := 100000000) (by decide +kernel) c_35
          refine lv_iconst (v := (-1)) hx hb dX12_cell_145 (by decide +kernel) ?_
          refine W.widen (k := 0) (n := 0) (Nat.le_of_ble_eq_true rfl) (Nat.le_of_ble_eq_true rfl) ?_
          exact dg_iret hx hb hr hlocks rfl hP hS ⟨I_15, M_15, trivial⟩ dX12_cell_146
        · have jc_35 := dk_ngec (k := 100000000) (by decide +kernel) c_35
          refine lv_aload_n hx hb dX12_cell_135 rfl (lv_at hl 1 rfl) ?_
          refine dg_get (C := RX12) (T := TX12) (N := 77) hx hb hts (fun w h => bw_mem (wU_X12 w h)) hown K hP sM_0 rfl 66 (by decide) (hts _ (bw_mem wB_1095)) (fun _ h9 => h9) (v := .ref (o + 42)) (show S_15.1 0 66 = .ref (o + 42) from dg_I.rel (d := 42) I_15 sM_0 (by decide +kernel)) dX12_cell_136 ?_
          refine lv_iload hx hb dX12_cell_139 (lv_at hl 0 rfl) ?_
          have hin_36 : vp_in x_11 64 := (dk_inv (by omega) (by omega))
          refine dg_iald hx hb K hP sM_42 hin_36 dX12_cell_141 (fun y_37 ey_37 => ?_)
          obtain rfl : x_34 = y_37 := (ey_37.trans ex_34.symm).symm
          refine lv_goto (tgt := 146) hx hb dX12_cell_142 (by decide) ?_
          refine W.widen (k := 0) (n := 0) (Nat.le_of_ble_eq_true rfl) (Nat.le_of_ble_eq_true rfl) ?_
          exact dg_iret hx hb hr hlocks rfl hP hS ⟨I_15, M_15, trivial⟩ dX12_cell_146
    · refine lv_tableIn (off := 122) (tgt := 147) hx hb dX12_cell_25 (by rw [jc_16]; decide) (by rw [jc_16]; decide) (by rw [jc_16]; decide +kernel) (by decide) ?_
      refine lv_aload_n hx hb dX12_cell_147 rfl (lv_at hl 1 rfl) ?_
      refine lv_iconst (v := 0) hx hb dX12_cell_148 (by decide +kernel) ?_
      refine lv_iload hx hb dX12_cell_149 (lv_at hl 0 rfl) ?_
      have hz_38 : (0 : Int32).toInt = 0 := by decide +kernel
      refine dg_calli hS hA1 hA (va_runV (As := [.int 0, .int x_11]) (rest := []) F (c_m_canDig l g D o S_15 0 (by decide +kernel) x_11 (by omega) (ZBM.keep ZB m_15 (by decide) (by decide) (by decide) (by decide) (by decide)) I_15 H.size) (cwV 2 hts (bw_V wB_1168 wB_1169 wB_1170 wB_297 wB_1167) rfl rfl rfl (by decide +kernel) ⟨Nat.le_of_ble_eq_true rfl, Nat.le_of_ble_eq_true rfl⟩) (dg_preV sM_0 rfl K ST hP hS hA1 hA) rfl rfl hl.1 rfl (lv_room (Nat.le_of_ble_eq_true rfl)) dX12_cell_151 ⟨Nat.le_of_ble_eq_true rfl, Nat.le_of_ble_eq_true rfl⟩) (fun x_39 S_40 hw_40 H locs hP hS => ?_)
      rw [hw_40.1] at hP
      obtain ⟨hq_40, w_40_0, -⟩ := hw_40
      have w_40_0 : 0 ≤ (x_39).toInt ∧ (x_39).toInt ≤ 1 := w_40_0
      refine lv_if_eq (tgt := 171) hx hb dX12_cell_154 (by decide) (fun c_41 => ?_) (fun c_41 => ?_)
      · have jc_41 := dk_eqc (k := 0) (by decide +kernel) c_41
        refine lv_iconst (v := 0) hx hb dX12_cell_171 (by decide +kernel) ?_
        refine W.widen (k := 0) (n := 0) (Nat.le_of_ble_eq_true rfl) (Nat.le_of_ble_eq_true rfl) ?_
        exact dg_iret hx hb hr hlocks rfl hP hS ⟨I_15, M_15, trivial⟩ dX12_cell_172
      · have jc_41 := dk_neqc (k := 0) (by decide +kernel) c_41
        refine lv_aload_n hx hb dX12_cell_157 rfl (lv_at hl 1 rfl) ?_
        refine lv_iconst (v := 0) hx hb dX12_cell_158 (by decide +kernel) ?_
        refine lv_iload hx hb dX12_cell_159 (lv_at hl 0 rfl) ?_
        have hz_42 : (0 : Int32).toInt = 0 := by decide +kernel
        refine dg_calli hS hA1 hA (va_runV (As := [.int 0, .int x_11]) (rest := []) F (c_m_isFalling l g D o S_15 0 (by decide +kernel) x_11 (by omega) (ZBM.keep ZB m_15 (by decide) (by decide) (by decide) (by decide) (by decide)) (ZWM.keep ZW m_15 (by decide) (by decide) (by decide) (by decide)) I_15 H.size) (cwV 2 hts (bw_V wB_1172 wB_1173 wB_1174 wB_297 wB_1171) rfl rfl rfl (by decide +kernel) ⟨Nat.le_of_ble_eq_true rfl, Nat.le_of_ble_eq_true rfl⟩) (dg_preV sM_0 rfl K ST hP hS hA1 hA) rfl rfl hl.1 rfl (lv_room (Nat.le_of_ble_eq_true rfl)) dX12_cell_161 ⟨Nat.le_of_ble_eq_true rfl, Nat.le_of_ble_eq_true rfl⟩) (fun x_43 S_44 hw_44 H locs hP hS => ?_)
        obtain ⟨I_44, m_44, w_44_0, -⟩ := hw_44
        have M_44 := dg_sm.tr M_15 m_44 (by decide) (by decide)
        have w_44_0 : 0 ≤ (x_43).toInt ∧ (x_43).toInt ≤ 1 := w_44_0
        refine lv_if_ne (tgt := 171) hx hb dX12_cell_164 (by decide) (fun c_45 => ?_) (fun c_45 => ?_)
        · have jc_45 := dk_neqc (k := 0) (by decide +kernel) c_45
          refine lv_iconst (v := 0) hx hb dX12_cell_171 (by decide +kernel) ?_
          refine W.widen (k := 0) (n := 0) (Nat.le_of_ble_eq_true rfl) (Nat.le_of_ble_eq_true rfl) ?_
          exact dg_iret hx hb hr hlocks rfl hP hS ⟨I_44, M_44, trivial⟩ dX12_cell_172
        · have jc_45 := dk_eqc (k := 0) (by decide +kernel) c_45
          refine lv_iconst (v := 1) hx hb dX12_cell_167 (by decide +kernel) ?_
          refine lv_goto (tgt := 172) hx hb dX12_cell_168 (by decide) ?_
          refine W.widen (k := 0) (n := 0) (Nat.le_of_ble_eq_true rfl) (Nat.le_of_ble_eq_true rfl) ?_
          exact dg_iret hx hb hr hlocks rfl hP hS ⟨I_44, M_44, trivial⟩ dX12_cell_172
  · have jc_9 := dk_eqc (k := 0) (by decide +kernel) c_9
    refine lv_iconst (v := (-1)) hx hb dX12_cell_9 (by decide +kernel) ?_
    refine W.widen (k := 0) (n := 0) (Nat.le_of_ble_eq_true rfl) (Nat.le_of_ble_eq_true rfl) ?_
    exact dg_iret hx hb hr hlocks rfl hP hS ⟨I, M_0, trivial⟩ dX12_cell_10
set_option maxHeartbeats 8000000 in
set_option maxRecDepth 100000 in
theorem c_m_hurt (l : Launch) (g : Nat → ClassId) (D : va_G) (o : Nat) (S : dg_S) (a1 : Int32) (I : CM o S) (sz : Nat) : Met l yX12_hurt (bw yX12_hurt cX12_hurt 2 (some .int)) ({ frames := 2, cells := 0, slots := 0, locals := 53 } : Room) (dk_Pc g D (dg_w g shM o rfM S) sz [.ref (o + 0), .int a1]) (va_Qi (fun (r : Int32) S' => S' = S ∧ ((-1) ≤ (r).toInt ∧ (r).toInt ≤ 1) ∧ True) (dg_B g D shM o rfM) (dg_A o shM.length sz)) 0 0 (dg_A o shM.length sz) := by
  refine dg_met (cc := cX12_hurt) (maxL := 2) (ret := (some .int)) (by decide) rfl (Nat.le_of_ble_eq_true rfl) ?_
  intro p e s m args below meth c A hAe harg hx hb hr hml hts hown hlocks hin hP K hS hA1 hA ST hsz ls hl
  rw [← hAe]
  have F : CallFix p m c cX12_hurt 2 s args (bw yX12_hurt cX12_hurt 2 (some .int)) RX12 := ⟨hx, hb, hml, hown, hts⟩
  have hl : lv_has ls 2 [(0, .ref (o + 0)), (1, .int a1)] := hl
  have M_0 : dg_sm shM [] [] S S := dg_sm.rf
  refine lv_aload_n hx hb dX12_hurt_0 rfl (lv_at hl 0 rfl) ?_
  refine lv_iload_n hx hb dX12_hurt_1 rfl (lv_at hl 1 rfl) ?_
  obtain ⟨x_1, f_x_1, b_x_1⟩ := dg_I.int (i := 0) (k := 13) (lo := 0) (hi := 1) I sM_0 (by decide +kernel)
  obtain ⟨x_2, f_x_2⟩ : ∃ x, S.2.1 8 (x_1 : Int32).toNatClampNeg = x := ⟨_, rfl⟩
  have hin_3 : vp_in (x_1 : Int32) 2 := (dk_inv (by omega) (by omega))
  have b_x_2 := dk_all_at (dg_I.row (lo := 0) (hi := 6) I sM_8 (by decide +kernel)) hin_3 f_x_2.symm
  refine dg_calli hS hA1 hA (va_runV (As := [.int a1]) (rest := []) F (c_m_isMiner l g D o S a1 x_1 f_x_1 (by omega) x_2 f_x_2 (by omega) I s.heap.size) (cwV 1 hts (bw_V wB_1208 wB_1209 wB_1210 wB_297 wB_1207) rfl rfl rfl (by decide +kernel) ⟨Nat.le_of_ble_eq_true rfl, Nat.le_of_ble_eq_true rfl⟩) (dg_preV sM_0 rfl K ST hP hS hA1 hA) rfl rfl hl.1 rfl (lv_room (Nat.le_of_ble_eq_true rfl)) dX12_hurt_2 ⟨Nat.le_of_ble_eq_true rfl, Nat.le_of_ble_eq_true rfl⟩) (fun x_4 S_5 hw_5 H locs hP hS => ?_)
  rw [hw_5.1] at hP
  obtain ⟨hq_5, w_5_0, w_5_1, w_5_2, -⟩ := hw_5
  have w_5_0 : 0 ≤ (x_4).toInt ∧ (x_4).toInt ≤ 1 := w_5_0
  have w_5_1 : (x_4).toInt = 1 → (0 ≤ (a1).toInt ∧ (a1).toInt ≤ 5) := w_5_1
  have w_5_2 : (x_4).toInt = 1 ↔ (0 ≤ (a1).toInt ∧ (a1).toInt < (x_2).toInt) := w_5_2
  refine lv_if_eq (tgt := 29) hx hb dX12_hurt_5 (by decide) (fun c_6 => ?_) (fun c_6 => ?_)
  · have jc_6 := dk_eqc (k := 0) (by decide +kernel) c_6
    refine lv_iconst (v := (-1)) hx hb dX12_hurt_29 (by decide +kernel) ?_
    have hz_7 : (-1 : Int32).toInt = (-1) := by decide +kernel
    refine W.widen (k := 0) (n := 0) (Nat.le_of_ble_eq_true rfl) (Nat.le_of_ble_eq_true rfl) ?_
    exact dg_iret hx hb hr hlocks rfl hP hS ⟨rfl, (by decide +kernel), trivial⟩ dX12_hurt_30
  · have jc_6 := dk_neqc (k := 0) (by decide +kernel) c_6
    refine lv_aload_n hx hb dX12_hurt_8 rfl (lv_at hl 0 rfl) ?_
    refine dg_get (C := RX12) (T := TX12) (N := 77) hx hb hts (fun w h => bw_mem (wU_X12 w h)) hown K hP sM_0 rfl 53 (by decide) (hts _ (bw_mem wB_1130)) (fun _ h9 => h9) (v := .ref (o + 33)) (show S.1 0 53 = .ref (o + 33) from dg_I.rel (d := 33) I sM_0 (by decide +kernel)) dX12_hurt_9 ?_
    refine lv_iconst (v := 0) hx hb dX12_hurt_12 (by decide +kernel) ?_
    have hin_8 : vp_in (0 : Int32) 22 := (dk_in (by decide +kernel))
    refine dg_iald hx hb K hP sM_33 hin_8 dX12_hurt_13 (fun x_9 ex_9 => ?_)
    refine lv_iload_n hx hb dX12_hurt_14 rfl (lv_at hl 1 rfl) ?_
    refine dg_calli hS hA1 hA (va_runS (As := [.int x_9, .int a1]) (rest := []) F (c_m_has2 l g D o S x_9 a1 I H.size) (va_cwS 2 hts (bw_S wB_1165 wB_1166 wB_297 wB_1164) rfl rfl rfl (by decide +kernel) ⟨Nat.le_of_ble_eq_true rfl, Nat.le_of_ble_eq_true rfl⟩) (dg_preS K ST hP hS hA1 hA) rfl rfl hl.1 rfl (lv_room (Nat.le_of_ble_eq_true rfl)) dX12_hurt_15 ⟨Nat.le_of_ble_eq_true rfl, Nat.le_of_ble_eq_true rfl⟩) (fun x_10 S_11 hw_11 H locs hP hS => ?_)
    rw [hw_11.1] at hP
    obtain ⟨hq_11, w_11_0, -⟩ := hw_11
    have w_11_0 : 0 ≤ (x_10).toInt ∧ (x_10).toInt ≤ 1 := w_11_0
    refine lv_if_eq (tgt := 25) hx hb dX12_hurt_18 (by decide) (fun c_12 => ?_) (fun c_12 => ?_)
    · have jc_12 := dk_eqc (k := 0) (by decide +kernel) c_12
      refine lv_iconst (v := 0) hx hb dX12_hurt_25 (by decide +kernel) ?_
      refine lv_goto (tgt := 30) hx hb dX12_hurt_26 (by decide) ?_
      have hz_13 : (0 : Int32).toInt = 0 := by decide +kernel
      refine W.widen (k := 0) (n := 0) (Nat.le_of_ble_eq_true rfl) (Nat.le_of_ble_eq_true rfl) ?_
      exact dg_iret hx hb hr hlocks rfl hP hS ⟨rfl, (by decide +kernel), trivial⟩ dX12_hurt_30
    · have jc_12 := dk_neqc (k := 0) (by decide +kernel) c_12
      refine lv_iconst (v := 1) hx hb dX12_hurt_21 (by decide +kernel) ?_
      refine lv_goto (tgt := 30) hx hb dX12_hurt_22 (by decide) ?_
      have hz_14 : (1 : Int32).toInt = 1 := by decide +kernel
      refine W.widen (k := 0) (n := 0) (Nat.le_of_ble_eq_true rfl) (Nat.le_of_ble_eq_true rfl) ?_
      exact dg_iret hx hb hr hlocks rfl hP hS ⟨rfl, (by decide +kernel), trivial⟩ dX12_hurt_30
set_option maxHeartbeats 8000000 in
set_option maxRecDepth 100000 in
theorem c_m_plan (l : Launch) (g : Nat → ClassId) (D : va_G) (o : Nat) (S : dg_S) (a1 : Int32) (a2 : Int32) (I : CM o S) (sz : Nat) : Met l yX12_plan (bw yX12_plan cX12_plan 3 (some .int)) ({ frames := 2, cells := 0, slots := 0, locals := 54 } : Room) (dk_Pc g D (dg_w g shM o rfM S) sz [.ref (o + 0), .int a1, .int a2]) (va_Qi (fun (r : Int32) S' => S' = S ∧ True) (dg_B g D shM o rfM) (dg_A o shM.length sz)) 0 0 (dg_A o shM.length sz) := by
  refine dg_met (cc := cX12_plan) (maxL := 3) (ret := (some .int)) (by decide) rfl (Nat.le_of_ble_eq_true rfl) ?_
  intro p e s m args below meth c A hAe harg hx hb hr hml hts hown hlocks hin hP K hS hA1 hA ST hsz ls hl
  rw [← hAe]
  have F : CallFix p m c cX12_plan 3 s args (bw yX12_plan cX12_plan 3 (some .int)) RX12 := ⟨hx, hb, hml, hown, hts⟩
  have hl : lv_has ls 3 [(0, .ref (o + 0)), (1, .int a1), (2, .int a2)] := hl
  have M_0 : dg_sm shM [] [] S S := dg_sm.rf
  refine lv_iload_n hx hb dX12_plan_0 rfl (lv_at hl 1 rfl) ?_
  refine lv_iconst (v := 0) hx hb dX12_plan_1 (by decide +kernel) ?_
  refine lv_aload_n hx hb dX12_plan_2 rfl (lv_at hl 0 rfl) ?_
  refine dg_get (C := RX12) (T := TX12) (N := 77) hx hb hts (fun w h => bw_mem (wU_X12 w h)) hown K hP sM_0 rfl 21 (by decide) (hts _ (bw_mem wB_391)) (fun _ h9 => h9) (v := .ref (o + 9)) (show S.1 0 21 = .ref (o + 9) from dg_I.rel (d := 9) I sM_0 (by decide +kernel)) dX12_plan_3 ?_
  refine lv_aload_n hx hb dX12_plan_6 rfl (lv_at hl 0 rfl) ?_
  obtain ⟨x_1, f_x_1, b_x_1⟩ := dg_I.int (i := 0) (k := 13) (lo := 0) (hi := 1) I sM_0 (by decide +kernel)
  refine dg_get (C := RX12) (T := TX12) (N := 77) hx hb hts (fun w h => bw_mem (wU_X12 w h)) hown K hP sM_0 rfl 13 (by decide) (hts _ (bw_mem wB_1085)) (fun _ h9 => h9) (v := .int x_1) f_x_1 dX12_plan_7 ?_
  have hin_2 : vp_in x_1 2 := (dk_inv (by omega) (by omega))
  refine dg_iald hx hb K hP sM_9 hin_2 dX12_plan_10 (fun x_3 ex_3 => ?_)
  have b_x_3 := dk_all_at (dg_I.row (lo := 0) (hi := 16) I sM_9 (by decide +kernel)) hin_2 ex_3
  refine lv_iconst (v := 1) hx hb dX12_plan_11 (by decide +kernel) ?_
  refine lv_isub hx hb dX12_plan_12 ?_
  refine lv_topi (fun x_4 ex_4 => ?_)
  have jx_4 : (x_4).toInt = (x_3).toInt - 1 := by rw [ex_4]; exact dk_subT rfl (by decide +kernel) (by omega) (by omega)
  refine dg_calli hS hA1 hA (va_runS (As := [.int a1, .int 0, .int x_4]) (rest := []) F (c_m_is l g D o S a1 0 x_4 I s.heap.size) (va_cwS 3 hts (bw_S wB_362 wB_363 wB_297 wB_361) rfl rfl rfl (by decide +kernel) ⟨Nat.le_of_ble_eq_true rfl, Nat.le_of_ble_eq_true rfl⟩) (dg_preS K ST hP hS hA1 hA) rfl rfl hl.1 rfl (lv_room (Nat.le_of_ble_eq_true rfl)) dX12_plan_13 ⟨Nat.le_of_ble_eq_true rfl, Nat.le_of_ble_eq_true rfl⟩) (fun x_5 S_6 hw_6 H locs hP hS => ?_)
  rw [hw_6.1] at hP
  obtain ⟨hq_6, w_6_0, w_6_1, -⟩ := hw_6
  have hz_7 : (0 : Int32).toInt = 0 := by decide +kernel
  have w_6_0 : 0 ≤ (x_5).toInt ∧ (x_5).toInt ≤ 1 := w_6_0
  have w_6_1 : (x_5).toInt = 1 ↔ (((0 : Int32)).toInt ≤ (a1).toInt ∧ (a1).toInt ≤ (x_4).toInt) := w_6_1
  refine lv_if_eq (tgt := 28) hx hb dX12_plan_16 (by decide) (fun c_8 => ?_) (fun c_8 => ?_)
  · have jc_8 := dk_eqc (k := 0) (by decide +kernel) c_8
    refine lv_iconst (v := (-1)) hx hb dX12_plan_28 (by decide +kernel) ?_
    refine lv_goto (tgt := 57) hx hb dX12_plan_29 (by decide) ?_
    refine W.widen (k := 0) (n := 0) (Nat.le_of_ble_eq_true rfl) (Nat.le_of_ble_eq_true rfl) ?_
    exact dg_iret hx hb hr hlocks rfl hP hS ⟨rfl, trivial⟩ dX12_plan_57
  · have jc_8 := dk_neqc (k := 0) (by decide +kernel) c_8
    refine lv_iload_n hx hb dX12_plan_19 rfl (lv_at hl 2 rfl) ?_
    refine lv_iconst (v := 0) hx hb dX12_plan_20 (by decide +kernel) ?_
    refine lv_iconst (v := 2) hx hb dX12_plan_21 (by decide +kernel) ?_
    refine dg_calli hS hA1 hA (va_runS (As := [.int a2, .int 0, .int 2]) (rest := []) F (c_m_is l g D o S a2 0 2 I H.size) (va_cwS 3 hts (bw_S wB_362 wB_363 wB_297 wB_361) rfl rfl rfl (by decide +kernel) ⟨Nat.le_of_ble_eq_true rfl, Nat.le_of_ble_eq_true rfl⟩) (dg_preS K ST hP hS hA1 hA) rfl rfl hl.1 rfl (lv_room (Nat.le_of_ble_eq_true rfl)) dX12_plan_22 ⟨Nat.le_of_ble_eq_true rfl, Nat.le_of_ble_eq_true rfl⟩) (fun x_9 S_10 hw_10 H locs hP hS => ?_)
    rw [hw_10.1] at hP
    obtain ⟨hq_10, w_10_0, w_10_1, -⟩ := hw_10
    have hz_11 : (0 : Int32).toInt = 0 := by decide +kernel
    have hz_12 : (2 : Int32).toInt = 2 := by decide +kernel
    have w_10_0 : 0 ≤ (x_9).toInt ∧ (x_9).toInt ≤ 1 := w_10_0
    have w_10_1 : (x_9).toInt = 1 ↔ (((0 : Int32)).toInt ≤ (a2).toInt ∧ (a2).toInt ≤ ((2 : Int32)).toInt) := w_10_1
    refine lv_if_ne (tgt := 32) hx hb dX12_plan_25 (by decide) (fun c_13 => ?_) (fun c_13 => ?_)
    · have jc_13 := dk_neqc (k := 0) (by decide +kernel) c_13
      refine lv_iload_n hx hb dX12_plan_32 rfl (lv_at hl 2 rfl) ?_
      refine lv_if_ne (tgt := 45) hx hb dX12_plan_33 (by decide) (fun c_14 => ?_) (fun c_14 => ?_)
      · have jc_14 := dk_neqc (k := 0) (by decide +kernel) c_14
        refine lv_aload_n hx hb dX12_plan_45 rfl (lv_at hl 0 rfl) ?_
        refine dg_get (C := RX12) (T := TX12) (N := 77) hx hb hts (fun w h => bw_mem (wU_X12 w h)) hown K hP sM_0 rfl 56 (by decide) (hts _ (bw_mem wB_1133)) (fun _ h9 => h9) (v := .ref (o + 36)) (show S.1 0 56 = .ref (o + 36) from dg_I.rel (d := 36) I sM_0 (by decide +kernel)) dX12_plan_46 ?_
        refine lv_iload_n hx hb dX12_plan_49 rfl (lv_at hl 1 rfl) ?_
        have hin_15 : vp_in a1 352 := (dk_inv (by omega) (by omega))
        refine dg_iald hx hb K hP sM_36 hin_15 dX12_plan_50 (fun x_16 ex_16 => ?_)
        have b_x_16 := dk_all_at (dg_I.row (lo := 0) (hi := 63) I sM_36 (by decide +kernel)) hin_15 ex_16
        refine lv_iload_n hx hb dX12_plan_51 rfl (lv_at hl 2 rfl) ?_
        refine lv_iconst (v := 1) hx hb dX12_plan_52 (by decide +kernel) ?_
        refine lv_isub hx hb dX12_plan_53 ?_
        refine lv_topi (fun x_17 ex_17 => ?_)
        have jx_17 : (x_17).toInt = (a2).toInt - 1 := by rw [ex_17]; exact dk_subT rfl (by decide +kernel) (by omega) (by omega)
        refine dg_calli hS hA1 hA (va_runS (As := [.int x_16, .int x_17]) (rest := []) F (c_m_partOf l g D o S x_16 x_17 I H.size) (va_cwS 2 hts (bw_S wB_1212 wB_1213 wB_297 wB_1211) rfl rfl rfl (by decide +kernel) ⟨Nat.le_of_ble_eq_true rfl, Nat.le_of_ble_eq_true rfl⟩) (dg_preS K ST hP hS hA1 hA) rfl rfl hl.1 rfl (lv_room (Nat.le_of_ble_eq_true rfl)) dX12_plan_54 ⟨Nat.le_of_ble_eq_true rfl, Nat.le_of_ble_eq_true rfl⟩) (fun x_18 S_19 hw_19 H locs hP hS => ?_)
        rw [hw_19.1] at hP
        refine W.widen (k := 0) (n := 0) (Nat.le_of_ble_eq_true rfl) (Nat.le_of_ble_eq_true rfl) ?_
        exact dg_iret hx hb hr hlocks rfl hP hS ⟨rfl, trivial⟩ dX12_plan_57
      · have jc_14 := dk_eqc (k := 0) (by decide +kernel) c_14
        refine lv_aload_n hx hb dX12_plan_36 rfl (lv_at hl 0 rfl) ?_
        refine dg_get (C := RX12) (T := TX12) (N := 77) hx hb hts (fun w h => bw_mem (wU_X12 w h)) hown K hP sM_0 rfl 55 (by decide) (hts _ (bw_mem wB_1132)) (fun _ h9 => h9) (v := .ref (o + 35)) (show S.1 0 55 = .ref (o + 35) from dg_I.rel (d := 35) I sM_0 (by decide +kernel)) dX12_plan_37 ?_
        refine lv_iload_n hx hb dX12_plan_40 rfl (lv_at hl 1 rfl) ?_
        have hin_20 : vp_in a1 352 := (dk_inv (by omega) (by omega))
        refine dg_iald hx hb K hP sM_35 hin_20 dX12_plan_41 (fun x_21 ex_21 => ?_)
        refine lv_goto (tgt := 57) hx hb dX12_plan_42 (by decide) ?_
        refine W.widen (k := 0) (n := 0) (Nat.le_of_ble_eq_true rfl) (Nat.le_of_ble_eq_true rfl) ?_
        exact dg_iret hx hb hr hlocks rfl hP hS ⟨rfl, trivial⟩ dX12_plan_57
    · have jc_13 := dk_eqc (k := 0) (by decide +kernel) c_13
      refine lv_iconst (v := (-1)) hx hb dX12_plan_28 (by decide +kernel) ?_
      refine lv_goto (tgt := 57) hx hb dX12_plan_29 (by decide) ?_
      refine W.widen (k := 0) (n := 0) (Nat.le_of_ble_eq_true rfl) (Nat.le_of_ble_eq_true rfl) ?_
      exact dg_iret hx hb hr hlocks rfl hP hS ⟨rfl, trivial⟩ dX12_plan_57
set_option maxHeartbeats 8000000 in
set_option maxRecDepth 100000 in
theorem c_m_canSell (l : Launch) (g : Nat → ClassId) (D : va_G) (o : Nat) (S : dg_S) (a1 : Int32) (I : CM o S) (sz : Nat) : Met l yX12_canSell (bw yX12_canSell cX12_canSell 2 (some .boolean)) ({ frames := 2, cells := 0, slots := 0, locals := 56 } : Room) (dk_Pc g D (dg_w g shM o rfM S) sz [.ref (o + 0), .int a1]) (va_Qi (fun (r : Int32) S' => S' = S ∧ (0 ≤ (r).toInt ∧ (r).toInt ≤ 1) ∧ ((r).toInt = 1 → (0 ≤ (a1).toInt ∧ (a1).toInt ≤ 4)) ∧ True) (dg_B g D shM o rfM) (dg_A o shM.length sz)) 0 0 (dg_A o shM.length sz) := by
  refine dg_met (cc := cX12_canSell) (maxL := 2) (ret := (some .boolean)) (by decide) rfl (Nat.le_of_ble_eq_true rfl) ?_
  intro p e s m args below meth c A hAe harg hx hb hr hml hts hown hlocks hin hP K hS hA1 hA ST hsz ls hl
  rw [← hAe]
  have F : CallFix p m c cX12_canSell 2 s args (bw yX12_canSell cX12_canSell 2 (some .boolean)) RX12 := ⟨hx, hb, hml, hown, hts⟩
  have hl : lv_has ls 2 [(0, .ref (o + 0)), (1, .int a1)] := hl
  have M_0 : dg_sm shM [] [] S S := dg_sm.rf
  refine lv_aload_n hx hb dX12_canSell_0 rfl (lv_at hl 0 rfl) ?_
  refine lv_iload_n hx hb dX12_canSell_1 rfl (lv_at hl 1 rfl) ?_
  obtain ⟨x_1, f_x_1, b_x_1⟩ := dg_I.int (i := 0) (k := 13) (lo := 0) (hi := 1) I sM_0 (by decide +kernel)
  obtain ⟨x_2, f_x_2⟩ : ∃ x, S.2.1 12 (x_1 : Int32).toNatClampNeg = x := ⟨_, rfl⟩
  have hin_3 : vp_in (x_1 : Int32) 2 := (dk_inv (by omega) (by omega))
  have b_x_2 := dk_all_at (dg_I.row (lo := 0) (hi := 5) I sM_12 (by decide +kernel)) hin_3 f_x_2.symm
  refine dg_calli hS hA1 hA (va_runV (As := [.int a1]) (rest := []) F (c_m_isOrder l g D o S a1 x_1 f_x_1 (by omega) x_2 f_x_2 (by omega) I s.heap.size) (cwV 1 hts (bw_V wB_1203 wB_1204 wB_1205 wB_297 wB_1202) rfl rfl rfl (by decide +kernel) ⟨Nat.le_of_ble_eq_true rfl, Nat.le_of_ble_eq_true rfl⟩) (dg_preV sM_0 rfl K ST hP hS hA1 hA) rfl rfl hl.1 rfl (lv_room (Nat.le_of_ble_eq_true rfl)) dX12_canSell_2 ⟨Nat.le_of_ble_eq_true rfl, Nat.le_of_ble_eq_true rfl⟩) (fun x_4 S_5 hw_5 H locs hP hS => ?_)
  rw [hw_5.1] at hP
  obtain ⟨hq_5, w_5_0, w_5_1, w_5_2, -⟩ := hw_5
  have w_5_0 : 0 ≤ (x_4).toInt ∧ (x_4).toInt ≤ 1 := w_5_0
  have w_5_1 : (x_4).toInt = 1 → (0 ≤ (a1).toInt ∧ (a1).toInt ≤ 4) := w_5_1
  have w_5_2 : (x_4).toInt = 1 ↔ (0 ≤ (a1).toInt ∧ (a1).toInt < (x_2).toInt) := w_5_2
  refine lv_if_eq (tgt := 59) hx hb dX12_canSell_5 (by decide) (fun c_6 => ?_) (fun c_6 => ?_)
  · have jc_6 := dk_eqc (k := 0) (by decide +kernel) c_6
    refine lv_iconst (v := 0) hx hb dX12_canSell_59 (by decide +kernel) ?_
    have hz_7 : (0 : Int32).toInt = 0 := by decide +kernel
    have hz_8 : (0 : Int32).toInt = 0 := by decide +kernel
    refine W.widen (k := 0) (n := 0) (Nat.le_of_ble_eq_true rfl) (Nat.le_of_ble_eq_true rfl) ?_
    exact dg_iret hx hb hr hlocks (by decide +kernel) hP hS ⟨rfl, (by decide +kernel), (by omega), trivial⟩ dX12_canSell_60
  · have jc_6 := dk_neqc (k := 0) (by decide +kernel) c_6
    refine lv_aload_n hx hb dX12_canSell_8 rfl (lv_at hl 0 rfl) ?_
    refine dg_get (C := RX12) (T := TX12) (N := 77) hx hb hts (fun w h => bw_mem (wU_X12 w h)) hown K hP sM_0 rfl 54 (by decide) (hts _ (bw_mem wB_1131)) (fun _ h9 => h9) (v := .ref (o + 34)) (show S.1 0 54 = .ref (o + 34) from dg_I.rel (d := 34) I sM_0 (by decide +kernel)) dX12_canSell_9 ?_
    refine lv_iconst (v := 0) hx hb dX12_canSell_12 (by decide +kernel) ?_
    have hin_9 : vp_in (0 : Int32) 22 := (dk_in (by decide +kernel))
    refine dg_iald hx hb K hP sM_34 hin_9 dX12_canSell_13 (fun x_10 ex_10 => ?_)
    refine lv_iload_n hx hb dX12_canSell_14 rfl (lv_at hl 1 rfl) ?_
    refine dg_calli hS hA1 hA (va_runS (As := [.int x_10, .int a1]) (rest := []) F (c_m_has2 l g D o S x_10 a1 I H.size) (va_cwS 2 hts (bw_S wB_1165 wB_1166 wB_297 wB_1164) rfl rfl rfl (by decide +kernel) ⟨Nat.le_of_ble_eq_true rfl, Nat.le_of_ble_eq_true rfl⟩) (dg_preS K ST hP hS hA1 hA) rfl rfl hl.1 rfl (lv_room (Nat.le_of_ble_eq_true rfl)) dX12_canSell_15 ⟨Nat.le_of_ble_eq_true rfl, Nat.le_of_ble_eq_true rfl⟩) (fun x_11 S_12 hw_12 H locs hP hS => ?_)
    rw [hw_12.1] at hP
    obtain ⟨hq_12, w_12_0, -⟩ := hw_12
    have w_12_0 : 0 ≤ (x_11).toInt ∧ (x_11).toInt ≤ 1 := w_12_0
    refine lv_if_ne (tgt := 59) hx hb dX12_canSell_18 (by decide) (fun c_13 => ?_) (fun c_13 => ?_)
    · have jc_13 := dk_neqc (k := 0) (by decide +kernel) c_13
      refine lv_iconst (v := 0) hx hb dX12_canSell_59 (by decide +kernel) ?_
      have hz_14 : (0 : Int32).toInt = 0 := by decide +kernel
      have hz_15 : (0 : Int32).toInt = 0 := by decide +kernel
      refine W.widen (k := 0) (n := 0) (Nat.le_of_ble_eq_true rfl) (Nat.le_of_ble_eq_true rfl) ?_
      exact dg_iret hx hb hr hlocks (by decide +kernel) hP hS ⟨rfl, (by decide +kernel), (by omega), trivial⟩ dX12_canSell_60
    · have jc_13 := dk_eqc (k := 0) (by decide +kernel) c_13
      refine lv_aload_n hx hb dX12_canSell_21 rfl (lv_at hl 0 rfl) ?_
      refine lv_iconst (v := 0) hx hb dX12_canSell_22 (by decide +kernel) ?_
      refine lv_aload_n hx hb dX12_canSell_23 rfl (lv_at hl 0 rfl) ?_
      refine dg_get (C := RX12) (T := TX12) (N := 77) hx hb hts (fun w h => bw_mem (wU_X12 w h)) hown K hP sM_0 rfl 25 (by decide) (hts _ (bw_mem wB_398)) (fun _ h9 => h9) (v := .ref (o + 13)) (show S.1 0 25 = .ref (o + 13) from dg_I.rel (d := 13) I sM_0 (by decide +kernel)) dX12_canSell_24 ?_
      refine lv_iconst (v := 5) hx hb dX12_canSell_27 (by decide +kernel) ?_
      refine lv_aload_n hx hb dX12_canSell_28 rfl (lv_at hl 0 rfl) ?_
      refine dg_get (C := RX12) (T := TX12) (N := 77) hx hb hts (fun w h => bw_mem (wU_X12 w h)) hown K hP sM_0 rfl 13 (by decide) (hts _ (bw_mem wB_1085)) (fun _ h9 => h9) (v := .int x_1) f_x_1 dX12_canSell_29 ?_
      refine lv_imul hx hb dX12_canSell_32 ?_
      refine lv_topi (fun x_16 ex_16 => ?_)
      have jx_16 : (x_16).toInt = 5 * (x_1).toInt := by rw [ex_16]; exact dk_mulT (by decide +kernel) rfl (by omega) (by omega)
      refine lv_iload_n hx hb dX12_canSell_33 rfl (lv_at hl 1 rfl) ?_
      refine lv_iadd hx hb dX12_canSell_34 ?_
      refine lv_topi (fun x_17 ex_17 => ?_)
      have jx_17 : (x_17).toInt = (x_16).toInt + (a1).toInt := by rw [ex_17]; exact dk_addT rfl rfl (by omega) (by omega)
      have hin_18 : vp_in x_17 10 := (dk_inv (by omega) (by omega))
      refine dg_iald hx hb K hP sM_13 hin_18 dX12_canSell_35 (fun x_19 ex_19 => ?_)
      have b_x_19 := dk_all_at (dg_I.row (lo := 0) (hi := 9999) I sM_13 (by decide +kernel)) hin_18 ex_19
      have hz_20 : (0 : Int32).toInt = 0 := by decide +kernel
      refine dg_calli hS hA1 hA (va_runV (As := [.int 0, .int x_19]) (rest := []) F (c_m_tubsFrom l g D o S 0 (by decide +kernel) x_19 (by omega) I H.size) (cwV 2 hts (bw_V wB_1215 wB_1216 wB_1217 wB_297 wB_1214) rfl rfl rfl (by decide +kernel) ⟨Nat.le_of_ble_eq_true rfl, Nat.le_of_ble_eq_true rfl⟩) (dg_preV sM_0 rfl K ST hP hS hA1 hA) rfl rfl hl.1 rfl (lv_room (Nat.le_of_ble_eq_true rfl)) dX12_canSell_36 ⟨Nat.le_of_ble_eq_true rfl, Nat.le_of_ble_eq_true rfl⟩) (fun x_21 S_22 hw_22 H locs hP hS => ?_)
      rw [hw_22.1] at hP
      refine lv_aload_n hx hb dX12_canSell_39 rfl (lv_at hl 0 rfl) ?_
      refine dg_get (C := RX12) (T := TX12) (N := 77) hx hb hts (fun w h => bw_mem (wU_X12 w h)) hown K hP sM_0 rfl 26 (by decide) (hts _ (bw_mem wB_399)) (fun _ h9 => h9) (v := .ref (o + 14)) (show S.1 0 26 = .ref (o + 14) from dg_I.rel (d := 14) I sM_0 (by decide +kernel)) dX12_canSell_40 ?_
      refine lv_iconst (v := 5) hx hb dX12_canSell_43 (by decide +kernel) ?_
      refine lv_aload_n hx hb dX12_canSell_44 rfl (lv_at hl 0 rfl) ?_
      refine dg_get (C := RX12) (T := TX12) (N := 77) hx hb hts (fun w h => bw_mem (wU_X12 w h)) hown K hP sM_0 rfl 13 (by decide) (hts _ (bw_mem wB_1085)) (fun _ h9 => h9) (v := .int x_1) f_x_1 dX12_canSell_45 ?_
      refine lv_imul hx hb dX12_canSell_48 ?_
      refine lv_topi (fun x_23 ex_23 => ?_)
      have jx_23 : (x_23).toInt = 5 * (x_1).toInt := by rw [ex_23]; exact dk_mulT (by decide +kernel) rfl (by omega) (by omega)
      refine lv_iload_n hx hb dX12_canSell_49 rfl (lv_at hl 1 rfl) ?_
      refine lv_iadd hx hb dX12_canSell_50 ?_
      refine lv_topi (fun x_24 ex_24 => ?_)
      have jx_24 : (x_24).toInt = (x_23).toInt + (a1).toInt := by rw [ex_24]; exact dk_addT rfl rfl (by omega) (by omega)
      have hin_25 : vp_in x_24 10 := (dk_inv (by omega) (by omega))
      refine dg_iald hx hb K hP sM_14 hin_25 dX12_canSell_51 (fun x_26 ex_26 => ?_)
      refine lv_icmp_lt (tgt := 59) hx hb dX12_canSell_52 (by decide) (fun c_27 => ?_) (fun c_27 => ?_)
      · have hf_27 := dk_full x_21
        have hf_28 := dk_full x_26
        have jc_27 := dk_ltc (k := (x_26).toInt) rfl c_27
        refine lv_iconst (v := 0) hx hb dX12_canSell_59 (by decide +kernel) ?_
        have hz_30 : (0 : Int32).toInt = 0 := by decide +kernel
        have hz_31 : (0 : Int32).toInt = 0 := by decide +kernel
        refine W.widen (k := 0) (n := 0) (Nat.le_of_ble_eq_true rfl) (Nat.le_of_ble_eq_true rfl) ?_
        exact dg_iret hx hb hr hlocks (by decide +kernel) hP hS ⟨rfl, (by decide +kernel), (by omega), trivial⟩ dX12_canSell_60
      · have hf_31 := dk_full x_21
        have hf_32 := dk_full x_26
        have jc_27 := dk_nltc (k := (x_26).toInt) rfl c_27
        refine lv_iconst (v := 1) hx hb dX12_canSell_55 (by decide +kernel) ?_
        refine lv_goto (tgt := 60) hx hb dX12_canSell_56 (by decide) ?_
        have hz_34 : (1 : Int32).toInt = 1 := by decide +kernel
        have hz_35 : (1 : Int32).toInt = 1 := by decide +kernel
        refine W.widen (k := 0) (n := 0) (Nat.le_of_ble_eq_true rfl) (Nat.le_of_ble_eq_true rfl) ?_
        exact dg_iret hx hb hr hlocks (by decide +kernel) hP hS ⟨rfl, (by decide +kernel), (by omega), trivial⟩ dX12_canSell_60
set_option maxHeartbeats 8000000 in
set_option maxRecDepth 100000 in
theorem c_m_order (l : Launch) (g : Nat → ClassId) (D : va_G) (o : Nat) (S : dg_S) (a1 : Int32) (a2 : Int32) (I : CM o S) (sz : Nat) : Met l yX12_order (bw yX12_order cX12_order 3 (some .int)) ({ frames := 3, cells := 0, slots := 0, locals := 77 } : Room) (dk_Pc g D (dg_w g shM o rfM S) sz [.ref (o + 0), .int a1, .int a2]) (va_Qi (fun (r : Int32) S' => S' = S ∧ True) (dg_B g D shM o rfM) (dg_A o shM.length sz)) 0 0 (dg_A o shM.length sz) := by
  refine dg_met (cc := cX12_order) (maxL := 3) (ret := (some .int)) (by decide) rfl (Nat.le_of_ble_eq_true rfl) ?_
  intro p e s m args below meth c A hAe harg hx hb hr hml hts hown hlocks hin hP K hS hA1 hA ST hsz ls hl
  rw [← hAe]
  have F : CallFix p m c cX12_order 3 s args (bw yX12_order cX12_order 3 (some .int)) RX12 := ⟨hx, hb, hml, hown, hts⟩
  have hl : lv_has ls 3 [(0, .ref (o + 0)), (1, .int a1), (2, .int a2)] := hl
  have M_0 : dg_sm shM [] [] S S := dg_sm.rf
  refine lv_aload_n hx hb dX12_order_0 rfl (lv_at hl 0 rfl) ?_
  refine lv_iload_n hx hb dX12_order_1 rfl (lv_at hl 1 rfl) ?_
  obtain ⟨x_1, f_x_1, b_x_1⟩ := dg_I.int (i := 0) (k := 13) (lo := 0) (hi := 1) I sM_0 (by decide +kernel)
  obtain ⟨x_2, f_x_2⟩ : ∃ x, S.2.1 12 (x_1 : Int32).toNatClampNeg = x := ⟨_, rfl⟩
  have hin_3 : vp_in (x_1 : Int32) 2 := (dk_inv (by omega) (by omega))
  have b_x_2 := dk_all_at (dg_I.row (lo := 0) (hi := 5) I sM_12 (by decide +kernel)) hin_3 f_x_2.symm
  refine dg_calli hS hA1 hA (va_runV (As := [.int a1]) (rest := []) F (c_m_isOrder l g D o S a1 x_1 f_x_1 (by omega) x_2 f_x_2 (by omega) I s.heap.size) (cwV 1 hts (bw_V wB_1203 wB_1204 wB_1205 wB_297 wB_1202) rfl rfl rfl (by decide +kernel) ⟨Nat.le_of_ble_eq_true rfl, Nat.le_of_ble_eq_true rfl⟩) (dg_preV sM_0 rfl K ST hP hS hA1 hA) rfl rfl hl.1 rfl (lv_room (Nat.le_of_ble_eq_true rfl)) dX12_order_2 ⟨Nat.le_of_ble_eq_true rfl, Nat.le_of_ble_eq_true rfl⟩) (fun x_4 S_5 hw_5 H locs hP hS => ?_)
  rw [hw_5.1] at hP
  obtain ⟨hq_5, w_5_0, w_5_1, w_5_2, -⟩ := hw_5
  have w_5_0 : 0 ≤ (x_4).toInt ∧ (x_4).toInt ≤ 1 := w_5_0
  have w_5_1 : (x_4).toInt = 1 → (0 ≤ (a1).toInt ∧ (a1).toInt ≤ 4) := w_5_1
  have w_5_2 : (x_4).toInt = 1 ↔ (0 ≤ (a1).toInt ∧ (a1).toInt < (x_2).toInt) := w_5_2
  refine lv_if_ne (tgt := 10) hx hb dX12_order_5 (by decide) (fun c_6 => ?_) (fun c_6 => ?_)
  · have jc_6 := dk_neqc (k := 0) (by decide +kernel) c_6
    refine lv_iload_n hx hb dX12_order_10 rfl (lv_at hl 2 rfl) ?_
    rcases (show ((a2).toInt < 0 ∨ 4 < (a2).toInt) ∨ (a2).toInt = 0 ∨ (a2).toInt = 1 ∨ (a2).toInt = 2 ∨ (a2).toInt = 3 ∨ (a2).toInt = 4 by omega) with jc_7 | jc_7 | jc_7 | jc_7 | jc_7 | jc_7
    · refine lv_tableOut (tgt := 119) hx hb dX12_order_11 jc_7 (by decide) ?_
      refine lv_iconst (v := (-1)) hx hb dX12_order_119 (by decide +kernel) ?_
      refine W.widen (k := 0) (n := 0) (Nat.le_of_ble_eq_true rfl) (Nat.le_of_ble_eq_true rfl) ?_
      exact dg_iret hx hb hr hlocks rfl hP hS ⟨rfl, trivial⟩ dX12_order_120
    · refine lv_tableIn (off := 33) (tgt := 44) hx hb dX12_order_11 (by rw [jc_7]; decide) (by rw [jc_7]; decide) (by rw [jc_7]; decide +kernel) (by decide) ?_
      refine lv_aload_n hx hb dX12_order_44 rfl (lv_at hl 0 rfl) ?_
      refine dg_get (C := RX12) (T := TX12) (N := 77) hx hb hts (fun w h => bw_mem (wU_X12 w h)) hown K hP sM_0 rfl 25 (by decide) (hts _ (bw_mem wB_398)) (fun _ h9 => h9) (v := .ref (o + 13)) (show S.1 0 25 = .ref (o + 13) from dg_I.rel (d := 13) I sM_0 (by decide +kernel)) dX12_order_45 ?_
      refine lv_iconst (v := 5) hx hb dX12_order_48 (by decide +kernel) ?_
      refine lv_aload_n hx hb dX12_order_49 rfl (lv_at hl 0 rfl) ?_
      refine dg_get (C := RX12) (T := TX12) (N := 77) hx hb hts (fun w h => bw_mem (wU_X12 w h)) hown K hP sM_0 rfl 13 (by decide) (hts _ (bw_mem wB_1085)) (fun _ h9 => h9) (v := .int x_1) f_x_1 dX12_order_50 ?_
      refine lv_imul hx hb dX12_order_53 ?_
      refine lv_topi (fun x_8 ex_8 => ?_)
      have jx_8 : (x_8).toInt = 5 * (x_1).toInt := by rw [ex_8]; exact dk_mulT (by decide +kernel) rfl (by omega) (by omega)
      refine lv_iload_n hx hb dX12_order_54 rfl (lv_at hl 1 rfl) ?_
      refine lv_iadd hx hb dX12_order_55 ?_
      refine lv_topi (fun x_9 ex_9 => ?_)
      have jx_9 : (x_9).toInt = (x_8).toInt + (a1).toInt := by rw [ex_9]; exact dk_addT rfl rfl (by omega) (by omega)
      have hin_10 : vp_in x_9 10 := (dk_inv (by omega) (by omega))
      refine dg_iald hx hb K hP sM_13 hin_10 dX12_order_56 (fun x_11 ex_11 => ?_)
      have b_x_11 := dk_all_at (dg_I.row (lo := 0) (hi := 9999) I sM_13 (by decide +kernel)) hin_10 ex_11
      refine W.widen (k := 0) (n := 0) (Nat.le_of_ble_eq_true rfl) (Nat.le_of_ble_eq_true rfl) ?_
      exact dg_iret hx hb hr hlocks rfl hP hS ⟨rfl, trivial⟩ dX12_order_57
    · refine lv_tableIn (off := 47) (tgt := 58) hx hb dX12_order_11 (by rw [jc_7]; decide) (by rw [jc_7]; decide) (by rw [jc_7]; decide +kernel) (by decide) ?_
      refine lv_aload_n hx hb dX12_order_58 rfl (lv_at hl 0 rfl) ?_
      refine dg_get (C := RX12) (T := TX12) (N := 77) hx hb hts (fun w h => bw_mem (wU_X12 w h)) hown K hP sM_0 rfl 26 (by decide) (hts _ (bw_mem wB_399)) (fun _ h9 => h9) (v := .ref (o + 14)) (show S.1 0 26 = .ref (o + 14) from dg_I.rel (d := 14) I sM_0 (by decide +kernel)) dX12_order_59 ?_
      refine lv_iconst (v := 5) hx hb dX12_order_62 (by decide +kernel) ?_
      refine lv_aload_n hx hb dX12_order_63 rfl (lv_at hl 0 rfl) ?_
      refine dg_get (C := RX12) (T := TX12) (N := 77) hx hb hts (fun w h => bw_mem (wU_X12 w h)) hown K hP sM_0 rfl 13 (by decide) (hts _ (bw_mem wB_1085)) (fun _ h9 => h9) (v := .int x_1) f_x_1 dX12_order_64 ?_
      refine lv_imul hx hb dX12_order_67 ?_
      refine lv_topi (fun x_12 ex_12 => ?_)
      have jx_12 : (x_12).toInt = 5 * (x_1).toInt := by rw [ex_12]; exact dk_mulT (by decide +kernel) rfl (by omega) (by omega)
      refine lv_iload_n hx hb dX12_order_68 rfl (lv_at hl 1 rfl) ?_
      refine lv_iadd hx hb dX12_order_69 ?_
      refine lv_topi (fun x_13 ex_13 => ?_)
      have jx_13 : (x_13).toInt = (x_12).toInt + (a1).toInt := by rw [ex_13]; exact dk_addT rfl rfl (by omega) (by omega)
      have hin_14 : vp_in x_13 10 := (dk_inv (by omega) (by omega))
      refine dg_iald hx hb K hP sM_14 hin_14 dX12_order_70 (fun x_15 ex_15 => ?_)
      refine W.widen (k := 0) (n := 0) (Nat.le_of_ble_eq_true rfl) (Nat.le_of_ble_eq_true rfl) ?_
      exact dg_iret hx hb hr hlocks rfl hP hS ⟨rfl, trivial⟩ dX12_order_71
    · refine lv_tableIn (off := 61) (tgt := 72) hx hb dX12_order_11 (by rw [jc_7]; decide) (by rw [jc_7]; decide) (by rw [jc_7]; decide +kernel) (by decide) ?_
      refine lv_aload_n hx hb dX12_order_72 rfl (lv_at hl 0 rfl) ?_
      refine dg_get (C := RX12) (T := TX12) (N := 77) hx hb hts (fun w h => bw_mem (wU_X12 w h)) hown K hP sM_0 rfl 27 (by decide) (hts _ (bw_mem wB_400)) (fun _ h9 => h9) (v := .ref (o + 15)) (show S.1 0 27 = .ref (o + 15) from dg_I.rel (d := 15) I sM_0 (by decide +kernel)) dX12_order_73 ?_
      refine lv_iconst (v := 5) hx hb dX12_order_76 (by decide +kernel) ?_
      refine lv_aload_n hx hb dX12_order_77 rfl (lv_at hl 0 rfl) ?_
      refine dg_get (C := RX12) (T := TX12) (N := 77) hx hb hts (fun w h => bw_mem (wU_X12 w h)) hown K hP sM_0 rfl 13 (by decide) (hts _ (bw_mem wB_1085)) (fun _ h9 => h9) (v := .int x_1) f_x_1 dX12_order_78 ?_
      refine lv_imul hx hb dX12_order_81 ?_
      refine lv_topi (fun x_16 ex_16 => ?_)
      have jx_16 : (x_16).toInt = 5 * (x_1).toInt := by rw [ex_16]; exact dk_mulT (by decide +kernel) rfl (by omega) (by omega)
      refine lv_iload_n hx hb dX12_order_82 rfl (lv_at hl 1 rfl) ?_
      refine lv_iadd hx hb dX12_order_83 ?_
      refine lv_topi (fun x_17 ex_17 => ?_)
      have jx_17 : (x_17).toInt = (x_16).toInt + (a1).toInt := by rw [ex_17]; exact dk_addT rfl rfl (by omega) (by omega)
      have hin_18 : vp_in x_17 10 := (dk_inv (by omega) (by omega))
      refine dg_iald hx hb K hP sM_15 hin_18 dX12_order_84 (fun x_19 ex_19 => ?_)
      refine W.widen (k := 0) (n := 0) (Nat.le_of_ble_eq_true rfl) (Nat.le_of_ble_eq_true rfl) ?_
      exact dg_iret hx hb hr hlocks rfl hP hS ⟨rfl, trivial⟩ dX12_order_85
    · refine lv_tableIn (off := 75) (tgt := 86) hx hb dX12_order_11 (by rw [jc_7]; decide) (by rw [jc_7]; decide) (by rw [jc_7]; decide +kernel) (by decide) ?_
      refine lv_aload_n hx hb dX12_order_86 rfl (lv_at hl 0 rfl) ?_
      refine dg_get (C := RX12) (T := TX12) (N := 77) hx hb hts (fun w h => bw_mem (wU_X12 w h)) hown K hP sM_0 rfl 54 (by decide) (hts _ (bw_mem wB_1131)) (fun _ h9 => h9) (v := .ref (o + 34)) (show S.1 0 54 = .ref (o + 34) from dg_I.rel (d := 34) I sM_0 (by decide +kernel)) dX12_order_87 ?_
      refine lv_iconst (v := 0) hx hb dX12_order_90 (by decide +kernel) ?_
      have hin_20 : vp_in (0 : Int32) 22 := (dk_in (by decide +kernel))
      refine dg_iald hx hb K hP sM_34 hin_20 dX12_order_91 (fun x_21 ex_21 => ?_)
      refine lv_iload_n hx hb dX12_order_92 rfl (lv_at hl 1 rfl) ?_
      refine dg_calli hS hA1 hA (va_runS (As := [.int x_21, .int a1]) (rest := []) F (c_m_has2 l g D o S x_21 a1 I H.size) (va_cwS 2 hts (bw_S wB_1165 wB_1166 wB_297 wB_1164) rfl rfl rfl (by decide +kernel) ⟨Nat.le_of_ble_eq_true rfl, Nat.le_of_ble_eq_true rfl⟩) (dg_preS K ST hP hS hA1 hA) rfl rfl hl.1 rfl (lv_room (Nat.le_of_ble_eq_true rfl)) dX12_order_93 ⟨Nat.le_of_ble_eq_true rfl, Nat.le_of_ble_eq_true rfl⟩) (fun x_22 S_23 hw_23 H locs hP hS => ?_)
      rw [hw_23.1] at hP
      obtain ⟨hq_23, w_23_0, -⟩ := hw_23
      have w_23_0 : 0 ≤ (x_22).toInt ∧ (x_22).toInt ≤ 1 := w_23_0
      refine lv_if_eq (tgt := 103) hx hb dX12_order_96 (by decide) (fun c_24 => ?_) (fun c_24 => ?_)
      · have jc_24 := dk_eqc (k := 0) (by decide +kernel) c_24
        refine lv_iconst (v := 0) hx hb dX12_order_103 (by decide +kernel) ?_
        refine W.widen (k := 0) (n := 0) (Nat.le_of_ble_eq_true rfl) (Nat.le_of_ble_eq_true rfl) ?_
        exact dg_iret hx hb hr hlocks rfl hP hS ⟨rfl, trivial⟩ dX12_order_104
      · have jc_24 := dk_neqc (k := 0) (by decide +kernel) c_24
        refine lv_iconst (v := 1) hx hb dX12_order_99 (by decide +kernel) ?_
        refine lv_goto (tgt := 104) hx hb dX12_order_100 (by decide) ?_
        refine W.widen (k := 0) (n := 0) (Nat.le_of_ble_eq_true rfl) (Nat.le_of_ble_eq_true rfl) ?_
        exact dg_iret hx hb hr hlocks rfl hP hS ⟨rfl, trivial⟩ dX12_order_104
    · refine lv_tableIn (off := 94) (tgt := 105) hx hb dX12_order_11 (by rw [jc_7]; decide) (by rw [jc_7]; decide) (by rw [jc_7]; decide +kernel) (by decide) ?_
      refine lv_aload_n hx hb dX12_order_105 rfl (lv_at hl 0 rfl) ?_
      refine lv_iload_n hx hb dX12_order_106 rfl (lv_at hl 1 rfl) ?_
      refine dg_calli hS hA1 hA (va_runV (As := [.int a1]) (rest := []) F (c_m_canSell l g D o S a1 I H.size) (cwV 1 hts (bw_V wB_1219 wB_1220 wB_1221 wB_297 wB_1218) rfl rfl rfl (by decide +kernel) ⟨Nat.le_of_ble_eq_true rfl, Nat.le_of_ble_eq_true rfl⟩) (dg_preV sM_0 rfl K ST hP hS hA1 hA) rfl rfl hl.1 rfl (lv_room (Nat.le_of_ble_eq_true rfl)) dX12_order_107 ⟨Nat.le_of_ble_eq_true rfl, Nat.le_of_ble_eq_true rfl⟩) (fun x_25 S_26 hw_26 H locs hP hS => ?_)
      rw [hw_26.1] at hP
      obtain ⟨hq_26, w_26_0, w_26_1, -⟩ := hw_26
      have w_26_0 : 0 ≤ (x_25).toInt ∧ (x_25).toInt ≤ 1 := w_26_0
      have w_26_1 : (x_25).toInt = 1 → (0 ≤ (a1).toInt ∧ (a1).toInt ≤ 4) := w_26_1
      refine lv_if_eq (tgt := 117) hx hb dX12_order_110 (by decide) (fun c_27 => ?_) (fun c_27 => ?_)
      · have jc_27 := dk_eqc (k := 0) (by decide +kernel) c_27
        refine lv_iconst (v := 0) hx hb dX12_order_117 (by decide +kernel) ?_
        refine W.widen (k := 0) (n := 0) (Nat.le_of_ble_eq_true rfl) (Nat.le_of_ble_eq_true rfl) ?_
        exact dg_iret hx hb hr hlocks rfl hP hS ⟨rfl, trivial⟩ dX12_order_118
      · have jc_27 := dk_neqc (k := 0) (by decide +kernel) c_27
        refine lv_iconst (v := 1) hx hb dX12_order_113 (by decide +kernel) ?_
        refine lv_goto (tgt := 118) hx hb dX12_order_114 (by decide) ?_
        refine W.widen (k := 0) (n := 0) (Nat.le_of_ble_eq_true rfl) (Nat.le_of_ble_eq_true rfl) ?_
        exact dg_iret hx hb hr hlocks rfl hP hS ⟨rfl, trivial⟩ dX12_order_118
  · have jc_6 := dk_eqc (k := 0) (by decide +kernel) c_6
    refine lv_iconst (v := (-1)) hx hb dX12_order_8 (by decide +kernel) ?_
    refine W.widen (k := 0) (n := 0) (Nat.le_of_ble_eq_true rfl) (Nat.le_of_ble_eq_true rfl) ?_
    exact dg_iret hx hb hr hlocks rfl hP hS ⟨rfl, trivial⟩ dX12_order_9
set_option maxHeartbeats 8000000 in
set_option maxRecDepth 100000 in
theorem c_m_tubs (l : Launch) (g : Nat → ClassId) (D : va_G) (o : Nat) (S : dg_S) (a1 : Int32) (I : CM o S) (sz : Nat) : Met l yX12_tubs (bw yX12_tubs cX12_tubs 2 (some .int)) ({ frames := 2, cells := 0, slots := 0, locals := 54 } : Room) (dk_Pc g D (dg_w g shM o rfM S) sz [.ref (o + 0), .int a1]) (va_Qi (fun (r : Int32) S' => S' = S ∧ True) (dg_B g D shM o rfM) (dg_A o shM.length sz)) 0 0 (dg_A o shM.length sz) := by
  refine dg_met (cc := cX12_tubs) (maxL := 2) (ret := (some .int)) (by decide) rfl (Nat.le_of_ble_eq_true rfl) ?_
  intro p e s m args below meth c A hAe harg hx hb hr hml hts hown hlocks hin hP K hS hA1 hA ST hsz ls hl
  rw [← hAe]
  have F : CallFix p m c cX12_tubs 2 s args (bw yX12_tubs cX12_tubs 2 (some .int)) RX12 := ⟨hx, hb, hml, hown, hts⟩
  have hl : lv_has ls 2 [(0, .ref (o + 0)), (1, .int a1)] := hl
  have M_0 : dg_sm shM [] [] S S := dg_sm.rf
  refine lv_iload_n hx hb dX12_tubs_0 rfl (lv_at hl 1 rfl) ?_
  refine lv_iconst (v := 0) hx hb dX12_tubs_1 (by decide +kernel) ?_
  refine lv_bipush (v := 9) hx hb dX12_tubs_2 (by decide +kernel) ?_
  refine dg_calli hS hA1 hA (va_runS (As := [.int a1, .int 0, .int 9]) (rest := []) F (c_m_is l g D o S a1 0 9 I s.heap.size) (va_cwS 3 hts (bw_S wB_362 wB_363 wB_297 wB_361) rfl rfl rfl (by decide +kernel) ⟨Nat.le_of_ble_eq_true rfl, Nat.le_of_ble_eq_true rfl⟩) (dg_preS K ST hP hS hA1 hA) rfl rfl hl.1 rfl (lv_room (Nat.le_of_ble_eq_true rfl)) dX12_tubs_4 ⟨Nat.le_of_ble_eq_true rfl, Nat.le_of_ble_eq_true rfl⟩) (fun x_1 S_2 hw_2 H locs hP hS => ?_)
  rw [hw_2.1] at hP
  obtain ⟨hq_2, w_2_0, w_2_1, -⟩ := hw_2
  have hz_3 : (0 : Int32).toInt = 0 := by decide +kernel
  have hz_4 : (9 : Int32).toInt = 9 := by decide +kernel
  have w_2_0 : 0 ≤ (x_1).toInt ∧ (x_1).toInt ≤ 1 := w_2_0
  have w_2_1 : (x_1).toInt = 1 ↔ (((0 : Int32)).toInt ≤ (a1).toInt ∧ (a1).toInt ≤ ((9 : Int32)).toInt) := w_2_1
  refine lv_if_eq (tgt := 19) hx hb dX12_tubs_7 (by decide) (fun c_5 => ?_) (fun c_5 => ?_)
  · have jc_5 := dk_eqc (k := 0) (by decide +kernel) c_5
    refine lv_iconst (v := (-1)) hx hb dX12_tubs_19 (by decide +kernel) ?_
    refine W.widen (k := 0) (n := 0) (Nat.le_of_ble_eq_true rfl) (Nat.le_of_ble_eq_true rfl) ?_
    exact dg_iret hx hb hr hlocks rfl hP hS ⟨rfl, trivial⟩ dX12_tubs_20
  · have jc_5 := dk_neqc (k := 0) (by decide +kernel) c_5
    refine lv_aload_n hx hb dX12_tubs_10 rfl (lv_at hl 0 rfl) ?_
    refine dg_get (C := RX12) (T := TX12) (N := 77) hx hb hts (fun w h => bw_mem (wU_X12 w h)) hown K hP sM_0 rfl 57 (by decide) (hts _ (bw_mem wB_1117)) (fun _ h9 => h9) (v := .ref (o + 37)) (show S.1 0 57 = .ref (o + 37) from dg_I.rel (d := 37) I sM_0 (by decide +kernel)) dX12_tubs_11 ?_
    refine lv_iload_n hx hb dX12_tubs_14 rfl (lv_at hl 1 rfl) ?_
    have hin_6 : vp_in a1 220 := (dk_inv (by omega) (by omega))
    refine dg_iald hx hb K hP sM_37 hin_6 dX12_tubs_15 (fun x_7 ex_7 => ?_)
    refine lv_goto (tgt := 20) hx hb dX12_tubs_16 (by decide) ?_
    refine W.widen (k := 0) (n := 0) (Nat.le_of_ble_eq_true rfl) (Nat.le_of_ble_eq_true rfl) ?_
    exact dg_iret hx hb hr hlocks rfl hP hS ⟨rfl, trivial⟩ dX12_tubs_20
