/-! 46.m14c.lean.txt -/
theorem dX12_reading_0 : decode cX12_reading 0 = .ok (.iconst 3, 1) := dk_o6 (by decide +kernel)
theorem dX12_reading_1 : decode cX12_reading 1 = .ok (.aload_n 0, 1) := dk_o42 (by decide +kernel)
theorem dX12_reading_2 : decode cX12_reading 2 = .ok (.getfield 118, 3) := dk_o180 (by decide +kernel)
theorem dX12_reading_5 : decode cX12_reading 5 = .ok (.imul, 1) := dk_o104 (by decide +kernel)
theorem dX12_reading_6 : decode cX12_reading 6 = .ok (.iload_n 1, 1) := dk_o27 (by decide +kernel)
theorem dX12_reading_7 : decode cX12_reading 7 = .ok (.iadd, 1) := dk_o96 (by decide +kernel)
theorem dX12_reading_8 : decode cX12_reading 8 = .ok (.istore_n 2, 1) := dk_o61 (by decide +kernel)
theorem dX12_reading_9 : decode cX12_reading 9 = .ok (.aload_n 0, 1) := dk_o42 (by decide +kernel)
theorem dX12_reading_10 : decode cX12_reading 10 = .ok (.aload_n 0, 1) := dk_o42 (by decide +kernel)
theorem dX12_reading_11 : decode cX12_reading 11 = .ok (.getfield 96, 3) := dk_o180 (by decide +kernel)
theorem dX12_reading_14 : decode cX12_reading 14 = .ok (.iload_n 2, 1) := dk_o28 (by decide +kernel)
theorem dX12_reading_15 : decode cX12_reading 15 = .ok (.iaload, 1) := dk_o46 (by decide +kernel)
theorem dX12_reading_16 : decode cX12_reading 16 = .ok (.iconst (-1), 1) := dk_o2 (by decide +kernel)
theorem dX12_reading_17 : decode cX12_reading 17 = .ok (.if_icmp .eq 7, 3) := dk_o159 (by decide +kernel)
theorem dX12_reading_20 : decode cX12_reading 20 = .ok (.iconst 1, 1) := dk_o4 (by decide +kernel)
theorem dX12_reading_21 : decode cX12_reading 21 = .ok (.goto 4, 3) := dk_o167 (by decide +kernel)
theorem dX12_reading_24 : decode cX12_reading 24 = .ok (.iconst 0, 1) := dk_o3 (by decide +kernel)
theorem dX12_reading_25 : decode cX12_reading 25 = .ok (.invokevirtual 382, 3) := dk_o182 (by decide +kernel)
theorem dX12_reading_28 : decode cX12_reading 28 = .ok (.ifCond .ne 4, 3) := dk_o154 (by decide +kernel)
theorem dX12_reading_31 : decode cX12_reading 31 = .ok (.return_, 1) := dk_o177 (by decide +kernel)
theorem dX12_reading_32 : decode cX12_reading 32 = .ok (.aload_n 0, 1) := dk_o42 (by decide +kernel)
theorem dX12_reading_33 : decode cX12_reading 33 = .ok (.iload_n 1, 1) := dk_o27 (by decide +kernel)
theorem dX12_reading_34 : decode cX12_reading 34 = .ok (.putfield 121, 3) := dk_o181 (by decide +kernel)
theorem dX12_reading_37 : decode cX12_reading 37 = .ok (.aload_n 0, 1) := dk_o42 (by decide +kernel)
theorem dX12_reading_38 : decode cX12_reading 38 = .ok (.getfield 96, 3) := dk_o180 (by decide +kernel)
theorem dX12_reading_41 : decode cX12_reading 41 = .ok (.iload_n 2, 1) := dk_o28 (by decide +kernel)
theorem dX12_reading_42 : decode cX12_reading 42 = .ok (.aload_n 0, 1) := dk_o42 (by decide +kernel)
theorem dX12_reading_43 : decode cX12_reading 43 = .ok (.getfield 115, 3) := dk_o180 (by decide +kernel)
theorem dX12_reading_46 : decode cX12_reading 46 = .ok (.iastore, 1) := dk_o79 (by decide +kernel)
theorem dX12_reading_47 : decode cX12_reading 47 = .ok (.aload_n 0, 1) := dk_o42 (by decide +kernel)
theorem dX12_reading_48 : decode cX12_reading 48 = .ok (.iload_n 1, 1) := dk_o27 (by decide +kernel)
theorem dX12_reading_49 : decode cX12_reading 49 = .ok (.iconst 1, 1) := dk_o4 (by decide +kernel)
theorem dX12_reading_50 : decode cX12_reading 50 = .ok (.if_icmp .ne 7, 3) := dk_o160 (by decide +kernel)
theorem dX12_reading_53 : decode cX12_reading 53 = .ok (.iconst 1, 1) := dk_o4 (by decide +kernel)
theorem dX12_reading_54 : decode cX12_reading 54 = .ok (.goto 4, 3) := dk_o167 (by decide +kernel)
theorem dX12_reading_57 : decode cX12_reading 57 = .ok (.iconst 0, 1) := dk_o3 (by decide +kernel)
theorem dX12_reading_58 : decode cX12_reading 58 = .ok (.invokevirtual 394, 3) := dk_o182 (by decide +kernel)
theorem dX12_reading_61 : decode cX12_reading 61 = .ok (.aload_n 0, 1) := dk_o42 (by decide +kernel)
theorem dX12_reading_62 : decode cX12_reading 62 = .ok (.getfield 99, 3) := dk_o180 (by decide +kernel)
theorem dX12_reading_65 : decode cX12_reading 65 = .ok (.iload_n 2, 1) := dk_o28 (by decide +kernel)
theorem dX12_reading_66 : decode cX12_reading 66 = .ok (.aload_n 0, 1) := dk_o42 (by decide +kernel)
theorem dX12_reading_67 : decode cX12_reading 67 = .ok (.getfield 115, 3) := dk_o180 (by decide +kernel)
theorem dX12_reading_70 : decode cX12_reading 70 = .ok (.iastore, 1) := dk_o79 (by decide +kernel)
theorem dX12_reading_71 : decode cX12_reading 71 = .ok (.return_, 1) := dk_o177 (by decide +kernel)
theorem dX12_statement_0 : decode cX12_statement 0 = .ok (.aload_n 0, 1) := dk_o42 (by decide +kernel)
theorem dX12_statement_1 : decode cX12_statement 1 = .ok (.invokevirtual 266, 3) := dk_o182 (by decide +kernel)
theorem dX12_statement_4 : decode cX12_statement 4 = .ok (.aload_n 0, 1) := dk_o42 (by decide +kernel)
theorem dX12_statement_5 : decode cX12_statement 5 = .ok (.getfield 36, 3) := dk_o180 (by decide +kernel)
theorem dX12_statement_8 : decode cX12_statement 8 = .ok (.ifCond .le 4, 3) := dk_o158 (by decide +kernel)
theorem dX12_statement_11 : decode cX12_statement 11 = .ok (.return_, 1) := dk_o177 (by decide +kernel)
theorem dX12_statement_12 : decode cX12_statement 12 = .ok (.aload_n 0, 1) := dk_o42 (by decide +kernel)
theorem dX12_statement_13 : decode cX12_statement 13 = .ok (.ldc2_w 279, 3) := dk_o20 (by decide +kernel)
theorem dX12_statement_16 : decode cX12_statement 16 = .ok (.invokevirtual 349, 3) := dk_o182 (by decide +kernel)
theorem dX12_statement_19 : decode cX12_statement 19 = .ok (.ifCond .eq 30, 3) := dk_o153 (by decide +kernel)
theorem dX12_statement_22 : decode cX12_statement 22 = .ok (.aload_n 0, 1) := dk_o42 (by decide +kernel)
theorem dX12_statement_23 : decode cX12_statement 23 = .ok (.getfield 60, 3) := dk_o180 (by decide +kernel)
theorem dX12_statement_26 : decode cX12_statement 26 = .ok (.aload_n 0, 1) := dk_o42 (by decide +kernel)
theorem dX12_statement_27 : decode cX12_statement 27 = .ok (.getfield 118, 3) := dk_o180 (by decide +kernel)
theorem dX12_statement_30 : decode cX12_statement 30 = .ok (.aload_n 0, 1) := dk_o42 (by decide +kernel)
theorem dX12_statement_31 : decode cX12_statement 31 = .ok (.aload_n 0, 1) := dk_o42 (by decide +kernel)
theorem dX12_statement_32 : decode cX12_statement 32 = .ok (.getfield 54, 3) := dk_o180 (by decide +kernel)
theorem dX12_statement_35 : decode cX12_statement 35 = .ok (.aload_n 0, 1) := dk_o42 (by decide +kernel)
theorem dX12_statement_36 : decode cX12_statement 36 = .ok (.getfield 118, 3) := dk_o180 (by decide +kernel)
theorem dX12_statement_39 : decode cX12_statement 39 = .ok (.iaload, 1) := dk_o46 (by decide +kernel)
theorem dX12_statement_40 : decode cX12_statement 40 = .ok (.iconst 1, 1) := dk_o4 (by decide +kernel)
theorem dX12_statement_41 : decode cX12_statement 41 = .ok (.isub, 1) := dk_o100 (by decide +kernel)
theorem dX12_statement_42 : decode cX12_statement 42 = .ok (.invokevirtual 398, 3) := dk_o182 (by decide +kernel)
theorem dX12_statement_45 : decode cX12_statement 45 = .ok (.iastore, 1) := dk_o79 (by decide +kernel)
theorem dX12_statement_46 : decode cX12_statement 46 = .ok (.goto 190, 3) := dk_o167 (by decide +kernel)
theorem dX12_statement_49 : decode cX12_statement 49 = .ok (.aload_n 0, 1) := dk_o42 (by decide +kernel)
theorem dX12_statement_50 : decode cX12_statement 50 = .ok (.ldc2_w 281, 3) := dk_o20 (by decide +kernel)
theorem dX12_statement_53 : decode cX12_statement 53 = .ok (.invokevirtual 349, 3) := dk_o182 (by decide +kernel)
theorem dX12_statement_56 : decode cX12_statement 56 = .ok (.ifCond .eq 21, 3) := dk_o153 (by decide +kernel)
theorem dX12_statement_59 : decode cX12_statement 59 = .ok (.aload_n 0, 1) := dk_o42 (by decide +kernel)
theorem dX12_statement_60 : decode cX12_statement 60 = .ok (.getfield 63, 3) := dk_o180 (by decide +kernel)
theorem dX12_statement_63 : decode cX12_statement 63 = .ok (.aload_n 0, 1) := dk_o42 (by decide +kernel)
theorem dX12_statement_64 : decode cX12_statement 64 = .ok (.getfield 118, 3) := dk_o180 (by decide +kernel)
theorem dX12_statement_67 : decode cX12_statement 67 = .ok (.aload_n 0, 1) := dk_o42 (by decide +kernel)
theorem dX12_statement_68 : decode cX12_statement 68 = .ok (.bipush 20, 2) := dk_o16 (by decide +kernel)
theorem dX12_statement_70 : decode cX12_statement 70 = .ok (.invokevirtual 398, 3) := dk_o182 (by decide +kernel)
theorem dX12_statement_73 : decode cX12_statement 73 = .ok (.iastore, 1) := dk_o79 (by decide +kernel)
theorem dX12_statement_74 : decode cX12_statement 74 = .ok (.goto 162, 3) := dk_o167 (by decide +kernel)
theorem dX12_statement_77 : decode cX12_statement 77 = .ok (.aload_n 0, 1) := dk_o42 (by decide +kernel)
theorem dX12_statement_78 : decode cX12_statement 78 = .ok (.ldc2_w 283, 3) := dk_o20 (by decide +kernel)
theorem dX12_statement_81 : decode cX12_statement 81 = .ok (.invokevirtual 349, 3) := dk_o182 (by decide +kernel)
theorem dX12_statement_84 : decode cX12_statement 84 = .ok (.ifCond .eq 21, 3) := dk_o153 (by decide +kernel)
theorem dX12_statement_87 : decode cX12_statement 87 = .ok (.aload_n 0, 1) := dk_o42 (by decide +kernel)
theorem dX12_statement_88 : decode cX12_statement 88 = .ok (.getfield 66, 3) := dk_o180 (by decide +kernel)
theorem dX12_statement_91 : decode cX12_statement 91 = .ok (.aload_n 0, 1) := dk_o42 (by decide +kernel)
theorem dX12_statement_92 : decode cX12_statement 92 = .ok (.getfield 118, 3) := dk_o180 (by decide +kernel)
theorem dX12_statement_95 : decode cX12_statement 95 = .ok (.aload_n 0, 1) := dk_o42 (by decide +kernel)
theorem dX12_statement_96 : decode cX12_statement 96 = .ok (.bipush 100, 2) := dk_o16 (by decide +kernel)
theorem dX12_statement_98 : decode cX12_statement 98 = .ok (.invokevirtual 398, 3) := dk_o182 (by decide +kernel)
theorem dX12_statement_101 : decode cX12_statement 101 = .ok (.iastore, 1) := dk_o79 (by decide +kernel)
theorem dX12_statement_102 : decode cX12_statement 102 = .ok (.goto 134, 3) := dk_o167 (by decide +kernel)
theorem dX12_statement_105 : decode cX12_statement 105 = .ok (.aload_n 0, 1) := dk_o42 (by decide +kernel)
theorem dX12_statement_106 : decode cX12_statement 106 = .ok (.ldc2_w 285, 3) := dk_o20 (by decide +kernel)
theorem dX12_statement_109 : decode cX12_statement 109 = .ok (.invokevirtual 349, 3) := dk_o182 (by decide +kernel)
theorem dX12_statement_112 : decode cX12_statement 112 = .ok (.ifCond .eq 10, 3) := dk_o153 (by decide +kernel)
theorem dX12_statement_115 : decode cX12_statement 115 = .ok (.aload_n 0, 1) := dk_o42 (by decide +kernel)
theorem dX12_statement_116 : decode cX12_statement 116 = .ok (.invokevirtual 401, 3) := dk_o182 (by decide +kernel)
theorem dX12_statement_119 : decode cX12_statement 119 = .ok (.goto 117, 3) := dk_o167 (by decide +kernel)
theorem dX12_statement_122 : decode cX12_statement 122 = .ok (.aload_n 0, 1) := dk_o42 (by decide +kernel)
theorem dX12_statement_123 : decode cX12_statement 123 = .ok (.ldc2_w 287, 3) := dk_o20 (by decide +kernel)
theorem dX12_statement_126 : decode cX12_statement 126 = .ok (.invokevirtual 349, 3) := dk_o182 (by decide +kernel)
theorem dX12_statement_129 : decode cX12_statement 129 = .ok (.ifCond .eq 10, 3) := dk_o153 (by decide +kernel)
theorem dX12_statement_132 : decode cX12_statement 132 = .ok (.aload_n 0, 1) := dk_o42 (by decide +kernel)
theorem dX12_statement_133 : decode cX12_statement 133 = .ok (.invokevirtual 404, 3) := dk_o182 (by decide +kernel)
theorem dX12_statement_136 : decode cX12_statement 136 = .ok (.goto 100, 3) := dk_o167 (by decide +kernel)
theorem dX12_statement_139 : decode cX12_statement 139 = .ok (.aload_n 0, 1) := dk_o42 (by decide +kernel)
theorem dX12_statement_140 : decode cX12_statement 140 = .ok (.ldc2_w 289, 3) := dk_o20 (by decide +kernel)
theorem dX12_statement_143 : decode cX12_statement 143 = .ok (.invokevirtual 349, 3) := dk_o182 (by decide +kernel)
theorem dX12_statement_146 : decode cX12_statement 146 = .ok (.ifCond .eq 10, 3) := dk_o153 (by decide +kernel)
theorem dX12_statement_149 : decode cX12_statement 149 = .ok (.aload_n 0, 1) := dk_o42 (by decide +kernel)
theorem dX12_statement_150 : decode cX12_statement 150 = .ok (.invokevirtual 407, 3) := dk_o182 (by decide +kernel)
theorem dX12_statement_153 : decode cX12_statement 153 = .ok (.goto 83, 3) := dk_o167 (by decide +kernel)
theorem dX12_statement_156 : decode cX12_statement 156 = .ok (.aload_n 0, 1) := dk_o42 (by decide +kernel)
theorem dX12_statement_157 : decode cX12_statement 157 = .ok (.ldc2_w 293, 3) := dk_o20 (by decide +kernel)
theorem dX12_statement_160 : decode cX12_statement 160 = .ok (.invokevirtual 349, 3) := dk_o182 (by decide +kernel)
theorem dX12_statement_163 : decode cX12_statement 163 = .ok (.ifCond .eq 10, 3) := dk_o153 (by decide +kernel)
theorem dX12_statement_166 : decode cX12_statement 166 = .ok (.aload_n 0, 1) := dk_o42 (by decide +kernel)
theorem dX12_statement_167 : decode cX12_statement 167 = .ok (.invokevirtual 410, 3) := dk_o182 (by decide +kernel)
theorem dX12_statement_170 : decode cX12_statement 170 = .ok (.goto 66, 3) := dk_o167 (by decide +kernel)
theorem dX12_statement_173 : decode cX12_statement 173 = .ok (.aload_n 0, 1) := dk_o42 (by decide +kernel)
theorem dX12_statement_174 : decode cX12_statement 174 = .ok (.ldc2_w 299, 3) := dk_o20 (by decide +kernel)
theorem dX12_statement_177 : decode cX12_statement 177 = .ok (.invokevirtual 349, 3) := dk_o182 (by decide +kernel)
theorem dX12_statement_180 : decode cX12_statement 180 = .ok (.ifCond .eq 11, 3) := dk_o153 (by decide +kernel)
theorem dX12_statement_183 : decode cX12_statement 183 = .ok (.aload_n 0, 1) := dk_o42 (by decide +kernel)
theorem dX12_statement_184 : decode cX12_statement 184 = .ok (.iconst 0, 1) := dk_o3 (by decide +kernel)
theorem dX12_statement_185 : decode cX12_statement 185 = .ok (.invokevirtual 413, 3) := dk_o182 (by decide +kernel)
theorem dX12_statement_188 : decode cX12_statement 188 = .ok (.goto 48, 3) := dk_o167 (by decide +kernel)
theorem dX12_statement_191 : decode cX12_statement 191 = .ok (.aload_n 0, 1) := dk_o42 (by decide +kernel)
theorem dX12_statement_192 : decode cX12_statement 192 = .ok (.ldc2_w 301, 3) := dk_o20 (by decide +kernel)
theorem dX12_statement_195 : decode cX12_statement 195 = .ok (.invokevirtual 349, 3) := dk_o182 (by decide +kernel)
theorem dX12_statement_198 : decode cX12_statement 198 = .ok (.ifCond .eq 11, 3) := dk_o153 (by decide +kernel)
theorem dX12_statement_201 : decode cX12_statement 201 = .ok (.aload_n 0, 1) := dk_o42 (by decide +kernel)
theorem dX12_statement_202 : decode cX12_statement 202 = .ok (.iconst 1, 1) := dk_o4 (by decide +kernel)
theorem dX12_statement_203 : decode cX12_statement 203 = .ok (.invokevirtual 413, 3) := dk_o182 (by decide +kernel)
theorem dX12_statement_206 : decode cX12_statement 206 = .ok (.goto 30, 3) := dk_o167 (by decide +kernel)
theorem dX12_statement_209 : decode cX12_statement 209 = .ok (.aload_n 0, 1) := dk_o42 (by decide +kernel)
theorem dX12_statement_210 : decode cX12_statement 210 = .ok (.ldc2_w 303, 3) := dk_o20 (by decide +kernel)
theorem dX12_statement_213 : decode cX12_statement 213 = .ok (.invokevirtual 349, 3) := dk_o182 (by decide +kernel)
theorem dX12_statement_216 : decode cX12_statement 216 = .ok (.ifCond .eq 11, 3) := dk_o153 (by decide +kernel)
theorem dX12_statement_219 : decode cX12_statement 219 = .ok (.aload_n 0, 1) := dk_o42 (by decide +kernel)
theorem dX12_statement_220 : decode cX12_statement 220 = .ok (.iconst 2, 1) := dk_o5 (by decide +kernel)
theorem dX12_statement_221 : decode cX12_statement 221 = .ok (.invokevirtual 413, 3) := dk_o182 (by decide +kernel)
theorem dX12_statement_224 : decode cX12_statement 224 = .ok (.goto 12, 3) := dk_o167 (by decide +kernel)
theorem dX12_statement_227 : decode cX12_statement 227 = .ok (.aload_n 0, 1) := dk_o42 (by decide +kernel)
theorem dX12_statement_228 : decode cX12_statement 228 = .ok (.iconst 1, 1) := dk_o4 (by decide +kernel)
theorem dX12_statement_229 : decode cX12_statement 229 = .ok (.aload_n 0, 1) := dk_o42 (by decide +kernel)
theorem dX12_statement_230 : decode cX12_statement 230 = .ok (.getfield 23, 3) := dk_o180 (by decide +kernel)
theorem dX12_statement_233 : decode cX12_statement 233 = .ok (.invokevirtual 255, 3) := dk_o182 (by decide +kernel)
theorem dX12_statement_236 : decode cX12_statement 236 = .ok (.return_, 1) := dk_o177 (by decide +kernel)
theorem dX12_finishes_0 : decode cX12_finishes 0 = .ok (.aload_n 0, 1) := dk_o42 (by decide +kernel)
theorem dX12_finishes_1 : decode cX12_finishes 1 = .ok (.invokevirtual 266, 3) := dk_o182 (by decide +kernel)
theorem dX12_finishes_4 : decode cX12_finishes 4 = .ok (.aload_n 0, 1) := dk_o42 (by decide +kernel)
theorem dX12_finishes_5 : decode cX12_finishes 5 = .ok (.getfield 36, 3) := dk_o180 (by decide +kernel)
theorem dX12_finishes_8 : decode cX12_finishes 8 = .ok (.ifCond .le 4, 3) := dk_o158 (by decide +kernel)
theorem dX12_finishes_11 : decode cX12_finishes 11 = .ok (.return_, 1) := dk_o177 (by decide +kernel)
theorem dX12_finishes_12 : decode cX12_finishes 12 = .ok (.aload_n 0, 1) := dk_o42 (by decide +kernel)
theorem dX12_finishes_13 : decode cX12_finishes 13 = .ok (.getfield 26, 3) := dk_o180 (by decide +kernel)
theorem dX12_finishes_16 : decode cX12_finishes 16 = .ok (.istore_n 2, 1) := dk_o61 (by decide +kernel)
theorem dX12_finishes_17 : decode cX12_finishes 17 = .ok (.iload_n 2, 1) := dk_o28 (by decide +kernel)
theorem dX12_finishes_18 : decode cX12_finishes 18 = .ok (.aload_n 0, 1) := dk_o42 (by decide +kernel)
theorem dX12_finishes_19 : decode cX12_finishes 19 = .ok (.getfield 17, 3) := dk_o180 (by decide +kernel)
theorem dX12_finishes_22 : decode cX12_finishes 22 = .ok (.if_icmp .ge 31, 3) := dk_o162 (by decide +kernel)
theorem dX12_finishes_25 : decode cX12_finishes 25 = .ok (.aload_n 0, 1) := dk_o42 (by decide +kernel)
theorem dX12_finishes_26 : decode cX12_finishes 26 = .ok (.getfield 7, 3) := dk_o180 (by decide +kernel)
theorem dX12_finishes_29 : decode cX12_finishes 29 = .ok (.iload_n 2, 1) := dk_o28 (by decide +kernel)
theorem dX12_finishes_30 : decode cX12_finishes 30 = .ok (.iaload, 1) := dk_o46 (by decide +kernel)
theorem dX12_finishes_31 : decode cX12_finishes 31 = .ok (.bipush 32, 2) := dk_o16 (by decide +kernel)
theorem dX12_finishes_33 : decode cX12_finishes 33 = .ok (.if_icmp .eq 14, 3) := dk_o159 (by decide +kernel)
theorem dX12_finishes_36 : decode cX12_finishes 36 = .ok (.aload_n 0, 1) := dk_o42 (by decide +kernel)
theorem dX12_finishes_37 : decode cX12_finishes 37 = .ok (.getfield 7, 3) := dk_o180 (by decide +kernel)
theorem dX12_finishes_40 : decode cX12_finishes 40 = .ok (.iload_n 2, 1) := dk_o28 (by decide +kernel)
theorem dX12_finishes_41 : decode cX12_finishes 41 = .ok (.iaload, 1) := dk_o46 (by decide +kernel)
theorem dX12_finishes_42 : decode cX12_finishes 42 = .ok (.bipush 10, 2) := dk_o16 (by decide +kernel)
theorem dX12_finishes_44 : decode cX12_finishes 44 = .ok (.if_icmp .ne 9, 3) := dk_o160 (by decide +kernel)
theorem dX12_finishes_47 : decode cX12_finishes 47 = .ok (.iinc 2 1, 3) := dk_o132 (by decide +kernel)
theorem dX12_finishes_50 : decode cX12_finishes 50 = .ok (.goto (-33), 3) := dk_o167 (by decide +kernel)
theorem dX12_finishes_53 : decode cX12_finishes 53 = .ok (.aload_n 0, 1) := dk_o42 (by decide +kernel)
theorem dX12_finishes_54 : decode cX12_finishes 54 = .ok (.bipush 59, 2) := dk_o16 (by decide +kernel)
theorem dX12_finishes_56 : decode cX12_finishes 56 = .ok (.invokevirtual 269, 3) := dk_o182 (by decide +kernel)
theorem dX12_finishes_59 : decode cX12_finishes 59 = .ok (.ifCond .eq 24, 3) := dk_o153 (by decide +kernel)
theorem dX12_finishes_62 : decode cX12_finishes 62 = .ok (.iload_n 1, 1) := dk_o27 (by decide +kernel)
theorem dX12_finishes_63 : decode cX12_finishes 63 = .ok (.bipush 80, 2) := dk_o16 (by decide +kernel)
theorem dX12_finishes_65 : decode cX12_finishes 65 = .ok (.if_icmp .ne 18, 3) := dk_o160 (by decide +kernel)
theorem dX12_finishes_68 : decode cX12_finishes 68 = .ok (.iload_n 2, 1) := dk_o28 (by decide +kernel)
theorem dX12_finishes_69 : decode cX12_finishes 69 = .ok (.aload_n 0, 1) := dk_o42 (by decide +kernel)
theorem dX12_finishes_70 : decode cX12_finishes 70 = .ok (.getfield 17, 3) := dk_o180 (by decide +kernel)
theorem dX12_finishes_73 : decode cX12_finishes 73 = .ok (.if_icmp .ge 10, 3) := dk_o162 (by decide +kernel)
theorem dX12_finishes_76 : decode cX12_finishes 76 = .ok (.aload_n 0, 1) := dk_o42 (by decide +kernel)
theorem dX12_finishes_77 : decode cX12_finishes 77 = .ok (.bipush 6, 2) := dk_o16 (by decide +kernel)
theorem dX12_finishes_79 : decode cX12_finishes 79 = .ok (.iload_n 2, 1) := dk_o28 (by decide +kernel)
theorem dX12_finishes_80 : decode cX12_finishes 80 = .ok (.invokevirtual 255, 3) := dk_o182 (by decide +kernel)
theorem dX12_finishes_83 : decode cX12_finishes 83 = .ok (.aload_n 0, 1) := dk_o42 (by decide +kernel)
theorem dX12_finishes_84 : decode cX12_finishes 84 = .ok (.bipush 59, 2) := dk_o16 (by decide +kernel)
theorem dX12_finishes_86 : decode cX12_finishes 86 = .ok (.invokevirtual 416, 3) := dk_o182 (by decide +kernel)
theorem dX12_finishes_89 : decode cX12_finishes 89 = .ok (.return_, 1) := dk_o177 (by decide +kernel)
theorem wB_449 : Cond.fieldLink RX12 96 "DarkMineModel" "sumFrom" "[I" ∈ dgB := List.mem_filter.mpr ⟨tbl_6 _ (List.mem_of_getElem? (i := 191) (by decide +kernel)), by decide +kernel⟩
theorem wB_450 : Cond.code yX12_reads cX12_reads 3 none ∈ dgB := List.mem_filter.mpr ⟨tbl_8 _ (List.mem_of_getElem? (i := 68) rfl), rfl⟩
theorem wB_451 : Cond.methodLink RX12 394 yX12_reads ∈ dgB := List.mem_filter.mpr ⟨tbl_8 _ (List.mem_of_getElem? (i := 65) (by decide +kernel)), by decide +kernel⟩
theorem wB_452 : Cond.instanceMethod yX12_reads ∈ dgB := List.mem_filter.mpr ⟨tbl_8 _ (List.mem_of_getElem? (i := 67) (by decide +kernel)), by decide +kernel⟩
theorem wB_453 : Cond.selects RX12 yX12_reads yX12_reads ∈ dgB := List.mem_filter.mpr ⟨List.mem_of_getElem? (i := 106) (by decide +kernel), by decide +kernel⟩
theorem wB_454 : Cond.fieldLink RX12 99 "DarkMineModel" "sumBehind" "[I" ∈ dgB := List.mem_filter.mpr ⟨tbl_6 _ (List.mem_of_getElem? (i := 192) (by decide +kernel)), by decide +kernel⟩
theorem wB_455 : Cond.code yX12_reading cX12_reading 3 none ∈ dgB := List.mem_filter.mpr ⟨tbl_8 _ (List.mem_of_getElem? (i := 64) rfl), rfl⟩
theorem wB_456 : Cond.methodLink RX12 413 yX12_reading ∈ dgB := List.mem_filter.mpr ⟨tbl_8 _ (List.mem_of_getElem? (i := 61) (by decide +kernel)), by decide +kernel⟩
theorem wB_457 : Cond.instanceMethod yX12_reading ∈ dgB := List.mem_filter.mpr ⟨tbl_8 _ (List.mem_of_getElem? (i := 63) (by decide +kernel)), by decide +kernel⟩
theorem wB_458 : Cond.selects RX12 yX12_reading yX12_reading ∈ dgB := List.mem_filter.mpr ⟨List.mem_of_getElem? (i := 105) (by decide +kernel), by decide +kernel⟩
theorem wB_459 : Cond.code yX12_ordering cX12_ordering 2 none ∈ dgB := List.mem_filter.mpr ⟨tbl_8 _ (List.mem_of_getElem? (i := 60) rfl), rfl⟩
theorem wB_460 : Cond.methodLink RX12 410 yX12_ordering ∈ dgB := List.mem_filter.mpr ⟨tbl_8 _ (List.mem_of_getElem? (i := 57) (by decide +kernel)), by decide +kernel⟩
theorem wB_461 : Cond.instanceMethod yX12_ordering ∈ dgB := List.mem_filter.mpr ⟨tbl_8 _ (List.mem_of_getElem? (i := 59) (by decide +kernel)), by decide +kernel⟩
theorem wB_462 : Cond.selects RX12 yX12_ordering yX12_ordering ∈ dgB := List.mem_filter.mpr ⟨List.mem_of_getElem? (i := 104) (by decide +kernel), by decide +kernel⟩
theorem wB_463 : Cond.code yX12_digging cX12_digging 3 none ∈ dgB := List.mem_filter.mpr ⟨tbl_8 _ (List.mem_of_getElem? (i := 56) rfl), rfl⟩
theorem wB_464 : Cond.methodLink RX12 407 yX12_digging ∈ dgB := List.mem_filter.mpr ⟨tbl_8 _ (List.mem_of_getElem? (i := 53) (by decide +kernel)), by decide +kernel⟩
theorem wB_465 : Cond.instanceMethod yX12_digging ∈ dgB := List.mem_filter.mpr ⟨tbl_8 _ (List.mem_of_getElem? (i := 55) (by decide +kernel)), by decide +kernel⟩
theorem wB_466 : Cond.selects RX12 yX12_digging yX12_digging ∈ dgB := List.mem_filter.mpr ⟨List.mem_of_getElem? (i := 103) (by decide +kernel), by decide +kernel⟩
theorem wB_467 : Cond.code yX12_mining cX12_mining 1 none ∈ dgB := List.mem_filter.mpr ⟨tbl_8 _ (List.mem_of_getElem? (i := 16) rfl), rfl⟩
theorem wB_468 : Cond.methodLink RX12 404 yX12_mining ∈ dgB := List.mem_filter.mpr ⟨tbl_8 _ (List.mem_of_getElem? (i := 13) (by decide +kernel)), by decide +kernel⟩
theorem wB_469 : Cond.instanceMethod yX12_mining ∈ dgB := List.mem_filter.mpr ⟨tbl_8 _ (List.mem_of_getElem? (i := 15) (by decide +kernel)), by decide +kernel⟩
theorem wB_470 : Cond.selects RX12 yX12_mining yX12_mining ∈ dgB := List.mem_filter.mpr ⟨List.mem_of_getElem? (i := 98) (by decide +kernel), by decide +kernel⟩
theorem wB_471 : Cond.code yX12_grading cX12_grading 3 none ∈ dgB := List.mem_filter.mpr ⟨tbl_8 _ (List.mem_of_getElem? (i := 7) rfl), rfl⟩
theorem wB_472 : Cond.methodLink RX12 401 yX12_grading ∈ dgB := List.mem_filter.mpr ⟨tbl_8 _ (List.mem_of_getElem? (i := 4) (by decide +kernel)), by decide +kernel⟩
theorem wB_473 : Cond.instanceMethod yX12_grading ∈ dgB := List.mem_filter.mpr ⟨tbl_8 _ (List.mem_of_getElem? (i := 6) (by decide +kernel)), by decide +kernel⟩
theorem wB_474 : Cond.selects RX12 yX12_grading yX12_grading ∈ dgB := List.mem_filter.mpr ⟨List.mem_of_getElem? (i := 96) (by decide +kernel), by decide +kernel⟩
theorem wB_475 : Cond.fieldLink RX12 66 "DarkMineModel" "quakeTold" "[I" ∈ dgB := List.mem_filter.mpr ⟨tbl_6 _ (List.mem_of_getElem? (i := 181) (by decide +kernel)), by decide +kernel⟩
theorem wB_476 : Cond.code yX12_telling cX12_telling 2 (some .int) ∈ dgB := List.mem_filter.mpr ⟨tbl_7 _ (List.mem_of_getElem? (i := 236) rfl), rfl⟩
theorem wB_477 : Cond.methodLink RX12 398 yX12_telling ∈ dgB := List.mem_filter.mpr ⟨tbl_7 _ (List.mem_of_getElem? (i := 233) (by decide +kernel)), by decide +kernel⟩
theorem wB_478 : Cond.instanceMethod yX12_telling ∈ dgB := List.mem_filter.mpr ⟨tbl_7 _ (List.mem_of_getElem? (i := 235) (by decide +kernel)), by decide +kernel⟩
theorem wB_479 : Cond.selects RX12 yX12_telling yX12_telling ∈ dgB := List.mem_filter.mpr ⟨List.mem_of_getElem? (i := 94) (by decide +kernel), by decide +kernel⟩
theorem wB_480 : Cond.fieldLink RX12 63 "DarkMineModel" "reachTold" "[I" ∈ dgB := List.mem_filter.mpr ⟨tbl_6 _ (List.mem_of_getElem? (i := 180) (by decide +kernel)), by decide +kernel⟩
theorem wB_481 : Cond.fieldLink RX12 60 "DarkMineModel" "shaftTold" "[I" ∈ dgB := List.mem_filter.mpr ⟨tbl_6 _ (List.mem_of_getElem? (i := 179) (by decide +kernel)), by decide +kernel⟩
theorem wB_482 : Cond.code yX12_must cX12_must 2 none ∈ dgB := List.mem_filter.mpr ⟨tbl_7 _ (List.mem_of_getElem? (i := 227) rfl), rfl⟩
theorem wB_483 : Cond.methodLink RX12 416 yX12_must ∈ dgB := List.mem_filter.mpr ⟨tbl_7 _ (List.mem_of_getElem? (i := 224) (by decide +kernel)), by decide +kernel⟩
theorem wB_484 : Cond.instanceMethod yX12_must ∈ dgB := List.mem_filter.mpr ⟨tbl_7 _ (List.mem_of_getElem? (i := 226) (by decide +kernel)), by decide +kernel⟩
theorem wB_485 : Cond.selects RX12 yX12_must yX12_must ∈ dgB := List.mem_filter.mpr ⟨List.mem_of_getElem? (i := 92) (by decide +kernel), by decide +kernel⟩
set_option maxHeartbeats 8000000 in
set_option maxRecDepth 100000 in
theorem c_m_reading (l : Launch) (g : Nat → ClassId) (D : va_G) (o : Nat) (S : dg_S) (a1 : Int32) (b_a1 : 0 ≤ (a1).toInt ∧ (a1).toInt ≤ 2) (tb : Nat → Int32) (tn : Nat) (sg9 : y_S) (S0 : dg_S) (sg : Int32) (f_sg : S.1 0 3 = .int sg) (b_sg : 0 ≤ (sg).toInt ∧ (sg).toInt ≤ 3) (sa : Int32) (f_sa : S.1 0 4 = .int sa) (b_sa : 0 ≤ (sa).toInt ∧ (sa).toInt ≤ 1600) (se : Int32) (f_se : S.1 0 5 = .int se) (b_se : 0 ≤ (se).toInt ∧ (se).toInt ≤ 1600) (sl : Int32) (f_sl : S.1 0 2 = .int sl) (b_sl : 0 ≤ (sl).toInt ∧ (sl).toInt ≤ 1600) (fk : Int32) (f_fk : S.1 0 8 = .int fk) (b_fk : 0 ≤ (fk).toInt ∧ (fk).toInt ≤ 6) (cd : Int32) (f_cd : S.1 0 34 = .int cd) (b_cd : 0 ≤ (cd).toInt ∧ (cd).toInt ≤ 1600) (ii : Int32) (f_ii : S.1 0 35 = .int ii) (b_ii : 0 ≤ (ii).toInt ∧ (ii).toInt ≤ 1) (hlx : (sa).toInt ≤ (se).toInt ∧ (se).toInt ≤ (sl).toInt ∧ ((sg).toInt ≠ 0 → (sa).toInt + 1 ≤ (se).toInt)) (hro : (cd).toInt ≤ (sa).toInt ∧ (sg).toInt ≠ 0) (hk1 : (T_kd tb tn (t_ix tb tn (sa : Int32).toNatClampNeg)).toInt = 1) (TK : TKM tb tn S) (GS : GSM sg9 S) (ZW : ZWM S) (ZK : ZKM S) (ZV : ZVM S) (GB : GBM S0 S) (G8 : G8M S0 S) (I : CM o S) (sz : Nat) : Met l yX12_reading (bw yX12_reading cX12_reading 3 none) ({ frames := 6, cells := 0, slots := 0, locals := 143 } : Room) (dk_Pc g D (dg_w g shM o rfM S) sz [.ref (o + 0), .int a1]) (va_Qv (fun S' => CM o S' ∧ dg_sm shM [(0, 3), (0, 4), (0, 5), (0, 6), (0, 7), (0, 8), (0, 9), (0, 12), (0, 34), (0, 36), (0, 42), (0, 43), (0, 45), (0, 46)] [16, 17, 18, 19, 22, 23, 24, 25, 26, 27] S S' ∧ (∃ y9_3 y9_4 y9_5 y9_8 y9_34 : Int32, S'.1 0 3 = .int y9_3 ∧ S'.1 0 4 = .int y9_4 ∧ S'.1 0 5 = .int y9_5 ∧ S'.1 0 8 = .int y9_8 ∧ S'.1 0 34 = .int y9_34 ∧ (((y9_4).toInt ≤ (y9_5).toInt ∧ (y9_5).toInt ≤ (sl).toInt ∧ ((y9_3).toInt ≠ 0 → (y9_4).toInt + 1 ≤ (y9_5).toInt)) ∧ (sa).toInt ≤ (y9_4).toInt ∧ ((fk).toInt ≠ 0 → (y9_8).toInt ≠ 0) ∧ (((y9_8).toInt = 0 → (sa).toInt + 1 ≤ (y9_4).toInt) ∧ ((y9_8).toInt = 0 → (y9_34).toInt ≤ (y9_4).toInt)))) ∧ (∀ k9 : Int32, S'.1 0 8 = .int k9 → k9.toInt = 0 → ZVM S') ∧ (SOK tb tn fk (m_T12 (T_kd tb tn) (T_vl tb tn) sg9 (a1).toInt ((t_ix tb tn (sa : Int32).toNatClampNeg) + 1)) S') ∧ (m_hid ((fk).toInt = 0 → ∀ f9 : Int32, S'.1 0 8 = .int f9 → f9.toInt = 0 → ∃ (u9 v9 : Int32) (i9 j9 : Nat), q_am S S' (d_rule (T_kd tb tn) (T_vl tb tn) (a1).toInt ((t_ix tb tn (sa : Int32).toNatClampNeg) + 1)) ∧ S.1 0 34 = .int u9 ∧ S'.1 0 34 = .int v9 ∧ i9 = 3 * (ii : Int32).toNatClampNeg + (a1 : Int32).toNatClampNeg ∧ j9 = 3 * (ii : Int32).toNatClampNeg + (a1 : Int32).toNatClampNeg ∧ S'.2.1 16 = upd (S.2.1 16) i9 u9 ∧ S'.2.1 17 = upd (S.2.1 17) j9 v9)) ∧ TKM tb tn S' ∧ ZWM S' ∧ GBM S0 S' ∧ G8M S0 S' ∧ True) (dg_B g D shM o rfM) (dg_A o shM.length sz)) 0 0 (dg_A o shM.length sz) := by
  refine dg_met (cc := cX12_reading) (maxL := 3) (ret := none) (dk_dq rfl) rfl (Nat.le_of_ble_eq_true rfl) ?_
  intro p e s m args below meth c A hAe harg hx hb hr hml hts hown hlocks hin hP K hS hA1 hA ST hsz ls hl
  rw [← hAe]
  have F : CallFix p m c cX12_reading 3 s args (bw yX12_reading cX12_reading 3 none) RX12 := ⟨hx, hb, hml, hown, hts⟩
  have hl : lv_has ls 3 [(0, .ref (o + 0)), (1, .int a1)] := hl
  have M_0 : dg_sm shM [(0, 3), (0, 4), (0, 5), (0, 6), (0, 7), (0, 8), (0, 9), (0, 12), (0, 34), (0, 36), (0, 42), (0, 43), (0, 45), (0, 46)] [16, 17, 18, 19, 22, 23, 24, 25, 26, 27] S S := dg_sm.rf
  obtain ⟨Q9, hQ9⟩ : ∃ Q : State → Prop, Q = MQ below (va_Qv (fun S' => CM o S' ∧ dg_sm shM [(0, 3), (0, 4), (0, 5), (0, 6), (0, 7), (0, 8), (0, 9), (0, 12), (0, 34), (0, 36), (0, 42), (0, 43), (0, 45), (0, 46)] [16, 17, 18, 19, 22, 23, 24, 25, 26, 27] S S' ∧ (∃ y9_3 y9_4 y9_5 y9_8 y9_34 : Int32, S'.1 0 3 = .int y9_3 ∧ S'.1 0 4 = .int y9_4 ∧ S'.1 0 5 = .int y9_5 ∧ S'.1 0 8 = .int y9_8 ∧ S'.1 0 34 = .int y9_34 ∧ (((y9_4).toInt ≤ (y9_5).toInt ∧ (y9_5).toInt ≤ (sl).toInt ∧ ((y9_3).toInt ≠ 0 → (y9_4).toInt + 1 ≤ (y9_5).toInt)) ∧ (sa).toInt ≤ (y9_4).toInt ∧ ((fk).toInt ≠ 0 → (y9_8).toInt ≠ 0) ∧ (((y9_8).toInt = 0 → (sa).toInt + 1 ≤ (y9_4).toInt) ∧ ((y9_8).toInt = 0 → (y9_34).toInt ≤ (y9_4).toInt)))) ∧ (∀ k9 : Int32, S'.1 0 8 = .int k9 → k9.toInt = 0 → ZVM S') ∧ (SOK tb tn fk (m_T12 (T_kd tb tn) (T_vl tb tn) sg9 (a1).toInt ((t_ix tb tn (sa : Int32).toNatClampNeg) + 1)) S') ∧ (m_hid ((fk).toInt = 0 → ∀ f9 : Int32, S'.1 0 8 = .int f9 → f9.toInt = 0 → ∃ (u9 v9 : Int32) (i9 j9 : Nat), q_am S S' (d_rule (T_kd tb tn) (T_vl tb tn) (a1).toInt ((t_ix tb tn (sa : Int32).toNatClampNeg) + 1)) ∧ S.1 0 34 = .int u9 ∧ S'.1 0 34 = .int v9 ∧ i9 = 3 * (ii : Int32).toNatClampNeg + (a1 : Int32).toNatClampNeg ∧ j9 = 3 * (ii : Int32).toNatClampNeg + (a1 : Int32).toNatClampNeg ∧ S'.2.1 16 = upd (S.2.1 16) i9 u9 ∧ S'.2.1 17 = upd (S.2.1 17) j9 v9)) ∧ TKM tb tn S' ∧ ZWM S' ∧ GBM S0 S' ∧ G8M S0 S' ∧ True) (dg_B g D shM o rfM) A) args s 0 0 A := ⟨_, rfl⟩
  rw [← hQ9]
  obtain ⟨hlx_0, hlx_1, hlx_2⟩ := hlx
  obtain ⟨hro_0, hro_1⟩ := hro
  have hro_1b : 1 ≤ (sg).toInt := by omega
  clear hro_1
  have hlx_2r := hlx_2 (by omega)
  clear hlx_2
  obtain ⟨x_1, f_x_1, b_x_1⟩ := dg_I.int (i := 0) (k := 13) (lo := 0) (hi := 1) I sM_0 (by decide +kernel)
  have hzk := ZK _ _ f_x_1 f_ii
  refine lv_iconst (v := 3) hx hb dX12_reading_0 (by decide +kernel) ?_
  refine lv_aload_n hx hb dX12_reading_1 rfl (lv_at hl 0 rfl) ?_
  refine dg_get (C := RX12) (T := TX12) (N := 77) hx hb hts (fun w h => bw_mem (wU_X12 w h)) hown K hP sM_0 rfl 35 (dk_dq rfl) (hts _ (bw_mem wB_353)) (fun _ h9 => h9) (v := .int ii) f_ii dX12_reading_2 ?_
  refine lv_imul hx hb dX12_reading_5 ?_
  refine lv_topi (fun x_2 ex_2 => ?_)
  have jx_2 : (x_2).toInt = 3 * (ii).toInt := by rw [ex_2]; exact dk_mulT2 (by decide +kernel) rfl (by omega)
  refine lv_iload_n hx hb dX12_reading_6 rfl (lv_at hl 1 rfl) ?_
  refine lv_iadd hx hb dX12_reading_7 ?_
  refine lv_topi (fun x_3 ex_3 => ?_)
  have jx_3 : (x_3).toInt = (x_2).toInt + (a1).toInt := by rw [ex_3]; exact dk_addT2 rfl rfl (by omega)
  refine lv_istore_n (lv' := [(2, .int x_3), (0, .ref (o + 0)), (1, .int a1)]) hx hb dX12_reading_8 rfl hl (dk_dq rfl) rfl (fun ls hl => ?_)
  refine lv_aload_n hx hb dX12_reading_9 rfl (lv_at hl 1 rfl) ?_
  refine lv_aload_n hx hb dX12_reading_10 rfl (lv_at hl 1 rfl) ?_
  refine dg_get (C := RX12) (T := TX12) (N := 77) hx hb hts (fun w h => bw_mem (wU_X12 w h)) hown K hP sM_0 rfl 28 (dk_dq rfl) (hts _ (bw_mem wB_449)) (fun _ h9 => h9) (v := .ref (o + 16)) (show S.1 0 28 = .ref (o + 16) from dg_I.rel (d := 16) I sM_0 (by decide +kernel)) dX12_reading_11 ?_
  refine lv_iload_n hx hb dX12_reading_14 rfl (lv_at hl 0 rfl) ?_
  have hin_4 : vp_in x_3 6 := (dk_inv2 (by omega))
  refine dg_iald hx hb K hP sM_16 hin_4 dX12_reading_15 (fun x_5 ex_5 => ?_)
  have b_x_5 := dk_all_at (dg_I.row (lo := (-1)) (hi := 1600) I sM_16 (by decide +kernel)) hin_4 ex_5
  have htl := GSM.told GS f_ii ex_5.symm (w := a1) (by omega) (by omega)
  refine lv_iconst (v := (-1)) hx hb dX12_reading_16 (by decide +kernel) ?_
  refine lv_icmp_eq (tgt := 24) hx hb dX12_reading_17 (dk_dq rfl) (fun c_6 => ?_) (fun c_6 => ?_)
  · as_aux_lemma =>
      have jc_6 := dk_eqc (k := (-1)) (by decide +kernel) c_6
      refine lv_iconst (v := 0) hx hb dX12_reading_24 (by decide +kernel) ?_
      have hz_7 : (0 : Int32).toInt = 0 := by decide +kernel
      refine dg_calli hS hA1 hA (va_runV (As := [.int 0]) (rest := []) F (c_m_isCounted l g D o S 0 (by decide +kernel) tb tn sg f_sg (by omega) sa f_sa (by omega) se f_se (by omega) sl f_sl (by omega) fk f_fk (by omega) (by omega) (by omega) TK I s.heap.size) (cwV 1 hts (bw_V wB_379 wB_380 wB_381 wB_297 wB_378) rfl rfl rfl (by decide +kernel) ⟨Nat.le_of_ble_eq_true rfl, Nat.le_of_ble_eq_true rfl⟩) (dg_preV sM_0 rfl K ST hP hS hA1 hA) rfl rfl hl.1 rfl (lv_room (Nat.le_of_ble_eq_true rfl)) dX12_reading_25 ⟨Nat.le_of_ble_eq_true rfl, Nat.le_of_ble_eq_true rfl⟩) (fun x_8 S_9 hw_9 H locs hP hS => ?_)
      obtain ⟨I_9, m_9, w_9_0, w_9_1, w_9_2, -⟩ := hw_9
      have M_9 := dg_sm.tr M_0 m_9 (dk_dq rfl) (dk_dq rfl)
      have hz_10 : (0 : Int32).toInt = 0 := by decide +kernel
      have w_9_0 : 0 ≤ (x_8).toInt ∧ (x_8).toInt ≤ 1 := w_9_0
      obtain ⟨y_11, y_12, y_13, y_14, f_y_11, f_y_12, f_y_13, f_y_14, w_9_1⟩ := w_9_1
      have w_9_1 : (((y_12).toInt ≤ (y_13).toInt ∧ (y_13).toInt ≤ (sl).toInt ∧ ((y_11).toInt ≠ 0 → (y_12).toInt + 1 ≤ (y_13).toInt)) ∧ (sa).toInt ≤ (y_12).toInt ∧ ((fk).toInt ≠ 0 → (y_14).toInt ≠ 0) ∧ (((x_8).toInt = 1 → ((y_14).toInt = 0 ∧ (fk).toInt = 0 ∧ ((0 : Int32)).toInt = 0 ∧ ((sg).toInt ≠ 0 → (sa).toInt + 1 ≤ (y_12).toInt))) ∧ ((x_8).toInt = 0 → (y_14).toInt ≠ 0))) ∧ (((x_8).toInt = 1 → (t_ix tb tn (y_12 : Int32).toNatClampNeg) = (t_ix tb tn (sa : Int32).toNatClampNeg) + 1) ∧ ((fk).toInt = 0 → ((0 : Int32)).toInt = 0 → (x_8).toInt = 1)) := w_9_1
      obtain ⟨⟨⟨w_9_1_0, w_9_1_1, w_9_1_2⟩, w_9_1_3, w_9_1_4, ⟨w_9_1_5, w_9_1_6⟩⟩, ⟨w_9_1_7, w_9_1_8⟩⟩ := w_9_1
      have b_y_11 : 0 ≤ (y_11).toInt ∧ (y_11).toInt ≤ 3 := dg_I.intb (lo := 0) (hi := 3) I_9 sM_0 (by decide +kernel) f_y_11
      have b_y_12 : 0 ≤ (y_12).toInt ∧ (y_12).toInt ≤ 1600 := dg_I.intb (lo := 0) (hi := 1600) I_9 sM_0 (by decide +kernel) f_y_12
      have b_y_13 : 0 ≤ (y_13).toInt ∧ (y_13).toInt ≤ 1600 := dg_I.intb (lo := 0) (hi := 1600) I_9 sM_0 (by decide +kernel) f_y_13
      have b_y_14 : 0 ≤ (y_14).toInt ∧ (y_14).toInt ≤ 6 := dg_I.intb (lo := 0) (hi := 6) I_9 sM_0 (by decide +kernel) f_y_14
      refine lv_if_ne (tgt := 32) hx hb dX12_reading_28 (dk_dq rfl) (fun c_15 => ?_) (fun c_15 => ?_)
      · as_aux_lemma =>
          have jc_15 := dk_neqc (k := 0) (by decide +kernel) c_15
          have jbc_15 : 1 ≤ (x_8).toInt := by omega
          clear jc_15
          have w_9_1_5r := w_9_1_5 (by omega)
          clear w_9_1_5
          clear w_9_1_6
          have w_9_1_7r := w_9_1_7 (by omega)
          clear w_9_1_7
          obtain ⟨w_9_1_5r_0, w_9_1_5r_1, w_9_1_5r_2, w_9_1_5r_3⟩ := w_9_1_5r
          clear w_9_1_4
          have w_9_1_8r := w_9_1_8 (by omega)
          clear w_9_1_8
          have w_9_1_5r_3r := w_9_1_5r_3 (by omega)
          clear w_9_1_5r_3
          refine lv_aload_n hx hb dX12_reading_32 rfl (lv_at hl 1 rfl) ?_
          refine lv_iload_n hx hb dX12_reading_33 rfl (lv_at hl 2 rfl) ?_
          refine dg_put (ci := 12) (v := .int a1) (ty := tyX12 36) (C := RX12) (T := TX12) (N := 77) hx hb hts (fun w h => bw_mem (wU_X12 w h)) tyX12 tyX12_ok nmX12 hown K hP hS hA1 sM_0 rfl 36 (dk_dq rfl) (hts _ (bw_mem wB_434)) (fun _ h9 => h9) rfl (by decide +kernel) rfl rfl dX12_reading_34 (fun S_16 e_16 H locs hP hS => ?_)
          have I_16 := dg_I.uFi (lo := 0) (hi := 2) I_9 e_16 sM_0 (by decide +kernel) (show 0 ≤ (a1).toInt ∧ (a1).toInt ≤ 2 from (by omega))
          have M_16 := dg_sm.uF M_9 e_16 sM_0 (dk_dq rfl)
          refine lv_aload_n hx hb dX12_reading_37 rfl (lv_at hl 1 rfl) ?_
          refine dg_get (C := RX12) (T := TX12) (N := 77) hx hb hts (fun w h => bw_mem (wU_X12 w h)) hown K hP sM_0 rfl 28 (dk_dq rfl) (hts _ (bw_mem wB_449)) (fun _ h9 => h9) (v := .ref (o + 16)) (show S_16.1 0 28 = .ref (o + 16) from dg_I.rel (d := 16) I_16 sM_0 (by decide +kernel)) dX12_reading_38 ?_
          refine lv_iload_n hx hb dX12_reading_41 rfl (lv_at hl 0 rfl) ?_
          refine lv_aload_n hx hb dX12_reading_42 rfl (lv_at hl 1 rfl) ?_
          refine dg_get (C := RX12) (T := TX12) (N := 77) hx hb hts (fun w h => bw_mem (wU_X12 w h)) hown K hP sM_0 rfl 34 (dk_dq rfl) (hts _ (bw_mem wB_402)) (fun _ h9 => h9) (v := .int cd) (((dg_uF_ne e_16 (fun z => absurd z.2 (dk_dq rfl))).trans (m_9.1 0 34 _ sM_0 (dk_dq rfl))).trans f_cd) dX12_reading_43 ?_
          have hin_17 : vp_in x_3 6 := (dk_inv2 (by omega))
          refine dg_iast hx hb K hP hS hA1 sM_16 hin_17 dX12_reading_46 (fun S_18 e_18 H locs hP hS => ?_)
          have I_18 := dg_I.ufu (lo := (-1)) (hi := 1600) I_16 e_18 sM_16 (by decide +kernel) (show (-1) ≤ (cd).toInt ∧ (cd).toInt ≤ 1600 from (by omega))
          have M_18 := dg_sm.uf M_16 e_18 sM_16 (dk_dq rfl)
          have ZW_18 : ZWM S_18 := ZWM.up1 (r := 16) (ZWM.keep (ZWM.keep ZW m_9 (dk_dq rfl) (dk_dq rfl) (dk_dq rfl) (dk_dq rfl)) (dg_sm.uF (WF := [(0, 36)]) (WA := []) dg_sm.rf e_16 sM_0 (dk_dq rfl)) (dk_dq rfl) (dk_dq rfl) (dk_dq rfl) (dk_dq rfl)) (dk_dq rfl) (((dg_uF_ne e_16 (fun z => absurd z.2 (dk_dq rfl))).trans (m_9.1 0 13 _ sM_0 (dk_dq rfl))).trans f_x_1) (by omega) e_18 (by omega)
          have Q_18 : QSM S_18 0 := ZVM.begins (ZVM.keep ZV m_9 (dk_dq rfl) (dk_dq rfl) (dk_dq rfl) (dk_dq rfl) (dk_dq rfl)) ((m_9.1 0 35 _ sM_0 (dk_dq rfl)).trans f_ii) ((m_9.1 0 34 _ sM_0 (dk_dq rfl)).trans f_cd) (by omega) (by omega) (by omega) e_16 (by omega) e_18
          have GB_18 := GBM.st (GBM.keep (GBM.keep GB m_9 (dk_dq rfl) (dk_dq rfl) (dk_dq rfl)) (dg_sm.uF (WF := [(0, 36)]) (WA := []) dg_sm.rf e_16 sM_0 (dk_dq rfl)) (dk_dq rfl) (dk_dq rfl) (dk_dq rfl)) (ZKM.keep (ZKM.keep ZK m_9 (dk_dq rfl) (dk_dq rfl)) (dg_sm.uF (WF := [(0, 36)]) (WA := []) dg_sm.rf e_16 sM_0 (dk_dq rfl)) (dk_dq rfl) (dk_dq rfl)) (((dg_uF_ne e_16 (fun z => absurd z.2 (dk_dq rfl))).trans (m_9.1 0 35 _ sM_0 (dk_dq rfl))).trans f_ii) 3 rfl (wi := 3) rfl e_18 (by omega) (by omega)
          refine lv_aload_n hx hb dX12_reading_47 rfl (lv_at hl 1 rfl) ?_
          refine lv_iload_n hx hb dX12_reading_48 rfl (lv_at hl 2 rfl) ?_
          refine lv_iconst (v := 1) hx hb dX12_reading_49 (by decide +kernel) ?_
          refine lv_icmp_ne (tgt := 57) hx hb dX12_reading_50 (dk_dq rfl) (fun c_19 => ?_) (fun c_19 => ?_)
          · as_aux_lemma =>
              have jc_19 := dk_neqc (k := 1) (by decide +kernel) c_19
              refine lv_iconst (v := 0) hx hb dX12_reading_57 (by decide +kernel) ?_
              have hz_20 : (0 : Int32).toInt = 0 := by decide +kernel
              refine dg_callv hS hA1 hA (va_runV (As := [.int 0]) (rest := []) F (c_m_reads l g D o S_18 0 (by decide +kernel) tb tn S0 y_11 (((dg_uf_F e_18 0 3).trans (dg_uF_ne e_16 (fun z => absurd z.2 (dk_dq rfl)))).trans f_y_11) (by omega) y_12 (((dg_uf_F e_18 0 4).trans (dg_uF_ne e_16 (fun z => absurd z.2 (dk_dq rfl)))).trans f_y_12) (by omega) y_13 (((dg_uf_F e_18 0 5).trans (dg_uF_ne e_16 (fun z => absurd z.2 (dk_dq rfl)))).trans f_y_13) (by omega) sl (((dg_uf_F e_18 0 2).trans ((dg_uF_ne e_16 (fun z => absurd z.2 (dk_dq rfl))).trans (m_9.1 0 2 _ sM_0 (dk_dq rfl)))).trans f_sl) (by omega) y_14 (((dg_uf_F e_18 0 8).trans (dg_uF_ne e_16 (fun z => absurd z.2 (dk_dq rfl)))).trans f_y_14) (by omega) cd (((dg_uf_F e_18 0 34).trans ((dg_uF_ne e_16 (fun z => absurd z.2 (dk_dq rfl))).trans (m_9.1 0 34 _ sM_0 (dk_dq rfl)))).trans f_cd) (by omega) a1 ((dg_uf_F e_18 0 36).trans (dg_uF_at e_16)) (by omega) (by omega) (by omega) (by omega) (by omega) (TKM.keep (TKM.keep w_9_2 (dg_sm.uF (WF := [(0, 36)]) (WA := []) dg_sm.rf e_16 sM_0 (dk_dq rfl)) (dk_dq rfl) (dk_dq rfl) (dk_dq rfl) (dk_dq rfl) (dk_dq rfl) (dk_dq rfl) (dk_dq rfl) (dk_dq rfl)) (dg_sm.uf (WF := []) (WA := [16]) dg_sm.rf e_18 sM_16 (dk_dq rfl)) (dk_dq rfl) (dk_dq rfl) (dk_dq rfl) (dk_dq rfl) (dk_dq rfl) (dk_dq rfl) (dk_dq rfl) (dk_dq rfl)) ZW_18 (ZKM.keep (ZKM.keep (ZKM.keep ZK m_9 (dk_dq rfl) (dk_dq rfl)) (dg_sm.uF (WF := [(0, 36)]) (WA := []) dg_sm.rf e_16 sM_0 (dk_dq rfl)) (dk_dq rfl) (dk_dq rfl)) (dg_sm.uf (WF := []) (WA := [16]) dg_sm.rf e_18 sM_16 (dk_dq rfl)) (dk_dq rfl) (dk_dq rfl)) (G8M.keep (G8M.keep (G8M.keep G8 m_9 (dk_dq rfl) (dk_dq rfl) (dk_dq rfl)) (dg_sm.uF (WF := [(0, 36)]) (WA := []) dg_sm.rf e_16 sM_0 (dk_dq rfl)) (dk_dq rfl) (dk_dq rfl) (dk_dq rfl)) (dg_sm.uf (WF := []) (WA := [16]) dg_sm.rf e_18 sM_16 (dk_dq rfl)) (dk_dq rfl) (dk_dq rfl) (dk_dq rfl)) I_18 H.size) (cwV 1 hts (bw_V wB_451 wB_452 wB_453 wB_297 wB_450) rfl rfl rfl (by decide +kernel) ⟨Nat.le_of_ble_eq_true rfl, Nat.le_of_ble_eq_true rfl⟩) (dg_preV sM_0 rfl K ST hP hS hA1 hA) rfl rfl hl.1 rfl (lv_room (Nat.le_of_ble_eq_true rfl)) dX12_reading_58 ⟨Nat.le_of_ble_eq_true rfl, Nat.le_of_ble_eq_true rfl⟩) (fun S_21 hw_21 H locs hP hS => ?_)
              obtain ⟨I_21, m_21, w_21_0, w_21_1, w_21_2, w_21_3, w_21_4, w_21_5, w_21_6, -⟩ := hw_21
              have M_21 := dg_sm.tr M_18 m_21 (dk_dq rfl) (dk_dq rfl)
              have hz_22 : (0 : Int32).toInt = 0 := by decide +kernel
              obtain ⟨y_23, y_24, y_25, y_26, y_27, f_y_23, f_y_24, f_y_25, f_y_26, f_y_27, w_21_0⟩ := w_21_0
              have w_21_0 : ((y_24).toInt ≤ (y_25).toInt ∧ (y_25).toInt ≤ (sl).toInt ∧ ((y_23).toInt ≠ 0 → (y_24).toInt + 1 ≤ (y_25).toInt)) ∧ (y_12).toInt ≤ (y_24).toInt ∧ ((y_14).toInt ≠ 0 → (y_26).toInt ≠ 0) ∧ ((y_26).toInt = 0 → (y_27).toInt ≤ (y_24).toInt) := w_21_0
              obtain ⟨⟨w_21_0_0, w_21_0_1, w_21_0_2⟩, w_21_0_3, w_21_0_4, w_21_0_5⟩ := w_21_0
              clear w_9_1_2
              clear w_21_0_4
              have b_y_23 : 0 ≤ (y_23).toInt ∧ (y_23).toInt ≤ 3 := dg_I.intb (lo := 0) (hi := 3) I_21 sM_0 (by decide +kernel) f_y_23
              have b_y_24 : 0 ≤ (y_24).toInt ∧ (y_24).toInt ≤ 1600 := dg_I.intb (lo := 0) (hi := 1600) I_21 sM_0 (by decide +kernel) f_y_24
              have b_y_25 : 0 ≤ (y_25).toInt ∧ (y_25).toInt ≤ 1600 := dg_I.intb (lo := 0) (hi := 1600) I_21 sM_0 (by decide +kernel) f_y_25
              have b_y_26 : 0 ≤ (y_26).toInt ∧ (y_26).toInt ≤ 6 := dg_I.intb (lo := 0) (hi := 6) I_21 sM_0 (by decide +kernel) f_y_26
              have b_y_27 : 0 ≤ (y_27).toInt ∧ (y_27).toInt ≤ 1600 := dg_I.intb (lo := 0) (hi := 1600) I_21 sM_0 (by decide +kernel) f_y_27
              replace w_21_1 : ∀ k9 : Int32, S_21.1 0 8 = .int k9 → k9.toInt = 0 → QEM S_21 := w_21_1
              replace w_21_2 : ROK tb tn y_14 (y_rule (T_kd tb tn) (T_vl tb tn) (a1).toInt (t_ix tb tn (y_12 : Int32).toNatClampNeg)) S_21 := w_21_2
              replace w_21_3 : m_hid ((y_14).toInt = 0 → ∀ k9 : Int32, S_21.1 0 8 = .int k9 → k9.toInt = 0 → q_am S_18 S_21 (d_rule (T_kd tb tn) (T_vl tb tn) (a1).toInt (t_ix tb tn (y_12 : Int32).toNatClampNeg))) := w_21_3
              refine lv_aload_n hx hb dX12_reading_61 rfl (lv_at hl 1 rfl) ?_
              refine dg_get (C := RX12) (T := TX12) (N := 77) hx hb hts (fun w h => bw_mem (wU_X12 w h)) hown K hP sM_0 rfl 29 (dk_dq rfl) (hts _ (bw_mem wB_454)) (fun _ h9 => h9) (v := .ref (o + 17)) (show S_21.1 0 29 = .ref (o + 17) from dg_I.rel (d := 17) I_21 sM_0 (by decide +kernel)) dX12_reading_62 ?_
              refine lv_iload_n hx hb dX12_reading_65 rfl (lv_at hl 0 rfl) ?_
              refine lv_aload_n hx hb dX12_reading_66 rfl (lv_at hl 1 rfl) ?_
              refine dg_get (C := RX12) (T := TX12) (N := 77) hx hb hts (fun w h => bw_mem (wU_X12 w h)) hown K hP sM_0 rfl 34 (dk_dq rfl) (hts _ (bw_mem wB_402)) (fun _ h9 => h9) (v := .int y_27) f_y_27 dX12_reading_67 ?_
              have hin_28 : vp_in x_3 6 := (dk_inv2 (by omega))
              refine dg_iast hx hb K hP hS hA1 sM_17 hin_28 dX12_reading_70 (fun S_29 e_29 H locs hP hS => ?_)
              have I_29 := dg_I.ufu (lo := 0) (hi := 1600) I_21 e_29 sM_17 (by decide +kernel) (show 0 ≤ (y_27).toInt ∧ (y_27).toInt ≤ 1600 from (by omega))
              have M_29 := dg_sm.uf M_21 e_29 sM_17 (dk_dq rfl)
              have ZW_29 : ZWM S_29 := ZWM.up1 (r := 17) w_21_5 (dk_dq rfl) (((m_21.1 0 13 _ sM_0 (dk_dq rfl)).trans ((dg_uf_F e_18 0 13).trans ((dg_uF_ne e_16 (fun z => absurd z.2 (dk_dq rfl))).trans (m_9.1 0 13 _ sM_0 (dk_dq rfl))))).trans f_x_1) (by omega) e_29 (by omega)
              have GB_29 := GBM.st (GBM.keep GB_18 m_21 (dk_dq rfl) (dk_dq rfl) (dk_dq rfl)) (ZKM.keep (ZKM.keep (ZKM.keep (ZKM.keep ZK m_9 (dk_dq rfl) (dk_dq rfl)) (dg_sm.uF (WF := [(0, 36)]) (WA := []) dg_sm.rf e_16 sM_0 (dk_dq rfl)) (dk_dq rfl) (dk_dq rfl)) (dg_sm.uf (WF := []) (WA := [16]) dg_sm.rf e_18 sM_16 (dk_dq rfl)) (dk_dq rfl) (dk_dq rfl)) m_21 (dk_dq rfl) (dk_dq rfl)) (((m_21.1 0 35 _ sM_0 (dk_dq rfl)).trans ((dg_uf_F e_18 0 35).trans ((dg_uF_ne e_16 (fun z => absurd z.2 (dk_dq rfl))).trans (m_9.1 0 35 _ sM_0 (dk_dq rfl))))).trans f_ii) 3 rfl (wi := 3) rfl e_29 (by omega) (by omega)
              refine W.widen (k := 0) (n := 0) (Nat.le_of_ble_eq_true rfl) (Nat.le_of_ble_eq_true rfl) ?_
              rw [hQ9]
              exact dg_vret hx hb hr hlocks hP hS ⟨I_29, M_29, ⟨y_23, y_24, y_25, y_26, y_27, ((dg_uf_F e_29 0 3).trans f_y_23), ((dg_uf_F e_29 0 4).trans f_y_24), ((dg_uf_F e_29 0 5).trans f_y_25), ((dg_uf_F e_29 0 8).trans f_y_26), ((dg_uf_F e_29 0 34).trans f_y_27), (by omega)⟩, (fun k9 hk9 hk0 => by have q9 := (((dg_uf_F e_29 0 8).trans f_y_26)).symm.trans hk9; cases q9; obtain ⟨x9, hx9⟩ := w_21_1 _ f_y_26 hk0; exact QSM.ends hx9 (((m_21.1 0 35 _ sM_0 (dk_dq rfl)).trans ((dg_uf_F e_18 0 35).trans ((dg_uF_ne e_16 (fun z => absurd z.2 (dk_dq rfl))).trans (m_9.1 0 35 _ sM_0 (dk_dq rfl))))).trans f_ii) (((m_21.1 0 36 _ sM_0 (dk_dq rfl)).trans (dg_uf_F e_18 0 36)).trans (dg_uF_at e_16)) f_y_27 (by omega) (by omega) e_29), (ROK.sok (fk := fk) (S2 := S_21) (E := y_rule (T_kd tb tn) (T_vl tb tn) (a1).toInt ((t_ix tb tn (sa : Int32).toNatClampNeg) + 1)) (by have h9 := w_21_2; rw [show (t_ix tb tn (y_12 : Int32).toNatClampNeg) = ((t_ix tb tn (sa : Int32).toNatClampNeg) + 1) from by omega, show (a1).toInt = (a1).toInt from by omega] at h9; exact h9) (by omega) f_y_26 f_y_24 ((dg_uf_F e_29 0 8).trans f_y_26) ((dg_uf_F e_29 0 4).trans f_y_24) (P := GSq sg9.2.2.2.2 (a1).toInt = true) (fun q9 => absurd (htl.mp q9) (by omega)) (fun q8 => (GSM.keep (GSM.keep (GSM.c16 (GSM.keep (GSM.keep GS m_9 (dk_dq rfl) (dk_dq rfl) (dk_dq rfl) (dk_dq rfl) (dk_dq rfl) (dk_dq rfl) (dk_dq rfl) (dk_dq rfl) (dk_dq rfl)) (dg_sm.uF (WF := [(0, 36)]) (WA := []) dg_sm.rf e_16 sM_0 (dk_dq rfl)) (dk_dq rfl) (dk_dq rfl) (dk_dq rfl) (dk_dq rfl) (dk_dq rfl) (dk_dq rfl) (dk_dq rfl) (dk_dq rfl) (dk_dq rfl)) (((dg_uF_ne e_16 (fun z => absurd z.2 (dk_dq rfl))).trans (m_9.1 0 35 _ sM_0 (dk_dq rfl))).trans f_ii) e_18 (w := a1) (by omega) (by omega) (by omega)) m_21 (dk_dq rfl) (dk_dq rfl) (dk_dq rfl) (dk_dq rfl) (dk_dq rfl) (dk_dq rfl) (dk_dq rfl) (dk_dq rfl) (dk_dq rfl)) (dg_sm.uf (WF := []) (WA := [17]) dg_sm.rf e_29 sM_17 (dk_dq rfl)) (dk_dq rfl) (dk_dq rfl) (dk_dq rfl) (dk_dq rfl) (dk_dq rfl) (dk_dq rfl) (dk_dq rfl) (dk_dq rfl) (dk_dq rfl))) rfl), (m_hid.mk (fun h0 f9 q9 q8 => by have q7 := (((dg_uf_F e_29 0 8).trans f_y_26)).symm.trans q9; cases q7; have g9 := (q_am.mv (q_am.fs (w_21_3.out (by omega) _ f_y_26 (by omega)) ((dg_uf_F e_18 0 34).trans ((dg_uF_ne e_16 (fun z => absurd z.2 (dk_dq rfl))).trans (m_9.1 0 34 _ sM_0 (dk_dq rfl)))) ((dg_uf_F e_18 0 35).trans ((dg_uF_ne e_16 (fun z => absurd z.2 (dk_dq rfl))).trans (m_9.1 0 35 _ sM_0 (dk_dq rfl)))) ((dg_uf_ne e_18 (dk_dq rfl)).trans ((dg_uF_f e_16 18).trans (m_9.2 18 _ sM_18 (dk_dq rfl)).1)) ((dg_uf_ne e_18 (dk_dq rfl)).trans ((dg_uF_f e_16 19).trans (m_9.2 19 _ sM_19 (dk_dq rfl)).1))) (dg_uf_F e_29 0 34) (dg_uf_F e_29 0 35) (dg_uf_ne e_29 (dk_dq rfl)) (dg_uf_ne e_29 (dk_dq rfl))); rw [show (a1).toInt = (a1).toInt from by omega, show (t_ix tb tn (y_12 : Int32).toNatClampNeg) = (t_ix tb tn (sa : Int32).toNatClampNeg) + 1 from by omega] at g9; exact ⟨_, _, (x_3 : Int32).toNatClampNeg, (x_3 : Int32).toNatClampNeg, g9, f_cd, ((dg_uf_F e_29 0 34).trans f_y_27), by have h8 := dk_clN x_3; have h7 := dk_clN ii; have h6 := dk_clN a1; omega, by have h8 := dk_clN x_3; have h7 := dk_clN ii; have h6 := dk_clN a1; omega, by rw [((dg_uf_ne e_29 (dk_dq rfl)).trans (m_21.2 16 _ sM_16 (dk_dq rfl)).1), dg_uf_at e_18, ((dg_uF_f e_16 16).trans (m_9.2 16 _ sM_16 (dk_dq rfl)).1)], by rw [dg_uf_at e_29, ((m_21.2 17 _ sM_17 (dk_dq rfl)).1.trans ((dg_uf_ne e_18 (dk_dq rfl)).trans ((dg_uF_f e_16 17).trans (m_9.2 17 _ sM_17 (dk_dq rfl)).1)))]⟩)), (TKM.keep w_21_4 (dg_sm.uf (WF := []) (WA := [17]) dg_sm.rf e_29 sM_17 (dk_dq rfl)) (dk_dq rfl) (dk_dq rfl) (dk_dq rfl) (dk_dq rfl) (dk_dq rfl) (dk_dq rfl) (dk_dq rfl) (dk_dq rfl)), ZW_29, GB_29, (G8M.keep w_21_6 (dg_sm.uf (WF := []) (WA := [17]) dg_sm.rf e_29 sM_17 (dk_dq rfl)) (dk_dq rfl) (dk_dq rfl) (dk_dq rfl)), trivial⟩ dX12_reading_71
          · as_aux_lemma =>
              have jc_19 := dk_eqc (k := 1) (by decide +kernel) c_19
              refine lv_iconst (v := 1) hx hb dX12_reading_53 (by decide +kernel) ?_
              refine lv_goto (tgt := 58) hx hb dX12_reading_54 (dk_dq rfl) ?_
              have hz_30 : (1 : Int32).toInt = 1 := by decide +kernel
              refine dg_callv hS hA1 hA (va_runV (As := [.int 1]) (rest := []) F (c_m_reads l g D o S_18 1 (by decide +kernel) tb tn S0 y_11 (((dg_uf_F e_18 0 3).trans (dg_uF_ne e_16 (fun z => absurd z.2 (dk_dq rfl)))).trans f_y_11) (by omega) y_12 (((dg_uf_F e_18 0 4).trans (dg_uF_ne e_16 (fun z => absurd z.2 (dk_dq rfl)))).trans f_y_12) (by omega) y_13 (((dg_uf_F e_18 0 5).trans (dg_uF_ne e_16 (fun z => absurd z.2 (dk_dq rfl)))).trans f_y_13) (by omega) sl (((dg_uf_F e_18 0 2).trans ((dg_uF_ne e_16 (fun z => absurd z.2 (dk_dq rfl))).trans (m_9.1 0 2 _ sM_0 (dk_dq rfl)))).trans f_sl) (by omega) y_14 (((dg_uf_F e_18 0 8).trans (dg_uF_ne e_16 (fun z => absurd z.2 (dk_dq rfl)))).trans f_y_14) (by omega) cd (((dg_uf_F e_18 0 34).trans ((dg_uF_ne e_16 (fun z => absurd z.2 (dk_dq rfl))).trans (m_9.1 0 34 _ sM_0 (dk_dq rfl)))).trans f_cd) (by omega) a1 ((dg_uf_F e_18 0 36).trans (dg_uF_at e_16)) (by omega) (by omega) (by omega) (by omega) (by omega) (TKM.keep (TKM.keep w_9_2 (dg_sm.uF (WF := [(0, 36)]) (WA := []) dg_sm.rf e_16 sM_0 (dk_dq rfl)) (dk_dq rfl) (dk_dq rfl) (dk_dq rfl) (dk_dq rfl) (dk_dq rfl) (dk_dq rfl) (dk_dq rfl) (dk_dq rfl)) (dg_sm.uf (WF := []) (WA := [16]) dg_sm.rf e_18 sM_16 (dk_dq rfl)) (dk_dq rfl) (dk_dq rfl) (dk_dq rfl) (dk_dq rfl) (dk_dq rfl) (dk_dq rfl) (dk_dq rfl) (dk_dq rfl)) ZW_18 (ZKM.keep (ZKM.keep (ZKM.keep ZK m_9 (dk_dq rfl) (dk_dq rfl)) (dg_sm.uF (WF := [(0, 36)]) (WA := []) dg_sm.rf e_16 sM_0 (dk_dq rfl)) (dk_dq rfl) (dk_dq rfl)) (dg_sm.uf (WF := []) (WA := [16]) dg_sm.rf e_18 sM_16 (dk_dq rfl)) (dk_dq rfl) (dk_dq rfl)) (G8M.keep (G8M.keep (G8M.keep G8 m_9 (dk_dq rfl) (dk_dq rfl) (dk_dq rfl)) (dg_sm.uF (WF := [(0, 36)]) (WA := []) dg_sm.rf e_16 sM_0 (dk_dq rfl)) (dk_dq rfl) (dk_dq rfl) (dk_dq rfl)) (dg_sm.uf (WF := []) (WA := [16]) dg_sm.rf e_18 sM_16 (dk_dq rfl)) (dk_dq rfl) (dk_dq rfl) (dk_dq rfl)) I_18 H.size) (cwV 1 hts (bw_V wB_451 wB_452 wB_453 wB_297 wB_450) rfl rfl rfl (by decide +kernel) ⟨Nat.le_of_ble_eq_true rfl, Nat.le_of_ble_eq_true rfl⟩) (dg_preV sM_0 rfl K ST hP hS hA1 hA) rfl rfl hl.1 rfl (lv_room (Nat.le_of_ble_eq_true rfl)) dX12_reading_58 ⟨Nat.le_of_ble_eq_true rfl, Nat.le_of_ble_eq_true rfl⟩) (fun S_31 hw_31 H locs hP hS => ?_)
              obtain ⟨I_31, m_31, w_31_0, w_31_1, w_31_2, w_31_3, w_31_4, w_31_5, w_31_6, -⟩ := hw_31
              have M_31 := dg_sm.tr M_18 m_31 (dk_dq rfl) (dk_dq rfl)
              have hz_32 : (1 : Int32).toInt = 1 := by decide +kernel
              obtain ⟨y_33, y_34, y_35, y_36, y_37, f_y_33, f_y_34, f_y_35, f_y_36, f_y_37, w_31_0⟩ := w_31_0
              have w_31_0 : ((y_34).toInt ≤ (y_35).toInt ∧ (y_35).toInt ≤ (sl).toInt ∧ ((y_33).toInt ≠ 0 → (y_34).toInt + 1 ≤ (y_35).toInt)) ∧ (y_12).toInt ≤ (y_34).toInt ∧ ((y_14).toInt ≠ 0 → (y_36).toInt ≠ 0) ∧ ((y_36).toInt = 0 → (y_37).toInt ≤ (y_34).toInt) := w_31_0
              obtain ⟨⟨w_31_0_0, w_31_0_1, w_31_0_2⟩, w_31_0_3, w_31_0_4, w_31_0_5⟩ := w_31_0
              clear w_9_1_2
              clear w_31_0_4
              have b_y_33 : 0 ≤ (y_33).toInt ∧ (y_33).toInt ≤ 3 := dg_I.intb (lo := 0) (hi := 3) I_31 sM_0 (by decide +kernel) f_y_33
              have b_y_34 : 0 ≤ (y_34).toInt ∧ (y_34).toInt ≤ 1600 := dg_I.intb (lo := 0) (hi := 1600) I_31 sM_0 (by decide +kernel) f_y_34
              have b_y_35 : 0 ≤ (y_35).toInt ∧ (y_35).toInt ≤ 1600 := dg_I.intb (lo := 0) (hi := 1600) I_31 sM_0 (by decide +kernel) f_y_35
              have b_y_36 : 0 ≤ (y_36).toInt ∧ (y_36).toInt ≤ 6 := dg_I.intb (lo := 0) (hi := 6) I_31 sM_0 (by decide +kernel) f_y_36
              have b_y_37 : 0 ≤ (y_37).toInt ∧ (y_37).toInt ≤ 1600 := dg_I.intb (lo := 0) (hi := 1600) I_31 sM_0 (by decide +kernel) f_y_37
              replace w_31_1 : ∀ k9 : Int32, S_31.1 0 8 = .int k9 → k9.toInt = 0 → QEM S_31 := w_31_1
              replace w_31_2 : ROK tb tn y_14 (y_rule (T_kd tb tn) (T_vl tb tn) (a1).toInt (t_ix tb tn (y_12 : Int32).toNatClampNeg)) S_31 := w_31_2
              replace w_31_3 : m_hid ((y_14).toInt = 0 → ∀ k9 : Int32, S_31.1 0 8 = .int k9 → k9.toInt = 0 → q_am S_18 S_31 (d_rule (T_kd tb tn) (T_vl tb tn) (a1).toInt (t_ix tb tn (y_12 : Int32).toNatClampNeg))) := w_31_3
              refine lv_aload_n hx hb dX12_reading_61 rfl (lv_at hl 1 rfl) ?_
              refine dg_get (C := RX12) (T := TX12) (N := 77) hx hb hts (fun w h => bw_mem (wU_X12 w h)) hown K hP sM_0 rfl 29 (dk_dq rfl) (hts _ (bw_mem wB_454)) (fun _ h9 => h9) (v := .ref (o + 17)) (show S_31.1 0 29 = .ref (o + 17) from dg_I.rel (d := 17) I_31 sM_0 (by decide +kernel)) dX12_reading_62 ?_
              refine lv_iload_n hx hb dX12_reading_65 rfl (lv_at hl 0 rfl) ?_
              refine lv_aload_n hx hb dX12_reading_66 rfl (lv_at hl 1 rfl) ?_
              refine dg_get (C := RX12) (T := TX12) (N := 77) hx hb hts (fun w h => bw_mem (wU_X12 w h)) hown K hP sM_0 rfl 34 (dk_dq rfl) (hts _ (bw_mem wB_402)) (fun _ h9 => h9) (v := .int y_37) f_y_37 dX12_reading_67 ?_
              have hin_38 : vp_in x_3 6 := (dk_inv2 (by omega))
              refine dg_iast hx hb K hP hS hA1 sM_17 hin_38 dX12_reading_70 (fun S_39 e_39 H locs hP hS => ?_)
              have I_39 := dg_I.ufu (lo := 0) (hi := 1600) I_31 e_39 sM_17 (by decide +kernel) (show 0 ≤ (y_37).toInt ∧ (y_37).toInt ≤ 1600 from (by omega))
              have M_39 := dg_sm.uf M_31 e_39 sM_17 (dk_dq rfl)
              have ZW_39 : ZWM S_39 := ZWM.up1 (r := 17) w_31_5 (dk_dq rfl) (((m_31.1 0 13 _ sM_0 (dk_dq rfl)).trans ((dg_uf_F e_18 0 13).trans ((dg_uF_ne e_16 (fun z => absurd z.2 (dk_dq rfl))).trans (m_9.1 0 13 _ sM_0 (dk_dq rfl))))).trans f_x_1) (by omega) e_39 (by omega)
              have GB_39 := GBM.st (GBM.keep GB_18 m_31 (dk_dq rfl) (dk_dq rfl) (dk_dq rfl)) (ZKM.keep (ZKM.keep (ZKM.keep (ZKM.keep ZK m_9 (dk_dq rfl) (dk_dq rfl)) (dg_sm.uF (WF := [(0, 36)]) (WA := []) dg_sm.rf e_16 sM_0 (dk_dq rfl)) (dk_dq rfl) (dk_dq rfl)) (dg_sm.uf (WF := []) (WA := [16]) dg_sm.rf e_18 sM_16 (dk_dq rfl)) (dk_dq rfl) (dk_dq rfl)) m_31 (dk_dq rfl) (dk_dq rfl)) (((m_31.1 0 35 _ sM_0 (dk_dq rfl)).trans ((dg_uf_F e_18 0 35).trans ((dg_uF_ne e_16 (fun z => absurd z.2 (dk_dq rfl))).trans (m_9.1 0 35 _ sM_0 (dk_dq rfl))))).trans f_ii) 3 rfl (wi := 3) rfl e_39 (by omega) (by omega)
              refine W.widen (k := 0) (n := 0) (Nat.le_of_ble_eq_true rfl) (Nat.le_of_ble_eq_true rfl) ?_
              rw [hQ9]
              exact dg_vret hx hb hr hlocks hP hS ⟨I_39, M_39, ⟨y_33, y_34, y_35, y_36, y_37, ((dg_uf_F e_39 0 3).trans f_y_33), ((dg_uf_F e_39 0 4).trans f_y_34), ((dg_uf_F e_39 0 5).trans f_y_35), ((dg_uf_F e_39 0 8).trans f_y_36), ((dg_uf_F e_39 0 34).trans f_y_37), (by omega)⟩, (fun k9 hk9 hk0 => by have q9 := (((dg_uf_F e_39 0 8).trans f_y_36)).symm.trans hk9; cases q9; obtain ⟨x9, hx9⟩ := w_31_1 _ f_y_36 hk0; exact QSM.ends hx9 (((m_31.1 0 35 _ sM_0 (dk_dq rfl)).trans ((dg_uf_F e_18 0 35).trans ((dg_uF_ne e_16 (fun z => absurd z.2 (dk_dq rfl))).trans (m_9.1 0 35 _ sM_0 (dk_dq rfl))))).trans f_ii) (((m_31.1 0 36 _ sM_0 (dk_dq rfl)).trans (dg_uf_F e_18 0 36)).trans (dg_uF_at e_16)) f_y_37 (by omega) (by omega) e_39), (ROK.sok (fk := fk) (S2 := S_31) (E := y_rule (T_kd tb tn) (T_vl tb tn) (a1).toInt ((t_ix tb tn (sa : Int32).toNatClampNeg) + 1)) (by have h9 := w_31_2; rw [show (t_ix tb tn (y_12 : Int32).toNatClampNeg) = ((t_ix tb tn (sa : Int32).toNatClampNeg) + 1) from by omega, show (a1).toInt = (a1).toInt from by omega] at h9; exact h9) (by omega) f_y_36 f_y_34 ((dg_uf_F e_39 0 8).trans f_y_36) ((dg_uf_F e_39 0 4).trans f_y_34) (P := GSq sg9.2.2.2.2 (a1).toInt = true) (fun q9 => absurd (htl.mp q9) (by omega)) (fun q8 => (GSM.keep (GSM.keep (GSM.c16 (GSM.keep (GSM.keep GS m_9 (dk_dq rfl) (dk_dq rfl) (dk_dq rfl) (dk_dq rfl) (dk_dq rfl) (dk_dq rfl) (dk_dq rfl) (dk_dq rfl) (dk_dq rfl)) (dg_sm.uF (WF := [(0, 36)]) (WA := []) dg_sm.rf e_16 sM_0 (dk_dq rfl)) (dk_dq rfl) (dk_dq rfl) (dk_dq rfl) (dk_dq rfl) (dk_dq rfl) (dk_dq rfl) (dk_dq rfl) (dk_dq rfl) (dk_dq rfl)) (((dg_uF_ne e_16 (fun z => absurd z.2 (dk_dq rfl))).trans (m_9.1 0 35 _ sM_0 (dk_dq rfl))).trans f_ii) e_18 (w := a1) (by omega) (by omega) (by omega)) m_31 (dk_dq rfl) (dk_dq rfl) (dk_dq rfl) (dk_dq rfl) (dk_dq rfl) (dk_dq rfl) (dk_dq rfl) (dk_dq rfl) (dk_dq rfl)) (dg_sm.uf (WF := []) (WA := [17]) dg_sm.rf e_39 sM_17 (dk_dq rfl)) (dk_dq rfl) (dk_dq rfl) (dk_dq rfl) (dk_dq rfl) (dk_dq rfl) (dk_dq rfl) (dk_dq rfl) (dk_dq rfl) (dk_dq rfl))) rfl), (m_hid.mk (fun h0 f9 q9 q8 => by have q7 := (((dg_uf_F e_39 0 8).trans f_y_36)).symm.trans q9; cases q7; have g9 := (q_am.mv (q_am.fs (w_31_3.out (by omega) _ f_y_36 (by omega)) ((dg_uf_F e_18 0 34).trans ((dg_uF_ne e_16 (fun z => absurd z.2 (dk_dq rfl))).trans (m_9.1 0 34 _ sM_0 (dk_dq rfl)))) ((dg_uf_F e_18 0 35).trans ((dg_uF_ne e_16 (fun z => absurd z.2 (dk_dq rfl))).trans (m_9.1 0 35 _ sM_0 (dk_dq rfl)))) ((dg_uf_ne e_18 (dk_dq rfl)).trans ((dg_uF_f e_16 18).trans (m_9.2 18 _ sM_18 (dk_dq rfl)).1)) ((dg_uf_ne e_18 (dk_dq rfl)).trans ((dg_uF_f e_16 19).trans (m_9.2 19 _ sM_19 (dk_dq rfl)).1))) (dg_uf_F e_39 0 34) (dg_uf_F e_39 0 35) (dg_uf_ne e_39 (dk_dq rfl)) (dg_uf_ne e_39 (dk_dq rfl))); rw [show (a1).toInt = (a1).toInt from by omega, show (t_ix tb tn (y_12 : Int32).toNatClampNeg) = (t_ix tb tn (sa : Int32).toNatClampNeg) + 1 from by omega] at g9; exact ⟨_, _, (x_3 : Int32).toNatClampNeg, (x_3 : Int32).toNatClampNeg, g9, f_cd, ((dg_uf_F e_39 0 34).trans f_y_37), by have h8 := dk_clN x_3; have h7 := dk_clN ii; have h6 := dk_clN a1; omega, by have h8 := dk_clN x_3; have h7 := dk_clN ii; have h6 := dk_clN a1; omega, by rw [((dg_uf_ne e_39 (dk_dq rfl)).trans (m_31.2 16 _ sM_16 (dk_dq rfl)).1), dg_uf_at e_18, ((dg_uF_f e_16 16).trans (m_9.2 16 _ sM_16 (dk_dq rfl)).1)], by rw [dg_uf_at e_39, ((m_31.2 17 _ sM_17 (dk_dq rfl)).1.trans ((dg_uf_ne e_18 (dk_dq rfl)).trans ((dg_uF_f e_16 17).trans (m_9.2 17 _ sM_17 (dk_dq rfl)).1)))]⟩)), (TKM.keep w_31_4 (dg_sm.uf (WF := []) (WA := [17]) dg_sm.rf e_39 sM_17 (dk_dq rfl)) (dk_dq rfl) (dk_dq rfl) (dk_dq rfl) (dk_dq rfl) (dk_dq rfl) (dk_dq rfl) (dk_dq rfl) (dk_dq rfl)), ZW_39, GB_39, (G8M.keep w_31_6 (dg_sm.uf (WF := []) (WA := [17]) dg_sm.rf e_39 sM_17 (dk_dq rfl)) (dk_dq rfl) (dk_dq rfl) (dk_dq rfl)), trivial⟩ dX12_reading_71
      · have jc_15 := dk_eqc (k := 0) (by decide +kernel) c_15
        clear w_9_1_5
        have w_9_1_6r := w_9_1_6 (by omega)
        clear w_9_1_6
        clear w_9_1_7
        have w_9_1_6rb : 1 ≤ (y_14).toInt := by omega
        clear w_9_1_6r
        refine W.widen (k := 0) (n := 0) (Nat.le_of_ble_eq_true rfl) (Nat.le_of_ble_eq_true rfl) ?_
        rw [hQ9]
        exact dg_vret hx hb hr hlocks hP hS ⟨I_9, M_9, ⟨y_11, y_12, y_13, y_14, cd, f_y_11, f_y_12, f_y_13, f_y_14, ((m_9.1 0 34 _ sM_0 (dk_dq rfl)).trans f_cd), (by omega)⟩, (fun k9 hk9 hk0 => by have q9 := (f_y_14).symm.trans hk9; cases q9; omega), (SOK.none (fk := fk) f_y_14 (by omega) (fun h0 => by unfold m_T12; rw [if_pos (htl.mpr (by omega))])), (m_hid.mk (fun h0 f9 q9 q8 => by have q7 := (f_y_14).symm.trans q9; cases q7; exfalso; omega)), w_9_2, (ZWM.keep ZW m_9 (dk_dq rfl) (dk_dq rfl) (dk_dq rfl) (dk_dq rfl)), (GBM.keep GB m_9 (dk_dq rfl) (dk_dq rfl) (dk_dq rfl)), (G8M.keep G8 m_9 (dk_dq rfl) (dk_dq rfl) (dk_dq rfl)), trivial⟩ dX12_reading_31
  · as_aux_lemma =>
      have jc_6 := dk_neqc (k := (-1)) (by decide +kernel) c_6
      have jbc_6 : 0 ≤ (x_5).toInt := by omega
      refine lv_iconst (v := 1) hx hb dX12_reading_20 (by decide +kernel) ?_
      refine lv_goto (tgt := 25) hx hb dX12_reading_21 (dk_dq rfl) ?_
      have hz_40 : (1 : Int32).toInt = 1 := by decide +kernel
      refine dg_calli hS hA1 hA (va_runV (As := [.int 1]) (rest := []) F (c_m_isCounted l g D o S 1 (by decide +kernel) tb tn sg f_sg (by omega) sa f_sa (by omega) se f_se (by omega) sl f_sl (by omega) fk f_fk (by omega) (by omega) (by omega) TK I s.heap.size) (cwV 1 hts (bw_V wB_379 wB_380 wB_381 wB_297 wB_378) rfl rfl rfl (by decide +kernel) ⟨Nat.le_of_ble_eq_true rfl, Nat.le_of_ble_eq_true rfl⟩) (dg_preV sM_0 rfl K ST hP hS hA1 hA) rfl rfl hl.1 rfl (lv_room (Nat.le_of_ble_eq_true rfl)) dX12_reading_25 ⟨Nat.le_of_ble_eq_true rfl, Nat.le_of_ble_eq_true rfl⟩) (fun x_41 S_42 hw_42 H locs hP hS => ?_)
      obtain ⟨I_42, m_42, w_42_0, w_42_1, w_42_2, -⟩ := hw_42
      have M_42 := dg_sm.tr M_0 m_42 (dk_dq rfl) (dk_dq rfl)
      have hz_43 : (1 : Int32).toInt = 1 := by decide +kernel
      have w_42_0 : 0 ≤ (x_41).toInt ∧ (x_41).toInt ≤ 1 := w_42_0
      obtain ⟨y_44, y_45, y_46, y_47, f_y_44, f_y_45, f_y_46, f_y_47, w_42_1⟩ := w_42_1
      have w_42_1 : (((y_45).toInt ≤ (y_46).toInt ∧ (y_46).toInt ≤ (sl).toInt ∧ ((y_44).toInt ≠ 0 → (y_45).toInt + 1 ≤ (y_46).toInt)) ∧ (sa).toInt ≤ (y_45).toInt ∧ ((fk).toInt ≠ 0 → (y_47).toInt ≠ 0) ∧ (((x_41).toInt = 1 → ((y_47).toInt = 0 ∧ (fk).toInt = 0 ∧ ((1 : Int32)).toInt = 0 ∧ ((sg).toInt ≠ 0 → (sa).toInt + 1 ≤ (y_45).toInt))) ∧ ((x_41).toInt = 0 → (y_47).toInt ≠ 0))) ∧ (((x_41).toInt = 1 → (t_ix tb tn (y_45 : Int32).toNatClampNeg) = (t_ix tb tn (sa : Int32).toNatClampNeg) + 1) ∧ ((fk).toInt = 0 → ((1 : Int32)).toInt = 0 → (x_41).toInt = 1)) := w_42_1
      obtain ⟨⟨⟨w_42_1_0, w_42_1_1, w_42_1_2⟩, w_42_1_3, w_42_1_4, ⟨w_42_1_5, w_42_1_6⟩⟩, ⟨w_42_1_7, w_42_1_8⟩⟩ := w_42_1
      have b_y_44 : 0 ≤ (y_44).toInt ∧ (y_44).toInt ≤ 3 := dg_I.intb (lo := 0) (hi := 3) I_42 sM_0 (by decide +kernel) f_y_44
      have b_y_45 : 0 ≤ (y_45).toInt ∧ (y_45).toInt ≤ 1600 := dg_I.intb (lo := 0) (hi := 1600) I_42 sM_0 (by decide +kernel) f_y_45
      have b_y_46 : 0 ≤ (y_46).toInt ∧ (y_46).toInt ≤ 1600 := dg_I.intb (lo := 0) (hi := 1600) I_42 sM_0 (by decide +kernel) f_y_46
      have b_y_47 : 0 ≤ (y_47).toInt ∧ (y_47).toInt ≤ 6 := dg_I.intb (lo := 0) (hi := 6) I_42 sM_0 (by decide +kernel) f_y_47
      refine lv_if_ne (tgt := 32) hx hb dX12_reading_28 (dk_dq rfl) (fun c_48 => ?_) (fun c_48 => ?_)
      · have jc_48 := dk_neqc (k := 0) (by decide +kernel) c_48
        have jbc_48 : 1 ≤ (x_41).toInt := by omega
        clear jc_48
        have w_42_1_5r := w_42_1_5 (by omega)
        clear w_42_1_5
        clear w_42_1_6
        have w_42_1_7r := w_42_1_7 (by omega)
        clear w_42_1_7
        obtain ⟨w_42_1_5r_0, w_42_1_5r_1, w_42_1_5r_2, w_42_1_5r_3⟩ := w_42_1_5r
        clear w_42_1_4
        have w_42_1_8r := w_42_1_8 (by omega)
        clear w_42_1_8
        have w_42_1_5r_3r := w_42_1_5r_3 (by omega)
        clear w_42_1_5r_3
        omega
      · have jc_48 := dk_eqc (k := 0) (by decide +kernel) c_48
        clear w_42_1_5
        have w_42_1_6r := w_42_1_6 (by omega)
        clear w_42_1_6
        clear w_42_1_7
        have w_42_1_6rb : 1 ≤ (y_47).toInt := by omega
        clear w_42_1_6r
        refine W.widen (k := 0) (n := 0) (Nat.le_of_ble_eq_true rfl) (Nat.le_of_ble_eq_true rfl) ?_
        rw [hQ9]
        exact dg_vret hx hb hr hlocks hP hS ⟨I_42, M_42, ⟨y_44, y_45, y_46, y_47, cd, f_y_44, f_y_45, f_y_46, f_y_47, ((m_42.1 0 34 _ sM_0 (dk_dq rfl)).trans f_cd), (by omega)⟩, (fun k9 hk9 hk0 => by have q9 := (f_y_47).symm.trans hk9; cases q9; omega), (SOK.none (fk := fk) f_y_47 (by omega) (fun h0 => by unfold m_T12; rw [if_pos (htl.mpr (by omega))])), (m_hid.mk (fun h0 f9 q9 q8 => by have q7 := (f_y_47).symm.trans q9; cases q7; exfalso; omega)), w_42_2, (ZWM.keep ZW m_42 (dk_dq rfl) (dk_dq rfl) (dk_dq rfl) (dk_dq rfl)), (GBM.keep GB m_42 (dk_dq rfl) (dk_dq rfl) (dk_dq rfl)), (G8M.keep G8 m_42 (dk_dq rfl) (dk_dq rfl) (dk_dq rfl)), trivial⟩ dX12_reading_31
set_option maxHeartbeats 8000000 in
set_option maxRecDepth 100000 in
theorem c_m_statement (l : Launch) (g : Nat → ClassId) (D : va_G) (o : Nat) (S : dg_S) (tb : Nat → Int32) (tn : Nat) (sg9 : y_S) (S0 : dg_S) (sg : Int32) (f_sg : S.1 0 3 = .int sg) (b_sg : 0 ≤ (sg).toInt ∧ (sg).toInt ≤ 3) (sa : Int32) (f_sa : S.1 0 4 = .int sa) (b_sa : 0 ≤ (sa).toInt ∧ (sa).toInt ≤ 1600) (se : Int32) (f_se : S.1 0 5 = .int se) (b_se : 0 ≤ (se).toInt ∧ (se).toInt ≤ 1600) (sl : Int32) (f_sl : S.1 0 2 = .int sl) (b_sl : 0 ≤ (sl).toInt ∧ (sl).toInt ≤ 1600) (fk : Int32) (f_fk : S.1 0 8 = .int fk) (b_fk : 0 ≤ (fk).toInt ∧ (fk).toInt ≤ 6) (cd : Int32) (f_cd : S.1 0 34 = .int cd) (b_cd : 0 ≤ (cd).toInt ∧ (cd).toInt ≤ 1600) (ii : Int32) (f_ii : S.1 0 35 = .int ii) (b_ii : 0 ≤ (ii).toInt ∧ (ii).toInt ≤ 1) (mi : Int32) (f_mi : S.2.1 8 (ii : Int32).toNatClampNeg = mi) (b_mi : 0 ≤ (mi).toInt ∧ (mi).toInt ≤ 6) (pl : Int32) (f_pl : S.2.1 9 (ii : Int32).toNatClampNeg = pl) (b_pl : 0 ≤ (pl).toInt ∧ (pl).toInt ≤ 16) (od : Int32) (f_od : S.2.1 12 (ii : Int32).toNatClampNeg = od) (b_od : 0 ≤ (od).toInt ∧ (od).toInt ≤ 5) (cc : Int32) (f_cc : S.2.1 2 (ii : Int32).toNatClampNeg = cc) (b_cc : 3 ≤ (cc).toInt ∧ (cc).toInt ≤ 7) (rr : Int32) (f_rr : S.2.1 3 (ii : Int32).toNatClampNeg = rr) (b_rr : 3 ≤ (rr).toInt ∧ (rr).toInt ≤ 7) (hlx : (sa).toInt ≤ (se).toInt ∧ (se).toInt ≤ (sl).toInt ∧ ((sg).toInt ≠ 0 → (sa).toInt + 1 ≤ (se).toInt)) (hro : (cd).toInt ≤ (sa).toInt) (TK : TKM tb tn S) (GS : GSM sg9 S) (ZB : ZBM S) (ZW : ZWM S) (ZK : ZKM S) (ZC : ZCM S) (ZV : ZVM S) (GB : GBM S0 S) (G8 : G8M S0 S) (I : CM o S) (sz : Nat) : Met l yX12_statement (bw yX12_statement cX12_statement 1 none) ({ frames := 7, cells := 0, slots := 0, locals := 165 } : Room) (dk_Pc g D (dg_w g shM o rfM S) sz [.ref (o + 0)]) (va_Qv (fun S' => CM o S' ∧ dg_sm shM [(0, 3), (0, 4), (0, 5), (0, 6), (0, 7), (0, 8), (0, 9), (0, 12), (0, 34), (0, 36), (0, 42), (0, 43), (0, 45), (0, 46)] [4, 5, 6, 7, 8, 9, 10, 11, 12, 13, 14, 15, 16, 17, 18, 19, 20, 21, 22, 23, 24, 25, 26, 27] S S' ∧ (∃ y9_3 y9_4 y9_5 y9_8 y9_34 : Int32, S'.1 0 3 = .int y9_3 ∧ S'.1 0 4 = .int y9_4 ∧ S'.1 0 5 = .int y9_5 ∧ S'.1 0 8 = .int y9_8 ∧ S'.1 0 34 = .int y9_34 ∧ (((y9_4).toInt ≤ (y9_5).toInt ∧ (y9_5).toInt ≤ (sl).toInt ∧ ((y9_3).toInt ≠ 0 → (y9_4).toInt + 1 ≤ (y9_5).toInt)) ∧ (sa).toInt ≤ (y9_4).toInt ∧ ((fk).toInt ≠ 0 → (y9_8).toInt ≠ 0) ∧ ((y9_8).toInt = 0 → (y9_34).toInt ≤ (y9_4).toInt))) ∧ (∀ k9 : Int32, S'.1 0 8 = .int k9 → k9.toInt = 0 → ZCM S' ∧ ZVM S') ∧ (SOK tb tn fk (y_st (T_kd tb tn) (T_vl tb tn) sg9 (t_ix tb tn (sa : Int32).toNatClampNeg)) S') ∧ (m_hid ((fk).toInt = 0 → ∀ f9 : Int32, S'.1 0 8 = .int f9 → f9.toInt = 0 → KMT (T_kd tb tn) (T_vl tb tn) sg9 (t_ix tb tn (sa : Int32).toNatClampNeg) S S')) ∧ TKM tb tn S' ∧ ZBM S' ∧ ZWM S' ∧ GBM S0 S' ∧ G8M S0 S' ∧ True) (dg_B g D shM o rfM) (dg_A o shM.length sz)) 0 0 (dg_A o shM.length sz) := by
  refine dg_met (cc := cX12_statement) (maxL := 1) (ret := none) (dk_dq rfl) rfl (Nat.le_of_ble_eq_true rfl) ?_
  intro p e s m args below meth c A hAe harg hx hb hr hml hts hown hlocks hin hP K hS hA1 hA ST hsz ls hl
  rw [← hAe]
  have F : CallFix p m c cX12_statement 1 s args (bw yX12_statement cX12_statement 1 none) RX12 := ⟨hx, hb, hml, hown, hts⟩
  have hl : lv_has ls 1 [(0, .ref (o + 0))] := hl
  have M_0 : dg_sm shM [(0, 3), (0, 4), (0, 5), (0, 6), (0, 7), (0, 8), (0, 9), (0, 12), (0, 34), (0, 36), (0, 42), (0, 43), (0, 45), (0, 46)] [4, 5, 6, 7, 8, 9, 10, 11, 12, 13, 14, 15, 16, 17, 18, 19, 20, 21, 22, 23, 24, 25, 26, 27] S S := dg_sm.rf
  obtain ⟨Q9, hQ9⟩ : ∃ Q : State → Prop, Q = MQ below (va_Qv (fun S' => CM o S' ∧ dg_sm shM [(0, 3), (0, 4), (0, 5), (0, 6), (0, 7), (0, 8), (0, 9), (0, 12), (0, 34), (0, 36), (0, 42), (0, 43), (0, 45), (0, 46)] [4, 5, 6, 7, 8, 9, 10, 11, 12, 13, 14, 15, 16, 17, 18, 19, 20, 21, 22, 23, 24, 25, 26, 27] S S' ∧ (∃ y9_3 y9_4 y9_5 y9_8 y9_34 : Int32, S'.1 0 3 = .int y9_3 ∧ S'.1 0 4 = .int y9_4 ∧ S'.1 0 5 = .int y9_5 ∧ S'.1 0 8 = .int y9_8 ∧ S'.1 0 34 = .int y9_34 ∧ (((y9_4).toInt ≤ (y9_5).toInt ∧ (y9_5).toInt ≤ (sl).toInt ∧ ((y9_3).toInt ≠ 0 → (y9_4).toInt + 1 ≤ (y9_5).toInt)) ∧ (sa).toInt ≤ (y9_4).toInt ∧ ((fk).toInt ≠ 0 → (y9_8).toInt ≠ 0) ∧ ((y9_8).toInt = 0 → (y9_34).toInt ≤ (y9_4).toInt))) ∧ (∀ k9 : Int32, S'.1 0 8 = .int k9 → k9.toInt = 0 → ZCM S' ∧ ZVM S') ∧ (SOK tb tn fk (y_st (T_kd tb tn) (T_vl tb tn) sg9 (t_ix tb tn (sa : Int32).toNatClampNeg)) S') ∧ (m_hid ((fk).toInt = 0 → ∀ f9 : Int32, S'.1 0 8 = .int f9 → f9.toInt = 0 → KMT (T_kd tb tn) (T_vl tb tn) sg9 (t_ix tb tn (sa : Int32).toNatClampNeg) S S')) ∧ TKM tb tn S' ∧ ZBM S' ∧ ZWM S' ∧ GBM S0 S' ∧ G8M S0 S' ∧ True) (dg_B g D shM o rfM) A) args s 0 0 A := ⟨_, rfl⟩
  rw [← hQ9]
  obtain ⟨hlx_0, hlx_1, hlx_2⟩ := hlx
  obtain ⟨x_1, f_x_1, b_x_1⟩ := dg_I.int (i := 0) (k := 13) (lo := 0) (hi := 1) I sM_0 (by decide +kernel)
  have hzk := ZK _ _ f_x_1 f_ii
  have hcols := GSM.cols GS f_ii f_cc f_rr
  refine lv_aload_n hx hb dX12_statement_0 rfl (lv_at hl 0 rfl) ?_
  refine dg_callv hS hA1 hA (va_runV (As := []) (rest := []) F (c_m_lex l g D o S tb tn fk f_fk (by omega) sa f_sa (by omega) TK I s.heap.size) (cwV 0 hts (bw_V wB_310 wB_311 wB_312 wB_297 wB_309) rfl rfl rfl (by decide +kernel) ⟨Nat.le_of_ble_eq_true rfl, Nat.le_of_ble_eq_true rfl⟩) (dg_preV sM_0 rfl K ST hP hS hA1 hA) rfl rfl hl.1 rfl (lv_room (Nat.le_of_ble_eq_true rfl)) dX12_statement_1 ⟨Nat.le_of_ble_eq_true rfl, Nat.le_of_ble_eq_true rfl⟩) (fun S_2 hw_2 H locs hP hS => ?_)
  obtain ⟨I_2, m_2, w_2_0, -⟩ := hw_2
  have M_2 := dg_sm.tr M_0 m_2 (dk_dq rfl) (dk_dq rfl)
  obtain ⟨y_3, f_y_3, w_2_0⟩ := w_2_0
  have w_2_0 : ((fk).toInt ≠ 0 → (y_3).toInt = (fk).toInt) ∧ ((fk).toInt = 0 → ((y_3).toInt = 0 ↔ (T_kd tb tn (t_ix tb tn (sa : Int32).toNatClampNeg)).toInt ≠ 5)) := w_2_0
  obtain ⟨w_2_0_0, w_2_0_1⟩ := w_2_0
  have b_y_3 : 0 ≤ (y_3).toInt ∧ (y_3).toInt ≤ 6 := dg_I.intb (lo := 0) (hi := 6) I_2 sM_0 (by decide +kernel) f_y_3
  refine lv_aload_n hx hb dX12_statement_4 rfl (lv_at hl 0 rfl) ?_
  refine dg_get (C := RX12) (T := TX12) (N := 77) hx hb hts (fun w h => bw_mem (wU_X12 w h)) hown K hP sM_0 rfl 8 (dk_dq rfl) (hts _ (bw_mem wB_303)) (fun _ h9 => h9) (v := .int y_3) f_y_3 dX12_statement_5 ?_
  refine lv_if_le (tgt := 12) hx hb dX12_statement_8 (dk_dq rfl) (fun c_4 => ?_) (fun c_4 => ?_)
  · as_aux_lemma =>
      have jc_4 := dk_lec (k := 0) (by decide +kernel) c_4
      have w_2_0_0c : (fk).toInt = 0 := by omega
      clear w_2_0_0
      have w_2_0_1r := w_2_0_1 (by omega)
      clear w_2_0_1
      refine lv_aload_n hx hb dX12_statement_12 rfl (lv_at hl 0 rfl) ?_
      refine lv_ldc2 hx hb hown (hts _ (bw_mem wB_327)) dX12_statement_13 ?_
      refine dg_calli hS hA1 hA (va_runV (As := [.long 495672452724]) (rest := []) F (c_m_isWord l g D o S_2 495672452724 sg ((m_2.1 0 3 _ sM_0 (dk_dq rfl)).trans f_sg) (by omega) I_2 H.size) (cwV 1 hts (bw_V wB_322 wB_323 wB_324 wB_297 wB_321) rfl rfl rfl (by decide +kernel) ⟨Nat.le_of_ble_eq_true rfl, Nat.le_of_ble_eq_true rfl⟩) (dg_preV sM_0 rfl K ST hP hS hA1 hA) rfl rfl hl.1 rfl (lv_room (Nat.le_of_ble_eq_true rfl)) dX12_statement_16 ⟨Nat.le_of_ble_eq_true rfl, Nat.le_of_ble_eq_true rfl⟩) (fun x_5 S_6 hw_6 H locs hP hS => ?_)
      rw [hw_6.1] at hP
      obtain ⟨hq_6, w_6_0, w_6_1, -⟩ := hw_6
      try rw [hq_6] at w_6_1
      have w_6_0 : 0 ≤ (x_5).toInt ∧ (x_5).toInt ≤ 1 := w_6_0
      replace w_6_1 : ∀ w9 : Int64, S_2.1 0 7 = .long w9 → ((x_5).toInt = 1 ↔ ((sg).toInt = 1 ∧ w9.toInt = ((495672452724 : Int64)).toInt)) := w_6_1
      refine lv_if_eq (tgt := 49) hx hb dX12_statement_19 (dk_dq rfl) (fun c_7 => ?_) (fun c_7 => ?_)
      · as_aux_lemma =>
          have jc_7 := dk_eqc (k := 0) (by decide +kernel) c_7
          have qw_6_1 : g_o (T_kd tb tn) (T_vl tb tn) 2 (t_ix tb tn (sa : Int32).toNatClampNeg) = false := g_iff_f (TKM.isw (TKM.keep TK m_2 (dk_dq rfl) (dk_dq rfl) (dk_dq rfl) (dk_dq rfl) (dk_dq rfl) (dk_dq rfl) (dk_dq rfl) (dk_dq rfl)) ((m_2.1 0 3 _ sM_0 (dk_dq rfl)).trans f_sg) ((m_2.1 0 4 _ sM_0 (dk_dq rfl)).trans f_sa) (by omega) (j := 2) (C := 495672452724) (dk_dq rfl) (by decide +kernel) w_6_1) (by omega)
          clear w_6_1
          refine lv_aload_n hx hb dX12_statement_49 rfl (lv_at hl 0 rfl) ?_
          refine lv_ldc2 hx hb hown (hts _ (bw_mem wB_328)) dX12_statement_50 ?_
          refine dg_calli hS hA1 hA (va_runV (As := [.long 491327153000]) (rest := []) F (c_m_isWord l g D o S_2 491327153000 sg ((m_2.1 0 3 _ sM_0 (dk_dq rfl)).trans f_sg) (by omega) I_2 H.size) (cwV 1 hts (bw_V wB_322 wB_323 wB_324 wB_297 wB_321) rfl rfl rfl (by decide +kernel) ⟨Nat.le_of_ble_eq_true rfl, Nat.le_of_ble_eq_true rfl⟩) (dg_preV sM_0 rfl K ST hP hS hA1 hA) rfl rfl hl.1 rfl (lv_room (Nat.le_of_ble_eq_true rfl)) dX12_statement_53 ⟨Nat.le_of_ble_eq_true rfl, Nat.le_of_ble_eq_true rfl⟩) (fun x_8 S_9 hw_9 H locs hP hS => ?_)
          rw [hw_9.1] at hP
          obtain ⟨hq_9, w_9_0, w_9_1, -⟩ := hw_9
          try rw [hq_9] at w_9_1
          have w_9_0 : 0 ≤ (x_8).toInt ∧ (x_8).toInt ≤ 1 := w_9_0
          replace w_9_1 : ∀ w9 : Int64, S_2.1 0 7 = .long w9 → ((x_8).toInt = 1 ↔ ((sg).toInt = 1 ∧ w9.toInt = ((491327153000 : Int64)).toInt)) := w_9_1
          refine lv_if_eq (tgt := 77) hx hb dX12_statement_56 (dk_dq rfl) (fun c_10 => ?_) (fun c_10 => ?_)
          · as_aux_lemma =>
              have jc_10 := dk_eqc (k := 0) (by decide +kernel) c_10
              have qw_9_1 : g_o (T_kd tb tn) (T_vl tb tn) 3 (t_ix tb tn (sa : Int32).toNatClampNeg) = false := g_iff_f (TKM.isw (TKM.keep TK m_2 (dk_dq rfl) (dk_dq rfl) (dk_dq rfl) (dk_dq rfl) (dk_dq rfl) (dk_dq rfl) (dk_dq rfl) (dk_dq rfl)) ((m_2.1 0 3 _ sM_0 (dk_dq rfl)).trans f_sg) ((m_2.1 0 4 _ sM_0 (dk_dq rfl)).trans f_sa) (by omega) (j := 3) (C := 491327153000) (dk_dq rfl) (by decide +kernel) w_9_1) (by omega)
              clear w_9_1
              refine lv_aload_n hx hb dX12_statement_77 rfl (lv_at hl 0 rfl) ?_
              refine lv_ldc2 hx hb hown (hts _ (bw_mem wB_329)) dX12_statement_78 ?_
              refine dg_calli hS hA1 hA (va_runV (As := [.long 487300623205]) (rest := []) F (c_m_isWord l g D o S_2 487300623205 sg ((m_2.1 0 3 _ sM_0 (dk_dq rfl)).trans f_sg) (by omega) I_2 H.size) (cwV 1 hts (bw_V wB_322 wB_323 wB_324 wB_297 wB_321) rfl rfl rfl (by decide +kernel) ⟨Nat.le_of_ble_eq_true rfl, Nat.le_of_ble_eq_true rfl⟩) (dg_preV sM_0 rfl K ST hP hS hA1 hA) rfl rfl hl.1 rfl (lv_room (Nat.le_of_ble_eq_true rfl)) dX12_statement_81 ⟨Nat.le_of_ble_eq_true rfl, Nat.le_of_ble_eq_true rfl⟩) (fun x_11 S_12 hw_12 H locs hP hS => ?_)
              rw [hw_12.1] at hP
              obtain ⟨hq_12, w_12_0, w_12_1, -⟩ := hw_12
              try rw [hq_12] at w_12_1
              have w_12_0 : 0 ≤ (x_11).toInt ∧ (x_11).toInt ≤ 1 := w_12_0
              replace w_12_1 : ∀ w9 : Int64, S_2.1 0 7 = .long w9 → ((x_11).toInt = 1 ↔ ((sg).toInt = 1 ∧ w9.toInt = ((487300623205 : Int64)).toInt)) := w_12_1
              refine lv_if_eq (tgt := 105) hx hb dX12_statement_84 (dk_dq rfl) (fun c_13 => ?_) (fun c_13 => ?_)
              · as_aux_lemma =>
                  have jc_13 := dk_eqc (k := 0) (by decide +kernel) c_13
                  have qw_12_1 : g_o (T_kd tb tn) (T_vl tb tn) 4 (t_ix tb tn (sa : Int32).toNatClampNeg) = false := g_iff_f (TKM.isw (TKM.keep TK m_2 (dk_dq rfl) (dk_dq rfl) (dk_dq rfl) (dk_dq rfl) (dk_dq rfl) (dk_dq rfl) (dk_dq rfl) (dk_dq rfl)) ((m_2.1 0 3 _ sM_0 (dk_dq rfl)).trans f_sg) ((m_2.1 0 4 _ sM_0 (dk_dq rfl)).trans f_sa) (by omega) (j := 4) (C := 487300623205) (dk_dq rfl) (by decide +kernel) w_12_1) (by omega)
                  clear w_12_1
                  refine lv_aload_n hx hb dX12_statement_105 rfl (lv_at hl 0 rfl) ?_
                  refine lv_ldc2 hx hb hown (hts _ (bw_mem wB_330)) dX12_statement_106 ?_
                  refine dg_calli hS hA1 hA (va_runV (As := [.long 444300616805]) (rest := []) F (c_m_isWord l g D o S_2 444300616805 sg ((m_2.1 0 3 _ sM_0 (dk_dq rfl)).trans f_sg) (by omega) I_2 H.size) (cwV 1 hts (bw_V wB_322 wB_323 wB_324 wB_297 wB_321) rfl rfl rfl (by decide +kernel) ⟨Nat.le_of_ble_eq_true rfl, Nat.le_of_ble_eq_true rfl⟩) (dg_preV sM_0 rfl K ST hP hS hA1 hA) rfl rfl hl.1 rfl (lv_room (Nat.le_of_ble_eq_true rfl)) dX12_statement_109 ⟨Nat.le_of_ble_eq_true rfl, Nat.le_of_ble_eq_true rfl⟩) (fun x_14 S_15 hw_15 H locs hP hS => ?_)
                  rw [hw_15.1] at hP
                  obtain ⟨hq_15, w_15_0, w_15_1, -⟩ := hw_15
                  try rw [hq_15] at w_15_1
                  have w_15_0 : 0 ≤ (x_14).toInt ∧ (x_14).toInt ≤ 1 := w_15_0
                  replace w_15_1 : ∀ w9 : Int64, S_2.1 0 7 = .long w9 → ((x_14).toInt = 1 ↔ ((sg).toInt = 1 ∧ w9.toInt = ((444300616805 : Int64)).toInt)) := w_15_1
                  refine lv_if_eq (tgt := 122) hx hb dX12_statement_112 (dk_dq rfl) (fun c_16 => ?_) (fun c_16 => ?_)
                  · as_aux_lemma =>
                      have jc_16 := dk_eqc (k := 0) (by decide +kernel) c_16
                      have qw_15_1 : g_o (T_kd tb tn) (T_vl tb tn) 5 (t_ix tb tn (sa : Int32).toNatClampNeg) = false := g_iff_f (TKM.isw (TKM.keep TK m_2 (dk_dq rfl) (dk_dq rfl) (dk_dq rfl) (dk_dq rfl) (dk_dq rfl) (dk_dq rfl) (dk_dq rfl) (dk_dq rfl)) ((m_2.1 0 3 _ sM_0 (dk_dq rfl)).trans f_sg) ((m_2.1 0 4 _ sM_0 (dk_dq rfl)).trans f_sa) (by omega) (j := 5) (C := 444300616805) (dk_dq rfl) (by decide +kernel) w_15_1) (by omega)
                      clear w_15_1
                      refine lv_aload_n hx hb dX12_statement_122 rfl (lv_at hl 0 rfl) ?_
                      refine lv_ldc2 hx hb hown (hts _ (bw_mem wB_331)) dX12_statement_123 ?_
                      refine dg_calli hS hA1 hA (va_runV (As := [.long 469920277874]) (rest := []) F (c_m_isWord l g D o S_2 469920277874 sg ((m_2.1 0 3 _ sM_0 (dk_dq rfl)).trans f_sg) (by omega) I_2 H.size) (cwV 1 hts (bw_V wB_322 wB_323 wB_324 wB_297 wB_321) rfl rfl rfl (by decide +kernel) ⟨Nat.le_of_ble_eq_true rfl, Nat.le_of_ble_eq_true rfl⟩) (dg_preV sM_0 rfl K ST hP hS hA1 hA) rfl rfl hl.1 rfl (lv_room (Nat.le_of_ble_eq_true rfl)) dX12_statement_126 ⟨Nat.le_of_ble_eq_true rfl, Nat.le_of_ble_eq_true rfl⟩) (fun x_17 S_18 hw_18 H locs hP hS => ?_)
                      rw [hw_18.1] at hP
                      obtain ⟨hq_18, w_18_0, w_18_1, -⟩ := hw_18
                      try rw [hq_18] at w_18_1
                      have w_18_0 : 0 ≤ (x_17).toInt ∧ (x_17).toInt ≤ 1 := w_18_0
                      replace w_18_1 : ∀ w9 : Int64, S_2.1 0 7 = .long w9 → ((x_17).toInt = 1 ↔ ((sg).toInt = 1 ∧ w9.toInt = ((469920277874 : Int64)).toInt)) := w_18_1
                      refine lv_if_eq (tgt := 139) hx hb dX12_statement_129 (dk_dq rfl) (fun c_19 => ?_) (fun c_19 => ?_)
                      · as_aux_lemma =>
                          have jc_19 := dk_eqc (k := 0) (by decide +kernel) c_19
                          have qw_18_1 : g_o (T_kd tb tn) (T_vl tb tn) 6 (t_ix tb tn (sa : Int32).toNatClampNeg) = false := g_iff_f (TKM.isw (TKM.keep TK m_2 (dk_dq rfl) (dk_dq rfl) (dk_dq rfl) (dk_dq rfl) (dk_dq rfl) (dk_dq rfl) (dk_dq rfl) (dk_dq rfl)) ((m_2.1 0 3 _ sM_0 (dk_dq rfl)).trans f_sg) ((m_2.1 0 4 _ sM_0 (dk_dq rfl)).trans f_sa) (by omega) (j := 6) (C := 469920277874) (dk_dq rfl) (by decide +kernel) w_18_1) (by omega)
                          clear w_18_1
                          refine lv_aload_n hx hb dX12_statement_139 rfl (lv_at hl 0 rfl) ?_
                          refine lv_ldc2 hx hb hown (hts _ (bw_mem wB_332)) dX12_statement_140 ?_
                          refine dg_calli hS hA1 hA (va_runV (As := [.long 6580583]) (rest := []) F (c_m_isWord l g D o S_2 6580583 sg ((m_2.1 0 3 _ sM_0 (dk_dq rfl)).trans f_sg) (by omega) I_2 H.size) (cwV 1 hts (bw_V wB_322 wB_323 wB_324 wB_297 wB_321) rfl rfl rfl (by decide +kernel) ⟨Nat.le_of_ble_eq_true rfl, Nat.le_of_ble_eq_true rfl⟩) (dg_preV sM_0 rfl K ST hP hS hA1 hA) rfl rfl hl.1 rfl (lv_room (Nat.le_of_ble_eq_true rfl)) dX12_statement_143 ⟨Nat.le_of_ble_eq_true rfl, Nat.le_of_ble_eq_true rfl⟩) (fun x_20 S_21 hw_21 H locs hP hS => ?_)
                          rw [hw_21.1] at hP
                          obtain ⟨hq_21, w_21_0, w_21_1, -⟩ := hw_21
                          try rw [hq_21] at w_21_1
                          have w_21_0 : 0 ≤ (x_20).toInt ∧ (x_20).toInt ≤ 1 := w_21_0
                          replace w_21_1 : ∀ w9 : Int64, S_2.1 0 7 = .long w9 → ((x_20).toInt = 1 ↔ ((sg).toInt = 1 ∧ w9.toInt = ((6580583 : Int64)).toInt)) := w_21_1
                          refine lv_if_eq (tgt := 156) hx hb dX12_statement_146 (dk_dq rfl) (fun c_22 => ?_) (fun c_22 => ?_)
                          · as_aux_lemma =>
                              have jc_22 := dk_eqc (k := 0) (by decide +kernel) c_22
                              have qw_21_1 : g_o (T_kd tb tn) (T_vl tb tn) 7 (t_ix tb tn (sa : Int32).toNatClampNeg) = false := g_iff_f (TKM.isw (TKM.keep TK m_2 (dk_dq rfl) (dk_dq rfl) (dk_dq rfl) (dk_dq rfl) (dk_dq rfl) (dk_dq rfl) (dk_dq rfl) (dk_dq rfl)) ((m_2.1 0 3 _ sM_0 (dk_dq rfl)).trans f_sg) ((m_2.1 0 4 _ sM_0 (dk_dq rfl)).trans f_sa) (by omega) (j := 7) (C := 6580583) (dk_dq rfl) (by decide +kernel) w_21_1) (by omega)
                              clear w_21_1
                              refine lv_aload_n hx hb dX12_statement_156 rfl (lv_at hl 0 rfl) ?_
                              refine lv_ldc2 hx hb hown (hts _ (bw_mem wB_334)) dX12_statement_157 ?_
                              refine dg_calli hS hA1 hA (va_runV (As := [.long 478660552050]) (rest := []) F (c_m_isWord l g D o S_2 478660552050 sg ((m_2.1 0 3 _ sM_0 (dk_dq rfl)).trans f_sg) (by omega) I_2 H.size) (cwV 1 hts (bw_V wB_322 wB_323 wB_324 wB_297 wB_321) rfl rfl rfl (by decide +kernel) ⟨Nat.le_of_ble_eq_true rfl, Nat.le_of_ble_eq_true rfl⟩) (dg_preV sM_0 rfl K ST hP hS hA1 hA) rfl rfl hl.1 rfl (lv_room (Nat.le_of_ble_eq_true rfl)) dX12_statement_160 ⟨Nat.le_of_ble_eq_true rfl, Nat.le_of_ble_eq_true rfl⟩) (fun x_23 S_24 hw_24 H locs hP hS => ?_)
                              rw [hw_24.1] at hP
                              obtain ⟨hq_24, w_24_0, w_24_1, -⟩ := hw_24
                              try rw [hq_24] at w_24_1
                              have w_24_0 : 0 ≤ (x_23).toInt ∧ (x_23).toInt ≤ 1 := w_24_0
                              replace w_24_1 : ∀ w9 : Int64, S_2.1 0 7 = .long w9 → ((x_23).toInt = 1 ↔ ((sg).toInt = 1 ∧ w9.toInt = ((478660552050 : Int64)).toInt)) := w_24_1
                              refine lv_if_eq (tgt := 173) hx hb dX12_statement_163 (dk_dq rfl) (fun c_25 => ?_) (fun c_25 => ?_)
                              · as_aux_lemma =>
                                  have jc_25 := dk_eqc (k := 0) (by decide +kernel) c_25
                                  have qw_24_1 : g_o (T_kd tb tn) (T_vl tb tn) 9 (t_ix tb tn (sa : Int32).toNatClampNeg) = false := g_iff_f (TKM.isw (TKM.keep TK m_2 (dk_dq rfl) (dk_dq rfl) (dk_dq rfl) (dk_dq rfl) (dk_dq rfl) (dk_dq rfl) (dk_dq rfl) (dk_dq rfl)) ((m_2.1 0 3 _ sM_0 (dk_dq rfl)).trans f_sg) ((m_2.1 0 4 _ sM_0 (dk_dq rfl)).trans f_sa) (by omega) (j := 9) (C := 478660552050) (dk_dq rfl) (by decide +kernel) w_24_1) (by omega)
                                  clear w_24_1
                                  refine lv_aload_n hx hb dX12_statement_173 rfl (lv_at hl 0 rfl) ?_
                                  refine lv_ldc2 hx hb hown (hts _ (bw_mem wB_337)) dX12_statement_174 ?_
                                  refine dg_calli hS hA1 hA (va_runV (As := [.long 126926742711411]) (rest := []) F (c_m_isWord l g D o S_2 126926742711411 sg ((m_2.1 0 3 _ sM_0 (dk_dq rfl)).trans f_sg) (by omega) I_2 H.size) (cwV 1 hts (bw_V wB_322 wB_323 wB_324 wB_297 wB_321) rfl rfl rfl (by decide +kernel) ⟨Nat.le_of_ble_eq_true rfl, Nat.le_of_ble_eq_true rfl⟩) (dg_preV sM_0 rfl K ST hP hS hA1 hA) rfl rfl hl.1 rfl (lv_room (Nat.le_of_ble_eq_true rfl)) dX12_statement_177 ⟨Nat.le_of_ble_eq_true rfl, Nat.le_of_ble_eq_true rfl⟩) (fun x_26 S_27 hw_27 H locs hP hS => ?_)
                                  rw [hw_27.1] at hP
                                  obtain ⟨hq_27, w_27_0, w_27_1, -⟩ := hw_27
                                  try rw [hq_27] at w_27_1
                                  have w_27_0 : 0 ≤ (x_26).toInt ∧ (x_26).toInt ≤ 1 := w_27_0
                                  replace w_27_1 : ∀ w9 : Int64, S_2.1 0 7 = .long w9 → ((x_26).toInt = 1 ↔ ((sg).toInt = 1 ∧ w9.toInt = ((126926742711411 : Int64)).toInt)) := w_27_1
                                  refine lv_if_eq (tgt := 191) hx hb dX12_statement_180 (dk_dq rfl) (fun c_28 => ?_) (fun c_28 => ?_)
                                  · as_aux_lemma =>
                                      have jc_28 := dk_eqc (k := 0) (by decide +kernel) c_28
                                      have qw_27_1 : g_o (T_kd tb tn) (T_vl tb tn) 12 (t_ix tb tn (sa : Int32).toNatClampNeg) = false := g_iff_f (TKM.isw (TKM.keep TK m_2 (dk_dq rfl) (dk_dq rfl) (dk_dq rfl) (dk_dq rfl) (dk_dq rfl) (dk_dq rfl) (dk_dq rfl) (dk_dq rfl)) ((m_2.1 0 3 _ sM_0 (dk_dq rfl)).trans f_sg) ((m_2.1 0 4 _ sM_0 (dk_dq rfl)).trans f_sa) (by omega) (j := 12) (C := 126926742711411) (dk_dq rfl) (by decide +kernel) w_27_1) (by omega)
                                      clear w_27_1
                                      refine lv_aload_n hx hb dX12_statement_191 rfl (lv_at hl 0 rfl) ?_
                                      refine lv_ldc2 hx hb hown (hts _ (bw_mem wB_338)) dX12_statement_192 ?_
                                      refine dg_calli hS hA1 hA (va_runV (As := [.long 439721159795]) (rest := []) F (c_m_isWord l g D o S_2 439721159795 sg ((m_2.1 0 3 _ sM_0 (dk_dq rfl)).trans f_sg) (by omega) I_2 H.size) (cwV 1 hts (bw_V wB_322 wB_323 wB_324 wB_297 wB_321) rfl rfl rfl (by decide +kernel) ⟨Nat.le_of_ble_eq_true rfl, Nat.le_of_ble_eq_true rfl⟩) (dg_preV sM_0 rfl K ST hP hS hA1 hA) rfl rfl hl.1 rfl (lv_room (Nat.le_of_ble_eq_true rfl)) dX12_statement_195 ⟨Nat.le_of_ble_eq_true rfl, Nat.le_of_ble_eq_true rfl⟩) (fun x_29 S_30 hw_30 H locs hP hS => ?_)
                                      rw [hw_30.1] at hP
                                      obtain ⟨hq_30, w_30_0, w_30_1, -⟩ := hw_30
                                      try rw [hq_30] at w_30_1
                                      have w_30_0 : 0 ≤ (x_29).toInt ∧ (x_29).toInt ≤ 1 := w_30_0
                                      replace w_30_1 : ∀ w9 : Int64, S_2.1 0 7 = .long w9 → ((x_29).toInt = 1 ↔ ((sg).toInt = 1 ∧ w9.toInt = ((439721159795 : Int64)).toInt)) := w_30_1
                                      refine lv_if_eq (tgt := 209) hx hb dX12_statement_198 (dk_dq rfl) (fun c_31 => ?_) (fun c_31 => ?_)
                                      · as_aux_lemma =>
                                          have jc_31 := dk_eqc (k := 0) (by decide +kernel) c_31
                                          have qw_30_1 : g_o (T_kd tb tn) (T_vl tb tn) 13 (t_ix tb tn (sa : Int32).toNatClampNeg) = false := g_iff_f (TKM.isw (TKM.keep TK m_2 (dk_dq rfl) (dk_dq rfl) (dk_dq rfl) (dk_dq rfl) (dk_dq rfl) (dk_dq rfl) (dk_dq rfl) (dk_dq rfl)) ((m_2.1 0 3 _ sM_0 (dk_dq rfl)).trans f_sg) ((m_2.1 0 4 _ sM_0 (dk_dq rfl)).trans f_sa) (by omega) (j := 13) (C := 439721159795) (dk_dq rfl) (by decide +kernel) w_30_1) (by omega)
                                          clear w_30_1
                                          refine lv_aload_n hx hb dX12_statement_209 rfl (lv_at hl 0 rfl) ?_
                                          refine lv_ldc2 hx hb hown (hts _ (bw_mem wB_339)) dX12_statement_210 ?_
                                          refine dg_calli hS hA1 hA (va_runV (As := [.long 1734702195]) (rest := []) F (c_m_isWord l g D o S_2 1734702195 sg ((m_2.1 0 3 _ sM_0 (dk_dq rfl)).trans f_sg) (by omega) I_2 H.size) (cwV 1 hts (bw_V wB_322 wB_323 wB_324 wB_297 wB_321) rfl rfl rfl (by decide +kernel) ⟨Nat.le_of_ble_eq_true rfl, Nat.le_of_ble_eq_true rfl⟩) (dg_preV sM_0 rfl K ST hP hS hA1 hA) rfl rfl hl.1 rfl (lv_room (Nat.le_of_ble_eq_true rfl)) dX12_statement_213 ⟨Nat.le_of_ble_eq_true rfl, Nat.le_of_ble_eq_true rfl⟩) (fun x_32 S_33 hw_33 H locs hP hS => ?_)
                                          rw [hw_33.1] at hP
                                          obtain ⟨hq_33, w_33_0, w_33_1, -⟩ := hw_33
                                          try rw [hq_33] at w_33_1
                                          have w_33_0 : 0 ≤ (x_32).toInt ∧ (x_32).toInt ≤ 1 := w_33_0
                                          replace w_33_1 : ∀ w9 : Int64, S_2.1 0 7 = .long w9 → ((x_32).toInt = 1 ↔ ((sg).toInt = 1 ∧ w9.toInt = ((1734702195 : Int64)).toInt)) := w_33_1
                                          refine lv_if_eq (tgt := 227) hx hb dX12_statement_216 (dk_dq rfl) (fun c_34 => ?_) (fun c_34 => ?_)
                                          · as_aux_lemma =>
                                              have jc_34 := dk_eqc (k := 0) (by decide +kernel) c_34
                                              have qw_33_1 : g_o (T_kd tb tn) (T_vl tb tn) 14 (t_ix tb tn (sa : Int32).toNatClampNeg) = false := g_iff_f (TKM.isw (TKM.keep TK m_2 (dk_dq rfl) (dk_dq rfl) (dk_dq rfl) (dk_dq rfl) (dk_dq rfl) (dk_dq rfl) (dk_dq rfl) (dk_dq rfl)) ((m_2.1 0 3 _ sM_0 (dk_dq rfl)).trans f_sg) ((m_2.1 0 4 _ sM_0 (dk_dq rfl)).trans f_sa) (by omega) (j := 14) (C := 1734702195) (dk_dq rfl) (by decide +kernel) w_33_1) (by omega)
                                              clear w_33_1
                                              refine lv_aload_n hx hb dX12_statement_227 rfl (lv_at hl 0 rfl) ?_
                                              refine lv_iconst (v := 1) hx hb dX12_statement_228 (by decide +kernel) ?_
                                              refine lv_aload_n hx hb dX12_statement_229 rfl (lv_at hl 0 rfl) ?_
                                              refine dg_get (C := RX12) (T := TX12) (N := 77) hx hb hts (fun w h => bw_mem (wU_X12 w h)) hown K hP sM_0 rfl 4 (dk_dq rfl) (hts _ (bw_mem wB_291)) (fun _ h9 => h9) (v := .int sa) ((m_2.1 0 4 _ sM_0 (dk_dq rfl)).trans f_sa) dX12_statement_230 ?_
                                              have hz_35 : (1 : Int32).toInt = 1 := by decide +kernel
                                              refine dg_callv hS hA1 hA (va_runV (As := [.int 1, .int sa]) (rest := []) F (c_m_blame l g D o S_2 1 (by decide +kernel) sa y_3 f_y_3 (by omega) I_2 H.size) (cwV 2 hts (bw_V wB_306 wB_307 wB_308 wB_297 wB_305) rfl rfl rfl (by decide +kernel) ⟨Nat.le_of_ble_eq_true rfl, Nat.le_of_ble_eq_true rfl⟩) (dg_preV sM_0 rfl K ST hP hS hA1 hA) rfl rfl hl.1 rfl (lv_room (Nat.le_of_ble_eq_true rfl)) dX12_statement_233 ⟨Nat.le_of_ble_eq_true rfl, Nat.le_of_ble_eq_true rfl⟩) (fun S_36 hw_36 H locs hP hS => ?_)
                                              obtain ⟨I_36, m_36, w_36_0, -⟩ := hw_36
                                              have M_36 := dg_sm.tr M_2 m_36 (dk_dq rfl) (dk_dq rfl)
                                              have hz_37 : (1 : Int32).toInt = 1 := by decide +kernel
                                              obtain ⟨y_38, f_y_38, w_36_0⟩ := w_36_0
                                              have w_36_0 : ((y_3).toInt ≠ 0 → (y_38).toInt = (y_3).toInt) ∧ ((y_3).toInt = 0 → (y_38).toInt = ((1 : Int32)).toInt) := w_36_0
                                              obtain ⟨w_36_0_0, w_36_0_1⟩ := w_36_0
                                              clear w_36_0_0
                                              have w_36_0_1r := w_36_0_1 (by omega)
                                              clear w_36_0_1
                                              have b_y_38 : 0 ≤ (y_38).toInt ∧ (y_38).toInt ≤ 6 := dg_I.intb (lo := 0) (hi := 6) I_36 sM_0 (by decide +kernel) f_y_38
                                              have hbl_y_38 : 1 ≤ (y_38).toInt := by omega
                                              refine W.widen (k := 0) (n := 0) (Nat.le_of_ble_eq_true rfl) (Nat.le_of_ble_eq_true rfl) ?_
                                              rw [hQ9]
                                              exact dg_vret hx hb hr hlocks hP hS ⟨I_36, M_36, ⟨sg, sa, se, y_38, cd, (((m_36.1 0 3 _ sM_0 (dk_dq rfl)).trans (m_2.1 0 3 _ sM_0 (dk_dq rfl))).trans f_sg), (((m_36.1 0 4 _ sM_0 (dk_dq rfl)).trans (m_2.1 0 4 _ sM_0 (dk_dq rfl))).trans f_sa), (((m_36.1 0 5 _ sM_0 (dk_dq rfl)).trans (m_2.1 0 5 _ sM_0 (dk_dq rfl))).trans f_se), f_y_38, (((m_36.1 0 34 _ sM_0 (dk_dq rfl)).trans (m_2.1 0 34 _ sM_0 (dk_dq rfl))).trans f_cd), (by omega)⟩, (fun k9 hk9 hk0 => by have q9 := (f_y_38).symm.trans hk9; cases q9; omega), (SOK.none (fk := fk) f_y_38 (by omega) (fun h0 => y_st_none qw_6_1 qw_9_1 qw_12_1 qw_15_1 qw_18_1 qw_21_1 qw_24_1 qw_27_1 qw_30_1 qw_33_1)), (m_hid.mk (fun h0 f9 q9 q8 => by have q7 := (f_y_38).symm.trans q9; cases q7; exfalso; omega)), (TKM.keep (TKM.keep TK m_2 (dk_dq rfl) (dk_dq rfl) (dk_dq rfl) (dk_dq rfl) (dk_dq rfl) (dk_dq rfl) (dk_dq rfl) (dk_dq rfl)) m_36 (dk_dq rfl) (dk_dq rfl) (dk_dq rfl) (dk_dq rfl) (dk_dq rfl) (dk_dq rfl) (dk_dq rfl) (dk_dq rfl)), (ZBM.keep (ZBM.keep ZB m_2 (dk_dq rfl) (dk_dq rfl) (dk_dq rfl) (dk_dq rfl) (dk_dq rfl)) m_36 (dk_dq rfl) (dk_dq rfl) (dk_dq rfl) (dk_dq rfl) (dk_dq rfl)), (ZWM.keep (ZWM.keep ZW m_2 (dk_dq rfl) (dk_dq rfl) (dk_dq rfl) (dk_dq rfl)) m_36 (dk_dq rfl) (dk_dq rfl) (dk_dq rfl) (dk_dq rfl)), (GBM.keep (GBM.keep GB m_2 (dk_dq rfl) (dk_dq rfl) (dk_dq rfl)) m_36 (dk_dq rfl) (dk_dq rfl) (dk_dq rfl)), (G8M.keep (G8M.keep G8 m_2 (dk_dq rfl) (dk_dq rfl) (dk_dq rfl)) m_36 (dk_dq rfl) (dk_dq rfl) (dk_dq rfl)), trivial⟩ dX12_statement_236
                                          · as_aux_lemma =>
                                              have jc_34 := dk_neqc (k := 0) (by decide +kernel) c_34
                                              have jbc_34 : 1 ≤ (x_32).toInt := by omega
                                              clear jc_34
                                              have qw_33_1 : g_o (T_kd tb tn) (T_vl tb tn) 14 (t_ix tb tn (sa : Int32).toNatClampNeg) = true := (TKM.isw (TKM.keep TK m_2 (dk_dq rfl) (dk_dq rfl) (dk_dq rfl) (dk_dq rfl) (dk_dq rfl) (dk_dq rfl) (dk_dq rfl) (dk_dq rfl)) ((m_2.1 0 3 _ sM_0 (dk_dq rfl)).trans f_sg) ((m_2.1 0 4 _ sM_0 (dk_dq rfl)).trans f_sa) (by omega) (j := 14) (C := 1734702195) (dk_dq rfl) (by decide +kernel) w_33_1).mp (by omega)
                                              have w_33_1_r : (sg).toInt = 1 := by have h9 := g_o_iff.mp qw_33_1; have h8 := TKM.zero (TKM.keep TK m_2 (dk_dq rfl) (dk_dq rfl) (dk_dq rfl) (dk_dq rfl) (dk_dq rfl) (dk_dq rfl) (dk_dq rfl) (dk_dq rfl)) ((m_2.1 0 3 _ sM_0 (dk_dq rfl)).trans f_sg) ((m_2.1 0 4 _ sM_0 (dk_dq rfl)).trans f_sa); have h7 := (TKM.w1 (TKM.keep TK m_2 (dk_dq rfl) (dk_dq rfl) (dk_dq rfl) (dk_dq rfl) (dk_dq rfl) (dk_dq rfl) (dk_dq rfl) (dk_dq rfl)) ((m_2.1 0 3 _ sM_0 (dk_dq rfl)).trans f_sg) ((m_2.1 0 4 _ sM_0 (dk_dq rfl)).trans f_sa) (by omega)).mpr (by omega); omega
                                              clear w_33_1
                                              have qlw_33_1 := g_o_iff.mp qw_33_1
                                              have hlx_2r := hlx_2 (by omega)
                                              clear hlx_2
                                              refine lv_aload_n hx hb dX12_statement_219 rfl (lv_at hl 0 rfl) ?_
                                              refine lv_iconst (v := 2) hx hb dX12_statement_220 (by decide +kernel) ?_
                                              have hz_39 : (2 : Int32).toInt = 2 := by decide +kernel
                                              refine dg_callv hS hA1 hA (va_runV (As := [.int 2]) (rest := []) F (c_m_reading l g D o S_2 2 (by decide +kernel) tb tn sg9 S0 sg ((m_2.1 0 3 _ sM_0 (dk_dq rfl)).trans f_sg) (by omega) sa ((m_2.1 0 4 _ sM_0 (dk_dq rfl)).trans f_sa) (by omega) se ((m_2.1 0 5 _ sM_0 (dk_dq rfl)).trans f_se) (by omega) sl ((m_2.1 0 2 _ sM_0 (dk_dq rfl)).trans f_sl) (by omega) y_3 f_y_3 (by omega) cd ((m_2.1 0 34 _ sM_0 (dk_dq rfl)).trans f_cd) (by omega) ii ((m_2.1 0 35 _ sM_0 (dk_dq rfl)).trans f_ii) (by omega) (by omega) (by omega) (by omega) (TKM.keep TK m_2 (dk_dq rfl) (dk_dq rfl) (dk_dq rfl) (dk_dq rfl) (dk_dq rfl) (dk_dq rfl) (dk_dq rfl) (dk_dq rfl)) (GSM.keep GS m_2 (dk_dq rfl) (dk_dq rfl) (dk_dq rfl) (dk_dq rfl) (dk_dq rfl) (dk_dq rfl) (dk_dq rfl) (dk_dq rfl) (dk_dq rfl)) (ZWM.keep ZW m_2 (dk_dq rfl) (dk_dq rfl) (dk_dq rfl) (dk_dq rfl)) (ZKM.keep ZK m_2 (dk_dq rfl) (dk_dq rfl)) (ZVM.keep ZV m_2 (dk_dq rfl) (dk_dq rfl) (dk_dq rfl) (dk_dq rfl) (dk_dq rfl)) (GBM.keep GB m_2 (dk_dq rfl) (dk_dq rfl) (dk_dq rfl)) (G8M.keep G8 m_2 (dk_dq rfl) (dk_dq rfl) (dk_dq rfl)) I_2 H.size) (cwV 1 hts (bw_V wB_456 wB_457 wB_458 wB_297 wB_455) rfl rfl rfl (by decide +kernel) ⟨Nat.le_of_ble_eq_true rfl, Nat.le_of_ble_eq_true rfl⟩) (dg_preV sM_0 rfl K ST hP hS hA1 hA) rfl rfl hl.1 rfl (lv_room (Nat.le_of_ble_eq_true rfl)) dX12_statement_221 ⟨Nat.le_of_ble_eq_true rfl, Nat.le_of_ble_eq_true rfl⟩) (fun S_40 hw_40 H locs hP hS => ?_)
                                              obtain ⟨I_40, m_40, w_40_0, w_40_1, w_40_2, w_40_3, w_40_4, w_40_5, w_40_6, w_40_7, -⟩ := hw_40
                                              have M_40 := dg_sm.tr M_2 m_40 (dk_dq rfl) (dk_dq rfl)
                                              have hz_41 : (2 : Int32).toInt = 2 := by decide +kernel
                                              obtain ⟨y_42, y_43, y_44, y_45, y_46, f_y_42, f_y_43, f_y_44, f_y_45, f_y_46, w_40_0⟩ := w_40_0
                                              have w_40_0 : ((y_43).toInt ≤ (y_44).toInt ∧ (y_44).toInt ≤ (sl).toInt ∧ ((y_42).toInt ≠ 0 → (y_43).toInt + 1 ≤ (y_44).toInt)) ∧ (sa).toInt ≤ (y_43).toInt ∧ ((y_3).toInt ≠ 0 → (y_45).toInt ≠ 0) ∧ (((y_45).toInt = 0 → (sa).toInt + 1 ≤ (y_43).toInt) ∧ ((y_45).toInt = 0 → (y_46).toInt ≤ (y_43).toInt)) := w_40_0
                                              obtain ⟨⟨w_40_0_0, w_40_0_1, w_40_0_2⟩, w_40_0_3, w_40_0_4, ⟨w_40_0_5, w_40_0_6⟩⟩ := w_40_0
                                              clear w_40_0_4
                                              have b_y_42 : 0 ≤ (y_42).toInt ∧ (y_42).toInt ≤ 3 := dg_I.intb (lo := 0) (hi := 3) I_40 sM_0 (by decide +kernel) f_y_42
                                              have b_y_43 : 0 ≤ (y_43).toInt ∧ (y_43).toInt ≤ 1600 := dg_I.intb (lo := 0) (hi := 1600) I_40 sM_0 (by decide +kernel) f_y_43
                                              have b_y_44 : 0 ≤ (y_44).toInt ∧ (y_44).toInt ≤ 1600 := dg_I.intb (lo := 0) (hi := 1600) I_40 sM_0 (by decide +kernel) f_y_44
                                              have b_y_45 : 0 ≤ (y_45).toInt ∧ (y_45).toInt ≤ 6 := dg_I.intb (lo := 0) (hi := 6) I_40 sM_0 (by decide +kernel) f_y_45
                                              have b_y_46 : 0 ≤ (y_46).toInt ∧ (y_46).toInt ≤ 1600 := dg_I.intb (lo := 0) (hi := 1600) I_40 sM_0 (by decide +kernel) f_y_46
                                              replace w_40_1 : ∀ k9 : Int32, S_40.1 0 8 = .int k9 → k9.toInt = 0 → ZVM S_40 := w_40_1
                                              replace w_40_2 : SOK tb tn y_3 (m_T12 (T_kd tb tn) (T_vl tb tn) sg9 ((2 : Int32)).toInt ((t_ix tb tn (sa : Int32).toNatClampNeg) + 1)) S_40 := w_40_2
                                              replace w_40_3 : m_hid ((y_3).toInt = 0 → ∀ f9 : Int32, S_40.1 0 8 = .int f9 → f9.toInt = 0 → ∃ (u9 v9 : Int32) (i9 j9 : Nat), q_am S_2 S_40 (d_rule (T_kd tb tn) (T_vl tb tn) ((2 : Int32)).toInt ((t_ix tb tn (sa : Int32).toNatClampNeg) + 1)) ∧ S_2.1 0 34 = .int u9 ∧ S_40.1 0 34 = .int v9 ∧ i9 = 3 * (ii : Int32).toNatClampNeg + ((2 : Int32) : Int32).toNatClampNeg ∧ j9 = 3 * (ii : Int32).toNatClampNeg + ((2 : Int32) : Int32).toNatClampNeg ∧ S_40.2.1 16 = upd (S_2.2.1 16) i9 u9 ∧ S_40.2.1 17 = upd (S_2.2.1 17) j9 v9) := w_40_3
                                              refine lv_goto (tgt := 236) hx hb dX12_statement_224 (dk_dq rfl) ?_
                                              refine W.widen (k := 0) (n := 0) (Nat.le_of_ble_eq_true rfl) (Nat.le_of_ble_eq_true rfl) ?_
                                              rw [hQ9]
                                              exact dg_vret hx hb hr hlocks hP hS ⟨I_40, M_40, ⟨y_42, y_43, y_44, y_45, y_46, f_y_42, f_y_43, f_y_44, f_y_45, f_y_46, (by omega)⟩, (fun k9 hk9 hk0 => ⟨(ZCM.keep (ZCM.keep ZC m_2 (dk_dq rfl) (dk_dq rfl) (dk_dq rfl) (dk_dq rfl)) m_40 (dk_dq rfl) (dk_dq rfl) (dk_dq rfl) (dk_dq rfl)), w_40_1 k9 hk9 hk0⟩), (SOK.via (y_st_14' (g_o_iff.mp qw_33_1).1 (g_o_iff.mp qw_33_1).2 (by decide +kernel)) w_40_2 (by omega)), (m_hid.mk (fun h0 f9 q9 q8 => by have q7 := (f_y_45).symm.trans q9; cases q7; intro d9 i9 z9; have k9 := (g_o_iff.mp qw_33_1).2; obtain ⟨u9, v9, x9, y9, g9, e1, e2, e3, e4, e5, e6⟩ := w_40_3.out (by omega) _ f_y_45 (by omega); rw [k_st_r (by omega)]; rw [show ((T_vl tb tn) (t_ix tb tn (sa : Int32).toNatClampNeg)).toInt - 12 = (2 : Int32).toInt from by rw [k9]; decide +kernel]; exact km.rule (n := 2) (G := d9.1) (K := d9.2) z9 ((m_40.1 0 35 _ sM_0 (dk_dq rfl)).trans (m_2.1 0 35 _ sM_0 (dk_dq rfl))) ((m_40.2 4 _ sM_4 (dk_dq rfl)).1.trans (m_2.2 4 _ sM_4 (dk_dq rfl)).1) ((m_40.2 5 _ sM_5 (dk_dq rfl)).1.trans (m_2.2 5 _ sM_5 (dk_dq rfl)).1) ((m_40.2 6 _ sM_6 (dk_dq rfl)).1.trans (m_2.2 6 _ sM_6 (dk_dq rfl)).1) ((m_40.2 7 _ sM_7 (dk_dq rfl)).1.trans (m_2.2 7 _ sM_7 (dk_dq rfl)).1) ((m_40.2 10 _ sM_10 (dk_dq rfl)).1.trans (m_2.2 10 _ sM_10 (dk_dq rfl)).1) ((m_40.2 11 _ sM_11 (dk_dq rfl)).1.trans (m_2.2 11 _ sM_11 (dk_dq rfl)).1) ((m_40.2 13 _ sM_13 (dk_dq rfl)).1.trans (m_2.2 13 _ sM_13 (dk_dq rfl)).1) ((m_40.2 14 _ sM_14 (dk_dq rfl)).1.trans (m_2.2 14 _ sM_14 (dk_dq rfl)).1) ((m_40.2 15 _ sM_15 (dk_dq rfl)).1.trans (m_2.2 15 _ sM_15 (dk_dq rfl)).1) f_ii (dk_dq rfl) ((q_am.fs g9 (m_2.1 0 34 _ sM_0 (dk_dq rfl)) (m_2.1 0 35 _ sM_0 (dk_dq rfl)) (m_2.2 18 _ sM_18 (dk_dq rfl)).1 (m_2.2 19 _ sM_19 (dk_dq rfl)).1)) (((m_2.1 0 34 _ sM_0 (dk_dq rfl))).symm.trans e1) e2 (by rw [e5, (m_2.2 16 _ sM_16 (dk_dq rfl)).1]) (by rw [e6, (m_2.2 17 _ sM_17 (dk_dq rfl)).1, e4, e3]) (by have h9 : (2 : Int32).toNatClampNeg = 2 := (by decide +kernel); omega) (by omega))), w_40_4, (ZBM.keep (ZBM.keep ZB m_2 (dk_dq rfl) (dk_dq rfl) (dk_dq rfl) (dk_dq rfl) (dk_dq rfl)) m_40 (dk_dq rfl) (dk_dq rfl) (dk_dq rfl) (dk_dq rfl) (dk_dq rfl)), w_40_5, w_40_6, w_40_7, trivial⟩ dX12_statement_236
                                      · as_aux_lemma =>
                                          have jc_31 := dk_neqc (k := 0) (by decide +kernel) c_31
                                          have jbc_31 : 1 ≤ (x_29).toInt := by omega
                                          clear jc_31
                                          have qw_30_1 : g_o (T_kd tb tn) (T_vl tb tn) 13 (t_ix tb tn (sa : Int32).toNatClampNeg) = true := (TKM.isw (TKM.keep TK m_2 (dk_dq rfl) (dk_dq rfl) (dk_dq rfl) (dk_dq rfl) (dk_dq rfl) (dk_dq rfl) (dk_dq rfl) (dk_dq rfl)) ((m_2.1 0 3 _ sM_0 (dk_dq rfl)).trans f_sg) ((m_2.1 0 4 _ sM_0 (dk_dq rfl)).trans f_sa) (by omega) (j := 13) (C := 439721159795) (dk_dq rfl) (by decide +kernel) w_30_1).mp (by omega)
                                          have w_30_1_r : (sg).toInt = 1 := by have h9 := g_o_iff.mp qw_30_1; have h8 := TKM.zero (TKM.keep TK m_2 (dk_dq rfl) (dk_dq rfl) (dk_dq rfl) (dk_dq rfl) (dk_dq rfl) (dk_dq rfl) (dk_dq rfl) (dk_dq rfl)) ((m_2.1 0 3 _ sM_0 (dk_dq rfl)).trans f_sg) ((m_2.1 0 4 _ sM_0 (dk_dq rfl)).trans f_sa); have h7 := (TKM.w1 (TKM.keep TK m_2 (dk_dq rfl) (dk_dq rfl) (dk_dq rfl) (dk_dq rfl) (dk_dq rfl) (dk_dq rfl) (dk_dq rfl) (dk_dq rfl)) ((m_2.1 0 3 _ sM_0 (dk_dq rfl)).trans f_sg) ((m_2.1 0 4 _ sM_0 (dk_dq rfl)).trans f_sa) (by omega)).mpr (by omega); omega
                                          clear w_30_1
                                          have qlw_30_1 := g_o_iff.mp qw_30_1
                                          have hlx_2r := hlx_2 (by omega)
                                          clear hlx_2
                                          refine lv_aload_n hx hb dX12_statement_201 rfl (lv_at hl 0 rfl) ?_
                                          refine lv_iconst (v := 1) hx hb dX12_statement_202 (by decide +kernel) ?_
                                          have hz_47 : (1 : Int32).toInt = 1 := by decide +kernel
                                          refine dg_callv hS hA1 hA (va_runV (As := [.int 1]) (rest := []) F (c_m_reading l g D o S_2 1 (by decide +kernel) tb tn sg9 S0 sg ((m_2.1 0 3 _ sM_0 (dk_dq rfl)).trans f_sg) (by omega) sa ((m_2.1 0 4 _ sM_0 (dk_dq rfl)).trans f_sa) (by omega) se ((m_2.1 0 5 _ sM_0 (dk_dq rfl)).trans f_se) (by omega) sl ((m_2.1 0 2 _ sM_0 (dk_dq rfl)).trans f_sl) (by omega) y_3 f_y_3 (by omega) cd ((m_2.1 0 34 _ sM_0 (dk_dq rfl)).trans f_cd) (by omega) ii ((m_2.1 0 35 _ sM_0 (dk_dq rfl)).trans f_ii) (by omega) (by omega) (by omega) (by omega) (TKM.keep TK m_2 (dk_dq rfl) (dk_dq rfl) (dk_dq rfl) (dk_dq rfl) (dk_dq rfl) (dk_dq rfl) (dk_dq rfl) (dk_dq rfl)) (GSM.keep GS m_2 (dk_dq rfl) (dk_dq rfl) (dk_dq rfl) (dk_dq rfl) (dk_dq rfl) (dk_dq rfl) (dk_dq rfl) (dk_dq rfl) (dk_dq rfl)) (ZWM.keep ZW m_2 (dk_dq rfl) (dk_dq rfl) (dk_dq rfl) (dk_dq rfl)) (ZKM.keep ZK m_2 (dk_dq rfl) (dk_dq rfl)) (ZVM.keep ZV m_2 (dk_dq rfl) (dk_dq rfl) (dk_dq rfl) (dk_dq rfl) (dk_dq rfl)) (GBM.keep GB m_2 (dk_dq rfl) (dk_dq rfl) (dk_dq rfl)) (G8M.keep G8 m_2 (dk_dq rfl) (dk_dq rfl) (dk_dq rfl)) I_2 H.size) (cwV 1 hts (bw_V wB_456 wB_457 wB_458 wB_297 wB_455) rfl rfl rfl (by decide +kernel) ⟨Nat.le_of_ble_eq_true rfl, Nat.le_of_ble_eq_true rfl⟩) (dg_preV sM_0 rfl K ST hP hS hA1 hA) rfl rfl hl.1 rfl (lv_room (Nat.le_of_ble_eq_true rfl)) dX12_statement_203 ⟨Nat.le_of_ble_eq_true rfl, Nat.le_of_ble_eq_true rfl⟩) (fun S_48 hw_48 H locs hP hS => ?_)
                                          obtain ⟨I_48, m_48, w_48_0, w_48_1, w_48_2, w_48_3, w_48_4, w_48_5, w_48_6, w_48_7, -⟩ := hw_48
                                          have M_48 := dg_sm.tr M_2 m_48 (dk_dq rfl) (dk_dq rfl)
                                          have hz_49 : (1 : Int32).toInt = 1 := by decide +kernel
                                          obtain ⟨y_50, y_51, y_52, y_53, y_54, f_y_50, f_y_51, f_y_52, f_y_53, f_y_54, w_48_0⟩ := w_48_0
                                          have w_48_0 : ((y_51).toInt ≤ (y_52).toInt ∧ (y_52).toInt ≤ (sl).toInt ∧ ((y_50).toInt ≠ 0 → (y_51).toInt + 1 ≤ (y_52).toInt)) ∧ (sa).toInt ≤ (y_51).toInt ∧ ((y_3).toInt ≠ 0 → (y_53).toInt ≠ 0) ∧ (((y_53).toInt = 0 → (sa).toInt + 1 ≤ (y_51).toInt) ∧ ((y_53).toInt = 0 → (y_54).toInt ≤ (y_51).toInt)) := w_48_0
                                          obtain ⟨⟨w_48_0_0, w_48_0_1, w_48_0_2⟩, w_48_0_3, w_48_0_4, ⟨w_48_0_5, w_48_0_6⟩⟩ := w_48_0
                                          clear w_48_0_4
                                          have b_y_50 : 0 ≤ (y_50).toInt ∧ (y_50).toInt ≤ 3 := dg_I.intb (lo := 0) (hi := 3) I_48 sM_0 (by decide +kernel) f_y_50
                                          have b_y_51 : 0 ≤ (y_51).toInt ∧ (y_51).toInt ≤ 1600 := dg_I.intb (lo := 0) (hi := 1600) I_48 sM_0 (by decide +kernel) f_y_51
                                          have b_y_52 : 0 ≤ (y_52).toInt ∧ (y_52).toInt ≤ 1600 := dg_I.intb (lo := 0) (hi := 1600) I_48 sM_0 (by decide +kernel) f_y_52
                                          have b_y_53 : 0 ≤ (y_53).toInt ∧ (y_53).toInt ≤ 6 := dg_I.intb (lo := 0) (hi := 6) I_48 sM_0 (by decide +kernel) f_y_53
                                          have b_y_54 : 0 ≤ (y_54).toInt ∧ (y_54).toInt ≤ 1600 := dg_I.intb (lo := 0) (hi := 1600) I_48 sM_0 (by decide +kernel) f_y_54
                                          replace w_48_1 : ∀ k9 : Int32, S_48.1 0 8 = .int k9 → k9.toInt = 0 → ZVM S_48 := w_48_1
                                          replace w_48_2 : SOK tb tn y_3 (m_T12 (T_kd tb tn) (T_vl tb tn) sg9 ((1 : Int32)).toInt ((t_ix tb tn (sa : Int32).toNatClampNeg) + 1)) S_48 := w_48_2
                                          replace w_48_3 : m_hid ((y_3).toInt = 0 → ∀ f9 : Int32, S_48.1 0 8 = .int f9 → f9.toInt = 0 → ∃ (u9 v9 : Int32) (i9 j9 : Nat), q_am S_2 S_48 (d_rule (T_kd tb tn) (T_vl tb tn) ((1 : Int32)).toInt ((t_ix tb tn (sa : Int32).toNatClampNeg) + 1)) ∧ S_2.1 0 34 = .int u9 ∧ S_48.1 0 34 = .int v9 ∧ i9 = 3 * (ii : Int32).toNatClampNeg + ((1 : Int32) : Int32).toNatClampNeg ∧ j9 = 3 * (ii : Int32).toNatClampNeg + ((1 : Int32) : Int32).toNatClampNeg ∧ S_48.2.1 16 = upd (S_2.2.1 16) i9 u9 ∧ S_48.2.1 17 = upd (S_2.2.1 17) j9 v9) := w_48_3
                                          refine lv_goto (tgt := 236) hx hb dX12_statement_206 (dk_dq rfl) ?_
                                          refine W.widen (k := 0) (n := 0) (Nat.le_of_ble_eq_true rfl) (Nat.le_of_ble_eq_true rfl) ?_
                                          rw [hQ9]
                                          exact dg_vret hx hb hr hlocks hP hS ⟨I_48, M_48, ⟨y_50, y_51, y_52, y_53, y_54, f_y_50, f_y_51, f_y_52, f_y_53, f_y_54, (by omega)⟩, (fun k9 hk9 hk0 => ⟨(ZCM.keep (ZCM.keep ZC m_2 (dk_dq rfl) (dk_dq rfl) (dk_dq rfl) (dk_dq rfl)) m_48 (dk_dq rfl) (dk_dq rfl) (dk_dq rfl) (dk_dq rfl)), w_48_1 k9 hk9 hk0⟩), (SOK.via (y_st_13' (g_o_iff.mp qw_30_1).1 (g_o_iff.mp qw_30_1).2 (by decide +kernel)) w_48_2 (by omega)), (m_hid.mk (fun h0 f9 q9 q8 => by have q7 := (f_y_53).symm.trans q9; cases q7; intro d9 i9 z9; have k9 := (g_o_iff.mp qw_30_1).2; obtain ⟨u9, v9, x9, y9, g9, e1, e2, e3, e4, e5, e6⟩ := w_48_3.out (by omega) _ f_y_53 (by omega); rw [k_st_r (by omega)]; rw [show ((T_vl tb tn) (t_ix tb tn (sa : Int32).toNatClampNeg)).toInt - 12 = (1 : Int32).toInt from by rw [k9]; decide +kernel]; exact km.rule (n := 1) (G := d9.1) (K := d9.2) z9 ((m_48.1 0 35 _ sM_0 (dk_dq rfl)).trans (m_2.1 0 35 _ sM_0 (dk_dq rfl))) ((m_48.2 4 _ sM_4 (dk_dq rfl)).1.trans (m_2.2 4 _ sM_4 (dk_dq rfl)).1) ((m_48.2 5 _ sM_5 (dk_dq rfl)).1.trans (m_2.2 5 _ sM_5 (dk_dq rfl)).1) ((m_48.2 6 _ sM_6 (dk_dq rfl)).1.trans (m_2.2 6 _ sM_6 (dk_dq rfl)).1) ((m_48.2 7 _ sM_7 (dk_dq rfl)).1.trans (m_2.2 7 _ sM_7 (dk_dq rfl)).1) ((m_48.2 10 _ sM_10 (dk_dq rfl)).1.trans (m_2.2 10 _ sM_10 (dk_dq rfl)).1) ((m_48.2 11 _ sM_11 (dk_dq rfl)).1.trans (m_2.2 11 _ sM_11 (dk_dq rfl)).1) ((m_48.2 13 _ sM_13 (dk_dq rfl)).1.trans (m_2.2 13 _ sM_13 (dk_dq rfl)).1) ((m_48.2 14 _ sM_14 (dk_dq rfl)).1.trans (m_2.2 14 _ sM_14 (dk_dq rfl)).1) ((m_48.2 15 _ sM_15 (dk_dq rfl)).1.trans (m_2.2 15 _ sM_15 (dk_dq rfl)).1) f_ii (dk_dq rfl) ((q_am.fs g9 (m_2.1 0 34 _ sM_0 (dk_dq rfl)) (m_2.1 0 35 _ sM_0 (dk_dq rfl)) (m_2.2 18 _ sM_18 (dk_dq rfl)).1 (m_2.2 19 _ sM_19 (dk_dq rfl)).1)) (((m_2.1 0 34 _ sM_0 (dk_dq rfl))).symm.trans e1) e2 (by rw [e5, (m_2.2 16 _ sM_16 (dk_dq rfl)).1]) (by rw [e6, (m_2.2 17 _ sM_17 (dk_dq rfl)).1, e4, e3]) (by have h9 : (1 : Int32).toNatClampNeg = 1 := (by decide +kernel); omega) (by omega))), w_48_4, (ZBM.keep (ZBM.keep ZB m_2 (dk_dq rfl) (dk_dq rfl) (dk_dq rfl) (dk_dq rfl) (dk_dq rfl)) m_48 (dk_dq rfl) (dk_dq rfl) (dk_dq rfl) (dk_dq rfl) (dk_dq rfl)), w_48_5, w_48_6, w_48_7, trivial⟩ dX12_statement_236
                                  · as_aux_lemma =>
                                      have jc_28 := dk_neqc (k := 0) (by decide +kernel) c_28
                                      have jbc_28 : 1 ≤ (x_26).toInt := by omega
                                      clear jc_28
                                      have qw_27_1 : g_o (T_kd tb tn) (T_vl tb tn) 12 (t_ix tb tn (sa : Int32).toNatClampNeg) = true := (TKM.isw (TKM.keep TK m_2 (dk_dq rfl) (dk_dq rfl) (dk_dq rfl) (dk_dq rfl) (dk_dq rfl) (dk_dq rfl) (dk_dq rfl) (dk_dq rfl)) ((m_2.1 0 3 _ sM_0 (dk_dq rfl)).trans f_sg) ((m_2.1 0 4 _ sM_0 (dk_dq rfl)).trans f_sa) (by omega) (j := 12) (C := 126926742711411) (dk_dq rfl) (by decide +kernel) w_27_1).mp (by omega)
                                      have w_27_1_r : (sg).toInt = 1 := by have h9 := g_o_iff.mp qw_27_1; have h8 := TKM.zero (TKM.keep TK m_2 (dk_dq rfl) (dk_dq rfl) (dk_dq rfl) (dk_dq rfl) (dk_dq rfl) (dk_dq rfl) (dk_dq rfl) (dk_dq rfl)) ((m_2.1 0 3 _ sM_0 (dk_dq rfl)).trans f_sg) ((m_2.1 0 4 _ sM_0 (dk_dq rfl)).trans f_sa); have h7 := (TKM.w1 (TKM.keep TK m_2 (dk_dq rfl) (dk_dq rfl) (dk_dq rfl) (dk_dq rfl) (dk_dq rfl) (dk_dq rfl) (dk_dq rfl) (dk_dq rfl)) ((m_2.1 0 3 _ sM_0 (dk_dq rfl)).trans f_sg) ((m_2.1 0 4 _ sM_0 (dk_dq rfl)).trans f_sa) (by omega)).mpr (by omega); omega
                                      clear w_27_1
                                      have qlw_27_1 := g_o_iff.mp qw_27_1
                                      have hlx_2r := hlx_2 (by omega)
                                      clear hlx_2
                                      refine lv_aload_n hx hb dX12_statement_183 rfl (lv_at hl 0 rfl) ?_
                                      refine lv_iconst (v := 0) hx hb dX12_statement_184 (by decide +kernel) ?_
                                      have hz_55 : (0 : Int32).toInt = 0 := by decide +kernel
                                      refine dg_callv hS hA1 hA (va_runV (As := [.int 0]) (rest := []) F (c_m_reading l g D o S_2 0 (by decide +kernel) tb tn sg9 S0 sg ((m_2.1 0 3 _ sM_0 (dk_dq rfl)).trans f_sg) (by omega) sa ((m_2.1 0 4 _ sM_0 (dk_dq rfl)).trans f_sa) (by omega) se ((m_2.1 0 5 _ sM_0 (dk_dq rfl)).trans f_se) (by omega) sl ((m_2.1 0 2 _ sM_0 (dk_dq rfl)).trans f_sl) (by omega) y_3 f_y_3 (by omega) cd ((m_2.1 0 34 _ sM_0 (dk_dq rfl)).trans f_cd) (by omega) ii ((m_2.1 0 35 _ sM_0 (dk_dq rfl)).trans f_ii) (by omega) (by omega) (by omega) (by omega) (TKM.keep TK m_2 (dk_dq rfl) (dk_dq rfl) (dk_dq rfl) (dk_dq rfl) (dk_dq rfl) (dk_dq rfl) (dk_dq rfl) (dk_dq rfl)) (GSM.keep GS m_2 (dk_dq rfl) (dk_dq rfl) (dk_dq rfl) (dk_dq rfl) (dk_dq rfl) (dk_dq rfl) (dk_dq rfl) (dk_dq rfl) (dk_dq rfl)) (ZWM.keep ZW m_2 (dk_dq rfl) (dk_dq rfl) (dk_dq rfl) (dk_dq rfl)) (ZKM.keep ZK m_2 (dk_dq rfl) (dk_dq rfl)) (ZVM.keep ZV m_2 (dk_dq rfl) (dk_dq rfl) (dk_dq rfl) (dk_dq rfl) (dk_dq rfl)) (GBM.keep GB m_2 (dk_dq rfl) (dk_dq rfl) (dk_dq rfl)) (G8M.keep G8 m_2 (dk_dq rfl) (dk_dq rfl) (dk_dq rfl)) I_2 H.size) (cwV 1 hts (bw_V wB_456 wB_457 wB_458 wB_297 wB_455) rfl rfl rfl (by decide +kernel) ⟨Nat.le_of_ble_eq_true rfl, Nat.le_of_ble_eq_true rfl⟩) (dg_preV sM_0 rfl K ST hP hS hA1 hA) rfl rfl hl.1 rfl (lv_room (Nat.le_of_ble_eq_true rfl)) dX12_statement_185 ⟨Nat.le_of_ble_eq_true rfl, Nat.le_of_ble_eq_true rfl⟩) (fun S_56 hw_56 H locs hP hS => ?_)
                                      obtain ⟨I_56, m_56, w_56_0, w_56_1, w_56_2, w_56_3, w_56_4, w_56_5, w_56_6, w_56_7, -⟩ := hw_56
                                      have M_56 := dg_sm.tr M_2 m_56 (dk_dq rfl) (dk_dq rfl)
                                      have hz_57 : (0 : Int32).toInt = 0 := by decide +kernel
                                      obtain ⟨y_58, y_59, y_60, y_61, y_62, f_y_58, f_y_59, f_y_60, f_y_61, f_y_62, w_56_0⟩ := w_56_0
                                      have w_56_0 : ((y_59).toInt ≤ (y_60).toInt ∧ (y_60).toInt ≤ (sl).toInt ∧ ((y_58).toInt ≠ 0 → (y_59).toInt + 1 ≤ (y_60).toInt)) ∧ (sa).toInt ≤ (y_59).toInt ∧ ((y_3).toInt ≠ 0 → (y_61).toInt ≠ 0) ∧ (((y_61).toInt = 0 → (sa).toInt + 1 ≤ (y_59).toInt) ∧ ((y_61).toInt = 0 → (y_62).toInt ≤ (y_59).toInt)) := w_56_0
                                      obtain ⟨⟨w_56_0_0, w_56_0_1, w_56_0_2⟩, w_56_0_3, w_56_0_4, ⟨w_56_0_5, w_56_0_6⟩⟩ := w_56_0
                                      clear w_56_0_4
                                      have b_y_58 : 0 ≤ (y_58).toInt ∧ (y_58).toInt ≤ 3 := dg_I.intb (lo := 0) (hi := 3) I_56 sM_0 (by decide +kernel) f_y_58
                                      have b_y_59 : 0 ≤ (y_59).toInt ∧ (y_59).toInt ≤ 1600 := dg_I.intb (lo := 0) (hi := 1600) I_56 sM_0 (by decide +kernel) f_y_59
                                      have b_y_60 : 0 ≤ (y_60).toInt ∧ (y_60).toInt ≤ 1600 := dg_I.intb (lo := 0) (hi := 1600) I_56 sM_0 (by decide +kernel) f_y_60
                                      have b_y_61 : 0 ≤ (y_61).toInt ∧ (y_61).toInt ≤ 6 := dg_I.intb (lo := 0) (hi := 6) I_56 sM_0 (by decide +kernel) f_y_61
                                      have b_y_62 : 0 ≤ (y_62).toInt ∧ (y_62).toInt ≤ 1600 := dg_I.intb (lo := 0) (hi := 1600) I_56 sM_0 (by decide +kernel) f_y_62
                                      replace w_56_1 : ∀ k9 : Int32, S_56.1 0 8 = .int k9 → k9.toInt = 0 → ZVM S_56 := w_56_1
                                      replace w_56_2 : SOK tb tn y_3 (m_T12 (T_kd tb tn) (T_vl tb tn) sg9 ((0 : Int32)).toInt ((t_ix tb tn (sa : Int32).toNatClampNeg) + 1)) S_56 := w_56_2
                                      replace w_56_3 : m_hid ((y_3).toInt = 0 → ∀ f9 : Int32, S_56.1 0 8 = .int f9 → f9.toInt = 0 → ∃ (u9 v9 : Int32) (i9 j9 : Nat), q_am S_2 S_56 (d_rule (T_kd tb tn) (T_vl tb tn) ((0 : Int32)).toInt ((t_ix tb tn (sa : Int32).toNatClampNeg) + 1)) ∧ S_2.1 0 34 = .int u9 ∧ S_56.1 0 34 = .int v9 ∧ i9 = 3 * (ii : Int32).toNatClampNeg + ((0 : Int32) : Int32).toNatClampNeg ∧ j9 = 3 * (ii : Int32).toNatClampNeg + ((0 : Int32) : Int32).toNatClampNeg ∧ S_56.2.1 16 = upd (S_2.2.1 16) i9 u9 ∧ S_56.2.1 17 = upd (S_2.2.1 17) j9 v9) := w_56_3
                                      refine lv_goto (tgt := 236) hx hb dX12_statement_188 (dk_dq rfl) ?_
                                      refine W.widen (k := 0) (n := 0) (Nat.le_of_ble_eq_true rfl) (Nat.le_of_ble_eq_true rfl) ?_
                                      rw [hQ9]
                                      exact dg_vret hx hb hr hlocks hP hS ⟨I_56, M_56, ⟨y_58, y_59, y_60, y_61, y_62, f_y_58, f_y_59, f_y_60, f_y_61, f_y_62, (by omega)⟩, (fun k9 hk9 hk0 => ⟨(ZCM.keep (ZCM.keep ZC m_2 (dk_dq rfl) (dk_dq rfl) (dk_dq rfl) (dk_dq rfl)) m_56 (dk_dq rfl) (dk_dq rfl) (dk_dq rfl) (dk_dq rfl)), w_56_1 k9 hk9 hk0⟩), (SOK.via (y_st_12' (g_o_iff.mp qw_27_1).1 (g_o_iff.mp qw_27_1).2 (by decide +kernel)) w_56_2 (by omega)), (m_hid.mk (fun h0 f9 q9 q8 => by have q7 := (f_y_61).symm.trans q9; cases q7; intro d9 i9 z9; have k9 := (g_o_iff.mp qw_27_1).2; obtain ⟨u9, v9, x9, y9, g9, e1, e2, e3, e4, e5, e6⟩ := w_56_3.out (by omega) _ f_y_61 (by omega); rw [k_st_r (by omega)]; rw [show ((T_vl tb tn) (t_ix tb tn (sa : Int32).toNatClampNeg)).toInt - 12 = (0 : Int32).toInt from by rw [k9]; decide +kernel]; exact km.rule (n := 0) (G := d9.1) (K := d9.2) z9 ((m_56.1 0 35 _ sM_0 (dk_dq rfl)).trans (m_2.1 0 35 _ sM_0 (dk_dq rfl))) ((m_56.2 4 _ sM_4 (dk_dq rfl)).1.trans (m_2.2 4 _ sM_4 (dk_dq rfl)).1) ((m_56.2 5 _ sM_5 (dk_dq rfl)).1.trans (m_2.2 5 _ sM_5 (dk_dq rfl)).1) ((m_56.2 6 _ sM_6 (dk_dq rfl)).1.trans (m_2.2 6 _ sM_6 (dk_dq rfl)).1) ((m_56.2 7 _ sM_7 (dk_dq rfl)).1.trans (m_2.2 7 _ sM_7 (dk_dq rfl)).1) ((m_56.2 10 _ sM_10 (dk_dq rfl)).1.trans (m_2.2 10 _ sM_10 (dk_dq rfl)).1) ((m_56.2 11 _ sM_11 (dk_dq rfl)).1.trans (m_2.2 11 _ sM_11 (dk_dq rfl)).1) ((m_56.2 13 _ sM_13 (dk_dq rfl)).1.trans (m_2.2 13 _ sM_13 (dk_dq rfl)).1) ((m_56.2 14 _ sM_14 (dk_dq rfl)).1.trans (m_2.2 14 _ sM_14 (dk_dq rfl)).1) ((m_56.2 15 _ sM_15 (dk_dq rfl)).1.trans (m_2.2 15 _ sM_15 (dk_dq rfl)).1) f_ii (dk_dq rfl) ((q_am.fs g9 (m_2.1 0 34 _ sM_0 (dk_dq rfl)) (m_2.1 0 35 _ sM_0 (dk_dq rfl)) (m_2.2 18 _ sM_18 (dk_dq rfl)).1 (m_2.2 19 _ sM_19 (dk_dq rfl)).1)) (((m_2.1 0 34 _ sM_0 (dk_dq rfl))).symm.trans e1) e2 (by rw [e5, (m_2.2 16 _ sM_16 (dk_dq rfl)).1]) (by rw [e6, (m_2.2 17 _ sM_17 (dk_dq rfl)).1, e4, e3]) (by have h9 : (0 : Int32).toNatClampNeg = 0 := (by decide +kernel); omega) (by omega))), w_56_4, (ZBM.keep (ZBM.keep ZB m_2 (dk_dq rfl) (dk_dq rfl) (dk_dq rfl) (dk_dq rfl) (dk_dq rfl)) m_56 (dk_dq rfl) (dk_dq rfl) (dk_dq rfl) (dk_dq rfl) (dk_dq rfl)), w_56_5, w_56_6, w_56_7, trivial⟩ dX12_statement_236
                              · as_aux_lemma =>
                                  have jc_25 := dk_neqc (k := 0) (by decide +kernel) c_25
                                  have jbc_25 : 1 ≤ (x_23).toInt := by omega
                                  clear jc_25
                                  have qw_24_1 : g_o (T_kd tb tn) (T_vl tb tn) 9 (t_ix tb tn (sa : Int32).toNatClampNeg) = true := (TKM.isw (TKM.keep TK m_2 (dk_dq rfl) (dk_dq rfl) (dk_dq rfl) (dk_dq rfl) (dk_dq rfl) (dk_dq rfl) (dk_dq rfl) (dk_dq rfl)) ((m_2.1 0 3 _ sM_0 (dk_dq rfl)).trans f_sg) ((m_2.1 0 4 _ sM_0 (dk_dq rfl)).trans f_sa) (by omega) (j := 9) (C := 478660552050) (dk_dq rfl) (by decide +kernel) w_24_1).mp (by omega)
                                  have w_24_1_r : (sg).toInt = 1 := by have h9 := g_o_iff.mp qw_24_1; have h8 := TKM.zero (TKM.keep TK m_2 (dk_dq rfl) (dk_dq rfl) (dk_dq rfl) (dk_dq rfl) (dk_dq rfl) (dk_dq rfl) (dk_dq rfl) (dk_dq rfl)) ((m_2.1 0 3 _ sM_0 (dk_dq rfl)).trans f_sg) ((m_2.1 0 4 _ sM_0 (dk_dq rfl)).trans f_sa); have h7 := (TKM.w1 (TKM.keep TK m_2 (dk_dq rfl) (dk_dq rfl) (dk_dq rfl) (dk_dq rfl) (dk_dq rfl) (dk_dq rfl) (dk_dq rfl) (dk_dq rfl)) ((m_2.1 0 3 _ sM_0 (dk_dq rfl)).trans f_sg) ((m_2.1 0 4 _ sM_0 (dk_dq rfl)).trans f_sa) (by omega)).mpr (by omega); omega
                                  clear w_24_1
                                  have qlw_24_1 := g_o_iff.mp qw_24_1
                                  have hlx_2r := hlx_2 (by omega)
                                  clear hlx_2
                                  refine lv_aload_n hx hb dX12_statement_166 rfl (lv_at hl 0 rfl) ?_
                                  refine dg_callv hS hA1 hA (va_runV (As := []) (rest := []) F (c_m_ordering l g D o S_2 tb tn sg9 S0 sg ((m_2.1 0 3 _ sM_0 (dk_dq rfl)).trans f_sg) (by omega) sa ((m_2.1 0 4 _ sM_0 (dk_dq rfl)).trans f_sa) (by omega) se ((m_2.1 0 5 _ sM_0 (dk_dq rfl)).trans f_se) (by omega) sl ((m_2.1 0 2 _ sM_0 (dk_dq rfl)).trans f_sl) (by omega) y_3 f_y_3 (by omega) ii ((m_2.1 0 35 _ sM_0 (dk_dq rfl)).trans f_ii) (by omega) mi ((congrFun (m_2.2 8 _ sM_8 (dk_dq rfl)).1 _).trans f_mi) (by omega) od ((congrFun (m_2.2 12 _ sM_12 (dk_dq rfl)).1 _).trans f_od) (by omega) (by omega) (by omega) (TKM.keep TK m_2 (dk_dq rfl) (dk_dq rfl) (dk_dq rfl) (dk_dq rfl) (dk_dq rfl) (dk_dq rfl) (dk_dq rfl) (dk_dq rfl)) (GSM.keep GS m_2 (dk_dq rfl) (dk_dq rfl) (dk_dq rfl) (dk_dq rfl) (dk_dq rfl) (dk_dq rfl) (dk_dq rfl) (dk_dq rfl) (dk_dq rfl)) (GBM.keep GB m_2 (dk_dq rfl) (dk_dq rfl) (dk_dq rfl)) (ZKM.keep ZK m_2 (dk_dq rfl) (dk_dq rfl)) I_2 H.size) (cwV 0 hts (bw_V wB_460 wB_461 wB_462 wB_297 wB_459) rfl rfl rfl (by decide +kernel) ⟨Nat.le_of_ble_eq_true rfl, Nat.le_of_ble_eq_true rfl⟩) (dg_preV sM_0 rfl K ST hP hS hA1 hA) rfl rfl hl.1 rfl (lv_room (Nat.le_of_ble_eq_true rfl)) dX12_statement_167 ⟨Nat.le_of_ble_eq_true rfl, Nat.le_of_ble_eq_true rfl⟩) (fun S_63 hw_63 H locs hP hS => ?_)
                                  obtain ⟨I_63, m_63, w_63_0, w_63_1, w_63_2, w_63_3, w_63_4, -⟩ := hw_63
                                  have M_63 := dg_sm.tr M_2 m_63 (dk_dq rfl) (dk_dq rfl)
                                  obtain ⟨y_64, y_65, y_66, y_67, f_y_64, f_y_65, f_y_66, f_y_67, w_63_0⟩ := w_63_0
                                  have w_63_0 : ((y_65).toInt ≤ (y_66).toInt ∧ (y_66).toInt ≤ (sl).toInt ∧ ((y_64).toInt ≠ 0 → (y_65).toInt + 1 ≤ (y_66).toInt)) ∧ (sa).toInt ≤ (y_65).toInt ∧ ((y_3).toInt ≠ 0 → (y_67).toInt ≠ 0) ∧ ((y_67).toInt = 0 → (sa).toInt + 1 ≤ (y_65).toInt) := w_63_0
                                  obtain ⟨⟨w_63_0_0, w_63_0_1, w_63_0_2⟩, w_63_0_3, w_63_0_4, w_63_0_5⟩ := w_63_0
                                  clear w_63_0_4
                                  have b_y_64 : 0 ≤ (y_64).toInt ∧ (y_64).toInt ≤ 3 := dg_I.intb (lo := 0) (hi := 3) I_63 sM_0 (by decide +kernel) f_y_64
                                  have b_y_65 : 0 ≤ (y_65).toInt ∧ (y_65).toInt ≤ 1600 := dg_I.intb (lo := 0) (hi := 1600) I_63 sM_0 (by decide +kernel) f_y_65
                                  have b_y_66 : 0 ≤ (y_66).toInt ∧ (y_66).toInt ≤ 1600 := dg_I.intb (lo := 0) (hi := 1600) I_63 sM_0 (by decide +kernel) f_y_66
                                  have b_y_67 : 0 ≤ (y_67).toInt ∧ (y_67).toInt ≤ 6 := dg_I.intb (lo := 0) (hi := 6) I_63 sM_0 (by decide +kernel) f_y_67
                                  replace w_63_1 : SOK tb tn y_3 (if sg9.2.2.2.1.length = 5 then none else ((y_new (T_kd tb tn) (T_vl tb tn) sg9.2.1 sg9.2.2.2.1 ((t_ix tb tn (sa : Int32).toNatClampNeg) + 1)).bind fun k1 => (y_own (T_kd tb tn) (T_vl tb tn) 5 k1).bind fun k2 => (y_num (T_kd tb tn) (T_vl tb tn) 0 9 k2).bind fun k3 => (y_own (T_kd tb tn) (T_vl tb tn) 10 k3).bind fun k4 => (y_num (T_kd tb tn) (T_vl tb tn) 1 9 k4).bind fun k5 => (y_own (T_kd tb tn) (T_vl tb tn) 11 k5).bind (y_num (T_kd tb tn) (T_vl tb tn) 0 999)).map fun k9 => ((sg9.1, sg9.2.1, sg9.2.2.1, sg9.2.2.2.1 ++ [(T_vl tb tn ((t_ix tb tn (sa : Int32).toNatClampNeg) + 1)).toInt], sg9.2.2.2.2), k9)) S_63 := w_63_1
                                  replace w_63_2 : m_hid ((y_3).toInt = 0 → ∀ f9 : Int32, S_63.1 0 8 = .int f9 → f9.toInt = 0 → ∃ (u9 v9 w9 : Int32) (i9 : Nat), u9.toInt = (T_vl tb tn ((t_ix tb tn (sa : Int32).toNatClampNeg) + 3)).toInt ∧ v9.toInt = (T_vl tb tn ((t_ix tb tn (sa : Int32).toNatClampNeg) + 5)).toInt ∧ w9.toInt = (T_vl tb tn ((t_ix tb tn (sa : Int32).toNatClampNeg) + 7)).toInt ∧ i9 = 5 * (ii : Int32).toNatClampNeg + (od : Int32).toNatClampNeg ∧ S_63.2.1 13 = upd (S_2.2.1 13) i9 u9 ∧ S_63.2.1 14 = upd (S_2.2.1 14) i9 v9 ∧ S_63.2.1 15 = upd (S_2.2.1 15) i9 w9 ∧ (od : Int32).toNatClampNeg < 5) := w_63_2
                                  refine lv_goto (tgt := 236) hx hb dX12_statement_170 (dk_dq rfl) ?_
                                  refine W.widen (k := 0) (n := 0) (Nat.le_of_ble_eq_true rfl) (Nat.le_of_ble_eq_true rfl) ?_
                                  rw [hQ9]
                                  exact dg_vret hx hb hr hlocks hP hS ⟨I_63, M_63, ⟨y_64, y_65, y_66, y_67, cd, f_y_64, f_y_65, f_y_66, f_y_67, (((m_63.1 0 34 _ sM_0 (dk_dq rfl)).trans (m_2.1 0 34 _ sM_0 (dk_dq rfl))).trans f_cd), (by omega)⟩, (fun k9 hk9 hk0 => ⟨(ZCM.keep (ZCM.keep ZC m_2 (dk_dq rfl) (dk_dq rfl) (dk_dq rfl) (dk_dq rfl)) m_63 (dk_dq rfl) (dk_dq rfl) (dk_dq rfl) (dk_dq rfl)), (ZVM.keep (ZVM.keep ZV m_2 (dk_dq rfl) (dk_dq rfl) (dk_dq rfl) (dk_dq rfl) (dk_dq rfl)) m_63 (dk_dq rfl) (dk_dq rfl) (dk_dq rfl) (dk_dq rfl) (dk_dq rfl))⟩), (SOK.via (y_st_9 (g_o_iff.mp qw_24_1).1 (g_o_iff.mp qw_24_1).2) w_63_1 (by omega)), (m_hid.mk (fun h0 f9 q9 q8 => by have q7 := (f_y_67).symm.trans q9; cases q7; intro d9 i9 z9; have k9 := (g_o_iff.mp qw_24_1).2; obtain ⟨u9, v9, w9, x9, e1, e2, e3, e4, e5, e6, e7, e8⟩ := w_63_2.out (by omega) _ f_y_67 (by omega); have hn9 := GSM.orders GS f_ii f_od; have hm9 := i9.2.2.2.2; have hc9 := dk_clN od; rw [k_st_9 (by omega), ← e1, ← e2, ← e3]; exact km.order (G := d9.1) (K := d9.2) z9 ((m_63.1 0 35 _ sM_0 (dk_dq rfl)).trans (m_2.1 0 35 _ sM_0 (dk_dq rfl))) ((m_63.1 0 34 _ sM_0 (dk_dq rfl)).trans (m_2.1 0 34 _ sM_0 (dk_dq rfl))) ((m_63.2 4 _ sM_4 (dk_dq rfl)).1.trans (m_2.2 4 _ sM_4 (dk_dq rfl)).1) ((m_63.2 5 _ sM_5 (dk_dq rfl)).1.trans (m_2.2 5 _ sM_5 (dk_dq rfl)).1) ((m_63.2 6 _ sM_6 (dk_dq rfl)).1.trans (m_2.2 6 _ sM_6 (dk_dq rfl)).1) ((m_63.2 7 _ sM_7 (dk_dq rfl)).1.trans (m_2.2 7 _ sM_7 (dk_dq rfl)).1) ((m_63.2 10 _ sM_10 (dk_dq rfl)).1.trans (m_2.2 10 _ sM_10 (dk_dq rfl)).1) ((m_63.2 11 _ sM_11 (dk_dq rfl)).1.trans (m_2.2 11 _ sM_11 (dk_dq rfl)).1) ((m_63.2 16 _ sM_16 (dk_dq rfl)).1.trans (m_2.2 16 _ sM_16 (dk_dq rfl)).1) ((m_63.2 17 _ sM_17 (dk_dq rfl)).1.trans (m_2.2 17 _ sM_17 (dk_dq rfl)).1) ((m_63.2 18 _ sM_18 (dk_dq rfl)).1.trans (m_2.2 18 _ sM_18 (dk_dq rfl)).1) ((m_63.2 19 _ sM_19 (dk_dq rfl)).1.trans (m_2.2 19 _ sM_19 (dk_dq rfl)).1) f_ii (by rw [e5, (m_2.2 13 _ sM_13 (dk_dq rfl)).1]) (by rw [e6, (m_2.2 14 _ sM_14 (dk_dq rfl)).1]) (by rw [e7, (m_2.2 15 _ sM_15 (dk_dq rfl)).1]) e4 (by omega) e8)), w_63_3, (ZBM.keep (ZBM.keep ZB m_2 (dk_dq rfl) (dk_dq rfl) (dk_dq rfl) (dk_dq rfl) (dk_dq rfl)) m_63 (dk_dq rfl) (dk_dq rfl) (dk_dq rfl) (dk_dq rfl) (dk_dq rfl)), (ZWM.keep (ZWM.keep ZW m_2 (dk_dq rfl) (dk_dq rfl) (dk_dq rfl) (dk_dq rfl)) m_63 (dk_dq rfl) (dk_dq rfl) (dk_dq rfl) (dk_dq rfl)), w_63_4, (G8M.keep (G8M.keep G8 m_2 (dk_dq rfl) (dk_dq rfl) (dk_dq rfl)) m_63 (dk_dq rfl) (dk_dq rfl) (dk_dq rfl)), trivial⟩ dX12_statement_236
                          · as_aux_lemma =>
                              have jc_22 := dk_neqc (k := 0) (by decide +kernel) c_22
                              have jbc_22 : 1 ≤ (x_20).toInt := by omega
                              clear jc_22
                              have qw_21_1 : g_o (T_kd tb tn) (T_vl tb tn) 7 (t_ix tb tn (sa : Int32).toNatClampNeg) = true := (TKM.isw (TKM.keep TK m_2 (dk_dq rfl) (dk_dq rfl) (dk_dq rfl) (dk_dq rfl) (dk_dq rfl) (dk_dq rfl) (dk_dq rfl) (dk_dq rfl)) ((m_2.1 0 3 _ sM_0 (dk_dq rfl)).trans f_sg) ((m_2.1 0 4 _ sM_0 (dk_dq rfl)).trans f_sa) (by omega) (j := 7) (C := 6580583) (dk_dq rfl) (by decide +kernel) w_21_1).mp (by omega)
                              have w_21_1_r : (sg).toInt = 1 := by have h9 := g_o_iff.mp qw_21_1; have h8 := TKM.zero (TKM.keep TK m_2 (dk_dq rfl) (dk_dq rfl) (dk_dq rfl) (dk_dq rfl) (dk_dq rfl) (dk_dq rfl) (dk_dq rfl) (dk_dq rfl)) ((m_2.1 0 3 _ sM_0 (dk_dq rfl)).trans f_sg) ((m_2.1 0 4 _ sM_0 (dk_dq rfl)).trans f_sa); have h7 := (TKM.w1 (TKM.keep TK m_2 (dk_dq rfl) (dk_dq rfl) (dk_dq rfl) (dk_dq rfl) (dk_dq rfl) (dk_dq rfl) (dk_dq rfl) (dk_dq rfl)) ((m_2.1 0 3 _ sM_0 (dk_dq rfl)).trans f_sg) ((m_2.1 0 4 _ sM_0 (dk_dq rfl)).trans f_sa) (by omega)).mpr (by omega); omega
                              clear w_21_1
                              have qlw_21_1 := g_o_iff.mp qw_21_1
                              have hlx_2r := hlx_2 (by omega)
                              clear hlx_2
                              refine lv_aload_n hx hb dX12_statement_149 rfl (lv_at hl 0 rfl) ?_
                              refine dg_callv hS hA1 hA (va_runV (As := []) (rest := []) F (c_m_digging l g D o S_2 tb tn sg9 S0 sg ((m_2.1 0 3 _ sM_0 (dk_dq rfl)).trans f_sg) (by omega) sa ((m_2.1 0 4 _ sM_0 (dk_dq rfl)).trans f_sa) (by omega) se ((m_2.1 0 5 _ sM_0 (dk_dq rfl)).trans f_se) (by omega) sl ((m_2.1 0 2 _ sM_0 (dk_dq rfl)).trans f_sl) (by omega) y_3 f_y_3 (by omega) ii ((m_2.1 0 35 _ sM_0 (dk_dq rfl)).trans f_ii) (by omega) mi ((congrFun (m_2.2 8 _ sM_8 (dk_dq rfl)).1 _).trans f_mi) (by omega) pl ((congrFun (m_2.2 9 _ sM_9 (dk_dq rfl)).1 _).trans f_pl) (by omega) cc ((congrFun (m_2.2 2 _ sM_2 (dk_dq rfl)).1 _).trans f_cc) (by omega) rr ((congrFun (m_2.2 3 _ sM_3 (dk_dq rfl)).1 _).trans f_rr) (by omega) (by omega) (by omega) (TKM.keep TK m_2 (dk_dq rfl) (dk_dq rfl) (dk_dq rfl) (dk_dq rfl) (dk_dq rfl) (dk_dq rfl) (dk_dq rfl) (dk_dq rfl)) (GSM.keep GS m_2 (dk_dq rfl) (dk_dq rfl) (dk_dq rfl) (dk_dq rfl) (dk_dq rfl) (dk_dq rfl) (dk_dq rfl) (dk_dq rfl) (dk_dq rfl)) (ZCM.keep ZC m_2 (dk_dq rfl) (dk_dq rfl) (dk_dq rfl) (dk_dq rfl)) (GBM.keep GB m_2 (dk_dq rfl) (dk_dq rfl) (dk_dq rfl)) (ZKM.keep ZK m_2 (dk_dq rfl) (dk_dq rfl)) I_2 H.size) (cwV 0 hts (bw_V wB_464 wB_465 wB_466 wB_297 wB_463) rfl rfl rfl (by decide +kernel) ⟨Nat.le_of_ble_eq_true rfl, Nat.le_of_ble_eq_true rfl⟩) (dg_preV sM_0 rfl K ST hP hS hA1 hA) rfl rfl hl.1 rfl (lv_room (Nat.le_of_ble_eq_true rfl)) dX12_statement_150 ⟨Nat.le_of_ble_eq_true rfl, Nat.le_of_ble_eq_true rfl⟩) (fun S_68 hw_68 H locs hP hS => ?_)
                              obtain ⟨I_68, m_68, w_68_0, w_68_1, w_68_2, w_68_3, w_68_4, -⟩ := hw_68
                              have M_68 := dg_sm.tr M_2 m_68 (dk_dq rfl) (dk_dq rfl)
                              obtain ⟨y_69, y_70, y_71, y_72, f_y_69, f_y_70, f_y_71, f_y_72, w_68_0⟩ := w_68_0
                              have w_68_0 : ((y_70).toInt ≤ (y_71).toInt ∧ (y_71).toInt ≤ (sl).toInt ∧ ((y_69).toInt ≠ 0 → (y_70).toInt + 1 ≤ (y_71).toInt)) ∧ (sa).toInt ≤ (y_70).toInt ∧ ((y_3).toInt ≠ 0 → (y_72).toInt ≠ 0) ∧ ((y_72).toInt = 0 → (sa).toInt + 1 ≤ (y_70).toInt) := w_68_0
                              obtain ⟨⟨w_68_0_0, w_68_0_1, w_68_0_2⟩, w_68_0_3, w_68_0_4, w_68_0_5⟩ := w_68_0
                              clear w_68_0_4
                              have b_y_69 : 0 ≤ (y_69).toInt ∧ (y_69).toInt ≤ 3 := dg_I.intb (lo := 0) (hi := 3) I_68 sM_0 (by decide +kernel) f_y_69
                              have b_y_70 : 0 ≤ (y_70).toInt ∧ (y_70).toInt ≤ 1600 := dg_I.intb (lo := 0) (hi := 1600) I_68 sM_0 (by decide +kernel) f_y_70
                              have b_y_71 : 0 ≤ (y_71).toInt ∧ (y_71).toInt ≤ 1600 := dg_I.intb (lo := 0) (hi := 1600) I_68 sM_0 (by decide +kernel) f_y_71
                              have b_y_72 : 0 ≤ (y_72).toInt ∧ (y_72).toInt ≤ 6 := dg_I.intb (lo := 0) (hi := 6) I_68 sM_0 (by decide +kernel) f_y_72
                              replace w_68_1 : SOK tb tn y_3 (if sg9.2.2.1 = 16 then none else ((y_old (T_kd tb tn) (T_vl tb tn) sg9.2.1 ((t_ix tb tn (sa : Int32).toNatClampNeg) + 1)).bind fun k1 => (y_own (T_kd tb tn) (T_vl tb tn) 8 k1).bind (y_cell (T_kd tb tn) (T_vl tb tn) sg9.1)).map fun k9 => ((sg9.1, sg9.2.1, sg9.2.2.1 + 1, sg9.2.2.2), k9)) S_68 := w_68_1
                              replace w_68_2 : m_hid ((y_3).toInt = 0 → ∀ f9 : Int32, S_68.1 0 8 = .int f9 → f9.toInt = 0 → ∃ (v9 w9 : Int32) (i9 : Nat), v9.toInt = z_ix sg9.2.1 (T_vl tb tn ((t_ix tb tn (sa : Int32).toNatClampNeg) + 1)).toInt ∧ w9.toInt = 8 * (T_vl tb tn ((t_ix tb tn (sa : Int32).toNatClampNeg) + 4)).toInt + (T_vl tb tn ((t_ix tb tn (sa : Int32).toNatClampNeg) + 3)).toInt ∧ i9 = 16 * (ii : Int32).toNatClampNeg + (pl : Int32).toNatClampNeg ∧ S_68.2.1 10 = upd (S_2.2.1 10) i9 v9 ∧ S_68.2.1 11 = upd (S_2.2.1 11) i9 w9 ∧ (pl : Int32).toNatClampNeg < 16) := w_68_2
                              refine lv_goto (tgt := 236) hx hb dX12_statement_153 (dk_dq rfl) ?_
                              refine W.widen (k := 0) (n := 0) (Nat.le_of_ble_eq_true rfl) (Nat.le_of_ble_eq_true rfl) ?_
                              rw [hQ9]
                              exact dg_vret hx hb hr hlocks hP hS ⟨I_68, M_68, ⟨y_69, y_70, y_71, y_72, cd, f_y_69, f_y_70, f_y_71, f_y_72, (((m_68.1 0 34 _ sM_0 (dk_dq rfl)).trans (m_2.1 0 34 _ sM_0 (dk_dq rfl))).trans f_cd), (by omega)⟩, (fun k9 hk9 hk0 => ⟨(ZCM.keep (ZCM.keep ZC m_2 (dk_dq rfl) (dk_dq rfl) (dk_dq rfl) (dk_dq rfl)) m_68 (dk_dq rfl) (dk_dq rfl) (dk_dq rfl) (dk_dq rfl)), (ZVM.keep (ZVM.keep ZV m_2 (dk_dq rfl) (dk_dq rfl) (dk_dq rfl) (dk_dq rfl) (dk_dq rfl)) m_68 (dk_dq rfl) (dk_dq rfl) (dk_dq rfl) (dk_dq rfl) (dk_dq rfl))⟩), (SOK.via (y_st_7 (g_o_iff.mp qw_21_1).1 (g_o_iff.mp qw_21_1).2) w_68_1 (by omega)), (m_hid.mk (fun h0 f9 q9 q8 => by have q7 := (f_y_72).symm.trans q9; cases q7; intro d9 i9 z9; have k9 := (g_o_iff.mp qw_21_1).2; obtain ⟨v9, w9, x9, e1, e2, e3, e4, e5, e6⟩ := w_68_2.out (by omega) _ f_y_72 (by omega); have hn9 := GSM.plans GS f_ii f_pl; have hm9 := i9.2.2.2.1; have hc9 := dk_clN pl; rw [k_st_7 (by omega)]; exact km.dig (G := d9.1) (K := d9.2) z9 ((m_68.1 0 35 _ sM_0 (dk_dq rfl)).trans (m_2.1 0 35 _ sM_0 (dk_dq rfl))) ((m_68.1 0 34 _ sM_0 (dk_dq rfl)).trans (m_2.1 0 34 _ sM_0 (dk_dq rfl))) ((m_68.2 4 _ sM_4 (dk_dq rfl)).1.trans (m_2.2 4 _ sM_4 (dk_dq rfl)).1) ((m_68.2 5 _ sM_5 (dk_dq rfl)).1.trans (m_2.2 5 _ sM_5 (dk_dq rfl)).1) ((m_68.2 6 _ sM_6 (dk_dq rfl)).1.trans (m_2.2 6 _ sM_6 (dk_dq rfl)).1) ((m_68.2 7 _ sM_7 (dk_dq rfl)).1.trans (m_2.2 7 _ sM_7 (dk_dq rfl)).1) ((m_68.2 13 _ sM_13 (dk_dq rfl)).1.trans (m_2.2 13 _ sM_13 (dk_dq rfl)).1) ((m_68.2 14 _ sM_14 (dk_dq rfl)).1.trans (m_2.2 14 _ sM_14 (dk_dq rfl)).1) ((m_68.2 15 _ sM_15 (dk_dq rfl)).1.trans (m_2.2 15 _ sM_15 (dk_dq rfl)).1) ((m_68.2 16 _ sM_16 (dk_dq rfl)).1.trans (m_2.2 16 _ sM_16 (dk_dq rfl)).1) ((m_68.2 17 _ sM_17 (dk_dq rfl)).1.trans (m_2.2 17 _ sM_17 (dk_dq rfl)).1) ((m_68.2 18 _ sM_18 (dk_dq rfl)).1.trans (m_2.2 18 _ sM_18 (dk_dq rfl)).1) ((m_68.2 19 _ sM_19 (dk_dq rfl)).1.trans (m_2.2 19 _ sM_19 (dk_dq rfl)).1) f_ii (by rw [e4, (m_2.2 10 _ sM_10 (dk_dq rfl)).1]) (by rw [e5, (m_2.2 11 _ sM_11 (dk_dq rfl)).1]) e3 (by omega) e6 e1 e2)), w_68_3, (ZBM.keep (ZBM.keep ZB m_2 (dk_dq rfl) (dk_dq rfl) (dk_dq rfl) (dk_dq rfl) (dk_dq rfl)) m_68 (dk_dq rfl) (dk_dq rfl) (dk_dq rfl) (dk_dq rfl) (dk_dq rfl)), (ZWM.keep (ZWM.keep ZW m_2 (dk_dq rfl) (dk_dq rfl) (dk_dq rfl) (dk_dq rfl)) m_68 (dk_dq rfl) (dk_dq rfl) (dk_dq rfl) (dk_dq rfl)), w_68_4, (G8M.keep (G8M.keep G8 m_2 (dk_dq rfl) (dk_dq rfl) (dk_dq rfl)) m_68 (dk_dq rfl) (dk_dq rfl) (dk_dq rfl)), trivial⟩ dX12_statement_236
                      · as_aux_lemma =>
                          have jc_19 := dk_neqc (k := 0) (by decide +kernel) c_19
                          have jbc_19 : 1 ≤ (x_17).toInt := by omega
                          clear jc_19
                          have qw_18_1 : g_o (T_kd tb tn) (T_vl tb tn) 6 (t_ix tb tn (sa : Int32).toNatClampNeg) = true := (TKM.isw (TKM.keep TK m_2 (dk_dq rfl) (dk_dq rfl) (dk_dq rfl) (dk_dq rfl) (dk_dq rfl) (dk_dq rfl) (dk_dq rfl) (dk_dq rfl)) ((m_2.1 0 3 _ sM_0 (dk_dq rfl)).trans f_sg) ((m_2.1 0 4 _ sM_0 (dk_dq rfl)).trans f_sa) (by omega) (j := 6) (C := 469920277874) (dk_dq rfl) (by decide +kernel) w_18_1).mp (by omega)
                          have w_18_1_r : (sg).toInt = 1 := by have h9 := g_o_iff.mp qw_18_1; have h8 := TKM.zero (TKM.keep TK m_2 (dk_dq rfl) (dk_dq rfl) (dk_dq rfl) (dk_dq rfl) (dk_dq rfl) (dk_dq rfl) (dk_dq rfl) (dk_dq rfl)) ((m_2.1 0 3 _ sM_0 (dk_dq rfl)).trans f_sg) ((m_2.1 0 4 _ sM_0 (dk_dq rfl)).trans f_sa); have h7 := (TKM.w1 (TKM.keep TK m_2 (dk_dq rfl) (dk_dq rfl) (dk_dq rfl) (dk_dq rfl) (dk_dq rfl) (dk_dq rfl) (dk_dq rfl) (dk_dq rfl)) ((m_2.1 0 3 _ sM_0 (dk_dq rfl)).trans f_sg) ((m_2.1 0 4 _ sM_0 (dk_dq rfl)).trans f_sa) (by omega)).mpr (by omega); omega
                          clear w_18_1
                          have qlw_18_1 := g_o_iff.mp qw_18_1
                          have hlx_2r := hlx_2 (by omega)
                          clear hlx_2
                          refine lv_aload_n hx hb dX12_statement_132 rfl (lv_at hl 0 rfl) ?_
                          refine dg_callv hS hA1 hA (va_runV (As := []) (rest := []) F (c_m_mining l g D o S_2 tb tn sg9 S0 sg ((m_2.1 0 3 _ sM_0 (dk_dq rfl)).trans f_sg) (by omega) sa ((m_2.1 0 4 _ sM_0 (dk_dq rfl)).trans f_sa) (by omega) se ((m_2.1 0 5 _ sM_0 (dk_dq rfl)).trans f_se) (by omega) sl ((m_2.1 0 2 _ sM_0 (dk_dq rfl)).trans f_sl) (by omega) y_3 f_y_3 (by omega) ii ((m_2.1 0 35 _ sM_0 (dk_dq rfl)).trans f_ii) (by omega) mi ((congrFun (m_2.2 8 _ sM_8 (dk_dq rfl)).1 _).trans f_mi) (by omega) od ((congrFun (m_2.2 12 _ sM_12 (dk_dq rfl)).1 _).trans f_od) (by omega) (by omega) (by omega) (TKM.keep TK m_2 (dk_dq rfl) (dk_dq rfl) (dk_dq rfl) (dk_dq rfl) (dk_dq rfl) (dk_dq rfl) (dk_dq rfl) (dk_dq rfl)) (GSM.keep GS m_2 (dk_dq rfl) (dk_dq rfl) (dk_dq rfl) (dk_dq rfl) (dk_dq rfl) (dk_dq rfl) (dk_dq rfl) (dk_dq rfl) (dk_dq rfl)) (GBM.keep GB m_2 (dk_dq rfl) (dk_dq rfl) (dk_dq rfl)) (ZKM.keep ZK m_2 (dk_dq rfl) (dk_dq rfl)) I_2 H.size) (cwV 0 hts (bw_V wB_468 wB_469 wB_470 wB_297 wB_467) rfl rfl rfl (by decide +kernel) ⟨Nat.le_of_ble_eq_true rfl, Nat.le_of_ble_eq_true rfl⟩) (dg_preV sM_0 rfl K ST hP hS hA1 hA) rfl rfl hl.1 rfl (lv_room (Nat.le_of_ble_eq_true rfl)) dX12_statement_133 ⟨Nat.le_of_ble_eq_true rfl, Nat.le_of_ble_eq_true rfl⟩) (fun S_73 hw_73 H locs hP hS => ?_)
                          obtain ⟨I_73, m_73, w_73_0, w_73_1, w_73_2, w_73_3, -⟩ := hw_73
                          have M_73 := dg_sm.tr M_2 m_73 (dk_dq rfl) (dk_dq rfl)
                          obtain ⟨y_74, y_75, y_76, y_77, f_y_74, f_y_75, f_y_76, f_y_77, w_73_0⟩ := w_73_0
                          have w_73_0 : ((y_75).toInt ≤ (y_76).toInt ∧ (y_76).toInt ≤ (sl).toInt ∧ ((y_74).toInt ≠ 0 → (y_75).toInt + 1 ≤ (y_76).toInt)) ∧ (sa).toInt ≤ (y_75).toInt ∧ ((y_3).toInt ≠ 0 → (y_77).toInt ≠ 0) ∧ ((y_77).toInt = 0 → (sa).toInt + 1 ≤ (y_75).toInt) := w_73_0
                          obtain ⟨⟨w_73_0_0, w_73_0_1, w_73_0_2⟩, w_73_0_3, w_73_0_4, w_73_0_5⟩ := w_73_0
                          clear w_73_0_4
                          have b_y_74 : 0 ≤ (y_74).toInt ∧ (y_74).toInt ≤ 3 := dg_I.intb (lo := 0) (hi := 3) I_73 sM_0 (by decide +kernel) f_y_74
                          have b_y_75 : 0 ≤ (y_75).toInt ∧ (y_75).toInt ≤ 1600 := dg_I.intb (lo := 0) (hi := 1600) I_73 sM_0 (by decide +kernel) f_y_75
                          have b_y_76 : 0 ≤ (y_76).toInt ∧ (y_76).toInt ≤ 1600 := dg_I.intb (lo := 0) (hi := 1600) I_73 sM_0 (by decide +kernel) f_y_76
                          have b_y_77 : 0 ≤ (y_77).toInt ∧ (y_77).toInt ≤ 6 := dg_I.intb (lo := 0) (hi := 6) I_73 sM_0 (by decide +kernel) f_y_77
                          replace w_73_1 : SOK tb tn y_3 (if sg9.2.1.length = 6 then none else (y_new (T_kd tb tn) (T_vl tb tn) sg9.2.1 sg9.2.2.2.1 ((t_ix tb tn (sa : Int32).toNatClampNeg) + 1)).map fun k9 => ((sg9.1, sg9.2.1 ++ [(T_vl tb tn ((t_ix tb tn (sa : Int32).toNatClampNeg) + 1)).toInt], sg9.2.2), k9)) S_73 := w_73_1
                          refine lv_goto (tgt := 236) hx hb dX12_statement_136 (dk_dq rfl) ?_
                          refine W.widen (k := 0) (n := 0) (Nat.le_of_ble_eq_true rfl) (Nat.le_of_ble_eq_true rfl) ?_
                          rw [hQ9]
                          exact dg_vret hx hb hr hlocks hP hS ⟨I_73, M_73, ⟨y_74, y_75, y_76, y_77, cd, f_y_74, f_y_75, f_y_76, f_y_77, (((m_73.1 0 34 _ sM_0 (dk_dq rfl)).trans (m_2.1 0 34 _ sM_0 (dk_dq rfl))).trans f_cd), (by omega)⟩, (fun k9 hk9 hk0 => ⟨(ZCM.keep (ZCM.keep ZC m_2 (dk_dq rfl) (dk_dq rfl) (dk_dq rfl) (dk_dq rfl)) m_73 (dk_dq rfl) (dk_dq rfl) (dk_dq rfl) (dk_dq rfl)), (ZVM.keep (ZVM.keep ZV m_2 (dk_dq rfl) (dk_dq rfl) (dk_dq rfl) (dk_dq rfl) (dk_dq rfl)) m_73 (dk_dq rfl) (dk_dq rfl) (dk_dq rfl) (dk_dq rfl) (dk_dq rfl))⟩), (SOK.via (y_st_6 (g_o_iff.mp qw_18_1).1 (g_o_iff.mp qw_18_1).2) w_73_1 (by omega)), (m_hid.mk (fun h0 f9 q9 q8 => by have q7 := (f_y_77).symm.trans q9; cases q7; intro d9 i9 z9; have k9 := (g_o_iff.mp qw_18_1).2; rw [k_st_6 (by omega)]; exact km.miner (G := d9.1) (K := d9.2) z9 ((m_73.1 0 35 _ sM_0 (dk_dq rfl)).trans (m_2.1 0 35 _ sM_0 (dk_dq rfl))) ((m_73.1 0 34 _ sM_0 (dk_dq rfl)).trans (m_2.1 0 34 _ sM_0 (dk_dq rfl))) ((m_73.2 4 _ sM_4 (dk_dq rfl)).1.trans (m_2.2 4 _ sM_4 (dk_dq rfl)).1) ((m_73.2 5 _ sM_5 (dk_dq rfl)).1.trans (m_2.2 5 _ sM_5 (dk_dq rfl)).1) ((m_73.2 6 _ sM_6 (dk_dq rfl)).1.trans (m_2.2 6 _ sM_6 (dk_dq rfl)).1) ((m_73.2 7 _ sM_7 (dk_dq rfl)).1.trans (m_2.2 7 _ sM_7 (dk_dq rfl)).1) ((m_73.2 10 _ sM_10 (dk_dq rfl)).1.trans (m_2.2 10 _ sM_10 (dk_dq rfl)).1) ((m_73.2 11 _ sM_11 (dk_dq rfl)).1.trans (m_2.2 11 _ sM_11 (dk_dq rfl)).1) ((m_73.2 13 _ sM_13 (dk_dq rfl)).1.trans (m_2.2 13 _ sM_13 (dk_dq rfl)).1) ((m_73.2 14 _ sM_14 (dk_dq rfl)).1.trans (m_2.2 14 _ sM_14 (dk_dq rfl)).1) ((m_73.2 15 _ sM_15 (dk_dq rfl)).1.trans (m_2.2 15 _ sM_15 (dk_dq rfl)).1) ((m_73.2 16 _ sM_16 (dk_dq rfl)).1.trans (m_2.2 16 _ sM_16 (dk_dq rfl)).1) ((m_73.2 17 _ sM_17 (dk_dq rfl)).1.trans (m_2.2 17 _ sM_17 (dk_dq rfl)).1) ((m_73.2 18 _ sM_18 (dk_dq rfl)).1.trans (m_2.2 18 _ sM_18 (dk_dq rfl)).1) ((m_73.2 19 _ sM_19 (dk_dq rfl)).1.trans (m_2.2 19 _ sM_19 (dk_dq rfl)).1))), w_73_2, (ZBM.keep (ZBM.keep ZB m_2 (dk_dq rfl) (dk_dq rfl) (dk_dq rfl) (dk_dq rfl) (dk_dq rfl)) m_73 (dk_dq rfl) (dk_dq rfl) (dk_dq rfl) (dk_dq rfl) (dk_dq rfl)), (ZWM.keep (ZWM.keep ZW m_2 (dk_dq rfl) (dk_dq rfl) (dk_dq rfl) (dk_dq rfl)) m_73 (dk_dq rfl) (dk_dq rfl) (dk_dq rfl) (dk_dq rfl)), w_73_3, (G8M.keep (G8M.keep G8 m_2 (dk_dq rfl) (dk_dq rfl) (dk_dq rfl)) m_73 (dk_dq rfl) (dk_dq rfl) (dk_dq rfl)), trivial⟩ dX12_statement_236
                  · as_aux_lemma =>
                      have jc_16 := dk_neqc (k := 0) (by decide +kernel) c_16
                      have jbc_16 : 1 ≤ (x_14).toInt := by omega
                      clear jc_16
                      have qw_15_1 : g_o (T_kd tb tn) (T_vl tb tn) 5 (t_ix tb tn (sa : Int32).toNatClampNeg) = true := (TKM.isw (TKM.keep TK m_2 (dk_dq rfl) (dk_dq rfl) (dk_dq rfl) (dk_dq rfl) (dk_dq rfl) (dk_dq rfl) (dk_dq rfl) (dk_dq rfl)) ((m_2.1 0 3 _ sM_0 (dk_dq rfl)).trans f_sg) ((m_2.1 0 4 _ sM_0 (dk_dq rfl)).trans f_sa) (by omega) (j := 5) (C := 444300616805) (dk_dq rfl) (by decide +kernel) w_15_1).mp (by omega)
                      have w_15_1_r : (sg).toInt = 1 := by have h9 := g_o_iff.mp qw_15_1; have h8 := TKM.zero (TKM.keep TK m_2 (dk_dq rfl) (dk_dq rfl) (dk_dq rfl) (dk_dq rfl) (dk_dq rfl) (dk_dq rfl) (dk_dq rfl) (dk_dq rfl)) ((m_2.1 0 3 _ sM_0 (dk_dq rfl)).trans f_sg) ((m_2.1 0 4 _ sM_0 (dk_dq rfl)).trans f_sa); have h7 := (TKM.w1 (TKM.keep TK m_2 (dk_dq rfl) (dk_dq rfl) (dk_dq rfl) (dk_dq rfl) (dk_dq rfl) (dk_dq rfl) (dk_dq rfl) (dk_dq rfl)) ((m_2.1 0 3 _ sM_0 (dk_dq rfl)).trans f_sg) ((m_2.1 0 4 _ sM_0 (dk_dq rfl)).trans f_sa) (by omega)).mpr (by omega); omega
                      clear w_15_1
                      have qlw_15_1 := g_o_iff.mp qw_15_1
                      have hlx_2r := hlx_2 (by omega)
                      clear hlx_2
                      refine lv_aload_n hx hb dX12_statement_115 rfl (lv_at hl 0 rfl) ?_
                      refine dg_callv hS hA1 hA (va_runV (As := []) (rest := []) F (c_m_grading l g D o S_2 tb tn S0 sg ((m_2.1 0 3 _ sM_0 (dk_dq rfl)).trans f_sg) (by omega) sa ((m_2.1 0 4 _ sM_0 (dk_dq rfl)).trans f_sa) (by omega) se ((m_2.1 0 5 _ sM_0 (dk_dq rfl)).trans f_se) (by omega) sl ((m_2.1 0 2 _ sM_0 (dk_dq rfl)).trans f_sl) (by omega) y_3 f_y_3 (by omega) ii ((m_2.1 0 35 _ sM_0 (dk_dq rfl)).trans f_ii) (by omega) cc ((congrFun (m_2.2 2 _ sM_2 (dk_dq rfl)).1 _).trans f_cc) (by omega) rr ((congrFun (m_2.2 3 _ sM_3 (dk_dq rfl)).1 _).trans f_rr) (by omega) (by omega) (by omega) (TKM.keep TK m_2 (dk_dq rfl) (dk_dq rfl) (dk_dq rfl) (dk_dq rfl) (dk_dq rfl) (dk_dq rfl) (dk_dq rfl) (dk_dq rfl)) (ZCM.keep ZC m_2 (dk_dq rfl) (dk_dq rfl) (dk_dq rfl) (dk_dq rfl)) (GBM.keep GB m_2 (dk_dq rfl) (dk_dq rfl) (dk_dq rfl)) (ZKM.keep ZK m_2 (dk_dq rfl) (dk_dq rfl)) I_2 H.size) (cwV 0 hts (bw_V wB_472 wB_473 wB_474 wB_297 wB_471) rfl rfl rfl (by decide +kernel) ⟨Nat.le_of_ble_eq_true rfl, Nat.le_of_ble_eq_true rfl⟩) (dg_preV sM_0 rfl K ST hP hS hA1 hA) rfl rfl hl.1 rfl (lv_room (Nat.le_of_ble_eq_true rfl)) dX12_statement_116 ⟨Nat.le_of_ble_eq_true rfl, Nat.le_of_ble_eq_true rfl⟩) (fun S_78 hw_78 H locs hP hS => ?_)
                      obtain ⟨I_78, m_78, w_78_0, w_78_1, w_78_2, w_78_3, -⟩ := hw_78
                      have M_78 := dg_sm.tr M_2 m_78 (dk_dq rfl) (dk_dq rfl)
                      obtain ⟨y_79, y_80, y_81, y_82, f_y_79, f_y_80, f_y_81, f_y_82, w_78_0⟩ := w_78_0
                      have w_78_0 : (((y_80).toInt ≤ (y_81).toInt ∧ (y_81).toInt ≤ (sl).toInt ∧ ((y_79).toInt ≠ 0 → (y_80).toInt + 1 ≤ (y_81).toInt)) ∧ (sa).toInt ≤ (y_80).toInt ∧ ((y_3).toInt ≠ 0 → (y_82).toInt ≠ 0) ∧ ((y_82).toInt = 0 → (sa).toInt + 1 ≤ (y_80).toInt)) ∧ m_hid ((y_3).toInt = 0 → m_an y_82 ((y_cell (T_kd tb tn) (T_vl tb tn) ((cc).toInt, (rr).toInt) ((t_ix tb tn (sa : Int32).toNatClampNeg) + 1)).bind (y_num (T_kd tb tn) (T_vl tb tn) 0 9)) (t_ix tb tn (y_80 : Int32).toNatClampNeg)) := w_78_0
                      obtain ⟨⟨⟨w_78_0_0, w_78_0_1, w_78_0_2⟩, w_78_0_3, w_78_0_4, w_78_0_5⟩, w_78_0_6⟩ := w_78_0
                      clear w_78_0_4
                      have b_y_79 : 0 ≤ (y_79).toInt ∧ (y_79).toInt ≤ 3 := dg_I.intb (lo := 0) (hi := 3) I_78 sM_0 (by decide +kernel) f_y_79
                      have b_y_80 : 0 ≤ (y_80).toInt ∧ (y_80).toInt ≤ 1600 := dg_I.intb (lo := 0) (hi := 1600) I_78 sM_0 (by decide +kernel) f_y_80
                      have b_y_81 : 0 ≤ (y_81).toInt ∧ (y_81).toInt ≤ 1600 := dg_I.intb (lo := 0) (hi := 1600) I_78 sM_0 (by decide +kernel) f_y_81
                      have b_y_82 : 0 ≤ (y_82).toInt ∧ (y_82).toInt ≤ 6 := dg_I.intb (lo := 0) (hi := 6) I_78 sM_0 (by decide +kernel) f_y_82
                      replace w_78_1 : m_hid ((y_3).toInt = 0 → ∀ f9 : Int32, S_78.1 0 8 = .int f9 → f9.toInt = 0 → ∃ (v9 : Int32) (i9 : Nat), v9.toInt = (T_vl tb tn ((t_ix tb tn (sa : Int32).toNatClampNeg) + 3)).toInt ∧ i9 = 64 * (ii : Int32).toNatClampNeg + (8 * (T_vl tb tn ((t_ix tb tn (sa : Int32).toNatClampNeg) + 2)).toInt + (T_vl tb tn ((t_ix tb tn (sa : Int32).toNatClampNeg) + 1)).toInt).toNat ∧ S_78.2.1 7 = upd (S_2.2.1 7) i9 v9) := w_78_1
                      refine lv_goto (tgt := 236) hx hb dX12_statement_119 (dk_dq rfl) ?_
                      refine W.widen (k := 0) (n := 0) (Nat.le_of_ble_eq_true rfl) (Nat.le_of_ble_eq_true rfl) ?_
                      rw [hQ9]
                      exact dg_vret hx hb hr hlocks hP hS ⟨I_78, M_78, ⟨y_79, y_80, y_81, y_82, cd, f_y_79, f_y_80, f_y_81, f_y_82, (((m_78.1 0 34 _ sM_0 (dk_dq rfl)).trans (m_2.1 0 34 _ sM_0 (dk_dq rfl))).trans f_cd), (by omega)⟩, (fun k9 hk9 hk0 => ⟨(ZCM.keep (ZCM.keep ZC m_2 (dk_dq rfl) (dk_dq rfl) (dk_dq rfl) (dk_dq rfl)) m_78 (dk_dq rfl) (dk_dq rfl) (dk_dq rfl) (dk_dq rfl)), (ZVM.keep (ZVM.keep ZV m_2 (dk_dq rfl) (dk_dq rfl) (dk_dq rfl) (dk_dq rfl) (dk_dq rfl)) m_78 (dk_dq rfl) (dk_dq rfl) (dk_dq rfl) (dk_dq rfl) (dk_dq rfl))⟩), (SOK.mk0 (fk := fk) f_y_82 f_y_80 (fun h0 => by have h9 := (w_78_0_6.out (by omega)); rw [← hcols] at h9; exact h9) (fun h0 q8 => (GSM.keep (GSM.keep GS m_2 (dk_dq rfl) (dk_dq rfl) (dk_dq rfl) (dk_dq rfl) (dk_dq rfl) (dk_dq rfl) (dk_dq rfl) (dk_dq rfl) (dk_dq rfl)) m_78 (dk_dq rfl) (dk_dq rfl) (dk_dq rfl) (dk_dq rfl) (dk_dq rfl) (dk_dq rfl) (dk_dq rfl) (dk_dq rfl) (dk_dq rfl))) (y_st_5 (g_o_iff.mp qw_15_1).1 (g_o_iff.mp qw_15_1).2)), (m_hid.mk (fun h0 f9 q9 q8 => by have q7 := (f_y_82).symm.trans q9; cases q7; intro d9 i9 z9; have k9 := (g_o_iff.mp qw_15_1).2; obtain ⟨v9, x9, e1, e2, e3⟩ := w_78_1.out (by omega) _ f_y_82 (by omega); rw [k_st_5 (by omega), ← e1]; exact km.grade (G := d9.1) (K := d9.2) z9 ((m_78.1 0 35 _ sM_0 (dk_dq rfl)).trans (m_2.1 0 35 _ sM_0 (dk_dq rfl))) ((m_78.1 0 34 _ sM_0 (dk_dq rfl)).trans (m_2.1 0 34 _ sM_0 (dk_dq rfl))) ((m_78.2 4 _ sM_4 (dk_dq rfl)).1.trans (m_2.2 4 _ sM_4 (dk_dq rfl)).1) ((m_78.2 5 _ sM_5 (dk_dq rfl)).1.trans (m_2.2 5 _ sM_5 (dk_dq rfl)).1) ((m_78.2 6 _ sM_6 (dk_dq rfl)).1.trans (m_2.2 6 _ sM_6 (dk_dq rfl)).1) ((m_78.2 10 _ sM_10 (dk_dq rfl)).1.trans (m_2.2 10 _ sM_10 (dk_dq rfl)).1) ((m_78.2 11 _ sM_11 (dk_dq rfl)).1.trans (m_2.2 11 _ sM_11 (dk_dq rfl)).1) ((m_78.2 13 _ sM_13 (dk_dq rfl)).1.trans (m_2.2 13 _ sM_13 (dk_dq rfl)).1) ((m_78.2 14 _ sM_14 (dk_dq rfl)).1.trans (m_2.2 14 _ sM_14 (dk_dq rfl)).1) ((m_78.2 15 _ sM_15 (dk_dq rfl)).1.trans (m_2.2 15 _ sM_15 (dk_dq rfl)).1) ((m_78.2 16 _ sM_16 (dk_dq rfl)).1.trans (m_2.2 16 _ sM_16 (dk_dq rfl)).1) ((m_78.2 17 _ sM_17 (dk_dq rfl)).1.trans (m_2.2 17 _ sM_17 (dk_dq rfl)).1) ((m_78.2 18 _ sM_18 (dk_dq rfl)).1.trans (m_2.2 18 _ sM_18 (dk_dq rfl)).1) ((m_78.2 19 _ sM_19 (dk_dq rfl)).1.trans (m_2.2 19 _ sM_19 (dk_dq rfl)).1) f_ii (by rw [e3, (m_2.2 7 _ sM_7 (dk_dq rfl)).1]) e2)), w_78_2, (ZBM.keep (ZBM.keep ZB m_2 (dk_dq rfl) (dk_dq rfl) (dk_dq rfl) (dk_dq rfl) (dk_dq rfl)) m_78 (dk_dq rfl) (dk_dq rfl) (dk_dq rfl) (dk_dq rfl) (dk_dq rfl)), (ZWM.keep (ZWM.keep ZW m_2 (dk_dq rfl) (dk_dq rfl) (dk_dq rfl) (dk_dq rfl)) m_78 (dk_dq rfl) (dk_dq rfl) (dk_dq rfl) (dk_dq rfl)), w_78_3, (G8M.keep (G8M.keep G8 m_2 (dk_dq rfl) (dk_dq rfl) (dk_dq rfl)) m_78 (dk_dq rfl) (dk_dq rfl) (dk_dq rfl)), trivial⟩ dX12_statement_236
              · as_aux_lemma =>
                  have jc_13 := dk_neqc (k := 0) (by decide +kernel) c_13
                  have jbc_13 : 1 ≤ (x_11).toInt := by omega
                  clear jc_13
                  have qw_12_1 : g_o (T_kd tb tn) (T_vl tb tn) 4 (t_ix tb tn (sa : Int32).toNatClampNeg) = true := (TKM.isw (TKM.keep TK m_2 (dk_dq rfl) (dk_dq rfl) (dk_dq rfl) (dk_dq rfl) (dk_dq rfl) (dk_dq rfl) (dk_dq rfl) (dk_dq rfl)) ((m_2.1 0 3 _ sM_0 (dk_dq rfl)).trans f_sg) ((m_2.1 0 4 _ sM_0 (dk_dq rfl)).trans f_sa) (by omega) (j := 4) (C := 487300623205) (dk_dq rfl) (by decide +kernel) w_12_1).mp (by omega)
                  have w_12_1_r : (sg).toInt = 1 := by have h9 := g_o_iff.mp qw_12_1; have h8 := TKM.zero (TKM.keep TK m_2 (dk_dq rfl) (dk_dq rfl) (dk_dq rfl) (dk_dq rfl) (dk_dq rfl) (dk_dq rfl) (dk_dq rfl) (dk_dq rfl)) ((m_2.1 0 3 _ sM_0 (dk_dq rfl)).trans f_sg) ((m_2.1 0 4 _ sM_0 (dk_dq rfl)).trans f_sa); have h7 := (TKM.w1 (TKM.keep TK m_2 (dk_dq rfl) (dk_dq rfl) (dk_dq rfl) (dk_dq rfl) (dk_dq rfl) (dk_dq rfl) (dk_dq rfl) (dk_dq rfl)) ((m_2.1 0 3 _ sM_0 (dk_dq rfl)).trans f_sg) ((m_2.1 0 4 _ sM_0 (dk_dq rfl)).trans f_sa) (by omega)).mpr (by omega); omega
                  clear w_12_1
                  have qlw_12_1 := g_o_iff.mp qw_12_1
                  have hlx_2r := hlx_2 (by omega)
                  clear hlx_2
                  refine lv_aload_n hx hb dX12_statement_87 rfl (lv_at hl 0 rfl) ?_
                  refine dg_get (C := RX12) (T := TX12) (N := 77) hx hb hts (fun w h => bw_mem (wU_X12 w h)) hown K hP sM_0 rfl 18 (dk_dq rfl) (hts _ (bw_mem wB_475)) (fun _ h9 => h9) (v := .ref (o + 6)) (show S_2.1 0 18 = .ref (o + 6) from dg_I.rel (d := 6) I_2 sM_0 (by decide +kernel)) dX12_statement_88 ?_
                  refine lv_aload_n hx hb dX12_statement_91 rfl (lv_at hl 0 rfl) ?_
                  refine dg_get (C := RX12) (T := TX12) (N := 77) hx hb hts (fun w h => bw_mem (wU_X12 w h)) hown K hP sM_0 rfl 35 (dk_dq rfl) (hts _ (bw_mem wB_353)) (fun _ h9 => h9) (v := .int ii) ((m_2.1 0 35 _ sM_0 (dk_dq rfl)).trans f_ii) dX12_statement_92 ?_
                  refine lv_aload_n hx hb dX12_statement_95 rfl (lv_at hl 0 rfl) ?_
                  refine lv_bipush (v := 100) hx hb dX12_statement_96 (by decide +kernel) ?_
                  refine dg_calli hS hA1 hA (va_runV (As := [.int 100]) (rest := [.int ii, .ref (o + 6)]) F (c_m_telling l g D o S_2 100 tb tn sg ((m_2.1 0 3 _ sM_0 (dk_dq rfl)).trans f_sg) (by omega) sa ((m_2.1 0 4 _ sM_0 (dk_dq rfl)).trans f_sa) (by omega) se ((m_2.1 0 5 _ sM_0 (dk_dq rfl)).trans f_se) (by omega) sl ((m_2.1 0 2 _ sM_0 (dk_dq rfl)).trans f_sl) (by omega) y_3 f_y_3 (by omega) (by omega) (by omega) (TKM.keep TK m_2 (dk_dq rfl) (dk_dq rfl) (dk_dq rfl) (dk_dq rfl) (dk_dq rfl) (dk_dq rfl) (dk_dq rfl) (dk_dq rfl)) I_2 H.size) (cwV 1 hts (bw_V wB_477 wB_478 wB_479 wB_297 wB_476) rfl rfl rfl (by decide +kernel) ⟨Nat.le_of_ble_eq_true rfl, Nat.le_of_ble_eq_true rfl⟩) (dg_preV sM_0 rfl K ST hP hS hA1 hA) rfl rfl hl.1 rfl (lv_room (Nat.le_of_ble_eq_true rfl)) dX12_statement_98 ⟨Nat.le_of_ble_eq_true rfl, Nat.le_of_ble_eq_true rfl⟩) (fun x_83 S_84 hw_84 H locs hP hS => ?_)
                  obtain ⟨I_84, m_84, w_84_0, w_84_1, w_84_2, w_84_3, -⟩ := hw_84
                  have M_84 := dg_sm.tr M_2 m_84 (dk_dq rfl) (dk_dq rfl)
                  have hz_85 : (100 : Int32).toInt = 100 := by decide +kernel
                  have w_84_0 : 0 ≤ (x_83).toInt ∧ (x_83).toInt ≤ 9999 := w_84_0
                  obtain ⟨y_86, y_87, y_88, y_89, f_y_86, f_y_87, f_y_88, f_y_89, w_84_1⟩ := w_84_1
                  have w_84_1 : (((y_87).toInt ≤ (y_88).toInt ∧ (y_88).toInt ≤ (sl).toInt ∧ ((y_86).toInt ≠ 0 → (y_87).toInt + 1 ≤ (y_88).toInt)) ∧ (sa).toInt ≤ (y_87).toInt ∧ ((y_3).toInt ≠ 0 → (y_89).toInt ≠ 0) ∧ ((y_89).toInt = 0 → (0 ≤ (x_83).toInt ∧ (x_83).toInt ≤ ((100 : Int32)).toInt ∧ (sa).toInt + 1 ≤ (y_87).toInt))) ∧ m_hid ((y_3).toInt = 0 → m_an y_89 (y_num (T_kd tb tn) (T_vl tb tn) 0 ((100 : Int32)).toInt ((t_ix tb tn (sa : Int32).toNatClampNeg) + 1)) (t_ix tb tn (y_87 : Int32).toNatClampNeg)) := w_84_1
                  obtain ⟨⟨⟨w_84_1_0, w_84_1_1, w_84_1_2⟩, w_84_1_3, w_84_1_4, w_84_1_5⟩, w_84_1_6⟩ := w_84_1
                  clear w_84_1_4
                  have b_y_86 : 0 ≤ (y_86).toInt ∧ (y_86).toInt ≤ 3 := dg_I.intb (lo := 0) (hi := 3) I_84 sM_0 (by decide +kernel) f_y_86
                  have b_y_87 : 0 ≤ (y_87).toInt ∧ (y_87).toInt ≤ 1600 := dg_I.intb (lo := 0) (hi := 1600) I_84 sM_0 (by decide +kernel) f_y_87
                  have b_y_88 : 0 ≤ (y_88).toInt ∧ (y_88).toInt ≤ 1600 := dg_I.intb (lo := 0) (hi := 1600) I_84 sM_0 (by decide +kernel) f_y_88
                  have b_y_89 : 0 ≤ (y_89).toInt ∧ (y_89).toInt ≤ 6 := dg_I.intb (lo := 0) (hi := 6) I_84 sM_0 (by decide +kernel) f_y_89
                  replace w_84_2 : m_hid ((y_3).toInt = 0 → ∀ f9 : Int32, S_84.1 0 8 = .int f9 → f9.toInt = 0 → (x_83).toInt = (T_vl tb tn ((t_ix tb tn (sa : Int32).toNatClampNeg) + 1)).toInt) := w_84_2
                  have hin_90 : vp_in ii 2 := (dk_inv2 (by omega))
                  refine dg_iast hx hb K hP hS hA1 sM_6 hin_90 dX12_statement_101 (fun S_91 e_91 H locs hP hS => ?_)
                  have I_91 := dg_I.ufu (lo := 0) (hi := 9999) I_84 e_91 sM_6 (by decide +kernel) (show 0 ≤ (x_83).toInt ∧ (x_83).toInt ≤ 9999 from (by omega))
                  have M_91 := dg_sm.uf M_84 e_91 sM_6 (dk_dq rfl)
                  have GB_91 := GBM.st (GBM.keep (GBM.keep GB m_2 (dk_dq rfl) (dk_dq rfl) (dk_dq rfl)) m_84 (dk_dq rfl) (dk_dq rfl) (dk_dq rfl)) (ZKM.keep (ZKM.keep ZK m_2 (dk_dq rfl) (dk_dq rfl)) m_84 (dk_dq rfl) (dk_dq rfl)) (((m_84.1 0 35 _ sM_0 (dk_dq rfl)).trans (m_2.1 0 35 _ sM_0 (dk_dq rfl))).trans f_ii) 1 rfl (wi := 1) rfl e_91 (by omega) (by omega)
                  refine lv_goto (tgt := 236) hx hb dX12_statement_102 (dk_dq rfl) ?_
                  refine W.widen (k := 0) (n := 0) (Nat.le_of_ble_eq_true rfl) (Nat.le_of_ble_eq_true rfl) ?_
                  rw [hQ9]
                  exact dg_vret hx hb hr hlocks hP hS ⟨I_91, M_91, ⟨y_86, y_87, y_88, y_89, cd, ((dg_uf_F e_91 0 3).trans f_y_86), ((dg_uf_F e_91 0 4).trans f_y_87), ((dg_uf_F e_91 0 5).trans f_y_88), ((dg_uf_F e_91 0 8).trans f_y_89), (((dg_uf_F e_91 0 34).trans ((m_84.1 0 34 _ sM_0 (dk_dq rfl)).trans (m_2.1 0 34 _ sM_0 (dk_dq rfl)))).trans f_cd), (by omega)⟩, (fun k9 hk9 hk0 => ⟨(ZCM.keep (ZCM.keep (ZCM.keep ZC m_2 (dk_dq rfl) (dk_dq rfl) (dk_dq rfl) (dk_dq rfl)) m_84 (dk_dq rfl) (dk_dq rfl) (dk_dq rfl) (dk_dq rfl)) (dg_sm.uf (WF := []) (WA := [6]) dg_sm.rf e_91 sM_6 (dk_dq rfl)) (dk_dq rfl) (dk_dq rfl) (dk_dq rfl) (dk_dq rfl)), (ZVM.keep (ZVM.keep (ZVM.keep ZV m_2 (dk_dq rfl) (dk_dq rfl) (dk_dq rfl) (dk_dq rfl) (dk_dq rfl)) m_84 (dk_dq rfl) (dk_dq rfl) (dk_dq rfl) (dk_dq rfl) (dk_dq rfl)) (dg_sm.uf (WF := []) (WA := [6]) dg_sm.rf e_91 sM_6 (dk_dq rfl)) (dk_dq rfl) (dk_dq rfl) (dk_dq rfl) (dk_dq rfl) (dk_dq rfl))⟩), (SOK.mk0 (fk := fk) ((dg_uf_F e_91 0 8).trans f_y_89) ((dg_uf_F e_91 0 4).trans f_y_87) (fun h0 => (by have h9 := (w_84_1_6.out (by omega)); rw [show ((100 : Int32)).toInt = 100 from by decide +kernel] at h9; exact h9)) (fun h0 q8 => (GSM.keep (GSM.keep (GSM.keep GS m_2 (dk_dq rfl) (dk_dq rfl) (dk_dq rfl) (dk_dq rfl) (dk_dq rfl) (dk_dq rfl) (dk_dq rfl) (dk_dq rfl) (dk_dq rfl)) m_84 (dk_dq rfl) (dk_dq rfl) (dk_dq rfl) (dk_dq rfl) (dk_dq rfl) (dk_dq rfl) (dk_dq rfl) (dk_dq rfl) (dk_dq rfl)) (dg_sm.uf (WF := []) (WA := [6]) dg_sm.rf e_91 sM_6 (dk_dq rfl)) (dk_dq rfl) (dk_dq rfl) (dk_dq rfl) (dk_dq rfl) (dk_dq rfl) (dk_dq rfl) (dk_dq rfl) (dk_dq rfl) (dk_dq rfl))) (y_st_4 (g_o_iff.mp qw_12_1).1 (g_o_iff.mp qw_12_1).2)), (m_hid.mk (fun h0 f9 q9 q8 => by have q7 := (((dg_uf_F e_91 0 8).trans f_y_89)).symm.trans q9; cases q7; intro d9 i9 z9; have k9 := (g_o_iff.mp qw_12_1).2; have e9 := w_84_2.out (by omega) _ f_y_89 (by omega); rw [k_st_4 (by omega), ← e9]; exact km.quake (G := d9.1) (K := d9.2) z9 ((dg_uf_F e_91 0 35).trans ((m_84.1 0 35 _ sM_0 (dk_dq rfl)).trans (m_2.1 0 35 _ sM_0 (dk_dq rfl)))) ((dg_uf_F e_91 0 34).trans ((m_84.1 0 34 _ sM_0 (dk_dq rfl)).trans (m_2.1 0 34 _ sM_0 (dk_dq rfl)))) ((dg_uf_ne e_91 (dk_dq rfl)).trans ((m_84.2 4 _ sM_4 (dk_dq rfl)).1.trans (m_2.2 4 _ sM_4 (dk_dq rfl)).1)) ((dg_uf_ne e_91 (dk_dq rfl)).trans ((m_84.2 5 _ sM_5 (dk_dq rfl)).1.trans (m_2.2 5 _ sM_5 (dk_dq rfl)).1)) ((dg_uf_ne e_91 (dk_dq rfl)).trans ((m_84.2 7 _ sM_7 (dk_dq rfl)).1.trans (m_2.2 7 _ sM_7 (dk_dq rfl)).1)) ((dg_uf_ne e_91 (dk_dq rfl)).trans ((m_84.2 10 _ sM_10 (dk_dq rfl)).1.trans (m_2.2 10 _ sM_10 (dk_dq rfl)).1)) ((dg_uf_ne e_91 (dk_dq rfl)).trans ((m_84.2 11 _ sM_11 (dk_dq rfl)).1.trans (m_2.2 11 _ sM_11 (dk_dq rfl)).1)) ((dg_uf_ne e_91 (dk_dq rfl)).trans ((m_84.2 13 _ sM_13 (dk_dq rfl)).1.trans (m_2.2 13 _ sM_13 (dk_dq rfl)).1)) ((dg_uf_ne e_91 (dk_dq rfl)).trans ((m_84.2 14 _ sM_14 (dk_dq rfl)).1.trans (m_2.2 14 _ sM_14 (dk_dq rfl)).1)) ((dg_uf_ne e_91 (dk_dq rfl)).trans ((m_84.2 15 _ sM_15 (dk_dq rfl)).1.trans (m_2.2 15 _ sM_15 (dk_dq rfl)).1)) ((dg_uf_ne e_91 (dk_dq rfl)).trans ((m_84.2 16 _ sM_16 (dk_dq rfl)).1.trans (m_2.2 16 _ sM_16 (dk_dq rfl)).1)) ((dg_uf_ne e_91 (dk_dq rfl)).trans ((m_84.2 17 _ sM_17 (dk_dq rfl)).1.trans (m_2.2 17 _ sM_17 (dk_dq rfl)).1)) ((dg_uf_ne e_91 (dk_dq rfl)).trans ((m_84.2 18 _ sM_18 (dk_dq rfl)).1.trans (m_2.2 18 _ sM_18 (dk_dq rfl)).1)) ((dg_uf_ne e_91 (dk_dq rfl)).trans ((m_84.2 19 _ sM_19 (dk_dq rfl)).1.trans (m_2.2 19 _ sM_19 (dk_dq rfl)).1)) f_ii (by rw [dg_uf_at e_91, ((m_84.2 6 _ sM_6 (dk_dq rfl)).1.trans (m_2.2 6 _ sM_6 (dk_dq rfl)).1)]))), (TKM.keep w_84_3 (dg_sm.uf (WF := []) (WA := [6]) dg_sm.rf e_91 sM_6 (dk_dq rfl)) (dk_dq rfl) (dk_dq rfl) (dk_dq rfl) (dk_dq rfl) (dk_dq rfl) (dk_dq rfl) (dk_dq rfl) (dk_dq rfl)), (ZBM.keep (ZBM.keep (ZBM.keep ZB m_2 (dk_dq rfl) (dk_dq rfl) (dk_dq rfl) (dk_dq rfl) (dk_dq rfl)) m_84 (dk_dq rfl) (dk_dq rfl) (dk_dq rfl) (dk_dq rfl) (dk_dq rfl)) (dg_sm.uf (WF := []) (WA := [6]) dg_sm.rf e_91 sM_6 (dk_dq rfl)) (dk_dq rfl) (dk_dq rfl) (dk_dq rfl) (dk_dq rfl) (dk_dq rfl)), (ZWM.keep (ZWM.keep (ZWM.keep ZW m_2 (dk_dq rfl) (dk_dq rfl) (dk_dq rfl) (dk_dq rfl)) m_84 (dk_dq rfl) (dk_dq rfl) (dk_dq rfl) (dk_dq rfl)) (dg_sm.uf (WF := []) (WA := [6]) dg_sm.rf e_91 sM_6 (dk_dq rfl)) (dk_dq rfl) (dk_dq rfl) (dk_dq rfl) (dk_dq rfl)), GB_91, (G8M.keep (G8M.keep (G8M.keep G8 m_2 (dk_dq rfl) (dk_dq rfl) (dk_dq rfl)) m_84 (dk_dq rfl) (dk_dq rfl) (dk_dq rfl)) (dg_sm.uf (WF := []) (WA := [6]) dg_sm.rf e_91 sM_6 (dk_dq rfl)) (dk_dq rfl) (dk_dq rfl) (dk_dq rfl)), trivial⟩ dX12_statement_236
          · as_aux_lemma =>
              have jc_10 := dk_neqc (k := 0) (by decide +kernel) c_10
              have jbc_10 : 1 ≤ (x_8).toInt := by omega
              clear jc_10
              have qw_9_1 : g_o (T_kd tb tn) (T_vl tb tn) 3 (t_ix tb tn (sa : Int32).toNatClampNeg) = true := (TKM.isw (TKM.keep TK m_2 (dk_dq rfl) (dk_dq rfl) (dk_dq rfl) (dk_dq rfl) (dk_dq rfl) (dk_dq rfl) (dk_dq rfl) (dk_dq rfl)) ((m_2.1 0 3 _ sM_0 (dk_dq rfl)).trans f_sg) ((m_2.1 0 4 _ sM_0 (dk_dq rfl)).trans f_sa) (by omega) (j := 3) (C := 491327153000) (dk_dq rfl) (by decide +kernel) w_9_1).mp (by omega)
              have w_9_1_r : (sg).toInt = 1 := by have h9 := g_o_iff.mp qw_9_1; have h8 := TKM.zero (TKM.keep TK m_2 (dk_dq rfl) (dk_dq rfl) (dk_dq rfl) (dk_dq rfl) (dk_dq rfl) (dk_dq rfl) (dk_dq rfl) (dk_dq rfl)) ((m_2.1 0 3 _ sM_0 (dk_dq rfl)).trans f_sg) ((m_2.1 0 4 _ sM_0 (dk_dq rfl)).trans f_sa); have h7 := (TKM.w1 (TKM.keep TK m_2 (dk_dq rfl) (dk_dq rfl) (dk_dq rfl) (dk_dq rfl) (dk_dq rfl) (dk_dq rfl) (dk_dq rfl) (dk_dq rfl)) ((m_2.1 0 3 _ sM_0 (dk_dq rfl)).trans f_sg) ((m_2.1 0 4 _ sM_0 (dk_dq rfl)).trans f_sa) (by omega)).mpr (by omega); omega
              clear w_9_1
              have qlw_9_1 := g_o_iff.mp qw_9_1
              have hlx_2r := hlx_2 (by omega)
              clear hlx_2
              refine lv_aload_n hx hb dX12_statement_59 rfl (lv_at hl 0 rfl) ?_
              refine dg_get (C := RX12) (T := TX12) (N := 77) hx hb hts (fun w h => bw_mem (wU_X12 w h)) hown K hP sM_0 rfl 17 (dk_dq rfl) (hts _ (bw_mem wB_480)) (fun _ h9 => h9) (v := .ref (o + 5)) (show S_2.1 0 17 = .ref (o + 5) from dg_I.rel (d := 5) I_2 sM_0 (by decide +kernel)) dX12_statement_60 ?_
              refine lv_aload_n hx hb dX12_statement_63 rfl (lv_at hl 0 rfl) ?_
              refine dg_get (C := RX12) (T := TX12) (N := 77) hx hb hts (fun w h => bw_mem (wU_X12 w h)) hown K hP sM_0 rfl 35 (dk_dq rfl) (hts _ (bw_mem wB_353)) (fun _ h9 => h9) (v := .int ii) ((m_2.1 0 35 _ sM_0 (dk_dq rfl)).trans f_ii) dX12_statement_64 ?_
              refine lv_aload_n hx hb dX12_statement_67 rfl (lv_at hl 0 rfl) ?_
              refine lv_bipush (v := 20) hx hb dX12_statement_68 (by decide +kernel) ?_
              refine dg_calli hS hA1 hA (va_runV (As := [.int 20]) (rest := [.int ii, .ref (o + 5)]) F (c_m_telling l g D o S_2 20 tb tn sg ((m_2.1 0 3 _ sM_0 (dk_dq rfl)).trans f_sg) (by omega) sa ((m_2.1 0 4 _ sM_0 (dk_dq rfl)).trans f_sa) (by omega) se ((m_2.1 0 5 _ sM_0 (dk_dq rfl)).trans f_se) (by omega) sl ((m_2.1 0 2 _ sM_0 (dk_dq rfl)).trans f_sl) (by omega) y_3 f_y_3 (by omega) (by omega) (by omega) (TKM.keep TK m_2 (dk_dq rfl) (dk_dq rfl) (dk_dq rfl) (dk_dq rfl) (dk_dq rfl) (dk_dq rfl) (dk_dq rfl) (dk_dq rfl)) I_2 H.size) (cwV 1 hts (bw_V wB_477 wB_478 wB_479 wB_297 wB_476) rfl rfl rfl (by decide +kernel) ⟨Nat.le_of_ble_eq_true rfl, Nat.le_of_ble_eq_true rfl⟩) (dg_preV sM_0 rfl K ST hP hS hA1 hA) rfl rfl hl.1 rfl (lv_room (Nat.le_of_ble_eq_true rfl)) dX12_statement_70 ⟨Nat.le_of_ble_eq_true rfl, Nat.le_of_ble_eq_true rfl⟩) (fun x_92 S_93 hw_93 H locs hP hS => ?_)
              obtain ⟨I_93, m_93, w_93_0, w_93_1, w_93_2, w_93_3, -⟩ := hw_93
              have M_93 := dg_sm.tr M_2 m_93 (dk_dq rfl) (dk_dq rfl)
              have hz_94 : (20 : Int32).toInt = 20 := by decide +kernel
              have w_93_0 : 0 ≤ (x_92).toInt ∧ (x_92).toInt ≤ 9999 := w_93_0
              obtain ⟨y_95, y_96, y_97, y_98, f_y_95, f_y_96, f_y_97, f_y_98, w_93_1⟩ := w_93_1
              have w_93_1 : (((y_96).toInt ≤ (y_97).toInt ∧ (y_97).toInt ≤ (sl).toInt ∧ ((y_95).toInt ≠ 0 → (y_96).toInt + 1 ≤ (y_97).toInt)) ∧ (sa).toInt ≤ (y_96).toInt ∧ ((y_3).toInt ≠ 0 → (y_98).toInt ≠ 0) ∧ ((y_98).toInt = 0 → (0 ≤ (x_92).toInt ∧ (x_92).toInt ≤ ((20 : Int32)).toInt ∧ (sa).toInt + 1 ≤ (y_96).toInt))) ∧ m_hid ((y_3).toInt = 0 → m_an y_98 (y_num (T_kd tb tn) (T_vl tb tn) 0 ((20 : Int32)).toInt ((t_ix tb tn (sa : Int32).toNatClampNeg) + 1)) (t_ix tb tn (y_96 : Int32).toNatClampNeg)) := w_93_1
              obtain ⟨⟨⟨w_93_1_0, w_93_1_1, w_93_1_2⟩, w_93_1_3, w_93_1_4, w_93_1_5⟩, w_93_1_6⟩ := w_93_1
              clear w_93_1_4
              have b_y_95 : 0 ≤ (y_95).toInt ∧ (y_95).toInt ≤ 3 := dg_I.intb (lo := 0) (hi := 3) I_93 sM_0 (by decide +kernel) f_y_95
              have b_y_96 : 0 ≤ (y_96).toInt ∧ (y_96).toInt ≤ 1600 := dg_I.intb (lo := 0) (hi := 1600) I_93 sM_0 (by decide +kernel) f_y_96
              have b_y_97 : 0 ≤ (y_97).toInt ∧ (y_97).toInt ≤ 1600 := dg_I.intb (lo := 0) (hi := 1600) I_93 sM_0 (by decide +kernel) f_y_97
              have b_y_98 : 0 ≤ (y_98).toInt ∧ (y_98).toInt ≤ 6 := dg_I.intb (lo := 0) (hi := 6) I_93 sM_0 (by decide +kernel) f_y_98
              replace w_93_2 : m_hid ((y_3).toInt = 0 → ∀ f9 : Int32, S_93.1 0 8 = .int f9 → f9.toInt = 0 → (x_92).toInt = (T_vl tb tn ((t_ix tb tn (sa : Int32).toNatClampNeg) + 1)).toInt) := w_93_2
              have hin_99 : vp_in ii 2 := (dk_inv2 (by omega))
              refine dg_iast hx hb K hP hS hA1 sM_5 hin_99 dX12_statement_73 (fun S_100 e_100 H locs hP hS => ?_)
              have I_100 := dg_I.ufu (lo := 0) (hi := 9999) I_93 e_100 sM_5 (by decide +kernel) (show 0 ≤ (x_92).toInt ∧ (x_92).toInt ≤ 9999 from (by omega))
              have M_100 := dg_sm.uf M_93 e_100 sM_5 (dk_dq rfl)
              have GB_100 := GBM.st (GBM.keep (GBM.keep GB m_2 (dk_dq rfl) (dk_dq rfl) (dk_dq rfl)) m_93 (dk_dq rfl) (dk_dq rfl) (dk_dq rfl)) (ZKM.keep (ZKM.keep ZK m_2 (dk_dq rfl) (dk_dq rfl)) m_93 (dk_dq rfl) (dk_dq rfl)) (((m_93.1 0 35 _ sM_0 (dk_dq rfl)).trans (m_2.1 0 35 _ sM_0 (dk_dq rfl))).trans f_ii) 1 rfl (wi := 1) rfl e_100 (by omega) (by omega)
              refine lv_goto (tgt := 236) hx hb dX12_statement_74 (dk_dq rfl) ?_
              refine W.widen (k := 0) (n := 0) (Nat.le_of_ble_eq_true rfl) (Nat.le_of_ble_eq_true rfl) ?_
              rw [hQ9]
              exact dg_vret hx hb hr hlocks hP hS ⟨I_100, M_100, ⟨y_95, y_96, y_97, y_98, cd, ((dg_uf_F e_100 0 3).trans f_y_95), ((dg_uf_F e_100 0 4).trans f_y_96), ((dg_uf_F e_100 0 5).trans f_y_97), ((dg_uf_F e_100 0 8).trans f_y_98), (((dg_uf_F e_100 0 34).trans ((m_93.1 0 34 _ sM_0 (dk_dq rfl)).trans (m_2.1 0 34 _ sM_0 (dk_dq rfl)))).trans f_cd), (by omega)⟩, (fun k9 hk9 hk0 => ⟨(ZCM.keep (ZCM.keep (ZCM.keep ZC m_2 (dk_dq rfl) (dk_dq rfl) (dk_dq rfl) (dk_dq rfl)) m_93 (dk_dq rfl) (dk_dq rfl) (dk_dq rfl) (dk_dq rfl)) (dg_sm.uf (WF := []) (WA := [5]) dg_sm.rf e_100 sM_5 (dk_dq rfl)) (dk_dq rfl) (dk_dq rfl) (dk_dq rfl) (dk_dq rfl)), (ZVM.keep (ZVM.keep (ZVM.keep ZV m_2 (dk_dq rfl) (dk_dq rfl) (dk_dq rfl) (dk_dq rfl) (dk_dq rfl)) m_93 (dk_dq rfl) (dk_dq rfl) (dk_dq rfl) (dk_dq rfl) (dk_dq rfl)) (dg_sm.uf (WF := []) (WA := [5]) dg_sm.rf e_100 sM_5 (dk_dq rfl)) (dk_dq rfl) (dk_dq rfl) (dk_dq rfl) (dk_dq rfl) (dk_dq rfl))⟩), (SOK.mk0 (fk := fk) ((dg_uf_F e_100 0 8).trans f_y_98) ((dg_uf_F e_100 0 4).trans f_y_96) (fun h0 => (by have h9 := (w_93_1_6.out (by omega)); rw [show ((20 : Int32)).toInt = 20 from by decide +kernel] at h9; exact h9)) (fun h0 q8 => (GSM.keep (GSM.keep (GSM.keep GS m_2 (dk_dq rfl) (dk_dq rfl) (dk_dq rfl) (dk_dq rfl) (dk_dq rfl) (dk_dq rfl) (dk_dq rfl) (dk_dq rfl) (dk_dq rfl)) m_93 (dk_dq rfl) (dk_dq rfl) (dk_dq rfl) (dk_dq rfl) (dk_dq rfl) (dk_dq rfl) (dk_dq rfl) (dk_dq rfl) (dk_dq rfl)) (dg_sm.uf (WF := []) (WA := [5]) dg_sm.rf e_100 sM_5 (dk_dq rfl)) (dk_dq rfl) (dk_dq rfl) (dk_dq rfl) (dk_dq rfl) (dk_dq rfl) (dk_dq rfl) (dk_dq rfl) (dk_dq rfl) (dk_dq rfl))) (y_st_3 (g_o_iff.mp qw_9_1).1 (g_o_iff.mp qw_9_1).2)), (m_hid.mk (fun h0 f9 q9 q8 => by have q7 := (((dg_uf_F e_100 0 8).trans f_y_98)).symm.trans q9; cases q7; intro d9 i9 z9; have k9 := (g_o_iff.mp qw_9_1).2; have e9 := w_93_2.out (by omega) _ f_y_98 (by omega); rw [k_st_3 (by omega), ← e9]; exact km.reach (G := d9.1) (K := d9.2) z9 ((dg_uf_F e_100 0 35).trans ((m_93.1 0 35 _ sM_0 (dk_dq rfl)).trans (m_2.1 0 35 _ sM_0 (dk_dq rfl)))) ((dg_uf_F e_100 0 34).trans ((m_93.1 0 34 _ sM_0 (dk_dq rfl)).trans (m_2.1 0 34 _ sM_0 (dk_dq rfl)))) ((dg_uf_ne e_100 (dk_dq rfl)).trans ((m_93.2 4 _ sM_4 (dk_dq rfl)).1.trans (m_2.2 4 _ sM_4 (dk_dq rfl)).1)) ((dg_uf_ne e_100 (dk_dq rfl)).trans ((m_93.2 6 _ sM_6 (dk_dq rfl)).1.trans (m_2.2 6 _ sM_6 (dk_dq rfl)).1)) ((dg_uf_ne e_100 (dk_dq rfl)).trans ((m_93.2 7 _ sM_7 (dk_dq rfl)).1.trans (m_2.2 7 _ sM_7 (dk_dq rfl)).1)) ((dg_uf_ne e_100 (dk_dq rfl)).trans ((m_93.2 10 _ sM_10 (dk_dq rfl)).1.trans (m_2.2 10 _ sM_10 (dk_dq rfl)).1)) ((dg_uf_ne e_100 (dk_dq rfl)).trans ((m_93.2 11 _ sM_11 (dk_dq rfl)).1.trans (m_2.2 11 _ sM_11 (dk_dq rfl)).1)) ((dg_uf_ne e_100 (dk_dq rfl)).trans ((m_93.2 13 _ sM_13 (dk_dq rfl)).1.trans (m_2.2 13 _ sM_13 (dk_dq rfl)).1)) ((dg_uf_ne e_100 (dk_dq rfl)).trans ((m_93.2 14 _ sM_14 (dk_dq rfl)).1.trans (m_2.2 14 _ sM_14 (dk_dq rfl)).1)) ((dg_uf_ne e_100 (dk_dq rfl)).trans ((m_93.2 15 _ sM_15 (dk_dq rfl)).1.trans (m_2.2 15 _ sM_15 (dk_dq rfl)).1)) ((dg_uf_ne e_100 (dk_dq rfl)).trans ((m_93.2 16 _ sM_16 (dk_dq rfl)).1.trans (m_2.2 16 _ sM_16 (dk_dq rfl)).1)) ((dg_uf_ne e_100 (dk_dq rfl)).trans ((m_93.2 17 _ sM_17 (dk_dq rfl)).1.trans (m_2.2 17 _ sM_17 (dk_dq rfl)).1)) ((dg_uf_ne e_100 (dk_dq rfl)).trans ((m_93.2 18 _ sM_18 (dk_dq rfl)).1.trans (m_2.2 18 _ sM_18 (dk_dq rfl)).1)) ((dg_uf_ne e_100 (dk_dq rfl)).trans ((m_93.2 19 _ sM_19 (dk_dq rfl)).1.trans (m_2.2 19 _ sM_19 (dk_dq rfl)).1)) f_ii (by rw [dg_uf_at e_100, ((m_93.2 5 _ sM_5 (dk_dq rfl)).1.trans (m_2.2 5 _ sM_5 (dk_dq rfl)).1)]))), (TKM.keep w_93_3 (dg_sm.uf (WF := []) (WA := [5]) dg_sm.rf e_100 sM_5 (dk_dq rfl)) (dk_dq rfl) (dk_dq rfl) (dk_dq rfl) (dk_dq rfl) (dk_dq rfl) (dk_dq rfl) (dk_dq rfl) (dk_dq rfl)), (ZBM.keep (ZBM.keep (ZBM.keep ZB m_2 (dk_dq rfl) (dk_dq rfl) (dk_dq rfl) (dk_dq rfl) (dk_dq rfl)) m_93 (dk_dq rfl) (dk_dq rfl) (dk_dq rfl) (dk_dq rfl) (dk_dq rfl)) (dg_sm.uf (WF := []) (WA := [5]) dg_sm.rf e_100 sM_5 (dk_dq rfl)) (dk_dq rfl) (dk_dq rfl) (dk_dq rfl) (dk_dq rfl) (dk_dq rfl)), (ZWM.keep (ZWM.keep (ZWM.keep ZW m_2 (dk_dq rfl) (dk_dq rfl) (dk_dq rfl) (dk_dq rfl)) m_93 (dk_dq rfl) (dk_dq rfl) (dk_dq rfl) (dk_dq rfl)) (dg_sm.uf (WF := []) (WA := [5]) dg_sm.rf e_100 sM_5 (dk_dq rfl)) (dk_dq rfl) (dk_dq rfl) (dk_dq rfl) (dk_dq rfl)), GB_100, (G8M.keep (G8M.keep (G8M.keep G8 m_2 (dk_dq rfl) (dk_dq rfl) (dk_dq rfl)) m_93 (dk_dq rfl) (dk_dq rfl) (dk_dq rfl)) (dg_sm.uf (WF := []) (WA := [5]) dg_sm.rf e_100 sM_5 (dk_dq rfl)) (dk_dq rfl) (dk_dq rfl) (dk_dq rfl)), trivial⟩ dX12_statement_236
      · as_aux_lemma =>
          have jc_7 := dk_neqc (k := 0) (by decide +kernel) c_7
          have jbc_7 : 1 ≤ (x_5).toInt := by omega
          clear jc_7
          have qw_6_1 : g_o (T_kd tb tn) (T_vl tb tn) 2 (t_ix tb tn (sa : Int32).toNatClampNeg) = true := (TKM.isw (TKM.keep TK m_2 (dk_dq rfl) (dk_dq rfl) (dk_dq rfl) (dk_dq rfl) (dk_dq rfl) (dk_dq rfl) (dk_dq rfl) (dk_dq rfl)) ((m_2.1 0 3 _ sM_0 (dk_dq rfl)).trans f_sg) ((m_2.1 0 4 _ sM_0 (dk_dq rfl)).trans f_sa) (by omega) (j := 2) (C := 495672452724) (dk_dq rfl) (by decide +kernel) w_6_1).mp (by omega)
          have w_6_1_r : (sg).toInt = 1 := by have h9 := g_o_iff.mp qw_6_1; have h8 := TKM.zero (TKM.keep TK m_2 (dk_dq rfl) (dk_dq rfl) (dk_dq rfl) (dk_dq rfl) (dk_dq rfl) (dk_dq rfl) (dk_dq rfl) (dk_dq rfl)) ((m_2.1 0 3 _ sM_0 (dk_dq rfl)).trans f_sg) ((m_2.1 0 4 _ sM_0 (dk_dq rfl)).trans f_sa); have h7 := (TKM.w1 (TKM.keep TK m_2 (dk_dq rfl) (dk_dq rfl) (dk_dq rfl) (dk_dq rfl) (dk_dq rfl) (dk_dq rfl) (dk_dq rfl) (dk_dq rfl)) ((m_2.1 0 3 _ sM_0 (dk_dq rfl)).trans f_sg) ((m_2.1 0 4 _ sM_0 (dk_dq rfl)).trans f_sa) (by omega)).mpr (by omega); omega
          clear w_6_1
          have qlw_6_1 := g_o_iff.mp qw_6_1
          have hlx_2r := hlx_2 (by omega)
          clear hlx_2
          refine lv_aload_n hx hb dX12_statement_22 rfl (lv_at hl 0 rfl) ?_
          refine dg_get (C := RX12) (T := TX12) (N := 77) hx hb hts (fun w h => bw_mem (wU_X12 w h)) hown K hP sM_0 rfl 16 (dk_dq rfl) (hts _ (bw_mem wB_481)) (fun _ h9 => h9) (v := .ref (o + 4)) (show S_2.1 0 16 = .ref (o + 4) from dg_I.rel (d := 4) I_2 sM_0 (by decide +kernel)) dX12_statement_23 ?_
          refine lv_aload_n hx hb dX12_statement_26 rfl (lv_at hl 0 rfl) ?_
          refine dg_get (C := RX12) (T := TX12) (N := 77) hx hb hts (fun w h => bw_mem (wU_X12 w h)) hown K hP sM_0 rfl 35 (dk_dq rfl) (hts _ (bw_mem wB_353)) (fun _ h9 => h9) (v := .int ii) ((m_2.1 0 35 _ sM_0 (dk_dq rfl)).trans f_ii) dX12_statement_27 ?_
          refine lv_aload_n hx hb dX12_statement_30 rfl (lv_at hl 0 rfl) ?_
          refine lv_aload_n hx hb dX12_statement_31 rfl (lv_at hl 0 rfl) ?_
          refine dg_get (C := RX12) (T := TX12) (N := 77) hx hb hts (fun w h => bw_mem (wU_X12 w h)) hown K hP sM_0 rfl 14 (dk_dq rfl) (hts _ (bw_mem wB_372)) (fun _ h9 => h9) (v := .ref (o + 2)) (show S_2.1 0 14 = .ref (o + 2) from dg_I.rel (d := 2) I_2 sM_0 (by decide +kernel)) dX12_statement_32 ?_
          refine lv_aload_n hx hb dX12_statement_35 rfl (lv_at hl 0 rfl) ?_
          refine dg_get (C := RX12) (T := TX12) (N := 77) hx hb hts (fun w h => bw_mem (wU_X12 w h)) hown K hP sM_0 rfl 35 (dk_dq rfl) (hts _ (bw_mem wB_353)) (fun _ h9 => h9) (v := .int ii) ((m_2.1 0 35 _ sM_0 (dk_dq rfl)).trans f_ii) dX12_statement_36 ?_
          have hin_101 : vp_in ii 2 := (dk_inv2 (by omega))
          refine dg_iald hx hb K hP sM_2 hin_101 dX12_statement_39 (fun y_102 ey_102 => ?_)
          obtain rfl : cc = y_102 := ((ey_102.trans (congrFun (m_2.2 2 _ sM_2 (dk_dq rfl)).1 _)).trans f_cc).symm
          refine lv_iconst (v := 1) hx hb dX12_statement_40 (by decide +kernel) ?_
          refine lv_isub hx hb dX12_statement_41 ?_
          refine lv_topi (fun x_103 ex_103 => ?_)
          have jx_103 : (x_103).toInt = (cc).toInt - 1 := by rw [ex_103]; exact dk_subT2 rfl (by decide +kernel) (by omega)
          refine dg_calli hS hA1 hA (va_runV (As := [.int x_103]) (rest := [.int ii, .ref (o + 4)]) F (c_m_telling l g D o S_2 x_103 tb tn sg ((m_2.1 0 3 _ sM_0 (dk_dq rfl)).trans f_sg) (by omega) sa ((m_2.1 0 4 _ sM_0 (dk_dq rfl)).trans f_sa) (by omega) se ((m_2.1 0 5 _ sM_0 (dk_dq rfl)).trans f_se) (by omega) sl ((m_2.1 0 2 _ sM_0 (dk_dq rfl)).trans f_sl) (by omega) y_3 f_y_3 (by omega) (by omega) (by omega) (TKM.keep TK m_2 (dk_dq rfl) (dk_dq rfl) (dk_dq rfl) (dk_dq rfl) (dk_dq rfl) (dk_dq rfl) (dk_dq rfl) (dk_dq rfl)) I_2 H.size) (cwV 1 hts (bw_V wB_477 wB_478 wB_479 wB_297 wB_476) rfl rfl rfl (by decide +kernel) ⟨Nat.le_of_ble_eq_true rfl, Nat.le_of_ble_eq_true rfl⟩) (dg_preV sM_0 rfl K ST hP hS hA1 hA) rfl rfl hl.1 rfl (lv_room (Nat.le_of_ble_eq_true rfl)) dX12_statement_42 ⟨Nat.le_of_ble_eq_true rfl, Nat.le_of_ble_eq_true rfl⟩) (fun x_104 S_105 hw_105 H locs hP hS => ?_)
          obtain ⟨I_105, m_105, w_105_0, w_105_1, w_105_2, w_105_3, -⟩ := hw_105
          have M_105 := dg_sm.tr M_2 m_105 (dk_dq rfl) (dk_dq rfl)
          have w_105_0 : 0 ≤ (x_104).toInt ∧ (x_104).toInt ≤ 9999 := w_105_0
          obtain ⟨y_106, y_107, y_108, y_109, f_y_106, f_y_107, f_y_108, f_y_109, w_105_1⟩ := w_105_1
          have w_105_1 : (((y_107).toInt ≤ (y_108).toInt ∧ (y_108).toInt ≤ (sl).toInt ∧ ((y_106).toInt ≠ 0 → (y_107).toInt + 1 ≤ (y_108).toInt)) ∧ (sa).toInt ≤ (y_107).toInt ∧ ((y_3).toInt ≠ 0 → (y_109).toInt ≠ 0) ∧ ((y_109).toInt = 0 → (0 ≤ (x_104).toInt ∧ (x_104).toInt ≤ (x_103).toInt ∧ (sa).toInt + 1 ≤ (y_107).toInt))) ∧ m_hid ((y_3).toInt = 0 → m_an y_109 (y_num (T_kd tb tn) (T_vl tb tn) 0 (x_103).toInt ((t_ix tb tn (sa : Int32).toNatClampNeg) + 1)) (t_ix tb tn (y_107 : Int32).toNatClampNeg)) := w_105_1
          obtain ⟨⟨⟨w_105_1_0, w_105_1_1, w_105_1_2⟩, w_105_1_3, w_105_1_4, w_105_1_5⟩, w_105_1_6⟩ := w_105_1
          clear w_105_1_4
          have b_y_106 : 0 ≤ (y_106).toInt ∧ (y_106).toInt ≤ 3 := dg_I.intb (lo := 0) (hi := 3) I_105 sM_0 (by decide +kernel) f_y_106
          have b_y_107 : 0 ≤ (y_107).toInt ∧ (y_107).toInt ≤ 1600 := dg_I.intb (lo := 0) (hi := 1600) I_105 sM_0 (by decide +kernel) f_y_107
          have b_y_108 : 0 ≤ (y_108).toInt ∧ (y_108).toInt ≤ 1600 := dg_I.intb (lo := 0) (hi := 1600) I_105 sM_0 (by decide +kernel) f_y_108
          have b_y_109 : 0 ≤ (y_109).toInt ∧ (y_109).toInt ≤ 6 := dg_I.intb (lo := 0) (hi := 6) I_105 sM_0 (by decide +kernel) f_y_109
          replace w_105_2 : m_hid ((y_3).toInt = 0 → ∀ f9 : Int32, S_105.1 0 8 = .int f9 → f9.toInt = 0 → (x_104).toInt = (T_vl tb tn ((t_ix tb tn (sa : Int32).toNatClampNeg) + 1)).toInt) := w_105_2
          have hin_110 : vp_in ii 2 := (dk_inv2 (by omega))
          refine dg_iast hx hb K hP hS hA1 sM_4 hin_110 dX12_statement_45 (fun S_111 e_111 H locs hP hS => ?_)
          have I_111 := dg_I.ufu (lo := 0) (hi := 9999) I_105 e_111 sM_4 (by decide +kernel) (show 0 ≤ (x_104).toInt ∧ (x_104).toInt ≤ 9999 from (by omega))
          have M_111 := dg_sm.uf M_105 e_111 sM_4 (dk_dq rfl)
          have ZB_111 : ZBM S_111 := ZBM.up (r := 4) (ZBM.keep (ZBM.keep ZB m_2 (dk_dq rfl) (dk_dq rfl) (dk_dq rfl) (dk_dq rfl) (dk_dq rfl)) m_105 (dk_dq rfl) (dk_dq rfl) (dk_dq rfl) (dk_dq rfl) (dk_dq rfl)) (dk_dq rfl) (((m_105.1 0 13 _ sM_0 (dk_dq rfl)).trans (m_2.1 0 13 _ sM_0 (dk_dq rfl))).trans f_x_1) (by omega) e_111 (by omega)
          have GB_111 := GBM.st (GBM.keep (GBM.keep GB m_2 (dk_dq rfl) (dk_dq rfl) (dk_dq rfl)) m_105 (dk_dq rfl) (dk_dq rfl) (dk_dq rfl)) (ZKM.keep (ZKM.keep ZK m_2 (dk_dq rfl) (dk_dq rfl)) m_105 (dk_dq rfl) (dk_dq rfl)) (((m_105.1 0 35 _ sM_0 (dk_dq rfl)).trans (m_2.1 0 35 _ sM_0 (dk_dq rfl))).trans f_ii) 1 rfl (wi := 1) rfl e_111 (by omega) (by omega)
          refine lv_goto (tgt := 236) hx hb dX12_statement_46 (dk_dq rfl) ?_
          refine W.widen (k := 0) (n := 0) (Nat.le_of_ble_eq_true rfl) (Nat.le_of_ble_eq_true rfl) ?_
          rw [hQ9]
          exact dg_vret hx hb hr hlocks hP hS ⟨I_111, M_111, ⟨y_106, y_107, y_108, y_109, cd, ((dg_uf_F e_111 0 3).trans f_y_106), ((dg_uf_F e_111 0 4).trans f_y_107), ((dg_uf_F e_111 0 5).trans f_y_108), ((dg_uf_F e_111 0 8).trans f_y_109), (((dg_uf_F e_111 0 34).trans ((m_105.1 0 34 _ sM_0 (dk_dq rfl)).trans (m_2.1 0 34 _ sM_0 (dk_dq rfl)))).trans f_cd), (by omega)⟩, (fun k9 hk9 hk0 => by have q9 := (((dg_uf_F e_111 0 8).trans f_y_109)).symm.trans hk9; cases q9; exact ⟨ZCM.shaft (ZCM.keep (ZCM.keep ZC m_2 (dk_dq rfl) (dk_dq rfl) (dk_dq rfl) (dk_dq rfl)) m_105 (dk_dq rfl) (dk_dq rfl) (dk_dq rfl) (dk_dq rfl)) (((m_105.1 0 35 _ sM_0 (dk_dq rfl)).trans (m_2.1 0 35 _ sM_0 (dk_dq rfl))).trans f_ii) e_111 (by omega), (ZVM.keep (ZVM.keep (ZVM.keep ZV m_2 (dk_dq rfl) (dk_dq rfl) (dk_dq rfl) (dk_dq rfl) (dk_dq rfl)) m_105 (dk_dq rfl) (dk_dq rfl) (dk_dq rfl) (dk_dq rfl) (dk_dq rfl)) (dg_sm.uf (WF := []) (WA := [4]) dg_sm.rf e_111 sM_4 (dk_dq rfl)) (dk_dq rfl) (dk_dq rfl) (dk_dq rfl) (dk_dq rfl) (dk_dq rfl))⟩), (SOK.mk0 (fk := fk) ((dg_uf_F e_111 0 8).trans f_y_109) ((dg_uf_F e_111 0 4).trans f_y_107) (fun h0 => (by have h9 := (w_105_1_6.out (by omega)); rw [show (x_103).toInt = sg9.1.1 - 1 from by rw [hcols]; show _ = (cc).toInt - 1; omega] at h9; exact h9)) (fun h0 q8 => (GSM.keep (GSM.keep (GSM.keep GS m_2 (dk_dq rfl) (dk_dq rfl) (dk_dq rfl) (dk_dq rfl) (dk_dq rfl) (dk_dq rfl) (dk_dq rfl) (dk_dq rfl) (dk_dq rfl)) m_105 (dk_dq rfl) (dk_dq rfl) (dk_dq rfl) (dk_dq rfl) (dk_dq rfl) (dk_dq rfl) (dk_dq rfl) (dk_dq rfl) (dk_dq rfl)) (dg_sm.uf (WF := []) (WA := [4]) dg_sm.rf e_111 sM_4 (dk_dq rfl)) (dk_dq rfl) (dk_dq rfl) (dk_dq rfl) (dk_dq rfl) (dk_dq rfl) (dk_dq rfl) (dk_dq rfl) (dk_dq rfl) (dk_dq rfl))) (y_st_2 (g_o_iff.mp qw_6_1).1 (g_o_iff.mp qw_6_1).2)), (m_hid.mk (fun h0 f9 q9 q8 => by have q7 := (((dg_uf_F e_111 0 8).trans f_y_109)).symm.trans q9; cases q7; intro d9 i9 z9; have k9 := (g_o_iff.mp qw_6_1).2; have e9 := w_105_2.out (by omega) _ f_y_109 (by omega); rw [k_st_2 (by omega), ← e9]; exact km.shaft (G := d9.1) (K := d9.2) z9 ((dg_uf_F e_111 0 35).trans ((m_105.1 0 35 _ sM_0 (dk_dq rfl)).trans (m_2.1 0 35 _ sM_0 (dk_dq rfl)))) ((dg_uf_F e_111 0 34).trans ((m_105.1 0 34 _ sM_0 (dk_dq rfl)).trans (m_2.1 0 34 _ sM_0 (dk_dq rfl)))) ((dg_uf_ne e_111 (dk_dq rfl)).trans ((m_105.2 5 _ sM_5 (dk_dq rfl)).1.trans (m_2.2 5 _ sM_5 (dk_dq rfl)).1)) ((dg_uf_ne e_111 (dk_dq rfl)).trans ((m_105.2 6 _ sM_6 (dk_dq rfl)).1.trans (m_2.2 6 _ sM_6 (dk_dq rfl)).1)) ((dg_uf_ne e_111 (dk_dq rfl)).trans ((m_105.2 7 _ sM_7 (dk_dq rfl)).1.trans (m_2.2 7 _ sM_7 (dk_dq rfl)).1)) ((dg_uf_ne e_111 (dk_dq rfl)).trans ((m_105.2 10 _ sM_10 (dk_dq rfl)).1.trans (m_2.2 10 _ sM_10 (dk_dq rfl)).1)) ((dg_uf_ne e_111 (dk_dq rfl)).trans ((m_105.2 11 _ sM_11 (dk_dq rfl)).1.trans (m_2.2 11 _ sM_11 (dk_dq rfl)).1)) ((dg_uf_ne e_111 (dk_dq rfl)).trans ((m_105.2 13 _ sM_13 (dk_dq rfl)).1.trans (m_2.2 13 _ sM_13 (dk_dq rfl)).1)) ((dg_uf_ne e_111 (dk_dq rfl)).trans ((m_105.2 14 _ sM_14 (dk_dq rfl)).1.trans (m_2.2 14 _ sM_14 (dk_dq rfl)).1)) ((dg_uf_ne e_111 (dk_dq rfl)).trans ((m_105.2 15 _ sM_15 (dk_dq rfl)).1.trans (m_2.2 15 _ sM_15 (dk_dq rfl)).1)) ((dg_uf_ne e_111 (dk_dq rfl)).trans ((m_105.2 16 _ sM_16 (dk_dq rfl)).1.trans (m_2.2 16 _ sM_16 (dk_dq rfl)).1)) ((dg_uf_ne e_111 (dk_dq rfl)).trans ((m_105.2 17 _ sM_17 (dk_dq rfl)).1.trans (m_2.2 17 _ sM_17 (dk_dq rfl)).1)) ((dg_uf_ne e_111 (dk_dq rfl)).trans ((m_105.2 18 _ sM_18 (dk_dq rfl)).1.trans (m_2.2 18 _ sM_18 (dk_dq rfl)).1)) ((dg_uf_ne e_111 (dk_dq rfl)).trans ((m_105.2 19 _ sM_19 (dk_dq rfl)).1.trans (m_2.2 19 _ sM_19 (dk_dq rfl)).1)) f_ii (by rw [dg_uf_at e_111, ((m_105.2 4 _ sM_4 (dk_dq rfl)).1.trans (m_2.2 4 _ sM_4 (dk_dq rfl)).1)]))), (TKM.keep w_105_3 (dg_sm.uf (WF := []) (WA := [4]) dg_sm.rf e_111 sM_4 (dk_dq rfl)) (dk_dq rfl) (dk_dq rfl) (dk_dq rfl) (dk_dq rfl) (dk_dq rfl) (dk_dq rfl) (dk_dq rfl) (dk_dq rfl)), ZB_111, (ZWM.keep (ZWM.keep (ZWM.keep ZW m_2 (dk_dq rfl) (dk_dq rfl) (dk_dq rfl) (dk_dq rfl)) m_105 (dk_dq rfl) (dk_dq rfl) (dk_dq rfl) (dk_dq rfl)) (dg_sm.uf (WF := []) (WA := [4]) dg_sm.rf e_111 sM_4 (dk_dq rfl)) (dk_dq rfl) (dk_dq rfl) (dk_dq rfl) (dk_dq rfl)), GB_111, (G8M.keep (G8M.keep (G8M.keep G8 m_2 (dk_dq rfl) (dk_dq rfl) (dk_dq rfl)) m_105 (dk_dq rfl) (dk_dq rfl) (dk_dq rfl)) (dg_sm.uf (WF := []) (WA := [4]) dg_sm.rf e_111 sM_4 (dk_dq rfl)) (dk_dq rfl) (dk_dq rfl) (dk_dq rfl)), trivial⟩ dX12_statement_236
  · have jc_4 := dk_nlec (k := 0) (by decide +kernel) c_4
    refine W.widen (k := 0) (n := 0) (Nat.le_of_ble_eq_true rfl) (Nat.le_of_ble_eq_true rfl) ?_
    rw [hQ9]
    exact dg_vret hx hb hr hlocks hP hS ⟨I_2, M_2, ⟨sg, sa, se, y_3, cd, ((m_2.1 0 3 _ sM_0 (dk_dq rfl)).trans f_sg), ((m_2.1 0 4 _ sM_0 (dk_dq rfl)).trans f_sa), ((m_2.1 0 5 _ sM_0 (dk_dq rfl)).trans f_se), f_y_3, ((m_2.1 0 34 _ sM_0 (dk_dq rfl)).trans f_cd), (by omega)⟩, (fun k9 hk9 hk0 => by have q9 := (f_y_3).symm.trans hk9; cases q9; omega), (SOK.none (fk := fk) f_y_3 (by omega) (fun h0 => y_st_no (Or.inl (by omega)))), (m_hid.mk (fun h0 f9 q9 q8 => by have q7 := (f_y_3).symm.trans q9; cases q7; exfalso; omega)), (TKM.keep TK m_2 (dk_dq rfl) (dk_dq rfl) (dk_dq rfl) (dk_dq rfl) (dk_dq rfl) (dk_dq rfl) (dk_dq rfl) (dk_dq rfl)), (ZBM.keep ZB m_2 (dk_dq rfl) (dk_dq rfl) (dk_dq rfl) (dk_dq rfl) (dk_dq rfl)), (ZWM.keep ZW m_2 (dk_dq rfl) (dk_dq rfl) (dk_dq rfl) (dk_dq rfl)), (GBM.keep GB m_2 (dk_dq rfl) (dk_dq rfl) (dk_dq rfl)), (G8M.keep G8 m_2 (dk_dq rfl) (dk_dq rfl) (dk_dq rfl)), trivial⟩ dX12_statement_11
set_option maxHeartbeats 8000000 in
set_option maxRecDepth 100000 in
theorem c_m_finishes (l : Launch) (g : Nat → ClassId) (D : va_G) (o : Nat) (S : dg_S) (a1 : Int32) (tb : Nat → Int32) (tn : Nat) (sg : Int32) (f_sg : S.1 0 3 = .int sg) (b_sg : 0 ≤ (sg).toInt ∧ (sg).toInt ≤ 3) (sa : Int32) (f_sa : S.1 0 4 = .int sa) (b_sa : 0 ≤ (sa).toInt ∧ (sa).toInt ≤ 1600) (se : Int32) (f_se : S.1 0 5 = .int se) (b_se : 0 ≤ (se).toInt ∧ (se).toInt ≤ 1600) (sl : Int32) (f_sl : S.1 0 2 = .int sl) (b_sl : 0 ≤ (sl).toInt ∧ (sl).toInt ≤ 1600) (fk : Int32) (f_fk : S.1 0 8 = .int fk) (b_fk : 0 ≤ (fk).toInt ∧ (fk).toInt ≤ 6) (va : Int32) (f_va : S.1 0 6 = .int va) (b_va : 0 ≤ (va).toInt ∧ (va).toInt ≤ 9999) (hlx : (sa).toInt ≤ (se).toInt ∧ (se).toInt ≤ (sl).toInt ∧ ((sg).toInt ≠ 0 → (sa).toInt + 1 ≤ (se).toInt)) (TK : TKM tb tn S) (I : CM o S) (sz : Nat) : Met l yX12_finishes (bw yX12_finishes cX12_finishes 3 none) ({ frames := 4, cells := 0, slots := 0, locals := 98 } : Room) (dk_Pc g D (dg_w g shM o rfM S) sz [.ref (o + 0), .int a1]) (va_Qv (fun S' => CM o S' ∧ dg_sm shM [(0, 3), (0, 4), (0, 5), (0, 6), (0, 7), (0, 8), (0, 9), (0, 12)] [] S S' ∧ (∃ y9_3 y9_4 y9_5 y9_8 : Int32, S'.1 0 3 = .int y9_3 ∧ S'.1 0 4 = .int y9_4 ∧ S'.1 0 5 = .int y9_5 ∧ S'.1 0 8 = .int y9_8 ∧ ((((y9_4).toInt ≤ (y9_5).toInt ∧ (y9_5).toInt ≤ (sl).toInt ∧ ((y9_3).toInt ≠ 0 → (y9_4).toInt + 1 ≤ (y9_5).toInt)) ∧ (sa).toInt ≤ (y9_4).toInt ∧ ((fk).toInt ≠ 0 → (y9_8).toInt ≠ 0) ∧ ((y9_8).toInt = 0 → (sa).toInt + 1 ≤ (y9_4).toInt)) ∧ m_hid ((fk).toInt = 0 → ((y9_8).toInt = 0 → g_tk (T_kd tb tn) (T_vl tb tn) 59 (t_ix tb tn (sa : Int32).toNatClampNeg) = some (t_ix tb tn (y9_4 : Int32).toNatClampNeg) ∧ ((a1).toInt = 80 → (T_kd tb tn (t_ix tb tn (y9_4 : Int32).toNatClampNeg)).toInt = 0)) ∧ ((y9_8).toInt ≠ 0 → g_tk (T_kd tb tn) (T_vl tb tn) 59 (t_ix tb tn (sa : Int32).toNatClampNeg) = none ∨ ((a1).toInt = 80 ∧ ∃ k9 : Nat, g_tk (T_kd tb tn) (T_vl tb tn) 59 (t_ix tb tn (sa : Int32).toNatClampNeg) = some k9 ∧ (T_kd tb tn k9).toInt ≠ 0))))) ∧ TKM tb tn S' ∧ True) (dg_B g D shM o rfM) (dg_A o shM.length sz)) 0 0 (dg_A o shM.length sz) := by
  refine dg_met (cc := cX12_finishes) (maxL := 3) (ret := none) (dk_dq rfl) rfl (Nat.le_of_ble_eq_true rfl) ?_
  intro p e s m args below meth c A hAe harg hx hb hr hml hts hown hlocks hin hP K hS hA1 hA ST hsz ls hl
  rw [← hAe]
  have F : CallFix p m c cX12_finishes 3 s args (bw yX12_finishes cX12_finishes 3 none) RX12 := ⟨hx, hb, hml, hown, hts⟩
  have hl : lv_has ls 3 [(0, .ref (o + 0)), (1, .int a1)] := hl
  have M_0 : dg_sm shM [(0, 3), (0, 4), (0, 5), (0, 6), (0, 7), (0, 8), (0, 9), (0, 12)] [] S S := dg_sm.rf
  obtain ⟨Q9, hQ9⟩ : ∃ Q : State → Prop, Q = MQ below (va_Qv (fun S' => CM o S' ∧ dg_sm shM [(0, 3), (0, 4), (0, 5), (0, 6), (0, 7), (0, 8), (0, 9), (0, 12)] [] S S' ∧ (∃ y9_3 y9_4 y9_5 y9_8 : Int32, S'.1 0 3 = .int y9_3 ∧ S'.1 0 4 = .int y9_4 ∧ S'.1 0 5 = .int y9_5 ∧ S'.1 0 8 = .int y9_8 ∧ ((((y9_4).toInt ≤ (y9_5).toInt ∧ (y9_5).toInt ≤ (sl).toInt ∧ ((y9_3).toInt ≠ 0 → (y9_4).toInt + 1 ≤ (y9_5).toInt)) ∧ (sa).toInt ≤ (y9_4).toInt ∧ ((fk).toInt ≠ 0 → (y9_8).toInt ≠ 0) ∧ ((y9_8).toInt = 0 → (sa).toInt + 1 ≤ (y9_4).toInt)) ∧ m_hid ((fk).toInt = 0 → ((y9_8).toInt = 0 → g_tk (T_kd tb tn) (T_vl tb tn) 59 (t_ix tb tn (sa : Int32).toNatClampNeg) = some (t_ix tb tn (y9_4 : Int32).toNatClampNeg) ∧ ((a1).toInt = 80 → (T_kd tb tn (t_ix tb tn (y9_4 : Int32).toNatClampNeg)).toInt = 0)) ∧ ((y9_8).toInt ≠ 0 → g_tk (T_kd tb tn) (T_vl tb tn) 59 (t_ix tb tn (sa : Int32).toNatClampNeg) = none ∨ ((a1).toInt = 80 ∧ ∃ k9 : Nat, g_tk (T_kd tb tn) (T_vl tb tn) 59 (t_ix tb tn (sa : Int32).toNatClampNeg) = some k9 ∧ (T_kd tb tn k9).toInt ≠ 0))))) ∧ TKM tb tn S' ∧ True) (dg_B g D shM o rfM) A) args s 0 0 A := ⟨_, rfl⟩
  rw [← hQ9]
  obtain ⟨hlx_0, hlx_1, hlx_2⟩ := hlx
  have htb := TK.1.1
  have hn16 := TK.1.2.1
  have hsl := TZM.siz TK.1 f_sl
  have hcs : (((sl : Int32).toNatClampNeg : Nat) : Int) = (sl).toInt := (by rw [dk_clN]; omega)
  have hz9 := TKM.zero TK f_sg f_sa
  refine lv_aload_n hx hb dX12_finishes_0 rfl (lv_at hl 0 rfl) ?_
  refine dg_callv hS hA1 hA (va_runV (As := []) (rest := []) F (c_m_lex l g D o S tb tn fk f_fk (by omega) sa f_sa (by omega) TK I s.heap.size) (cwV 0 hts (bw_V wB_310 wB_311 wB_312 wB_297 wB_309) rfl rfl rfl (by decide +kernel) ⟨Nat.le_of_ble_eq_true rfl, Nat.le_of_ble_eq_true rfl⟩) (dg_preV sM_0 rfl K ST hP hS hA1 hA) rfl rfl hl.1 rfl (lv_room (Nat.le_of_ble_eq_true rfl)) dX12_finishes_1 ⟨Nat.le_of_ble_eq_true rfl, Nat.le_of_ble_eq_true rfl⟩) (fun S_1 hw_1 H locs hP hS => ?_)
  obtain ⟨I_1, m_1, w_1_0, -⟩ := hw_1
  have M_1 := dg_sm.tr M_0 m_1 (dk_dq rfl) (dk_dq rfl)
  obtain ⟨y_2, f_y_2, w_1_0⟩ := w_1_0
  have w_1_0 : ((fk).toInt ≠ 0 → (y_2).toInt = (fk).toInt) ∧ ((fk).toInt = 0 → ((y_2).toInt = 0 ↔ (T_kd tb tn (t_ix tb tn (sa : Int32).toNatClampNeg)).toInt ≠ 5)) := w_1_0
  obtain ⟨w_1_0_0, w_1_0_1⟩ := w_1_0
  have b_y_2 : 0 ≤ (y_2).toInt ∧ (y_2).toInt ≤ 6 := dg_I.intb (lo := 0) (hi := 6) I_1 sM_0 (by decide +kernel) f_y_2
  refine lv_aload_n hx hb dX12_finishes_4 rfl (lv_at hl 0 rfl) ?_
  refine dg_get (C := RX12) (T := TX12) (N := 77) hx hb hts (fun w h => bw_mem (wU_X12 w h)) hown K hP sM_0 rfl 8 (dk_dq rfl) (hts _ (bw_mem wB_303)) (fun _ h9 => h9) (v := .int y_2) f_y_2 dX12_finishes_5 ?_
  refine lv_if_le (tgt := 12) hx hb dX12_finishes_8 (dk_dq rfl) (fun c_3 => ?_) (fun c_3 => ?_)
  · as_aux_lemma =>
      have jc_3 := dk_lec (k := 0) (by decide +kernel) c_3
      have w_1_0_0c : (fk).toInt = 0 := by omega
      clear w_1_0_0
      have w_1_0_1r := w_1_0_1 (by omega)
      clear w_1_0_1
      refine lv_aload_n hx hb dX12_finishes_12 rfl (lv_at hl 0 rfl) ?_
      refine dg_get (C := RX12) (T := TX12) (N := 77) hx hb hts (fun w h => bw_mem (wU_X12 w h)) hown K hP sM_0 rfl 5 (dk_dq rfl) (hts _ (bw_mem wB_288)) (fun _ h9 => h9) (v := .int se) ((m_1.1 0 5 _ sM_0 (dk_dq rfl)).trans f_se) dX12_finishes_13 ?_
      refine lv_istore_n (lv' := [(2, .int se), (0, .ref (o + 0)), (1, .int a1)]) hx hb dX12_finishes_16 rfl hl (dk_dq rfl) rfl (fun ls hl => ?_)
      have L_160 : ∀ (n : Nat) (x_159 : Int32), (0 ≤ (x_159).toInt ∧ (x_159).toInt ≤ 1600) → (t_sk tb tn (se : Int32).toNatClampNeg = t_sk tb tn (x_159 : Int32).toNatClampNeg) → ((1601 - (x_159).toInt).toNat < n) → ∀ (H : Heap) (locs : List Loc), va_P D vwCl (dg_w g shM o rfM S_1) H → va_S A s.heap H locs → ∀ ls : Array Slot, lv_has ls 3 [(2, .int x_159), (0, .ref (o + 0)), (1, .int a1)] → W p l e ({ frames := 4, cells := 0, slots := 0, locals := 98 } : Room) s m args below meth c H locs 0 0 Q9 (F0 m 17 ls []) := by
        as_aux_lemma =>
          intro n
          induction n with
          | zero =>
            intro x_159 b_x_159 rel_0 hmu H locs hP hS ls hl
            omega
          | succ n ih =>
            as_aux_lemma =>
              intro x_159 b_x_159 rel_0 hmu H locs hP hS ls hl
              refine lv_iload_n hx hb dX12_finishes_17 rfl (lv_at hl 0 rfl) ?_
              refine lv_aload_n hx hb dX12_finishes_18 rfl (lv_at hl 1 rfl) ?_
              refine dg_get (C := RX12) (T := TX12) (N := 77) hx hb hts (fun w h => bw_mem (wU_X12 w h)) hown K hP sM_0 rfl 2 (dk_dq rfl) (hts _ (bw_mem wB_289)) (fun _ h9 => h9) (v := .int sl) ((m_1.1 0 2 _ sM_0 (dk_dq rfl)).trans f_sl) dX12_finishes_19 ?_
              refine lv_icmp_ge (tgt := 53) hx hb dX12_finishes_22 (dk_dq rfl) (fun c_161 => ?_) (fun c_161 => ?_)
              · as_aux_lemma =>
                  have jc_161 := dk_gec (k := (sl).toInt) rfl c_161
                  have hfs : t_sk tb tn (se : Int32).toNatClampNeg = (x_159 : Int32).toNatClampNeg := rel_0.trans (t_sk_over (by have h8 := dk_clN x_159; omega))
                  have hca := dk_clN x_159
                  refine lv_aload_n hx hb dX12_finishes_53 rfl (lv_at hl 1 rfl) ?_
                  refine lv_bipush (v := 59) hx hb dX12_finishes_54 (by decide +kernel) ?_
                  refine dg_calli hS hA1 hA (va_runV (As := [.int 59]) (rest := []) F (c_m_isSign l g D o S_1 59 sg ((m_1.1 0 3 _ sM_0 (dk_dq rfl)).trans f_sg) (by omega) va ((m_1.1 0 6 _ sM_0 (dk_dq rfl)).trans f_va) (by omega) I_1 H.size) (cwV 1 hts (bw_V wB_314 wB_315 wB_316 wB_297 wB_313) rfl rfl rfl (by decide +kernel) ⟨Nat.le_of_ble_eq_true rfl, Nat.le_of_ble_eq_true rfl⟩) (dg_preV sM_0 rfl K ST hP hS hA1 hA) rfl rfl hl.1 rfl (lv_room (Nat.le_of_ble_eq_true rfl)) dX12_finishes_56 ⟨Nat.le_of_ble_eq_true rfl, Nat.le_of_ble_eq_true rfl⟩) (fun x_162 S_163 hw_163 H locs hP hS => ?_)
                  rw [hw_163.1] at hP
                  obtain ⟨hq_163, w_163_0, w_163_1, -⟩ := hw_163
                  have hz_164 : (59 : Int32).toInt = 59 := by decide +kernel
                  have w_163_0 : 0 ≤ (x_162).toInt ∧ (x_162).toInt ≤ 1 := w_163_0
                  have w_163_1 : (x_162).toInt = 1 ↔ ((sg).toInt = 3 ∧ (va).toInt = ((59 : Int32)).toInt) := w_163_1
                  refine lv_if_eq (tgt := 83) hx hb dX12_finishes_59 (dk_dq rfl) (fun c_165 => ?_) (fun c_165 => ?_)
                  · as_aux_lemma =>
                      have jc_165 := dk_eqc (k := 0) (by decide +kernel) c_165
                      clear w_163_1
                      refine lv_aload_n hx hb dX12_finishes_83 rfl (lv_at hl 1 rfl) ?_
                      refine lv_bipush (v := 59) hx hb dX12_finishes_84 (by decide +kernel) ?_
                      refine dg_callv hS hA1 hA (va_runV (As := [.int 59]) (rest := []) F (c_m_must l g D o S_1 59 tb tn sg ((m_1.1 0 3 _ sM_0 (dk_dq rfl)).trans f_sg) (by omega) sa ((m_1.1 0 4 _ sM_0 (dk_dq rfl)).trans f_sa) (by omega) se ((m_1.1 0 5 _ sM_0 (dk_dq rfl)).trans f_se) (by omega) sl ((m_1.1 0 2 _ sM_0 (dk_dq rfl)).trans f_sl) (by omega) y_2 f_y_2 (by omega) va ((m_1.1 0 6 _ sM_0 (dk_dq rfl)).trans f_va) (by omega) (by omega) (TKM.keep TK m_1 (dk_dq rfl) (dk_dq rfl) (dk_dq rfl) (dk_dq rfl) (dk_dq rfl) (dk_dq rfl) (dk_dq rfl) (dk_dq rfl)) I_1 H.size) (cwV 1 hts (bw_V wB_483 wB_484 wB_485 wB_297 wB_482) rfl rfl rfl (by decide +kernel) ⟨Nat.le_of_ble_eq_true rfl, Nat.le_of_ble_eq_true rfl⟩) (dg_preV sM_0 rfl K ST hP hS hA1 hA) rfl rfl hl.1 rfl (lv_room (Nat.le_of_ble_eq_true rfl)) dX12_finishes_86 ⟨Nat.le_of_ble_eq_true rfl, Nat.le_of_ble_eq_true rfl⟩) (fun S_166 hw_166 H locs hP hS => ?_)
                      obtain ⟨I_166, m_166, w_166_0, w_166_1, -⟩ := hw_166
                      have M_166 := dg_sm.tr M_1 m_166 (dk_dq rfl) (dk_dq rfl)
                      have hz_167 : (59 : Int32).toInt = 59 := by decide +kernel
                      obtain ⟨y_168, y_169, y_170, y_171, f_y_168, f_y_169, f_y_170, f_y_171, w_166_0⟩ := w_166_0
                      have w_166_0 : (((y_169).toInt ≤ (y_170).toInt ∧ (y_170).toInt ≤ (sl).toInt ∧ ((y_168).toInt ≠ 0 → (y_169).toInt + 1 ≤ (y_170).toInt)) ∧ (sa).toInt ≤ (y_169).toInt ∧ ((y_2).toInt ≠ 0 → (y_171).toInt ≠ 0) ∧ ((y_171).toInt = 0 → (sa).toInt + 1 ≤ (y_169).toInt)) ∧ m_hid ((y_2).toInt = 0 → m_an y_171 (g_tk (T_kd tb tn) (T_vl tb tn) ((59 : Int32)).toInt (t_ix tb tn (sa : Int32).toNatClampNeg)) (t_ix tb tn (y_169 : Int32).toNatClampNeg)) := w_166_0
                      obtain ⟨⟨⟨w_166_0_0, w_166_0_1, w_166_0_2⟩, w_166_0_3, w_166_0_4, w_166_0_5⟩, w_166_0_6⟩ := w_166_0
                      clear hlx_2
                      clear w_166_0_4
                      have b_y_168 : 0 ≤ (y_168).toInt ∧ (y_168).toInt ≤ 3 := dg_I.intb (lo := 0) (hi := 3) I_166 sM_0 (by decide +kernel) f_y_168
                      have b_y_169 : 0 ≤ (y_169).toInt ∧ (y_169).toInt ≤ 1600 := dg_I.intb (lo := 0) (hi := 1600) I_166 sM_0 (by decide +kernel) f_y_169
                      have b_y_170 : 0 ≤ (y_170).toInt ∧ (y_170).toInt ≤ 1600 := dg_I.intb (lo := 0) (hi := 1600) I_166 sM_0 (by decide +kernel) f_y_170
                      have b_y_171 : 0 ≤ (y_171).toInt ∧ (y_171).toInt ≤ 6 := dg_I.intb (lo := 0) (hi := 6) I_166 sM_0 (by decide +kernel) f_y_171
                      refine W.widen (k := 0) (n := 0) (Nat.le_of_ble_eq_true rfl) (Nat.le_of_ble_eq_true rfl) ?_
                      rw [hQ9]
                      exact dg_vret hx hb hr hlocks hP hS ⟨I_166, M_166, ⟨y_168, y_169, y_170, y_171, f_y_168, f_y_169, f_y_170, f_y_171, ⟨by omega, m_hid.mk (fun h0 => ⟨fun q8 => ⟨(show m_an _ (g_tk (T_kd tb tn) (T_vl tb tn) 59 (t_ix tb tn (sa : Int32).toNatClampNeg)) _ from (by have h9 := (w_166_0_6.out (by omega)); rw [show ((59 : Int32)).toInt = 59 from by decide +kernel] at h9; exact h9)).1 q8, fun q80 => by have e9 := g_tk_some ((show m_an _ (g_tk (T_kd tb tn) (T_vl tb tn) 59 (t_ix tb tn (sa : Int32).toNatClampNeg)) _ from (by have h9 := (w_166_0_6.out (by omega)); rw [show ((59 : Int32)).toInt = 59 from by decide +kernel] at h9; exact h9)).1 q8); have e8 := (TKM.sgn TK f_sg f_sa f_va (by omega)).mp e9.1; rw [e9.2]; exact (FIN.kz TK f_sa f_se hfs (by omega)).mpr (by omega)⟩, fun q8 => Or.inl ((show m_an _ (g_tk (T_kd tb tn) (T_vl tb tn) 59 (t_ix tb tn (sa : Int32).toNatClampNeg)) _ from (by have h9 := (w_166_0_6.out (by omega)); rw [show ((59 : Int32)).toInt = 59 from by decide +kernel] at h9; exact h9)).2 q8)⟩)⟩⟩, w_166_1, trivial⟩ dX12_finishes_89
                  · as_aux_lemma =>
                      have jc_165 := dk_neqc (k := 0) (by decide +kernel) c_165
                      have jbc_165 : 1 ≤ (x_162).toInt := by omega
                      clear jc_165
                      have w_163_1_r := w_163_1.mp (by omega)
                      obtain ⟨w_163_1_r1, w_163_1_r2⟩ := w_163_1_r
                      clear w_163_1
                      have hlx_2r := hlx_2 (by omega)
                      clear hlx_2
                      refine lv_iload_n hx hb dX12_finishes_62 rfl (lv_at hl 2 rfl) ?_
                      refine lv_bipush (v := 80) hx hb dX12_finishes_63 (by decide +kernel) ?_
                      refine lv_icmp_ne (tgt := 83) hx hb dX12_finishes_65 (dk_dq rfl) (fun c_172 => ?_) (fun c_172 => ?_)
                      · as_aux_lemma =>
                          have jc_172 := dk_neqc (k := 80) (by decide +kernel) c_172
                          refine lv_aload_n hx hb dX12_finishes_83 rfl (lv_at hl 1 rfl) ?_
                          refine lv_bipush (v := 59) hx hb dX12_finishes_84 (by decide +kernel) ?_
                          refine dg_callv hS hA1 hA (va_runV (As := [.int 59]) (rest := []) F (c_m_must l g D o S_1 59 tb tn sg ((m_1.1 0 3 _ sM_0 (dk_dq rfl)).trans f_sg) (by omega) sa ((m_1.1 0 4 _ sM_0 (dk_dq rfl)).trans f_sa) (by omega) se ((m_1.1 0 5 _ sM_0 (dk_dq rfl)).trans f_se) (by omega) sl ((m_1.1 0 2 _ sM_0 (dk_dq rfl)).trans f_sl) (by omega) y_2 f_y_2 (by omega) va ((m_1.1 0 6 _ sM_0 (dk_dq rfl)).trans f_va) (by omega) (by omega) (TKM.keep TK m_1 (dk_dq rfl) (dk_dq rfl) (dk_dq rfl) (dk_dq rfl) (dk_dq rfl) (dk_dq rfl) (dk_dq rfl) (dk_dq rfl)) I_1 H.size) (cwV 1 hts (bw_V wB_483 wB_484 wB_485 wB_297 wB_482) rfl rfl rfl (by decide +kernel) ⟨Nat.le_of_ble_eq_true rfl, Nat.le_of_ble_eq_true rfl⟩) (dg_preV sM_0 rfl K ST hP hS hA1 hA) rfl rfl hl.1 rfl (lv_room (Nat.le_of_ble_eq_true rfl)) dX12_finishes_86 ⟨Nat.le_of_ble_eq_true rfl, Nat.le_of_ble_eq_true rfl⟩) (fun S_173 hw_173 H locs hP hS => ?_)
                          obtain ⟨I_173, m_173, w_173_0, w_173_1, -⟩ := hw_173
                          have M_173 := dg_sm.tr M_1 m_173 (dk_dq rfl) (dk_dq rfl)
                          have hz_174 : (59 : Int32).toInt = 59 := by decide +kernel
                          obtain ⟨y_175, y_176, y_177, y_178, f_y_175, f_y_176, f_y_177, f_y_178, w_173_0⟩ := w_173_0
                          have w_173_0 : (((y_176).toInt ≤ (y_177).toInt ∧ (y_177).toInt ≤ (sl).toInt ∧ ((y_175).toInt ≠ 0 → (y_176).toInt + 1 ≤ (y_177).toInt)) ∧ (sa).toInt ≤ (y_176).toInt ∧ ((y_2).toInt ≠ 0 → (y_178).toInt ≠ 0) ∧ ((y_178).toInt = 0 → (sa).toInt + 1 ≤ (y_176).toInt)) ∧ m_hid ((y_2).toInt = 0 → m_an y_178 (g_tk (T_kd tb tn) (T_vl tb tn) ((59 : Int32)).toInt (t_ix tb tn (sa : Int32).toNatClampNeg)) (t_ix tb tn (y_176 : Int32).toNatClampNeg)) := w_173_0
                          obtain ⟨⟨⟨w_173_0_0, w_173_0_1, w_173_0_2⟩, w_173_0_3, w_173_0_4, w_173_0_5⟩, w_173_0_6⟩ := w_173_0
                          clear w_173_0_4
                          have b_y_175 : 0 ≤ (y_175).toInt ∧ (y_175).toInt ≤ 3 := dg_I.intb (lo := 0) (hi := 3) I_173 sM_0 (by decide +kernel) f_y_175
                          have b_y_176 : 0 ≤ (y_176).toInt ∧ (y_176).toInt ≤ 1600 := dg_I.intb (lo := 0) (hi := 1600) I_173 sM_0 (by decide +kernel) f_y_176
                          have b_y_177 : 0 ≤ (y_177).toInt ∧ (y_177).toInt ≤ 1600 := dg_I.intb (lo := 0) (hi := 1600) I_173 sM_0 (by decide +kernel) f_y_177
                          have b_y_178 : 0 ≤ (y_178).toInt ∧ (y_178).toInt ≤ 6 := dg_I.intb (lo := 0) (hi := 6) I_173 sM_0 (by decide +kernel) f_y_178
                          refine W.widen (k := 0) (n := 0) (Nat.le_of_ble_eq_true rfl) (Nat.le_of_ble_eq_true rfl) ?_
                          rw [hQ9]
                          exact dg_vret hx hb hr hlocks hP hS ⟨I_173, M_173, ⟨y_175, y_176, y_177, y_178, f_y_175, f_y_176, f_y_177, f_y_178, ⟨by omega, m_hid.mk (fun h0 => ⟨fun q8 => ⟨(show m_an _ (g_tk (T_kd tb tn) (T_vl tb tn) 59 (t_ix tb tn (sa : Int32).toNatClampNeg)) _ from (by have h9 := (w_173_0_6.out (by omega)); rw [show ((59 : Int32)).toInt = 59 from by decide +kernel] at h9; exact h9)).1 q8, fun q80 => by have e9 := g_tk_some ((show m_an _ (g_tk (T_kd tb tn) (T_vl tb tn) 59 (t_ix tb tn (sa : Int32).toNatClampNeg)) _ from (by have h9 := (w_173_0_6.out (by omega)); rw [show ((59 : Int32)).toInt = 59 from by decide +kernel] at h9; exact h9)).1 q8); have e8 := (TKM.sgn TK f_sg f_sa f_va (by omega)).mp e9.1; rw [e9.2]; exact (FIN.kz TK f_sa f_se hfs (by omega)).mpr (by omega)⟩, fun q8 => Or.inl ((show m_an _ (g_tk (T_kd tb tn) (T_vl tb tn) 59 (t_ix tb tn (sa : Int32).toNatClampNeg)) _ from (by have h9 := (w_173_0_6.out (by omega)); rw [show ((59 : Int32)).toInt = 59 from by decide +kernel] at h9; exact h9)).2 q8)⟩)⟩⟩, w_173_1, trivial⟩ dX12_finishes_89
                      · as_aux_lemma =>
                          have jc_172 := dk_eqc (k := 80) (by decide +kernel) c_172
                          refine lv_iload_n hx hb dX12_finishes_68 rfl (lv_at hl 0 rfl) ?_
                          refine lv_aload_n hx hb dX12_finishes_69 rfl (lv_at hl 1 rfl) ?_
                          refine dg_get (C := RX12) (T := TX12) (N := 77) hx hb hts (fun w h => bw_mem (wU_X12 w h)) hown K hP sM_0 rfl 2 (dk_dq rfl) (hts _ (bw_mem wB_289)) (fun _ h9 => h9) (v := .int sl) ((m_1.1 0 2 _ sM_0 (dk_dq rfl)).trans f_sl) dX12_finishes_70 ?_
                          refine lv_icmp_ge (tgt := 83) hx hb dX12_finishes_73 (dk_dq rfl) (fun c_179 => ?_) (fun c_179 => ?_)
                          · as_aux_lemma =>
                              have jc_179 := dk_gec (k := (sl).toInt) rfl c_179
                              refine lv_aload_n hx hb dX12_finishes_83 rfl (lv_at hl 1 rfl) ?_
                              refine lv_bipush (v := 59) hx hb dX12_finishes_84 (by decide +kernel) ?_
                              refine dg_callv hS hA1 hA (va_runV (As := [.int 59]) (rest := []) F (c_m_must l g D o S_1 59 tb tn sg ((m_1.1 0 3 _ sM_0 (dk_dq rfl)).trans f_sg) (by omega) sa ((m_1.1 0 4 _ sM_0 (dk_dq rfl)).trans f_sa) (by omega) se ((m_1.1 0 5 _ sM_0 (dk_dq rfl)).trans f_se) (by omega) sl ((m_1.1 0 2 _ sM_0 (dk_dq rfl)).trans f_sl) (by omega) y_2 f_y_2 (by omega) va ((m_1.1 0 6 _ sM_0 (dk_dq rfl)).trans f_va) (by omega) (by omega) (TKM.keep TK m_1 (dk_dq rfl) (dk_dq rfl) (dk_dq rfl) (dk_dq rfl) (dk_dq rfl) (dk_dq rfl) (dk_dq rfl) (dk_dq rfl)) I_1 H.size) (cwV 1 hts (bw_V wB_483 wB_484 wB_485 wB_297 wB_482) rfl rfl rfl (by decide +kernel) ⟨Nat.le_of_ble_eq_true rfl, Nat.le_of_ble_eq_true rfl⟩) (dg_preV sM_0 rfl K ST hP hS hA1 hA) rfl rfl hl.1 rfl (lv_room (Nat.le_of_ble_eq_true rfl)) dX12_finishes_86 ⟨Nat.le_of_ble_eq_true rfl, Nat.le_of_ble_eq_true rfl⟩) (fun S_180 hw_180 H locs hP hS => ?_)
                              obtain ⟨I_180, m_180, w_180_0, w_180_1, -⟩ := hw_180
                              have M_180 := dg_sm.tr M_1 m_180 (dk_dq rfl) (dk_dq rfl)
                              have hz_181 : (59 : Int32).toInt = 59 := by decide +kernel
                              obtain ⟨y_182, y_183, y_184, y_185, f_y_182, f_y_183, f_y_184, f_y_185, w_180_0⟩ := w_180_0
                              have w_180_0 : (((y_183).toInt ≤ (y_184).toInt ∧ (y_184).toInt ≤ (sl).toInt ∧ ((y_182).toInt ≠ 0 → (y_183).toInt + 1 ≤ (y_184).toInt)) ∧ (sa).toInt ≤ (y_183).toInt ∧ ((y_2).toInt ≠ 0 → (y_185).toInt ≠ 0) ∧ ((y_185).toInt = 0 → (sa).toInt + 1 ≤ (y_183).toInt)) ∧ m_hid ((y_2).toInt = 0 → m_an y_185 (g_tk (T_kd tb tn) (T_vl tb tn) ((59 : Int32)).toInt (t_ix tb tn (sa : Int32).toNatClampNeg)) (t_ix tb tn (y_183 : Int32).toNatClampNeg)) := w_180_0
                              obtain ⟨⟨⟨w_180_0_0, w_180_0_1, w_180_0_2⟩, w_180_0_3, w_180_0_4, w_180_0_5⟩, w_180_0_6⟩ := w_180_0
                              clear w_180_0_4
                              have b_y_182 : 0 ≤ (y_182).toInt ∧ (y_182).toInt ≤ 3 := dg_I.intb (lo := 0) (hi := 3) I_180 sM_0 (by decide +kernel) f_y_182
                              have b_y_183 : 0 ≤ (y_183).toInt ∧ (y_183).toInt ≤ 1600 := dg_I.intb (lo := 0) (hi := 1600) I_180 sM_0 (by decide +kernel) f_y_183
                              have b_y_184 : 0 ≤ (y_184).toInt ∧ (y_184).toInt ≤ 1600 := dg_I.intb (lo := 0) (hi := 1600) I_180 sM_0 (by decide +kernel) f_y_184
                              have b_y_185 : 0 ≤ (y_185).toInt ∧ (y_185).toInt ≤ 6 := dg_I.intb (lo := 0) (hi := 6) I_180 sM_0 (by decide +kernel) f_y_185
                              refine W.widen (k := 0) (n := 0) (Nat.le_of_ble_eq_true rfl) (Nat.le_of_ble_eq_true rfl) ?_
                              rw [hQ9]
                              exact dg_vret hx hb hr hlocks hP hS ⟨I_180, M_180, ⟨y_182, y_183, y_184, y_185, f_y_182, f_y_183, f_y_184, f_y_185, ⟨by omega, m_hid.mk (fun h0 => ⟨fun q8 => ⟨(show m_an _ (g_tk (T_kd tb tn) (T_vl tb tn) 59 (t_ix tb tn (sa : Int32).toNatClampNeg)) _ from (by have h9 := (w_180_0_6.out (by omega)); rw [show ((59 : Int32)).toInt = 59 from by decide +kernel] at h9; exact h9)).1 q8, fun q80 => by have e9 := g_tk_some ((show m_an _ (g_tk (T_kd tb tn) (T_vl tb tn) 59 (t_ix tb tn (sa : Int32).toNatClampNeg)) _ from (by have h9 := (w_180_0_6.out (by omega)); rw [show ((59 : Int32)).toInt = 59 from by decide +kernel] at h9; exact h9)).1 q8); have e8 := (TKM.sgn TK f_sg f_sa f_va (by omega)).mp e9.1; rw [e9.2]; exact (FIN.kz TK f_sa f_se hfs (by omega)).mpr (by omega)⟩, fun q8 => Or.inl ((show m_an _ (g_tk (T_kd tb tn) (T_vl tb tn) 59 (t_ix tb tn (sa : Int32).toNatClampNeg)) _ from (by have h9 := (w_180_0_6.out (by omega)); rw [show ((59 : Int32)).toInt = 59 from by decide +kernel] at h9; exact h9)).2 q8)⟩)⟩⟩, w_180_1, trivial⟩ dX12_finishes_89
                          · as_aux_lemma =>
                              have jc_179 := dk_ngec (k := (sl).toInt) rfl c_179
                              refine lv_aload_n hx hb dX12_finishes_76 rfl (lv_at hl 1 rfl) ?_
                              refine lv_bipush (v := 6) hx hb dX12_finishes_77 (by decide +kernel) ?_
                              refine lv_iload_n hx hb dX12_finishes_79 rfl (lv_at hl 0 rfl) ?_
                              have hz_186 : (6 : Int32).toInt = 6 := by decide +kernel
                              refine dg_callv hS hA1 hA (va_runV (As := [.int 6, .int x_159]) (rest := []) F (c_m_blame l g D o S_1 6 (by decide +kernel) x_159 y_2 f_y_2 (by omega) I_1 H.size) (cwV 2 hts (bw_V wB_306 wB_307 wB_308 wB_297 wB_305) rfl rfl rfl (by decide +kernel) ⟨Nat.le_of_ble_eq_true rfl, Nat.le_of_ble_eq_true rfl⟩) (dg_preV sM_0 rfl K ST hP hS hA1 hA) rfl rfl hl.1 rfl (lv_room (Nat.le_of_ble_eq_true rfl)) dX12_finishes_80 ⟨Nat.le_of_ble_eq_true rfl, Nat.le_of_ble_eq_true rfl⟩) (fun S_187 hw_187 H locs hP hS => ?_)
                              obtain ⟨I_187, m_187, w_187_0, -⟩ := hw_187
                              have M_187 := dg_sm.tr M_1 m_187 (dk_dq rfl) (dk_dq rfl)
                              have hz_188 : (6 : Int32).toInt = 6 := by decide +kernel
                              obtain ⟨y_189, f_y_189, w_187_0⟩ := w_187_0
                              have w_187_0 : ((y_2).toInt ≠ 0 → (y_189).toInt = (y_2).toInt) ∧ ((y_2).toInt = 0 → (y_189).toInt = ((6 : Int32)).toInt) := w_187_0
                              obtain ⟨w_187_0_0, w_187_0_1⟩ := w_187_0
                              clear w_187_0_0
                              have w_187_0_1r := w_187_0_1 (by omega)
                              clear w_187_0_1
                              have b_y_189 : 0 ≤ (y_189).toInt ∧ (y_189).toInt ≤ 6 := dg_I.intb (lo := 0) (hi := 6) I_187 sM_0 (by decide +kernel) f_y_189
                              have hbl_y_189 : 1 ≤ (y_189).toInt := by omega
                              refine lv_aload_n hx hb dX12_finishes_83 rfl (lv_at hl 1 rfl) ?_
                              refine lv_bipush (v := 59) hx hb dX12_finishes_84 (by decide +kernel) ?_
                              refine dg_callv hS hA1 hA (va_runV (As := [.int 59]) (rest := []) F (c_m_must l g D o S_187 59 tb tn sg (((m_187.1 0 3 _ sM_0 (dk_dq rfl)).trans (m_1.1 0 3 _ sM_0 (dk_dq rfl))).trans f_sg) (by omega) sa (((m_187.1 0 4 _ sM_0 (dk_dq rfl)).trans (m_1.1 0 4 _ sM_0 (dk_dq rfl))).trans f_sa) (by omega) se (((m_187.1 0 5 _ sM_0 (dk_dq rfl)).trans (m_1.1 0 5 _ sM_0 (dk_dq rfl))).trans f_se) (by omega) sl (((m_187.1 0 2 _ sM_0 (dk_dq rfl)).trans (m_1.1 0 2 _ sM_0 (dk_dq rfl))).trans f_sl) (by omega) y_189 f_y_189 (by omega) va (((m_187.1 0 6 _ sM_0 (dk_dq rfl)).trans (m_1.1 0 6 _ sM_0 (dk_dq rfl))).trans f_va) (by omega) (by omega) (TKM.keep (TKM.keep TK m_1 (dk_dq rfl) (dk_dq rfl) (dk_dq rfl) (dk_dq rfl) (dk_dq rfl) (dk_dq rfl) (dk_dq rfl) (dk_dq rfl)) m_187 (dk_dq rfl) (dk_dq rfl) (dk_dq rfl) (dk_dq rfl) (dk_dq rfl) (dk_dq rfl) (dk_dq rfl) (dk_dq rfl)) I_187 H.size) (cwV 1 hts (bw_V wB_483 wB_484 wB_485 wB_297 wB_482) rfl rfl rfl (by decide +kernel) ⟨Nat.le_of_ble_eq_true rfl, Nat.le_of_ble_eq_true rfl⟩) (dg_preV sM_0 rfl K ST hP hS hA1 hA) rfl rfl hl.1 rfl (lv_room (Nat.le_of_ble_eq_true rfl)) dX12_finishes_86 ⟨Nat.le_of_ble_eq_true rfl, Nat.le_of_ble_eq_true rfl⟩) (fun S_190 hw_190 H locs hP hS => ?_)
                              obtain ⟨I_190, m_190, w_190_0, w_190_1, -⟩ := hw_190
                              have M_190 := dg_sm.tr M_187 m_190 (dk_dq rfl) (dk_dq rfl)
                              have hz_191 : (59 : Int32).toInt = 59 := by decide +kernel
                              obtain ⟨y_192, y_193, y_194, y_195, f_y_192, f_y_193, f_y_194, f_y_195, w_190_0⟩ := w_190_0
                              have w_190_0 : (((y_193).toInt ≤ (y_194).toInt ∧ (y_194).toInt ≤ (sl).toInt ∧ ((y_192).toInt ≠ 0 → (y_193).toInt + 1 ≤ (y_194).toInt)) ∧ (sa).toInt ≤ (y_193).toInt ∧ ((y_189).toInt ≠ 0 → (y_195).toInt ≠ 0) ∧ ((y_195).toInt = 0 → (sa).toInt + 1 ≤ (y_193).toInt)) ∧ m_hid ((y_189).toInt = 0 → m_an y_195 (g_tk (T_kd tb tn) (T_vl tb tn) ((59 : Int32)).toInt (t_ix tb tn (sa : Int32).toNatClampNeg)) (t_ix tb tn (y_193 : Int32).toNatClampNeg)) := w_190_0
                              obtain ⟨⟨⟨w_190_0_0, w_190_0_1, w_190_0_2⟩, w_190_0_3, w_190_0_4, w_190_0_5⟩, w_190_0_6⟩ := w_190_0
                              have w_190_0_4r := w_190_0_4 (by omega)
                              clear w_190_0_4
                              have b_y_192 : 0 ≤ (y_192).toInt ∧ (y_192).toInt ≤ 3 := dg_I.intb (lo := 0) (hi := 3) I_190 sM_0 (by decide +kernel) f_y_192
                              have b_y_193 : 0 ≤ (y_193).toInt ∧ (y_193).toInt ≤ 1600 := dg_I.intb (lo := 0) (hi := 1600) I_190 sM_0 (by decide +kernel) f_y_193
                              have b_y_194 : 0 ≤ (y_194).toInt ∧ (y_194).toInt ≤ 1600 := dg_I.intb (lo := 0) (hi := 1600) I_190 sM_0 (by decide +kernel) f_y_194
                              have b_y_195 : 0 ≤ (y_195).toInt ∧ (y_195).toInt ≤ 6 := dg_I.intb (lo := 0) (hi := 6) I_190 sM_0 (by decide +kernel) f_y_195
                              refine W.widen (k := 0) (n := 0) (Nat.le_of_ble_eq_true rfl) (Nat.le_of_ble_eq_true rfl) ?_
                              rw [hQ9]
                              exact dg_vret hx hb hr hlocks hP hS ⟨I_190, M_190, ⟨y_192, y_193, y_194, y_195, f_y_192, f_y_193, f_y_194, f_y_195, ⟨by omega, m_hid.mk (fun h0 => ⟨fun q8 => by exfalso; omega, fun _ => Or.inr ⟨by omega, (t_ix tb tn (sa : Int32).toNatClampNeg) + 1, g_tk_y ((TKM.sgn TK f_sg f_sa f_va (by omega)).mpr (by omega)), fun q9 => absurd ((FIN.kz TK f_sa f_se hfs (by omega)).mp q9) (by omega)⟩⟩)⟩⟩, w_190_1, trivial⟩ dX12_finishes_89
              · as_aux_lemma =>
                  have jc_161 := dk_ngec (k := (sl).toInt) rfl c_161
                  refine lv_aload_n hx hb dX12_finishes_25 rfl (lv_at hl 1 rfl) ?_
                  refine dg_get (C := RX12) (T := TX12) (N := 77) hx hb hts (fun w h => bw_mem (wU_X12 w h)) hown K hP sM_0 rfl 0 (dk_dq rfl) (hts _ (bw_mem wB_290)) (fun _ h9 => h9) (v := .ref (o + 1)) (show S_1.1 0 0 = .ref (o + 1) from dg_I.rel (d := 1) I_1 sM_0 (by decide +kernel)) dX12_finishes_26 ?_
                  refine lv_iload_n hx hb dX12_finishes_29 rfl (lv_at hl 0 rfl) ?_
                  have hin_196 : vp_in x_159 1800 := (dk_inv2 (by omega))
                  refine dg_iald hx hb K hP sM_1 hin_196 dX12_finishes_30 (fun x_197 ex_197 => ?_)
                  have b_x_197 := dk_all_at (dg_I.row (lo := 0) (hi := 255) I_1 sM_1 (by decide +kernel)) hin_196 ex_197
                  have kx_197 : tb (x_159 : Int32).toNatClampNeg = x_197 := by rw [ex_197, (m_1.2 1 _ sM_1 (dk_dq rfl)).1, htb]
                  refine lv_bipush (v := 32) hx hb dX12_finishes_31 (by decide +kernel) ?_
                  refine lv_icmp_eq (tgt := 47) hx hb dX12_finishes_33 (dk_dq rfl) (fun c_198 => ?_) (fun c_198 => ?_)
                  · have jc_198 := dk_eqc (k := 32) (by decide +kernel) c_198
                    obtain ⟨x_199, ex_199⟩ : ∃ z, z = x_159 + 1 := ⟨_, rfl⟩
                    have jx_199 : (x_199).toInt = (x_159).toInt + 1 := by rw [ex_199]; exact dk_addT2 rfl (by decide +kernel) (by omega)
                    refine lv_iinc (v := x_199) (lv' := [(2, .int x_199), (0, .ref (o + 0)), (1, .int a1)]) hx hb dX12_finishes_47 hl (k := 0) rfl (by rw [ex_199]; rfl) (dk_dq rfl) rfl (fun ls hl => ?_)
                    refine lv_goto (tgt := 17) hx hb dX12_finishes_50 (dk_dq rfl) ?_
                    exact ih x_199 (by omega) (rel_0.trans (t_sk_nx hn16 (by have h8 := dk_clN x_159; omega) (by rw [kx_197]; exact t_b_t (by omega)) (by omega) (by omega))) (by first | exact mu_lt hmu (by omega) (by omega) | omega) _ _ hP hS _ (lv_sub hl [0, 1, 2] rfl)
                  · as_aux_lemma =>
                      have jc_198 := dk_neqc (k := 32) (by decide +kernel) c_198
                      refine lv_aload_n hx hb dX12_finishes_36 rfl (lv_at hl 1 rfl) ?_
                      refine dg_get (C := RX12) (T := TX12) (N := 77) hx hb hts (fun w h => bw_mem (wU_X12 w h)) hown K hP sM_0 rfl 0 (dk_dq rfl) (hts _ (bw_mem wB_290)) (fun _ h9 => h9) (v := .ref (o + 1)) (show S_1.1 0 0 = .ref (o + 1) from dg_I.rel (d := 1) I_1 sM_0 (by decide +kernel)) dX12_finishes_37 ?_
                      refine lv_iload_n hx hb dX12_finishes_40 rfl (lv_at hl 0 rfl) ?_
                      have hin_200 : vp_in x_159 1800 := (dk_inv2 (by omega))
                      refine dg_iald hx hb K hP sM_1 hin_200 dX12_finishes_41 (fun y_201 ey_201 => ?_)
                      obtain rfl : x_197 = y_201 := (ey_201.trans ex_197.symm).symm
                      refine lv_bipush (v := 10) hx hb dX12_finishes_42 (by decide +kernel) ?_
                      refine lv_icmp_ne (tgt := 53) hx hb dX12_finishes_44 (dk_dq rfl) (fun c_202 => ?_) (fun c_202 => ?_)
                      · as_aux_lemma =>
                          have jc_202 := dk_neqc (k := 10) (by decide +kernel) c_202
                          have hfs : t_sk tb tn (se : Int32).toNatClampNeg = (x_159 : Int32).toNatClampNeg := rel_0.trans (t_sk_stay (by rw [kx_197]; exact t_b_f (by omega) (by omega)))
                          have hca := dk_clN x_159
                          refine lv_aload_n hx hb dX12_finishes_53 rfl (lv_at hl 1 rfl) ?_
                          refine lv_bipush (v := 59) hx hb dX12_finishes_54 (by decide +kernel) ?_
                          refine dg_calli hS hA1 hA (va_runV (As := [.int 59]) (rest := []) F (c_m_isSign l g D o S_1 59 sg ((m_1.1 0 3 _ sM_0 (dk_dq rfl)).trans f_sg) (by omega) va ((m_1.1 0 6 _ sM_0 (dk_dq rfl)).trans f_va) (by omega) I_1 H.size) (cwV 1 hts (bw_V wB_314 wB_315 wB_316 wB_297 wB_313) rfl rfl rfl (by decide +kernel) ⟨Nat.le_of_ble_eq_true rfl, Nat.le_of_ble_eq_true rfl⟩) (dg_preV sM_0 rfl K ST hP hS hA1 hA) rfl rfl hl.1 rfl (lv_room (Nat.le_of_ble_eq_true rfl)) dX12_finishes_56 ⟨Nat.le_of_ble_eq_true rfl, Nat.le_of_ble_eq_true rfl⟩) (fun x_203 S_204 hw_204 H locs hP hS => ?_)
                          rw [hw_204.1] at hP
                          obtain ⟨hq_204, w_204_0, w_204_1, -⟩ := hw_204
                          have hz_205 : (59 : Int32).toInt = 59 := by decide +kernel
                          have w_204_0 : 0 ≤ (x_203).toInt ∧ (x_203).toInt ≤ 1 := w_204_0
                          have w_204_1 : (x_203).toInt = 1 ↔ ((sg).toInt = 3 ∧ (va).toInt = ((59 : Int32)).toInt) := w_204_1
                          refine lv_if_eq (tgt := 83) hx hb dX12_finishes_59 (dk_dq rfl) (fun c_206 => ?_) (fun c_206 => ?_)
                          · as_aux_lemma =>
                              have jc_206 := dk_eqc (k := 0) (by decide +kernel) c_206
                              clear w_204_1
                              refine lv_aload_n hx hb dX12_finishes_83 rfl (lv_at hl 1 rfl) ?_
                              refine lv_bipush (v := 59) hx hb dX12_finishes_84 (by decide +kernel) ?_
                              refine dg_callv hS hA1 hA (va_runV (As := [.int 59]) (rest := []) F (c_m_must l g D o S_1 59 tb tn sg ((m_1.1 0 3 _ sM_0 (dk_dq rfl)).trans f_sg) (by omega) sa ((m_1.1 0 4 _ sM_0 (dk_dq rfl)).trans f_sa) (by omega) se ((m_1.1 0 5 _ sM_0 (dk_dq rfl)).trans f_se) (by omega) sl ((m_1.1 0 2 _ sM_0 (dk_dq rfl)).trans f_sl) (by omega) y_2 f_y_2 (by omega) va ((m_1.1 0 6 _ sM_0 (dk_dq rfl)).trans f_va) (by omega) (by omega) (TKM.keep TK m_1 (dk_dq rfl) (dk_dq rfl) (dk_dq rfl) (dk_dq rfl) (dk_dq rfl) (dk_dq rfl) (dk_dq rfl) (dk_dq rfl)) I_1 H.size) (cwV 1 hts (bw_V wB_483 wB_484 wB_485 wB_297 wB_482) rfl rfl rfl (by decide +kernel) ⟨Nat.le_of_ble_eq_true rfl, Nat.le_of_ble_eq_true rfl⟩) (dg_preV sM_0 rfl K ST hP hS hA1 hA) rfl rfl hl.1 rfl (lv_room (Nat.le_of_ble_eq_true rfl)) dX12_finishes_86 ⟨Nat.le_of_ble_eq_true rfl, Nat.le_of_ble_eq_true rfl⟩) (fun S_207 hw_207 H locs hP hS => ?_)
                              obtain ⟨I_207, m_207, w_207_0, w_207_1, -⟩ := hw_207
                              have M_207 := dg_sm.tr M_1 m_207 (dk_dq rfl) (dk_dq rfl)
                              have hz_208 : (59 : Int32).toInt = 59 := by decide +kernel
                              obtain ⟨y_209, y_210, y_211, y_212, f_y_209, f_y_210, f_y_211, f_y_212, w_207_0⟩ := w_207_0
                              have w_207_0 : (((y_210).toInt ≤ (y_211).toInt ∧ (y_211).toInt ≤ (sl).toInt ∧ ((y_209).toInt ≠ 0 → (y_210).toInt + 1 ≤ (y_211).toInt)) ∧ (sa).toInt ≤ (y_210).toInt ∧ ((y_2).toInt ≠ 0 → (y_212).toInt ≠ 0) ∧ ((y_212).toInt = 0 → (sa).toInt + 1 ≤ (y_210).toInt)) ∧ m_hid ((y_2).toInt = 0 → m_an y_212 (g_tk (T_kd tb tn) (T_vl tb tn) ((59 : Int32)).toInt (t_ix tb tn (sa : Int32).toNatClampNeg)) (t_ix tb tn (y_210 : Int32).toNatClampNeg)) := w_207_0
                              obtain ⟨⟨⟨w_207_0_0, w_207_0_1, w_207_0_2⟩, w_207_0_3, w_207_0_4, w_207_0_5⟩, w_207_0_6⟩ := w_207_0
                              clear hlx_2
                              clear w_207_0_4
                              have b_y_209 : 0 ≤ (y_209).toInt ∧ (y_209).toInt ≤ 3 := dg_I.intb (lo := 0) (hi := 3) I_207 sM_0 (by decide +kernel) f_y_209
                              have b_y_210 : 0 ≤ (y_210).toInt ∧ (y_210).toInt ≤ 1600 := dg_I.intb (lo := 0) (hi := 1600) I_207 sM_0 (by decide +kernel) f_y_210
                              have b_y_211 : 0 ≤ (y_211).toInt ∧ (y_211).toInt ≤ 1600 := dg_I.intb (lo := 0) (hi := 1600) I_207 sM_0 (by decide +kernel) f_y_211
                              have b_y_212 : 0 ≤ (y_212).toInt ∧ (y_212).toInt ≤ 6 := dg_I.intb (lo := 0) (hi := 6) I_207 sM_0 (by decide +kernel) f_y_212
                              refine W.widen (k := 0) (n := 0) (Nat.le_of_ble_eq_true rfl) (Nat.le_of_ble_eq_true rfl) ?_
                              rw [hQ9]
                              exact dg_vret hx hb hr hlocks hP hS ⟨I_207, M_207, ⟨y_209, y_210, y_211, y_212, f_y_209, f_y_210, f_y_211, f_y_212, ⟨by omega, m_hid.mk (fun h0 => ⟨fun q8 => ⟨(show m_an _ (g_tk (T_kd tb tn) (T_vl tb tn) 59 (t_ix tb tn (sa : Int32).toNatClampNeg)) _ from (by have h9 := (w_207_0_6.out (by omega)); rw [show ((59 : Int32)).toInt = 59 from by decide +kernel] at h9; exact h9)).1 q8, fun q80 => by have e9 := g_tk_some ((show m_an _ (g_tk (T_kd tb tn) (T_vl tb tn) 59 (t_ix tb tn (sa : Int32).toNatClampNeg)) _ from (by have h9 := (w_207_0_6.out (by omega)); rw [show ((59 : Int32)).toInt = 59 from by decide +kernel] at h9; exact h9)).1 q8); have e8 := (TKM.sgn TK f_sg f_sa f_va (by omega)).mp e9.1; rw [e9.2]; exact (FIN.kz TK f_sa f_se hfs (by omega)).mpr (by omega)⟩, fun q8 => Or.inl ((show m_an _ (g_tk (T_kd tb tn) (T_vl tb tn) 59 (t_ix tb tn (sa : Int32).toNatClampNeg)) _ from (by have h9 := (w_207_0_6.out (by omega)); rw [show ((59 : Int32)).toInt = 59 from by decide +kernel] at h9; exact h9)).2 q8)⟩)⟩⟩, w_207_1, trivial⟩ dX12_finishes_89
                          · as_aux_lemma =>
                              have jc_206 := dk_neqc (k := 0) (by decide +kernel) c_206
                              have jbc_206 : 1 ≤ (x_203).toInt := by omega
                              clear jc_206
                              have w_204_1_r := w_204_1.mp (by omega)
                              obtain ⟨w_204_1_r1, w_204_1_r2⟩ := w_204_1_r
                              clear w_204_1
                              have hlx_2r := hlx_2 (by omega)
                              clear hlx_2
                              refine lv_iload_n hx hb dX12_finishes_62 rfl (lv_at hl 2 rfl) ?_
                              refine lv_bipush (v := 80) hx hb dX12_finishes_63 (by decide +kernel) ?_
                              refine lv_icmp_ne (tgt := 83) hx hb dX12_finishes_65 (dk_dq rfl) (fun c_213 => ?_) (fun c_213 => ?_)
                              · as_aux_lemma =>
                                  have jc_213 := dk_neqc (k := 80) (by decide +kernel) c_213
                                  refine lv_aload_n hx hb dX12_finishes_83 rfl (lv_at hl 1 rfl) ?_
                                  refine lv_bipush (v := 59) hx hb dX12_finishes_84 (by decide +kernel) ?_
                                  refine dg_callv hS hA1 hA (va_runV (As := [.int 59]) (rest := []) F (c_m_must l g D o S_1 59 tb tn sg ((m_1.1 0 3 _ sM_0 (dk_dq rfl)).trans f_sg) (by omega) sa ((m_1.1 0 4 _ sM_0 (dk_dq rfl)).trans f_sa) (by omega) se ((m_1.1 0 5 _ sM_0 (dk_dq rfl)).trans f_se) (by omega) sl ((m_1.1 0 2 _ sM_0 (dk_dq rfl)).trans f_sl) (by omega) y_2 f_y_2 (by omega) va ((m_1.1 0 6 _ sM_0 (dk_dq rfl)).trans f_va) (by omega) (by omega) (TKM.keep TK m_1 (dk_dq rfl) (dk_dq rfl) (dk_dq rfl) (dk_dq rfl) (dk_dq rfl) (dk_dq rfl) (dk_dq rfl) (dk_dq rfl)) I_1 H.size) (cwV 1 hts (bw_V wB_483 wB_484 wB_485 wB_297 wB_482) rfl rfl rfl (by decide +kernel) ⟨Nat.le_of_ble_eq_true rfl, Nat.le_of_ble_eq_true rfl⟩) (dg_preV sM_0 rfl K ST hP hS hA1 hA) rfl rfl hl.1 rfl (lv_room (Nat.le_of_ble_eq_true rfl)) dX12_finishes_86 ⟨Nat.le_of_ble_eq_true rfl, Nat.le_of_ble_eq_true rfl⟩) (fun S_214 hw_214 H locs hP hS => ?_)
                                  obtain ⟨I_214, m_214, w_214_0, w_214_1, -⟩ := hw_214
                                  have M_214 := dg_sm.tr M_1 m_214 (dk_dq rfl) (dk_dq rfl)
                                  have hz_215 : (59 : Int32).toInt = 59 := by decide +kernel
                                  obtain ⟨y_216, y_217, y_218, y_219, f_y_216, f_y_217, f_y_218, f_y_219, w_214_0⟩ := w_214_0
                                  have w_214_0 : (((y_217).toInt ≤ (y_218).toInt ∧ (y_218).toInt ≤ (sl).toInt ∧ ((y_216).toInt ≠ 0 → (y_217).toInt + 1 ≤ (y_218).toInt)) ∧ (sa).toInt ≤ (y_217).toInt ∧ ((y_2).toInt ≠ 0 → (y_219).toInt ≠ 0) ∧ ((y_219).toInt = 0 → (sa).toInt + 1 ≤ (y_217).toInt)) ∧ m_hid ((y_2).toInt = 0 → m_an y_219 (g_tk (T_kd tb tn) (T_vl tb tn) ((59 : Int32)).toInt (t_ix tb tn (sa : Int32).toNatClampNeg)) (t_ix tb tn (y_217 : Int32).toNatClampNeg)) := w_214_0
                                  obtain ⟨⟨⟨w_214_0_0, w_214_0_1, w_214_0_2⟩, w_214_0_3, w_214_0_4, w_214_0_5⟩, w_214_0_6⟩ := w_214_0
                                  clear w_214_0_4
                                  have b_y_216 : 0 ≤ (y_216).toInt ∧ (y_216).toInt ≤ 3 := dg_I.intb (lo := 0) (hi := 3) I_214 sM_0 (by decide +kernel) f_y_216
                                  have b_y_217 : 0 ≤ (y_217).toInt ∧ (y_217).toInt ≤ 1600 := dg_I.intb (lo := 0) (hi := 1600) I_214 sM_0 (by decide +kernel) f_y_217
                                  have b_y_218 : 0 ≤ (y_218).toInt ∧ (y_218).toInt ≤ 1600 := dg_I.intb (lo := 0) (hi := 1600) I_214 sM_0 (by decide +kernel) f_y_218
                                  have b_y_219 : 0 ≤ (y_219).toInt ∧ (y_219).toInt ≤ 6 := dg_I.intb (lo := 0) (hi := 6) I_214 sM_0 (by decide +kernel) f_y_219
                                  refine W.widen (k := 0) (n := 0) (Nat.le_of_ble_eq_true rfl) (Nat.le_of_ble_eq_true rfl) ?_
                                  rw [hQ9]
                                  exact dg_vret hx hb hr hlocks hP hS ⟨I_214, M_214, ⟨y_216, y_217, y_218, y_219, f_y_216, f_y_217, f_y_218, f_y_219, ⟨by omega, m_hid.mk (fun h0 => ⟨fun q8 => ⟨(show m_an _ (g_tk (T_kd tb tn) (T_vl tb tn) 59 (t_ix tb tn (sa : Int32).toNatClampNeg)) _ from (by have h9 := (w_214_0_6.out (by omega)); rw [show ((59 : Int32)).toInt = 59 from by decide +kernel] at h9; exact h9)).1 q8, fun q80 => by have e9 := g_tk_some ((show m_an _ (g_tk (T_kd tb tn) (T_vl tb tn) 59 (t_ix tb tn (sa : Int32).toNatClampNeg)) _ from (by have h9 := (w_214_0_6.out (by omega)); rw [show ((59 : Int32)).toInt = 59 from by decide +kernel] at h9; exact h9)).1 q8); have e8 := (TKM.sgn TK f_sg f_sa f_va (by omega)).mp e9.1; rw [e9.2]; exact (FIN.kz TK f_sa f_se hfs (by omega)).mpr (by omega)⟩, fun q8 => Or.inl ((show m_an _ (g_tk (T_kd tb tn) (T_vl tb tn) 59 (t_ix tb tn (sa : Int32).toNatClampNeg)) _ from (by have h9 := (w_214_0_6.out (by omega)); rw [show ((59 : Int32)).toInt = 59 from by decide +kernel] at h9; exact h9)).2 q8)⟩)⟩⟩, w_214_1, trivial⟩ dX12_finishes_89
                              · as_aux_lemma =>
                                  have jc_213 := dk_eqc (k := 80) (by decide +kernel) c_213
                                  refine lv_iload_n hx hb dX12_finishes_68 rfl (lv_at hl 0 rfl) ?_
                                  refine lv_aload_n hx hb dX12_finishes_69 rfl (lv_at hl 1 rfl) ?_
                                  refine dg_get (C := RX12) (T := TX12) (N := 77) hx hb hts (fun w h => bw_mem (wU_X12 w h)) hown K hP sM_0 rfl 2 (dk_dq rfl) (hts _ (bw_mem wB_289)) (fun _ h9 => h9) (v := .int sl) ((m_1.1 0 2 _ sM_0 (dk_dq rfl)).trans f_sl) dX12_finishes_70 ?_
                                  refine lv_icmp_ge (tgt := 83) hx hb dX12_finishes_73 (dk_dq rfl) (fun c_220 => ?_) (fun c_220 => ?_)
                                  · as_aux_lemma =>
                                      have jc_220 := dk_gec (k := (sl).toInt) rfl c_220
                                      refine lv_aload_n hx hb dX12_finishes_83 rfl (lv_at hl 1 rfl) ?_
                                      refine lv_bipush (v := 59) hx hb dX12_finishes_84 (by decide +kernel) ?_
                                      refine dg_callv hS hA1 hA (va_runV (As := [.int 59]) (rest := []) F (c_m_must l g D o S_1 59 tb tn sg ((m_1.1 0 3 _ sM_0 (dk_dq rfl)).trans f_sg) (by omega) sa ((m_1.1 0 4 _ sM_0 (dk_dq rfl)).trans f_sa) (by omega) se ((m_1.1 0 5 _ sM_0 (dk_dq rfl)).trans f_se) (by omega) sl ((m_1.1 0 2 _ sM_0 (dk_dq rfl)).trans f_sl) (by omega) y_2 f_y_2 (by omega) va ((m_1.1 0 6 _ sM_0 (dk_dq rfl)).trans f_va) (by omega) (by omega) (TKM.keep TK m_1 (dk_dq rfl) (dk_dq rfl) (dk_dq rfl) (dk_dq rfl) (dk_dq rfl) (dk_dq rfl) (dk_dq rfl) (dk_dq rfl)) I_1 H.size) (cwV 1 hts (bw_V wB_483 wB_484 wB_485 wB_297 wB_482) rfl rfl rfl (by decide +kernel) ⟨Nat.le_of_ble_eq_true rfl, Nat.le_of_ble_eq_true rfl⟩) (dg_preV sM_0 rfl K ST hP hS hA1 hA) rfl rfl hl.1 rfl (lv_room (Nat.le_of_ble_eq_true rfl)) dX12_finishes_86 ⟨Nat.le_of_ble_eq_true rfl, Nat.le_of_ble_eq_true rfl⟩) (fun S_221 hw_221 H locs hP hS => ?_)
                                      obtain ⟨I_221, m_221, w_221_0, w_221_1, -⟩ := hw_221
                                      have M_221 := dg_sm.tr M_1 m_221 (dk_dq rfl) (dk_dq rfl)
                                      have hz_222 : (59 : Int32).toInt = 59 := by decide +kernel
                                      obtain ⟨y_223, y_224, y_225, y_226, f_y_223, f_y_224, f_y_225, f_y_226, w_221_0⟩ := w_221_0
                                      have w_221_0 : (((y_224).toInt ≤ (y_225).toInt ∧ (y_225).toInt ≤ (sl).toInt ∧ ((y_223).toInt ≠ 0 → (y_224).toInt + 1 ≤ (y_225).toInt)) ∧ (sa).toInt ≤ (y_224).toInt ∧ ((y_2).toInt ≠ 0 → (y_226).toInt ≠ 0) ∧ ((y_226).toInt = 0 → (sa).toInt + 1 ≤ (y_224).toInt)) ∧ m_hid ((y_2).toInt = 0 → m_an y_226 (g_tk (T_kd tb tn) (T_vl tb tn) ((59 : Int32)).toInt (t_ix tb tn (sa : Int32).toNatClampNeg)) (t_ix tb tn (y_224 : Int32).toNatClampNeg)) := w_221_0
                                      obtain ⟨⟨⟨w_221_0_0, w_221_0_1, w_221_0_2⟩, w_221_0_3, w_221_0_4, w_221_0_5⟩, w_221_0_6⟩ := w_221_0
                                      clear w_221_0_4
                                      have b_y_223 : 0 ≤ (y_223).toInt ∧ (y_223).toInt ≤ 3 := dg_I.intb (lo := 0) (hi := 3) I_221 sM_0 (by decide +kernel) f_y_223
                                      have b_y_224 : 0 ≤ (y_224).toInt ∧ (y_224).toInt ≤ 1600 := dg_I.intb (lo := 0) (hi := 1600) I_221 sM_0 (by decide +kernel) f_y_224
                                      have b_y_225 : 0 ≤ (y_225).toInt ∧ (y_225).toInt ≤ 1600 := dg_I.intb (lo := 0) (hi := 1600) I_221 sM_0 (by decide +kernel) f_y_225
                                      have b_y_226 : 0 ≤ (y_226).toInt ∧ (y_226).toInt ≤ 6 := dg_I.intb (lo := 0) (hi := 6) I_221 sM_0 (by decide +kernel) f_y_226
                                      refine W.widen (k := 0) (n := 0) (Nat.le_of_ble_eq_true rfl) (Nat.le_of_ble_eq_true rfl) ?_
                                      rw [hQ9]
                                      exact dg_vret hx hb hr hlocks hP hS ⟨I_221, M_221, ⟨y_223, y_224, y_225, y_226, f_y_223, f_y_224, f_y_225, f_y_226, ⟨by omega, m_hid.mk (fun h0 => ⟨fun q8 => ⟨(show m_an _ (g_tk (T_kd tb tn) (T_vl tb tn) 59 (t_ix tb tn (sa : Int32).toNatClampNeg)) _ from (by have h9 := (w_221_0_6.out (by omega)); rw [show ((59 : Int32)).toInt = 59 from by decide +kernel] at h9; exact h9)).1 q8, fun q80 => by have e9 := g_tk_some ((show m_an _ (g_tk (T_kd tb tn) (T_vl tb tn) 59 (t_ix tb tn (sa : Int32).toNatClampNeg)) _ from (by have h9 := (w_221_0_6.out (by omega)); rw [show ((59 : Int32)).toInt = 59 from by decide +kernel] at h9; exact h9)).1 q8); have e8 := (TKM.sgn TK f_sg f_sa f_va (by omega)).mp e9.1; rw [e9.2]; exact (FIN.kz TK f_sa f_se hfs (by omega)).mpr (by omega)⟩, fun q8 => Or.inl ((show m_an _ (g_tk (T_kd tb tn) (T_vl tb tn) 59 (t_ix tb tn (sa : Int32).toNatClampNeg)) _ from (by have h9 := (w_221_0_6.out (by omega)); rw [show ((59 : Int32)).toInt = 59 from by decide +kernel] at h9; exact h9)).2 q8)⟩)⟩⟩, w_221_1, trivial⟩ dX12_finishes_89
                                  · as_aux_lemma =>
                                      have jc_220 := dk_ngec (k := (sl).toInt) rfl c_220
                                      refine lv_aload_n hx hb dX12_finishes_76 rfl (lv_at hl 1 rfl) ?_
                                      refine lv_bipush (v := 6) hx hb dX12_finishes_77 (by decide +kernel) ?_
                                      refine lv_iload_n hx hb dX12_finishes_79 rfl (lv_at hl 0 rfl) ?_
                                      have hz_227 : (6 : Int32).toInt = 6 := by decide +kernel
                                      refine dg_callv hS hA1 hA (va_runV (As := [.int 6, .int x_159]) (rest := []) F (c_m_blame l g D o S_1 6 (by decide +kernel) x_159 y_2 f_y_2 (by omega) I_1 H.size) (cwV 2 hts (bw_V wB_306 wB_307 wB_308 wB_297 wB_305) rfl rfl rfl (by decide +kernel) ⟨Nat.le_of_ble_eq_true rfl, Nat.le_of_ble_eq_true rfl⟩) (dg_preV sM_0 rfl K ST hP hS hA1 hA) rfl rfl hl.1 rfl (lv_room (Nat.le_of_ble_eq_true rfl)) dX12_finishes_80 ⟨Nat.le_of_ble_eq_true rfl, Nat.le_of_ble_eq_true rfl⟩) (fun S_228 hw_228 H locs hP hS => ?_)
                                      obtain ⟨I_228, m_228, w_228_0, -⟩ := hw_228
                                      have M_228 := dg_sm.tr M_1 m_228 (dk_dq rfl) (dk_dq rfl)
                                      have hz_229 : (6 : Int32).toInt = 6 := by decide +kernel
                                      obtain ⟨y_230, f_y_230, w_228_0⟩ := w_228_0
                                      have w_228_0 : ((y_2).toInt ≠ 0 → (y_230).toInt = (y_2).toInt) ∧ ((y_2).toInt = 0 → (y_230).toInt = ((6 : Int32)).toInt) := w_228_0
                                      obtain ⟨w_228_0_0, w_228_0_1⟩ := w_228_0
                                      clear w_228_0_0
                                      have w_228_0_1r := w_228_0_1 (by omega)
                                      clear w_228_0_1
                                      have b_y_230 : 0 ≤ (y_230).toInt ∧ (y_230).toInt ≤ 6 := dg_I.intb (lo := 0) (hi := 6) I_228 sM_0 (by decide +kernel) f_y_230
                                      have hbl_y_230 : 1 ≤ (y_230).toInt := by omega
                                      refine lv_aload_n hx hb dX12_finishes_83 rfl (lv_at hl 1 rfl) ?_
                                      refine lv_bipush (v := 59) hx hb dX12_finishes_84 (by decide +kernel) ?_
                                      refine dg_callv hS hA1 hA (va_runV (As := [.int 59]) (rest := []) F (c_m_must l g D o S_228 59 tb tn sg (((m_228.1 0 3 _ sM_0 (dk_dq rfl)).trans (m_1.1 0 3 _ sM_0 (dk_dq rfl))).trans f_sg) (by omega) sa (((m_228.1 0 4 _ sM_0 (dk_dq rfl)).trans (m_1.1 0 4 _ sM_0 (dk_dq rfl))).trans f_sa) (by omega) se (((m_228.1 0 5 _ sM_0 (dk_dq rfl)).trans (m_1.1 0 5 _ sM_0 (dk_dq rfl))).trans f_se) (by omega) sl (((m_228.1 0 2 _ sM_0 (dk_dq rfl)).trans (m_1.1 0 2 _ sM_0 (dk_dq rfl))).trans f_sl) (by omega) y_230 f_y_230 (by omega) va (((m_228.1 0 6 _ sM_0 (dk_dq rfl)).trans (m_1.1 0 6 _ sM_0 (dk_dq rfl))).trans f_va) (by omega) (by omega) (TKM.keep (TKM.keep TK m_1 (dk_dq rfl) (dk_dq rfl) (dk_dq rfl) (dk_dq rfl) (dk_dq rfl) (dk_dq rfl) (dk_dq rfl) (dk_dq rfl)) m_228 (dk_dq rfl) (dk_dq rfl) (dk_dq rfl) (dk_dq rfl) (dk_dq rfl) (dk_dq rfl) (dk_dq rfl) (dk_dq rfl)) I_228 H.size) (cwV 1 hts (bw_V wB_483 wB_484 wB_485 wB_297 wB_482) rfl rfl rfl (by decide +kernel) ⟨Nat.le_of_ble_eq_true rfl, Nat.le_of_ble_eq_true rfl⟩) (dg_preV sM_0 rfl K ST hP hS hA1 hA) rfl rfl hl.1 rfl (lv_room (Nat.le_of_ble_eq_true rfl)) dX12_finishes_86 ⟨Nat.le_of_ble_eq_true rfl, Nat.le_of_ble_eq_true rfl⟩) (fun S_231 hw_231 H locs hP hS => ?_)
                                      obtain ⟨I_231, m_231, w_231_0, w_231_1, -⟩ := hw_231
                                      have M_231 := dg_sm.tr M_228 m_231 (dk_dq rfl) (dk_dq rfl)
                                      have hz_232 : (59 : Int32).toInt = 59 := by decide +kernel
                                      obtain ⟨y_233, y_234, y_235, y_236, f_y_233, f_y_234, f_y_235, f_y_236, w_231_0⟩ := w_231_0
                                      have w_231_0 : (((y_234).toInt ≤ (y_235).toInt ∧ (y_235).toInt ≤ (sl).toInt ∧ ((y_233).toInt ≠ 0 → (y_234).toInt + 1 ≤ (y_235).toInt)) ∧ (sa).toInt ≤ (y_234).toInt ∧ ((y_230).toInt ≠ 0 → (y_236).toInt ≠ 0) ∧ ((y_236).toInt = 0 → (sa).toInt + 1 ≤ (y_234).toInt)) ∧ m_hid ((y_230).toInt = 0 → m_an y_236 (g_tk (T_kd tb tn) (T_vl tb tn) ((59 : Int32)).toInt (t_ix tb tn (sa : Int32).toNatClampNeg)) (t_ix tb tn (y_234 : Int32).toNatClampNeg)) := w_231_0
                                      obtain ⟨⟨⟨w_231_0_0, w_231_0_1, w_231_0_2⟩, w_231_0_3, w_231_0_4, w_231_0_5⟩, w_231_0_6⟩ := w_231_0
                                      have w_231_0_4r := w_231_0_4 (by omega)
                                      clear w_231_0_4
                                      have b_y_233 : 0 ≤ (y_233).toInt ∧ (y_233).toInt ≤ 3 := dg_I.intb (lo := 0) (hi := 3) I_231 sM_0 (by decide +kernel) f_y_233
                                      have b_y_234 : 0 ≤ (y_234).toInt ∧ (y_234).toInt ≤ 1600 := dg_I.intb (lo := 0) (hi := 1600) I_231 sM_0 (by decide +kernel) f_y_234
                                      have b_y_235 : 0 ≤ (y_235).toInt ∧ (y_235).toInt ≤ 1600 := dg_I.intb (lo := 0) (hi := 1600) I_231 sM_0 (by decide +kernel) f_y_235
                                      have b_y_236 : 0 ≤ (y_236).toInt ∧ (y_236).toInt ≤ 6 := dg_I.intb (lo := 0) (hi := 6) I_231 sM_0 (by decide +kernel) f_y_236
                                      refine W.widen (k := 0) (n := 0) (Nat.le_of_ble_eq_true rfl) (Nat.le_of_ble_eq_true rfl) ?_
                                      rw [hQ9]
                                      exact dg_vret hx hb hr hlocks hP hS ⟨I_231, M_231, ⟨y_233, y_234, y_235, y_236, f_y_233, f_y_234, f_y_235, f_y_236, ⟨by omega, m_hid.mk (fun h0 => ⟨fun q8 => by exfalso; omega, fun _ => Or.inr ⟨by omega, (t_ix tb tn (sa : Int32).toNatClampNeg) + 1, g_tk_y ((TKM.sgn TK f_sg f_sa f_va (by omega)).mpr (by omega)), fun q9 => absurd ((FIN.kz TK f_sa f_se hfs (by omega)).mp q9) (by omega)⟩⟩)⟩⟩, w_231_1, trivial⟩ dX12_finishes_89
                      · have jc_202 := dk_eqc (k := 10) (by decide +kernel) c_202
                        obtain ⟨x_237, ex_237⟩ : ∃ z, z = x_159 + 1 := ⟨_, rfl⟩
                        have jx_237 : (x_237).toInt = (x_159).toInt + 1 := by rw [ex_237]; exact dk_addT2 rfl (by decide +kernel) (by omega)
                        refine lv_iinc (v := x_237) (lv' := [(2, .int x_237), (0, .ref (o + 0)), (1, .int a1)]) hx hb dX12_finishes_47 hl (k := 0) rfl (by rw [ex_237]; rfl) (dk_dq rfl) rfl (fun ls hl => ?_)
                        refine lv_goto (tgt := 17) hx hb dX12_finishes_50 (dk_dq rfl) ?_
                        exact ih x_237 (by omega) (rel_0.trans (t_sk_nx hn16 (by have h8 := dk_clN x_159; omega) (by rw [kx_197]; exact t_b_t (by omega)) (by omega) (by omega))) (by first | exact mu_lt hmu (by omega) (by omega) | omega) _ _ hP hS _ (lv_sub hl [0, 1, 2] rfl)
      exact L_160 ((1601 - ((se : Int32)).toInt).toNat + 1) se (by omega) rfl (by first | exact mu_lt hmu (by omega) (by omega) | omega) _ _ hP hS _ (lv_sub hl [0, 1, 2] rfl)
  · have jc_3 := dk_nlec (k := 0) (by decide +kernel) c_3
    refine W.widen (k := 0) (n := 0) (Nat.le_of_ble_eq_true rfl) (Nat.le_of_ble_eq_true rfl) ?_
    rw [hQ9]
    exact dg_vret hx hb hr hlocks hP hS ⟨I_1, M_1, ⟨sg, sa, se, y_2, ((m_1.1 0 3 _ sM_0 (dk_dq rfl)).trans f_sg), ((m_1.1 0 4 _ sM_0 (dk_dq rfl)).trans f_sa), ((m_1.1 0 5 _ sM_0 (dk_dq rfl)).trans f_se), f_y_2, ⟨by omega, m_hid.mk (fun h0 => ⟨fun q8 => by exfalso; omega, fun _ => Or.inl (g_tk_5 (by omega))⟩)⟩⟩, (TKM.keep TK m_1 (dk_dq rfl) (dk_dq rfl) (dk_dq rfl) (dk_dq rfl) (dk_dq rfl) (dk_dq rfl) (dk_dq rfl) (dk_dq rfl)), trivial⟩ dX12_finishes_11
