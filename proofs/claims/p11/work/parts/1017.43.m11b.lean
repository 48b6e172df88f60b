/-! 43.m11b.lean.txt -/
theorem dX12_is_0 : decode cX12_is 0 = .ok (.iload_n 0, 1) := dk_o26 (by decide +kernel)
theorem dX12_is_1 : decode cX12_is 1 = .ok (.iload_n 1, 1) := dk_o27 (by decide +kernel)
theorem dX12_is_2 : decode cX12_is 2 = .ok (.if_icmp .lt 12, 3) := dk_o161 (by decide +kernel)
theorem dX12_is_5 : decode cX12_is 5 = .ok (.iload_n 0, 1) := dk_o26 (by decide +kernel)
theorem dX12_is_6 : decode cX12_is 6 = .ok (.iload_n 2, 1) := dk_o28 (by decide +kernel)
theorem dX12_is_7 : decode cX12_is 7 = .ok (.if_icmp .gt 7, 3) := dk_o163 (by decide +kernel)
theorem dX12_is_10 : decode cX12_is 10 = .ok (.iconst 1, 1) := dk_o4 (by decide +kernel)
theorem dX12_is_11 : decode cX12_is 11 = .ok (.goto 4, 3) := dk_o167 (by decide +kernel)
theorem dX12_is_14 : decode cX12_is 14 = .ok (.iconst 0, 1) := dk_o3 (by decide +kernel)
theorem dX12_is_15 : decode cX12_is 15 = .ok (.ireturn, 1) := dk_o172 (by decide +kernel)
theorem dX12_blame_0 : decode cX12_blame 0 = .ok (.aload_n 0, 1) := dk_o42 (by decide +kernel)
theorem dX12_blame_1 : decode cX12_blame 1 = .ok (.getfield 36, 3) := dk_o180 (by decide +kernel)
theorem dX12_blame_4 : decode cX12_blame 4 = .ok (.ifCond .le 4, 3) := dk_o158 (by decide +kernel)
theorem dX12_blame_7 : decode cX12_blame 7 = .ok (.return_, 1) := dk_o177 (by decide +kernel)
theorem dX12_blame_8 : decode cX12_blame 8 = .ok (.aload_n 0, 1) := dk_o42 (by decide +kernel)
theorem dX12_blame_9 : decode cX12_blame 9 = .ok (.iload_n 1, 1) := dk_o27 (by decide +kernel)
theorem dX12_blame_10 : decode cX12_blame 10 = .ok (.putfield 36, 3) := dk_o181 (by decide +kernel)
theorem dX12_blame_13 : decode cX12_blame 13 = .ok (.aload_n 0, 1) := dk_o42 (by decide +kernel)
theorem dX12_blame_14 : decode cX12_blame 14 = .ok (.iload_n 2, 1) := dk_o28 (by decide +kernel)
theorem dX12_blame_15 : decode cX12_blame 15 = .ok (.putfield 39, 3) := dk_o181 (by decide +kernel)
theorem dX12_blame_18 : decode cX12_blame 18 = .ok (.return_, 1) := dk_o177 (by decide +kernel)
theorem dX12_lex_0 : decode cX12_lex 0 = .ok (.aload_n 0, 1) := dk_o42 (by decide +kernel)
theorem dX12_lex_1 : decode cX12_lex 1 = .ok (.getfield 48, 3) := dk_o180 (by decide +kernel)
theorem dX12_lex_4 : decode cX12_lex 4 = .ok (.iconst (-1), 1) := dk_o2 (by decide +kernel)
theorem dX12_lex_5 : decode cX12_lex 5 = .ok (.if_icmp .eq 12, 3) := dk_o159 (by decide +kernel)
theorem dX12_lex_8 : decode cX12_lex 8 = .ok (.aload_n 0, 1) := dk_o42 (by decide +kernel)
theorem dX12_lex_9 : decode cX12_lex 9 = .ok (.iconst 1, 1) := dk_o4 (by decide +kernel)
theorem dX12_lex_10 : decode cX12_lex 10 = .ok (.aload_n 0, 1) := dk_o42 (by decide +kernel)
theorem dX12_lex_11 : decode cX12_lex 11 = .ok (.getfield 48, 3) := dk_o180 (by decide +kernel)
theorem dX12_lex_14 : decode cX12_lex 14 = .ok (.invokevirtual 255, 3) := dk_o182 (by decide +kernel)
theorem dX12_lex_17 : decode cX12_lex 17 = .ok (.return_, 1) := dk_o177 (by decide +kernel)
theorem dX12_isSign_0 : decode cX12_isSign 0 = .ok (.aload_n 0, 1) := dk_o42 (by decide +kernel)
theorem dX12_isSign_1 : decode cX12_isSign 1 = .ok (.getfield 20, 3) := dk_o180 (by decide +kernel)
theorem dX12_isSign_4 : decode cX12_isSign 4 = .ok (.iconst 3, 1) := dk_o6 (by decide +kernel)
theorem dX12_isSign_5 : decode cX12_isSign 5 = .ok (.if_icmp .ne 15, 3) := dk_o160 (by decide +kernel)
theorem dX12_isSign_8 : decode cX12_isSign 8 = .ok (.aload_n 0, 1) := dk_o42 (by decide +kernel)
theorem dX12_isSign_9 : decode cX12_isSign 9 = .ok (.getfield 29, 3) := dk_o180 (by decide +kernel)
theorem dX12_isSign_12 : decode cX12_isSign 12 = .ok (.iload_n 1, 1) := dk_o27 (by decide +kernel)
theorem dX12_isSign_13 : decode cX12_isSign 13 = .ok (.if_icmp .ne 7, 3) := dk_o160 (by decide +kernel)
theorem dX12_isSign_16 : decode cX12_isSign 16 = .ok (.iconst 1, 1) := dk_o4 (by decide +kernel)
theorem dX12_isSign_17 : decode cX12_isSign 17 = .ok (.goto 4, 3) := dk_o167 (by decide +kernel)
theorem dX12_isSign_20 : decode cX12_isSign 20 = .ok (.iconst 0, 1) := dk_o3 (by decide +kernel)
theorem dX12_isSign_21 : decode cX12_isSign 21 = .ok (.ireturn, 1) := dk_o172 (by decide +kernel)
theorem dX12_isWord_0 : decode cX12_isWord 0 = .ok (.aload_n 0, 1) := dk_o42 (by decide +kernel)
theorem dX12_isWord_1 : decode cX12_isWord 1 = .ok (.getfield 20, 3) := dk_o180 (by decide +kernel)
theorem dX12_isWord_4 : decode cX12_isWord 4 = .ok (.iconst 1, 1) := dk_o4 (by decide +kernel)
theorem dX12_isWord_5 : decode cX12_isWord 5 = .ok (.if_icmp .ne 16, 3) := dk_o160 (by decide +kernel)
theorem dX12_isWord_8 : decode cX12_isWord 8 = .ok (.aload_n 0, 1) := dk_o42 (by decide +kernel)
theorem dX12_isWord_9 : decode cX12_isWord 9 = .ok (.getfield 32, 3) := dk_o180 (by decide +kernel)
theorem dX12_isWord_12 : decode cX12_isWord 12 = .ok (.lload_n 1, 1) := dk_o31 (by decide +kernel)
theorem dX12_isWord_13 : decode cX12_isWord 13 = .ok (.lcmp, 1) := dk_o148 (by decide +kernel)
theorem dX12_isWord_14 : decode cX12_isWord 14 = .ok (.ifCond .ne 7, 3) := dk_o154 (by decide +kernel)
theorem dX12_isWord_17 : decode cX12_isWord 17 = .ok (.iconst 1, 1) := dk_o4 (by decide +kernel)
theorem dX12_isWord_18 : decode cX12_isWord 18 = .ok (.goto 4, 3) := dk_o167 (by decide +kernel)
theorem dX12_isWord_21 : decode cX12_isWord 21 = .ok (.iconst 0, 1) := dk_o3 (by decide +kernel)
theorem dX12_isWord_22 : decode cX12_isWord 22 = .ok (.ireturn, 1) := dk_o172 (by decide +kernel)
theorem dX12_must_0 : decode cX12_must 0 = .ok (.aload_n 0, 1) := dk_o42 (by decide +kernel)
theorem dX12_must_1 : decode cX12_must 1 = .ok (.invokevirtual 266, 3) := dk_o182 (by decide +kernel)
theorem dX12_must_4 : decode cX12_must 4 = .ok (.aload_n 0, 1) := dk_o42 (by decide +kernel)
theorem dX12_must_5 : decode cX12_must 5 = .ok (.iload_n 1, 1) := dk_o27 (by decide +kernel)
theorem dX12_must_6 : decode cX12_must 6 = .ok (.invokevirtual 269, 3) := dk_o182 (by decide +kernel)
theorem dX12_must_9 : decode cX12_must 9 = .ok (.ifCond .ne 12, 3) := dk_o154 (by decide +kernel)
theorem dX12_must_12 : decode cX12_must 12 = .ok (.aload_n 0, 1) := dk_o42 (by decide +kernel)
theorem dX12_must_13 : decode cX12_must 13 = .ok (.iconst 1, 1) := dk_o4 (by decide +kernel)
theorem dX12_must_14 : decode cX12_must 14 = .ok (.aload_n 0, 1) := dk_o42 (by decide +kernel)
theorem dX12_must_15 : decode cX12_must 15 = .ok (.getfield 23, 3) := dk_o180 (by decide +kernel)
theorem dX12_must_18 : decode cX12_must 18 = .ok (.invokevirtual 255, 3) := dk_o182 (by decide +kernel)
theorem dX12_must_21 : decode cX12_must 21 = .ok (.aload_n 0, 1) := dk_o42 (by decide +kernel)
theorem dX12_must_22 : decode cX12_must 22 = .ok (.getfield 36, 3) := dk_o180 (by decide +kernel)
theorem dX12_must_25 : decode cX12_must 25 = .ok (.ifCond .ne 7, 3) := dk_o154 (by decide +kernel)
theorem dX12_must_28 : decode cX12_must 28 = .ok (.aload_n 0, 1) := dk_o42 (by decide +kernel)
theorem dX12_must_29 : decode cX12_must 29 = .ok (.invokevirtual 272, 3) := dk_o182 (by decide +kernel)
theorem dX12_must_32 : decode cX12_must 32 = .ok (.return_, 1) := dk_o177 (by decide +kernel)
theorem dX12_isOwn_0 : decode cX12_isOwn 0 = .ok (.lload_n 1, 1) := dk_o31 (by decide +kernel)
theorem dX12_isOwn_1 : decode cX12_isOwn 1 = .ok (.ldc2_w 275, 3) := dk_o20 (by decide +kernel)
theorem dX12_isOwn_4 : decode cX12_isOwn 4 = .ok (.lcmp, 1) := dk_o148 (by decide +kernel)
theorem dX12_isOwn_5 : decode cX12_isOwn 5 = .ok (.ifCond .eq 35, 3) := dk_o153 (by decide +kernel)
theorem dX12_isOwn_8 : decode cX12_isOwn 8 = .ok (.lload_n 1, 1) := dk_o31 (by decide +kernel)
theorem dX12_isOwn_9 : decode cX12_isOwn 9 = .ok (.ldc2_w 277, 3) := dk_o20 (by decide +kernel)
theorem dX12_isOwn_12 : decode cX12_isOwn 12 = .ok (.lcmp, 1) := dk_o148 (by decide +kernel)
theorem dX12_isOwn_13 : decode cX12_isOwn 13 = .ok (.ifCond .eq 27, 3) := dk_o153 (by decide +kernel)
theorem dX12_isOwn_16 : decode cX12_isOwn 16 = .ok (.lload_n 1, 1) := dk_o31 (by decide +kernel)
theorem dX12_isOwn_17 : decode cX12_isOwn 17 = .ok (.ldc2_w 279, 3) := dk_o20 (by decide +kernel)
theorem dX12_isOwn_20 : decode cX12_isOwn 20 = .ok (.lcmp, 1) := dk_o148 (by decide +kernel)
theorem dX12_isOwn_21 : decode cX12_isOwn 21 = .ok (.ifCond .eq 19, 3) := dk_o153 (by decide +kernel)
theorem dX12_isOwn_24 : decode cX12_isOwn 24 = .ok (.lload_n 1, 1) := dk_o31 (by decide +kernel)
theorem dX12_isOwn_25 : decode cX12_isOwn 25 = .ok (.ldc2_w 281, 3) := dk_o20 (by decide +kernel)
theorem dX12_isOwn_28 : decode cX12_isOwn 28 = .ok (.lcmp, 1) := dk_o148 (by decide +kernel)
theorem dX12_isOwn_29 : decode cX12_isOwn 29 = .ok (.ifCond .eq 11, 3) := dk_o153 (by decide +kernel)
theorem dX12_isOwn_32 : decode cX12_isOwn 32 = .ok (.lload_n 1, 1) := dk_o31 (by decide +kernel)
theorem dX12_isOwn_33 : decode cX12_isOwn 33 = .ok (.ldc2_w 283, 3) := dk_o20 (by decide +kernel)
theorem dX12_isOwn_36 : decode cX12_isOwn 36 = .ok (.lcmp, 1) := dk_o148 (by decide +kernel)
theorem dX12_isOwn_37 : decode cX12_isOwn 37 = .ok (.ifCond .ne 5, 3) := dk_o154 (by decide +kernel)
theorem dX12_isOwn_40 : decode cX12_isOwn 40 = .ok (.iconst 1, 1) := dk_o4 (by decide +kernel)
theorem dX12_isOwn_41 : decode cX12_isOwn 41 = .ok (.ireturn, 1) := dk_o172 (by decide +kernel)
theorem dX12_isOwn_42 : decode cX12_isOwn 42 = .ok (.lload_n 1, 1) := dk_o31 (by decide +kernel)
theorem dX12_isOwn_43 : decode cX12_isOwn 43 = .ok (.ldc2_w 285, 3) := dk_o20 (by decide +kernel)
theorem dX12_isOwn_46 : decode cX12_isOwn 46 = .ok (.lcmp, 1) := dk_o148 (by decide +kernel)
theorem dX12_isOwn_47 : decode cX12_isOwn 47 = .ok (.ifCond .eq 35, 3) := dk_o153 (by decide +kernel)
theorem dX12_isOwn_50 : decode cX12_isOwn 50 = .ok (.lload_n 1, 1) := dk_o31 (by decide +kernel)
theorem dX12_isOwn_51 : decode cX12_isOwn 51 = .ok (.ldc2_w 287, 3) := dk_o20 (by decide +kernel)
theorem dX12_isOwn_54 : decode cX12_isOwn 54 = .ok (.lcmp, 1) := dk_o148 (by decide +kernel)
theorem dX12_isOwn_55 : decode cX12_isOwn 55 = .ok (.ifCond .eq 27, 3) := dk_o153 (by decide +kernel)
theorem dX12_isOwn_58 : decode cX12_isOwn 58 = .ok (.lload_n 1, 1) := dk_o31 (by decide +kernel)
theorem dX12_isOwn_59 : decode cX12_isOwn 59 = .ok (.ldc2_w 289, 3) := dk_o20 (by decide +kernel)
theorem dX12_isOwn_62 : decode cX12_isOwn 62 = .ok (.lcmp, 1) := dk_o148 (by decide +kernel)
theorem dX12_isOwn_63 : decode cX12_isOwn 63 = .ok (.ifCond .eq 19, 3) := dk_o153 (by decide +kernel)
theorem dX12_isOwn_66 : decode cX12_isOwn 66 = .ok (.lload_n 1, 1) := dk_o31 (by decide +kernel)
theorem dX12_isOwn_67 : decode cX12_isOwn 67 = .ok (.ldc2_w 291, 3) := dk_o20 (by decide +kernel)
theorem dX12_isOwn_70 : decode cX12_isOwn 70 = .ok (.lcmp, 1) := dk_o148 (by decide +kernel)
theorem dX12_isOwn_71 : decode cX12_isOwn 71 = .ok (.ifCond .eq 11, 3) := dk_o153 (by decide +kernel)
theorem dX12_isOwn_74 : decode cX12_isOwn 74 = .ok (.lload_n 1, 1) := dk_o31 (by decide +kernel)
theorem dX12_isOwn_75 : decode cX12_isOwn 75 = .ok (.ldc2_w 293, 3) := dk_o20 (by decide +kernel)
theorem dX12_isOwn_78 : decode cX12_isOwn 78 = .ok (.lcmp, 1) := dk_o148 (by decide +kernel)
theorem dX12_isOwn_79 : decode cX12_isOwn 79 = .ok (.ifCond .ne 5, 3) := dk_o154 (by decide +kernel)
theorem dX12_isOwn_82 : decode cX12_isOwn 82 = .ok (.iconst 1, 1) := dk_o4 (by decide +kernel)
theorem dX12_isOwn_83 : decode cX12_isOwn 83 = .ok (.ireturn, 1) := dk_o172 (by decide +kernel)
theorem dX12_isOwn_84 : decode cX12_isOwn 84 = .ok (.lload_n 1, 1) := dk_o31 (by decide +kernel)
theorem dX12_isOwn_85 : decode cX12_isOwn 85 = .ok (.ldc2_w 295, 3) := dk_o20 (by decide +kernel)
theorem dX12_isOwn_88 : decode cX12_isOwn 88 = .ok (.lcmp, 1) := dk_o148 (by decide +kernel)
theorem dX12_isOwn_89 : decode cX12_isOwn 89 = .ok (.ifCond .eq 35, 3) := dk_o153 (by decide +kernel)
theorem dX12_isOwn_92 : decode cX12_isOwn 92 = .ok (.lload_n 1, 1) := dk_o31 (by decide +kernel)
theorem dX12_isOwn_93 : decode cX12_isOwn 93 = .ok (.ldc2_w 297, 3) := dk_o20 (by decide +kernel)
theorem dX12_isOwn_96 : decode cX12_isOwn 96 = .ok (.lcmp, 1) := dk_o148 (by decide +kernel)
theorem dX12_isOwn_97 : decode cX12_isOwn 97 = .ok (.ifCond .eq 27, 3) := dk_o153 (by decide +kernel)
theorem dX12_isOwn_100 : decode cX12_isOwn 100 = .ok (.lload_n 1, 1) := dk_o31 (by decide +kernel)
theorem dX12_isOwn_101 : decode cX12_isOwn 101 = .ok (.ldc2_w 299, 3) := dk_o20 (by decide +kernel)
theorem dX12_isOwn_104 : decode cX12_isOwn 104 = .ok (.lcmp, 1) := dk_o148 (by decide +kernel)
theorem dX12_isOwn_105 : decode cX12_isOwn 105 = .ok (.ifCond .eq 19, 3) := dk_o153 (by decide +kernel)
theorem dX12_isOwn_108 : decode cX12_isOwn 108 = .ok (.lload_n 1, 1) := dk_o31 (by decide +kernel)
theorem dX12_isOwn_109 : decode cX12_isOwn 109 = .ok (.ldc2_w 301, 3) := dk_o20 (by decide +kernel)
theorem dX12_isOwn_112 : decode cX12_isOwn 112 = .ok (.lcmp, 1) := dk_o148 (by decide +kernel)
theorem dX12_isOwn_113 : decode cX12_isOwn 113 = .ok (.ifCond .eq 11, 3) := dk_o153 (by decide +kernel)
theorem dX12_isOwn_116 : decode cX12_isOwn 116 = .ok (.lload_n 1, 1) := dk_o31 (by decide +kernel)
theorem dX12_isOwn_117 : decode cX12_isOwn 117 = .ok (.ldc2_w 303, 3) := dk_o20 (by decide +kernel)
theorem dX12_isOwn_120 : decode cX12_isOwn 120 = .ok (.lcmp, 1) := dk_o148 (by decide +kernel)
theorem dX12_isOwn_121 : decode cX12_isOwn 121 = .ok (.ifCond .ne 5, 3) := dk_o154 (by decide +kernel)
theorem dX12_isOwn_124 : decode cX12_isOwn 124 = .ok (.iconst 1, 1) := dk_o4 (by decide +kernel)
theorem dX12_isOwn_125 : decode cX12_isOwn 125 = .ok (.ireturn, 1) := dk_o172 (by decide +kernel)
theorem dX12_isOwn_126 : decode cX12_isOwn 126 = .ok (.lload_n 1, 1) := dk_o31 (by decide +kernel)
theorem dX12_isOwn_127 : decode cX12_isOwn 127 = .ok (.ldc2_w 305, 3) := dk_o20 (by decide +kernel)
theorem dX12_isOwn_130 : decode cX12_isOwn 130 = .ok (.lcmp, 1) := dk_o148 (by decide +kernel)
theorem dX12_isOwn_131 : decode cX12_isOwn 131 = .ok (.ifCond .eq 35, 3) := dk_o153 (by decide +kernel)
theorem dX12_isOwn_134 : decode cX12_isOwn 134 = .ok (.lload_n 1, 1) := dk_o31 (by decide +kernel)
theorem dX12_isOwn_135 : decode cX12_isOwn 135 = .ok (.ldc2_w 307, 3) := dk_o20 (by decide +kernel)
theorem dX12_isOwn_138 : decode cX12_isOwn 138 = .ok (.lcmp, 1) := dk_o148 (by decide +kernel)
theorem dX12_isOwn_139 : decode cX12_isOwn 139 = .ok (.ifCond .eq 27, 3) := dk_o153 (by decide +kernel)
theorem dX12_isOwn_142 : decode cX12_isOwn 142 = .ok (.lload_n 1, 1) := dk_o31 (by decide +kernel)
theorem dX12_isOwn_143 : decode cX12_isOwn 143 = .ok (.ldc2_w 309, 3) := dk_o20 (by decide +kernel)
theorem dX12_isOwn_146 : decode cX12_isOwn 146 = .ok (.lcmp, 1) := dk_o148 (by decide +kernel)
theorem dX12_isOwn_147 : decode cX12_isOwn 147 = .ok (.ifCond .eq 19, 3) := dk_o153 (by decide +kernel)
theorem dX12_isOwn_150 : decode cX12_isOwn 150 = .ok (.lload_n 1, 1) := dk_o31 (by decide +kernel)
theorem dX12_isOwn_151 : decode cX12_isOwn 151 = .ok (.ldc2_w 311, 3) := dk_o20 (by decide +kernel)
theorem dX12_isOwn_154 : decode cX12_isOwn 154 = .ok (.lcmp, 1) := dk_o148 (by decide +kernel)
theorem dX12_isOwn_155 : decode cX12_isOwn 155 = .ok (.ifCond .eq 11, 3) := dk_o153 (by decide +kernel)
theorem dX12_isOwn_158 : decode cX12_isOwn 158 = .ok (.lload_n 1, 1) := dk_o31 (by decide +kernel)
theorem dX12_isOwn_159 : decode cX12_isOwn 159 = .ok (.ldc2_w 313, 3) := dk_o20 (by decide +kernel)
theorem dX12_isOwn_162 : decode cX12_isOwn 162 = .ok (.lcmp, 1) := dk_o148 (by decide +kernel)
theorem dX12_isOwn_163 : decode cX12_isOwn 163 = .ok (.ifCond .ne 5, 3) := dk_o154 (by decide +kernel)
theorem dX12_isOwn_166 : decode cX12_isOwn 166 = .ok (.iconst 1, 1) := dk_o4 (by decide +kernel)
theorem dX12_isOwn_167 : decode cX12_isOwn 167 = .ok (.ireturn, 1) := dk_o172 (by decide +kernel)
theorem dX12_isOwn_168 : decode cX12_isOwn 168 = .ok (.lload_n 1, 1) := dk_o31 (by decide +kernel)
theorem dX12_isOwn_169 : decode cX12_isOwn 169 = .ok (.ldc2_w 315, 3) := dk_o20 (by decide +kernel)
theorem dX12_isOwn_172 : decode cX12_isOwn 172 = .ok (.lcmp, 1) := dk_o148 (by decide +kernel)
theorem dX12_isOwn_173 : decode cX12_isOwn 173 = .ok (.ifCond .eq 35, 3) := dk_o153 (by decide +kernel)
theorem dX12_isOwn_176 : decode cX12_isOwn 176 = .ok (.lload_n 1, 1) := dk_o31 (by decide +kernel)
theorem dX12_isOwn_177 : decode cX12_isOwn 177 = .ok (.ldc2_w 317, 3) := dk_o20 (by decide +kernel)
theorem dX12_isOwn_180 : decode cX12_isOwn 180 = .ok (.lcmp, 1) := dk_o148 (by decide +kernel)
theorem dX12_isOwn_181 : decode cX12_isOwn 181 = .ok (.ifCond .eq 27, 3) := dk_o153 (by decide +kernel)
theorem dX12_isOwn_184 : decode cX12_isOwn 184 = .ok (.lload_n 1, 1) := dk_o31 (by decide +kernel)
theorem dX12_isOwn_185 : decode cX12_isOwn 185 = .ok (.ldc2_w 319, 3) := dk_o20 (by decide +kernel)
theorem dX12_isOwn_188 : decode cX12_isOwn 188 = .ok (.lcmp, 1) := dk_o148 (by decide +kernel)
theorem dX12_isOwn_189 : decode cX12_isOwn 189 = .ok (.ifCond .eq 19, 3) := dk_o153 (by decide +kernel)
theorem dX12_isOwn_192 : decode cX12_isOwn 192 = .ok (.lload_n 1, 1) := dk_o31 (by decide +kernel)
theorem dX12_isOwn_193 : decode cX12_isOwn 193 = .ok (.ldc2_w 321, 3) := dk_o20 (by decide +kernel)
theorem dX12_isOwn_196 : decode cX12_isOwn 196 = .ok (.lcmp, 1) := dk_o148 (by decide +kernel)
theorem dX12_isOwn_197 : decode cX12_isOwn 197 = .ok (.ifCond .eq 11, 3) := dk_o153 (by decide +kernel)
theorem dX12_isOwn_200 : decode cX12_isOwn 200 = .ok (.lload_n 1, 1) := dk_o31 (by decide +kernel)
theorem dX12_isOwn_201 : decode cX12_isOwn 201 = .ok (.ldc2_w 323, 3) := dk_o20 (by decide +kernel)
theorem dX12_isOwn_204 : decode cX12_isOwn 204 = .ok (.lcmp, 1) := dk_o148 (by decide +kernel)
theorem dX12_isOwn_205 : decode cX12_isOwn 205 = .ok (.ifCond .ne 5, 3) := dk_o154 (by decide +kernel)
theorem dX12_isOwn_208 : decode cX12_isOwn 208 = .ok (.iconst 1, 1) := dk_o4 (by decide +kernel)
theorem dX12_isOwn_209 : decode cX12_isOwn 209 = .ok (.ireturn, 1) := dk_o172 (by decide +kernel)
theorem dX12_isOwn_210 : decode cX12_isOwn 210 = .ok (.lload_n 1, 1) := dk_o31 (by decide +kernel)
theorem dX12_isOwn_211 : decode cX12_isOwn 211 = .ok (.ldc2_w 325, 3) := dk_o20 (by decide +kernel)
theorem dX12_isOwn_214 : decode cX12_isOwn 214 = .ok (.lcmp, 1) := dk_o148 (by decide +kernel)
theorem dX12_isOwn_215 : decode cX12_isOwn 215 = .ok (.ifCond .eq 11, 3) := dk_o153 (by decide +kernel)
theorem dX12_isOwn_218 : decode cX12_isOwn 218 = .ok (.lload_n 1, 1) := dk_o31 (by decide +kernel)
theorem dX12_isOwn_219 : decode cX12_isOwn 219 = .ok (.ldc2_w 327, 3) := dk_o20 (by decide +kernel)
theorem dX12_isOwn_222 : decode cX12_isOwn 222 = .ok (.lcmp, 1) := dk_o148 (by decide +kernel)
theorem dX12_isOwn_223 : decode cX12_isOwn 223 = .ok (.ifCond .ne 5, 3) := dk_o154 (by decide +kernel)
theorem dX12_isOwn_226 : decode cX12_isOwn 226 = .ok (.iconst 1, 1) := dk_o4 (by decide +kernel)
theorem dX12_isOwn_227 : decode cX12_isOwn 227 = .ok (.ireturn, 1) := dk_o172 (by decide +kernel)
theorem dX12_isOwn_228 : decode cX12_isOwn 228 = .ok (.iconst 0, 1) := dk_o3 (by decide +kernel)
theorem dX12_isOwn_229 : decode cX12_isOwn 229 = .ok (.ireturn, 1) := dk_o172 (by decide +kernel)
theorem dX12_minerNamed_0 : decode cX12_minerNamed 0 = .ok (.iconst 0, 1) := dk_o3 (by decide +kernel)
theorem dX12_minerNamed_1 : decode cX12_minerNamed 1 = .ok (.istore_n 3, 1) := dk_o62 (by decide +kernel)
theorem dX12_minerNamed_2 : decode cX12_minerNamed 2 = .ok (.iload_n 3, 1) := dk_o29 (by decide +kernel)
theorem dX12_minerNamed_3 : decode cX12_minerNamed 3 = .ok (.aload_n 0, 1) := dk_o42 (by decide +kernel)
theorem dX12_minerNamed_4 : decode cX12_minerNamed 4 = .ok (.getfield 72, 3) := dk_o180 (by decide +kernel)
theorem dX12_minerNamed_7 : decode cX12_minerNamed 7 = .ok (.aload_n 0, 1) := dk_o42 (by decide +kernel)
theorem dX12_minerNamed_8 : decode cX12_minerNamed 8 = .ok (.getfield 118, 3) := dk_o180 (by decide +kernel)
theorem dX12_minerNamed_11 : decode cX12_minerNamed 11 = .ok (.iaload, 1) := dk_o46 (by decide +kernel)
theorem dX12_minerNamed_12 : decode cX12_minerNamed 12 = .ok (.if_icmp .ge 30, 3) := dk_o162 (by decide +kernel)
theorem dX12_minerNamed_15 : decode cX12_minerNamed 15 = .ok (.aload_n 0, 1) := dk_o42 (by decide +kernel)
theorem dX12_minerNamed_16 : decode cX12_minerNamed 16 = .ok (.getfield 108, 3) := dk_o180 (by decide +kernel)
theorem dX12_minerNamed_19 : decode cX12_minerNamed 19 = .ok (.bipush 6, 2) := dk_o16 (by decide +kernel)
theorem dX12_minerNamed_21 : decode cX12_minerNamed 21 = .ok (.aload_n 0, 1) := dk_o42 (by decide +kernel)
theorem dX12_minerNamed_22 : decode cX12_minerNamed 22 = .ok (.getfield 118, 3) := dk_o180 (by decide +kernel)
theorem dX12_minerNamed_25 : decode cX12_minerNamed 25 = .ok (.imul, 1) := dk_o104 (by decide +kernel)
theorem dX12_minerNamed_26 : decode cX12_minerNamed 26 = .ok (.iload_n 3, 1) := dk_o29 (by decide +kernel)
theorem dX12_minerNamed_27 : decode cX12_minerNamed 27 = .ok (.iadd, 1) := dk_o96 (by decide +kernel)
theorem dX12_minerNamed_28 : decode cX12_minerNamed 28 = .ok (.laload, 1) := dk_o47 (by decide +kernel)
theorem dX12_minerNamed_29 : decode cX12_minerNamed 29 = .ok (.lload_n 1, 1) := dk_o31 (by decide +kernel)
theorem dX12_minerNamed_30 : decode cX12_minerNamed 30 = .ok (.lcmp, 1) := dk_o148 (by decide +kernel)
theorem dX12_minerNamed_31 : decode cX12_minerNamed 31 = .ok (.ifCond .ne 5, 3) := dk_o154 (by decide +kernel)
theorem dX12_minerNamed_34 : decode cX12_minerNamed 34 = .ok (.iload_n 3, 1) := dk_o29 (by decide +kernel)
theorem dX12_minerNamed_35 : decode cX12_minerNamed 35 = .ok (.ireturn, 1) := dk_o172 (by decide +kernel)
theorem dX12_minerNamed_36 : decode cX12_minerNamed 36 = .ok (.iinc 3 1, 3) := dk_o132 (by decide +kernel)
theorem dX12_minerNamed_39 : decode cX12_minerNamed 39 = .ok (.goto (-37), 3) := dk_o167 (by decide +kernel)
theorem dX12_minerNamed_42 : decode cX12_minerNamed 42 = .ok (.iconst (-1), 1) := dk_o2 (by decide +kernel)
theorem dX12_minerNamed_43 : decode cX12_minerNamed 43 = .ok (.ireturn, 1) := dk_o172 (by decide +kernel)
theorem dX12_isNamed_0 : decode cX12_isNamed 0 = .ok (.iconst 0, 1) := dk_o3 (by decide +kernel)
theorem dX12_isNamed_1 : decode cX12_isNamed 1 = .ok (.istore_n 3, 1) := dk_o62 (by decide +kernel)
theorem dX12_isNamed_2 : decode cX12_isNamed 2 = .ok (.iload_n 3, 1) := dk_o29 (by decide +kernel)
theorem dX12_isNamed_3 : decode cX12_isNamed 3 = .ok (.aload_n 0, 1) := dk_o42 (by decide +kernel)
theorem dX12_isNamed_4 : decode cX12_isNamed 4 = .ok (.getfield 84, 3) := dk_o180 (by decide +kernel)
theorem dX12_isNamed_7 : decode cX12_isNamed 7 = .ok (.aload_n 0, 1) := dk_o42 (by decide +kernel)
theorem dX12_isNamed_8 : decode cX12_isNamed 8 = .ok (.getfield 118, 3) := dk_o180 (by decide +kernel)
theorem dX12_isNamed_11 : decode cX12_isNamed 11 = .ok (.iaload, 1) := dk_o46 (by decide +kernel)
theorem dX12_isNamed_12 : decode cX12_isNamed 12 = .ok (.if_icmp .ge 29, 3) := dk_o162 (by decide +kernel)
theorem dX12_isNamed_15 : decode cX12_isNamed 15 = .ok (.aload_n 0, 1) := dk_o42 (by decide +kernel)
theorem dX12_isNamed_16 : decode cX12_isNamed 16 = .ok (.getfield 112, 3) := dk_o180 (by decide +kernel)
theorem dX12_isNamed_19 : decode cX12_isNamed 19 = .ok (.iconst 5, 1) := dk_o8 (by decide +kernel)
theorem dX12_isNamed_20 : decode cX12_isNamed 20 = .ok (.aload_n 0, 1) := dk_o42 (by decide +kernel)
theorem dX12_isNamed_21 : decode cX12_isNamed 21 = .ok (.getfield 118, 3) := dk_o180 (by decide +kernel)
theorem dX12_isNamed_24 : decode cX12_isNamed 24 = .ok (.imul, 1) := dk_o104 (by decide +kernel)
theorem dX12_isNamed_25 : decode cX12_isNamed 25 = .ok (.iload_n 3, 1) := dk_o29 (by decide +kernel)
theorem dX12_isNamed_26 : decode cX12_isNamed 26 = .ok (.iadd, 1) := dk_o96 (by decide +kernel)
theorem dX12_isNamed_27 : decode cX12_isNamed 27 = .ok (.laload, 1) := dk_o47 (by decide +kernel)
theorem dX12_isNamed_28 : decode cX12_isNamed 28 = .ok (.lload_n 1, 1) := dk_o31 (by decide +kernel)
theorem dX12_isNamed_29 : decode cX12_isNamed 29 = .ok (.lcmp, 1) := dk_o148 (by decide +kernel)
theorem dX12_isNamed_30 : decode cX12_isNamed 30 = .ok (.ifCond .ne 5, 3) := dk_o154 (by decide +kernel)
theorem dX12_isNamed_33 : decode cX12_isNamed 33 = .ok (.iconst 1, 1) := dk_o4 (by decide +kernel)
theorem dX12_isNamed_34 : decode cX12_isNamed 34 = .ok (.ireturn, 1) := dk_o172 (by decide +kernel)
theorem dX12_isNamed_35 : decode cX12_isNamed 35 = .ok (.iinc 3 1, 3) := dk_o132 (by decide +kernel)
theorem dX12_isNamed_38 : decode cX12_isNamed 38 = .ok (.goto (-36), 3) := dk_o167 (by decide +kernel)
theorem dX12_isNamed_41 : decode cX12_isNamed 41 = .ok (.aload_n 0, 1) := dk_o42 (by decide +kernel)
theorem dX12_isNamed_42 : decode cX12_isNamed 42 = .ok (.lload_n 1, 1) := dk_o31 (by decide +kernel)
theorem dX12_isNamed_43 : decode cX12_isNamed 43 = .ok (.invokevirtual 329, 3) := dk_o182 (by decide +kernel)
theorem dX12_isNamed_46 : decode cX12_isNamed 46 = .ok (.iconst (-1), 1) := dk_o2 (by decide +kernel)
theorem dX12_isNamed_47 : decode cX12_isNamed 47 = .ok (.if_icmp .eq 7, 3) := dk_o159 (by decide +kernel)
theorem dX12_isNamed_50 : decode cX12_isNamed 50 = .ok (.iconst 1, 1) := dk_o4 (by decide +kernel)
theorem dX12_isNamed_51 : decode cX12_isNamed 51 = .ok (.goto 4, 3) := dk_o167 (by decide +kernel)
theorem dX12_isNamed_54 : decode cX12_isNamed 54 = .ok (.iconst 0, 1) := dk_o3 (by decide +kernel)
theorem dX12_isNamed_55 : decode cX12_isNamed 55 = .ok (.ireturn, 1) := dk_o172 (by decide +kernel)
theorem dX12_number_0 : decode cX12_number 0 = .ok (.aload_n 0, 1) := dk_o42 (by decide +kernel)
theorem dX12_number_1 : decode cX12_number 1 = .ok (.invokevirtual 266, 3) := dk_o182 (by decide +kernel)
theorem dX12_number_4 : decode cX12_number 4 = .ok (.aload_n 0, 1) := dk_o42 (by decide +kernel)
theorem dX12_number_5 : decode cX12_number 5 = .ok (.getfield 36, 3) := dk_o180 (by decide +kernel)
theorem dX12_number_8 : decode cX12_number 8 = .ok (.ifCond .le 5, 3) := dk_o158 (by decide +kernel)
theorem dX12_number_11 : decode cX12_number 11 = .ok (.iconst 0, 1) := dk_o3 (by decide +kernel)
theorem dX12_number_12 : decode cX12_number 12 = .ok (.ireturn, 1) := dk_o172 (by decide +kernel)
theorem dX12_number_13 : decode cX12_number 13 = .ok (.aload_n 0, 1) := dk_o42 (by decide +kernel)
theorem dX12_number_14 : decode cX12_number 14 = .ok (.getfield 20, 3) := dk_o180 (by decide +kernel)
theorem dX12_number_17 : decode cX12_number 17 = .ok (.iconst 2, 1) := dk_o5 (by decide +kernel)
theorem dX12_number_18 : decode cX12_number 18 = .ok (.if_icmp .eq 12, 3) := dk_o159 (by decide +kernel)
theorem dX12_number_21 : decode cX12_number 21 = .ok (.aload_n 0, 1) := dk_o42 (by decide +kernel)
theorem dX12_number_22 : decode cX12_number 22 = .ok (.iconst 1, 1) := dk_o4 (by decide +kernel)
theorem dX12_number_23 : decode cX12_number 23 = .ok (.aload_n 0, 1) := dk_o42 (by decide +kernel)
theorem dX12_number_24 : decode cX12_number 24 = .ok (.getfield 23, 3) := dk_o180 (by decide +kernel)
theorem dX12_number_27 : decode cX12_number 27 = .ok (.invokevirtual 255, 3) := dk_o182 (by decide +kernel)
theorem dX12_number_30 : decode cX12_number 30 = .ok (.aload_n 0, 1) := dk_o42 (by decide +kernel)
theorem dX12_number_31 : decode cX12_number 31 = .ok (.getfield 36, 3) := dk_o180 (by decide +kernel)
theorem dX12_number_34 : decode cX12_number 34 = .ok (.ifCond .ne 24, 3) := dk_o154 (by decide +kernel)
theorem dX12_number_37 : decode cX12_number 37 = .ok (.aload_n 0, 1) := dk_o42 (by decide +kernel)
theorem dX12_number_38 : decode cX12_number 38 = .ok (.getfield 29, 3) := dk_o180 (by decide +kernel)
theorem dX12_number_41 : decode cX12_number 41 = .ok (.iload_n 1, 1) := dk_o27 (by decide +kernel)
theorem dX12_number_42 : decode cX12_number 42 = .ok (.iload_n 2, 1) := dk_o28 (by decide +kernel)
theorem dX12_number_43 : decode cX12_number 43 = .ok (.invokestatic 333, 3) := dk_o184 (by decide +kernel)
theorem dX12_number_46 : decode cX12_number 46 = .ok (.ifCond .ne 12, 3) := dk_o154 (by decide +kernel)
theorem dX12_number_49 : decode cX12_number 49 = .ok (.aload_n 0, 1) := dk_o42 (by decide +kernel)
theorem dX12_number_50 : decode cX12_number 50 = .ok (.iconst 4, 1) := dk_o7 (by decide +kernel)
theorem dX12_number_51 : decode cX12_number 51 = .ok (.aload_n 0, 1) := dk_o42 (by decide +kernel)
theorem dX12_number_52 : decode cX12_number 52 = .ok (.getfield 23, 3) := dk_o180 (by decide +kernel)
theorem dX12_number_55 : decode cX12_number 55 = .ok (.invokevirtual 255, 3) := dk_o182 (by decide +kernel)
theorem dX12_number_58 : decode cX12_number 58 = .ok (.aload_n 0, 1) := dk_o42 (by decide +kernel)
theorem dX12_number_59 : decode cX12_number 59 = .ok (.getfield 29, 3) := dk_o180 (by decide +kernel)
theorem dX12_number_62 : decode cX12_number 62 = .ok (.istore_n 3, 1) := dk_o62 (by decide +kernel)
theorem dX12_number_63 : decode cX12_number 63 = .ok (.aload_n 0, 1) := dk_o42 (by decide +kernel)
theorem dX12_number_64 : decode cX12_number 64 = .ok (.getfield 36, 3) := dk_o180 (by decide +kernel)
theorem dX12_number_67 : decode cX12_number 67 = .ok (.ifCond .ne 7, 3) := dk_o154 (by decide +kernel)
theorem dX12_number_70 : decode cX12_number 70 = .ok (.aload_n 0, 1) := dk_o42 (by decide +kernel)
theorem dX12_number_71 : decode cX12_number 71 = .ok (.invokevirtual 272, 3) := dk_o182 (by decide +kernel)
theorem dX12_number_74 : decode cX12_number 74 = .ok (.iload_n 3, 1) := dk_o29 (by decide +kernel)
theorem dX12_number_75 : decode cX12_number 75 = .ok (.ireturn, 1) := dk_o172 (by decide +kernel)
theorem dX12_must__0 : decode cX12_must_ 0 = .ok (.aload_n 0, 1) := dk_o42 (by decide +kernel)
theorem dX12_must__1 : decode cX12_must_ 1 = .ok (.invokevirtual 266, 3) := dk_o182 (by decide +kernel)
theorem dX12_must__4 : decode cX12_must_ 4 = .ok (.aload_n 0, 1) := dk_o42 (by decide +kernel)
theorem dX12_must__5 : decode cX12_must_ 5 = .ok (.getfield 36, 3) := dk_o180 (by decide +kernel)
theorem dX12_must__8 : decode cX12_must_ 8 = .ok (.ifCond .le 4, 3) := dk_o158 (by decide +kernel)
theorem dX12_must__11 : decode cX12_must_ 11 = .ok (.return_, 1) := dk_o177 (by decide +kernel)
theorem dX12_must__12 : decode cX12_must_ 12 = .ok (.aload_n 0, 1) := dk_o42 (by decide +kernel)
theorem dX12_must__13 : decode cX12_must_ 13 = .ok (.lload_n 1, 1) := dk_o31 (by decide +kernel)
theorem dX12_must__14 : decode cX12_must_ 14 = .ok (.invokevirtual 349, 3) := dk_o182 (by decide +kernel)
theorem dX12_must__17 : decode cX12_must_ 17 = .ok (.ifCond .ne 12, 3) := dk_o154 (by decide +kernel)
theorem dX12_must__20 : decode cX12_must_ 20 = .ok (.aload_n 0, 1) := dk_o42 (by decide +kernel)
theorem dX12_must__21 : decode cX12_must_ 21 = .ok (.iconst 1, 1) := dk_o4 (by decide +kernel)
theorem dX12_must__22 : decode cX12_must_ 22 = .ok (.aload_n 0, 1) := dk_o42 (by decide +kernel)
theorem dX12_must__23 : decode cX12_must_ 23 = .ok (.getfield 23, 3) := dk_o180 (by decide +kernel)
theorem dX12_must__26 : decode cX12_must_ 26 = .ok (.invokevirtual 255, 3) := dk_o182 (by decide +kernel)
theorem dX12_must__29 : decode cX12_must_ 29 = .ok (.aload_n 0, 1) := dk_o42 (by decide +kernel)
theorem dX12_must__30 : decode cX12_must_ 30 = .ok (.getfield 36, 3) := dk_o180 (by decide +kernel)
theorem dX12_must__33 : decode cX12_must_ 33 = .ok (.ifCond .ne 7, 3) := dk_o154 (by decide +kernel)
theorem dX12_must__36 : decode cX12_must_ 36 = .ok (.aload_n 0, 1) := dk_o42 (by decide +kernel)
theorem dX12_must__37 : decode cX12_must_ 37 = .ok (.invokevirtual 272, 3) := dk_o182 (by decide +kernel)
theorem dX12_must__40 : decode cX12_must_ 40 = .ok (.return_, 1) := dk_o177 (by decide +kernel)
theorem wB_303 : Cond.fieldLink RX12 36 "DarkMineModel" "faultKind" "I" ∈ dgB := List.mem_filter.mpr ⟨tbl_6 _ (List.mem_of_getElem? (i := 171) (by decide +kernel)), by decide +kernel⟩
theorem wB_304 : Cond.fieldLink RX12 39 "DarkMineModel" "faultPlace" "I" ∈ dgB := List.mem_filter.mpr ⟨tbl_6 _ (List.mem_of_getElem? (i := 172) (by decide +kernel)), by decide +kernel⟩
theorem wB_305 : Cond.code yX12_blame cX12_blame 3 none ∈ dgB := List.mem_filter.mpr ⟨tbl_7 _ (List.mem_of_getElem? (i := 203) rfl), rfl⟩
theorem wB_306 : Cond.methodLink RX12 255 yX12_blame ∈ dgB := List.mem_filter.mpr ⟨tbl_7 _ (List.mem_of_getElem? (i := 200) (by decide +kernel)), by decide +kernel⟩
theorem wB_307 : Cond.instanceMethod yX12_blame ∈ dgB := List.mem_filter.mpr ⟨tbl_7 _ (List.mem_of_getElem? (i := 202) (by decide +kernel)), by decide +kernel⟩
theorem wB_308 : Cond.selects RX12 yX12_blame yX12_blame ∈ dgB := List.mem_filter.mpr ⟨List.mem_of_getElem? (i := 87) (by decide +kernel), by decide +kernel⟩
theorem wB_309 : Cond.code yX12_lex cX12_lex 1 none ∈ dgB := List.mem_filter.mpr ⟨tbl_7 _ (List.mem_of_getElem? (i := 199) rfl), rfl⟩
theorem wB_310 : Cond.methodLink RX12 266 yX12_lex ∈ dgB := List.mem_filter.mpr ⟨tbl_7 _ (List.mem_of_getElem? (i := 196) (by decide +kernel)), by decide +kernel⟩
theorem wB_311 : Cond.instanceMethod yX12_lex ∈ dgB := List.mem_filter.mpr ⟨tbl_7 _ (List.mem_of_getElem? (i := 198) (by decide +kernel)), by decide +kernel⟩
theorem wB_312 : Cond.selects RX12 yX12_lex yX12_lex ∈ dgB := List.mem_filter.mpr ⟨List.mem_of_getElem? (i := 86) (by decide +kernel), by decide +kernel⟩
theorem wB_313 : Cond.code yX12_isSign cX12_isSign 2 (some .boolean) ∈ dgB := List.mem_filter.mpr ⟨tbl_7 _ (List.mem_of_getElem? (i := 223) rfl), rfl⟩
theorem wB_314 : Cond.methodLink RX12 269 yX12_isSign ∈ dgB := List.mem_filter.mpr ⟨tbl_7 _ (List.mem_of_getElem? (i := 220) (by decide +kernel)), by decide +kernel⟩
theorem wB_315 : Cond.instanceMethod yX12_isSign ∈ dgB := List.mem_filter.mpr ⟨tbl_7 _ (List.mem_of_getElem? (i := 222) (by decide +kernel)), by decide +kernel⟩
theorem wB_316 : Cond.selects RX12 yX12_isSign yX12_isSign ∈ dgB := List.mem_filter.mpr ⟨List.mem_of_getElem? (i := 91) (by decide +kernel), by decide +kernel⟩
theorem wB_317 : Cond.code yX12_ahead cX12_ahead 6 none ∈ dgB := List.mem_filter.mpr ⟨tbl_7 _ (List.mem_of_getElem? (i := 180) rfl), rfl⟩
theorem wB_318 : Cond.methodLink RX12 272 yX12_ahead ∈ dgB := List.mem_filter.mpr ⟨tbl_7 _ (List.mem_of_getElem? (i := 177) (by decide +kernel)), by decide +kernel⟩
theorem wB_319 : Cond.instanceMethod yX12_ahead ∈ dgB := List.mem_filter.mpr ⟨tbl_7 _ (List.mem_of_getElem? (i := 179) (by decide +kernel)), by decide +kernel⟩
theorem wB_320 : Cond.selects RX12 yX12_ahead yX12_ahead ∈ dgB := List.mem_filter.mpr ⟨List.mem_of_getElem? (i := 83) (by decide +kernel), by decide +kernel⟩
theorem wB_321 : Cond.code yX12_isWord cX12_isWord 3 (some .boolean) ∈ dgB := List.mem_filter.mpr ⟨tbl_7 _ (List.mem_of_getElem? (i := 207) rfl), rfl⟩
theorem wB_322 : Cond.methodLink RX12 349 yX12_isWord ∈ dgB := List.mem_filter.mpr ⟨tbl_7 _ (List.mem_of_getElem? (i := 204) (by decide +kernel)), by decide +kernel⟩
theorem wB_323 : Cond.instanceMethod yX12_isWord ∈ dgB := List.mem_filter.mpr ⟨tbl_7 _ (List.mem_of_getElem? (i := 206) (by decide +kernel)), by decide +kernel⟩
theorem wB_324 : Cond.selects RX12 yX12_isWord yX12_isWord ∈ dgB := List.mem_filter.mpr ⟨List.mem_of_getElem? (i := 88) (by decide +kernel), by decide +kernel⟩
theorem wB_325 : Cond.constantLong RX12 275 (1936023917) ∈ dgB := List.mem_filter.mpr ⟨tbl_7 _ (List.mem_of_getElem? (i := 191) (by decide +kernel)), by decide +kernel⟩
theorem wB_326 : Cond.constantLong RX12 277 (25209) ∈ dgB := List.mem_filter.mpr ⟨tbl_7 _ (List.mem_of_getElem? (i := 215) (by decide +kernel)), by decide +kernel⟩
theorem wB_327 : Cond.constantLong RX12 279 (495672452724) ∈ dgB := List.mem_filter.mpr ⟨tbl_7 _ (List.mem_of_getElem? (i := 232) (by decide +kernel)), by decide +kernel⟩
theorem wB_328 : Cond.constantLong RX12 281 (491327153000) ∈ dgB := List.mem_filter.mpr ⟨tbl_8 _ (List.mem_of_getElem? (i := 1) (by decide +kernel)), by decide +kernel⟩
theorem wB_329 : Cond.constantLong RX12 283 (487300623205) ∈ dgB := List.mem_filter.mpr ⟨tbl_8 _ (List.mem_of_getElem? (i := 2) (by decide +kernel)), by decide +kernel⟩
theorem wB_330 : Cond.constantLong RX12 285 (444300616805) ∈ dgB := List.mem_filter.mpr ⟨tbl_8 _ (List.mem_of_getElem? (i := 3) (by decide +kernel)), by decide +kernel⟩
theorem wB_331 : Cond.constantLong RX12 287 (469920277874) ∈ dgB := List.mem_filter.mpr ⟨tbl_8 _ (List.mem_of_getElem? (i := 12) (by decide +kernel)), by decide +kernel⟩
theorem wB_332 : Cond.constantLong RX12 289 (6580583) ∈ dgB := List.mem_filter.mpr ⟨tbl_8 _ (List.mem_of_getElem? (i := 25) (by decide +kernel)), by decide +kernel⟩
theorem wB_333 : Cond.constantLong RX12 291 (24948) ∈ dgB := List.mem_filter.mpr ⟨tbl_8 _ (List.mem_of_getElem? (i := 26) (by decide +kernel)), by decide +kernel⟩
theorem wB_334 : Cond.constantLong RX12 293 (478660552050) ∈ dgB := List.mem_filter.mpr ⟨tbl_8 _ (List.mem_of_getElem? (i := 27) (by decide +kernel)), by decide +kernel⟩
theorem wB_335 : Cond.constantLong RX12 295 (1953849971) ∈ dgB := List.mem_filter.mpr ⟨tbl_8 _ (List.mem_of_getElem? (i := 28) (by decide +kernel)), by decide +kernel⟩
theorem wB_336 : Cond.constantLong RX12 297 (1885436275) ∈ dgB := List.mem_filter.mpr ⟨tbl_8 _ (List.mem_of_getElem? (i := 29) (by decide +kernel)), by decide +kernel⟩
theorem wB_337 : Cond.constantLong RX12 299 (126926742711411) ∈ dgB := List.mem_filter.mpr ⟨tbl_8 _ (List.mem_of_getElem? (i := 30) (by decide +kernel)), by decide +kernel⟩
theorem wB_338 : Cond.constantLong RX12 301 (439721159795) ∈ dgB := List.mem_filter.mpr ⟨tbl_8 _ (List.mem_of_getElem? (i := 31) (by decide +kernel)), by decide +kernel⟩
theorem wB_339 : Cond.constantLong RX12 303 (1734702195) ∈ dgB := List.mem_filter.mpr ⟨tbl_8 _ (List.mem_of_getElem? (i := 32) (by decide +kernel)), by decide +kernel⟩
theorem wB_340 : Cond.constantLong RX12 305 (431198598248) ∈ dgB := List.mem_filter.mpr ⟨tbl_8 _ (List.mem_of_getElem? (i := 33) (by decide +kernel)), by decide +kernel⟩
theorem wB_341 : Cond.constantLong RX12 307 (495672977012) ∈ dgB := List.mem_filter.mpr ⟨tbl_8 _ (List.mem_of_getElem? (i := 34) (by decide +kernel)), by decide +kernel⟩
theorem wB_342 : Cond.constantLong RX12 309 (6709618) ∈ dgB := List.mem_filter.mpr ⟨tbl_8 _ (List.mem_of_getElem? (i := 35) (by decide +kernel)), by decide +kernel⟩
theorem wB_343 : Cond.constantLong RX12 311 (1869636974) ∈ dgB := List.mem_filter.mpr ⟨tbl_8 _ (List.mem_of_getElem? (i := 36) (by decide +kernel)), by decide +kernel⟩
theorem wB_344 : Cond.constantLong RX12 313 (7104884) ∈ dgB := List.mem_filter.mpr ⟨tbl_8 _ (List.mem_of_getElem? (i := 37) (by decide +kernel)), by decide +kernel⟩
theorem wB_345 : Cond.constantLong RX12 315 (26982) ∈ dgB := List.mem_filter.mpr ⟨tbl_8 _ (List.mem_of_getElem? (i := 38) (by decide +kernel)), by decide +kernel⟩
theorem wB_346 : Cond.constantLong RX12 317 (28530) ∈ dgB := List.mem_filter.mpr ⟨tbl_8 _ (List.mem_of_getElem? (i := 39) (by decide +kernel)), by decide +kernel⟩
theorem wB_347 : Cond.constantLong RX12 319 (6385252) ∈ dgB := List.mem_filter.mpr ⟨tbl_8 _ (List.mem_of_getElem? (i := 40) (by decide +kernel)), by decide +kernel⟩
theorem wB_348 : Cond.constantLong RX12 321 (7237492) ∈ dgB := List.mem_filter.mpr ⟨tbl_8 _ (List.mem_of_getElem? (i := 41) (by decide +kernel)), by decide +kernel⟩
theorem wB_349 : Cond.constantLong RX12 323 (6384748) ∈ dgB := List.mem_filter.mpr ⟨tbl_8 _ (List.mem_of_getElem? (i := 42) (by decide +kernel)), by decide +kernel⟩
theorem wB_350 : Cond.constantLong RX12 325 (7170414) ∈ dgB := List.mem_filter.mpr ⟨tbl_8 _ (List.mem_of_getElem? (i := 43) (by decide +kernel)), by decide +kernel⟩
theorem wB_351 : Cond.constantLong RX12 327 (7168376) ∈ dgB := List.mem_filter.mpr ⟨tbl_8 _ (List.mem_of_getElem? (i := 44) (by decide +kernel)), by decide +kernel⟩
theorem wB_352 : Cond.fieldLink RX12 72 "DarkMineModel" "miners" "[I" ∈ dgB := List.mem_filter.mpr ⟨tbl_6 _ (List.mem_of_getElem? (i := 183) (by decide +kernel)), by decide +kernel⟩
theorem wB_353 : Cond.fieldLink RX12 118 "DarkMineModel" "in" "I" ∈ dgB := List.mem_filter.mpr ⟨tbl_6 _ (List.mem_of_getElem? (i := 198) (by decide +kernel)), by decide +kernel⟩
theorem wB_354 : Cond.fieldLink RX12 108 "DarkMineModel" "minerName" "[J" ∈ dgB := List.mem_filter.mpr ⟨tbl_6 _ (List.mem_of_getElem? (i := 195) (by decide +kernel)), by decide +kernel⟩
theorem wB_355 : Cond.fieldLink RX12 84 "DarkMineModel" "orders" "[I" ∈ dgB := List.mem_filter.mpr ⟨tbl_6 _ (List.mem_of_getElem? (i := 187) (by decide +kernel)), by decide +kernel⟩
theorem wB_356 : Cond.code yX12_minerNamed cX12_minerNamed 4 (some .int) ∈ dgB := List.mem_filter.mpr ⟨tbl_8 _ (List.mem_of_getElem? (i := 52) rfl), rfl⟩
theorem wB_357 : Cond.methodLink RX12 329 yX12_minerNamed ∈ dgB := List.mem_filter.mpr ⟨tbl_8 _ (List.mem_of_getElem? (i := 49) (by decide +kernel)), by decide +kernel⟩
theorem wB_358 : Cond.instanceMethod yX12_minerNamed ∈ dgB := List.mem_filter.mpr ⟨tbl_8 _ (List.mem_of_getElem? (i := 51) (by decide +kernel)), by decide +kernel⟩
theorem wB_359 : Cond.selects RX12 yX12_minerNamed yX12_minerNamed ∈ dgB := List.mem_filter.mpr ⟨List.mem_of_getElem? (i := 102) (by decide +kernel), by decide +kernel⟩
theorem wB_360 : Cond.fieldLink RX12 112 "DarkMineModel" "orderName" "[J" ∈ dgB := List.mem_filter.mpr ⟨tbl_6 _ (List.mem_of_getElem? (i := 196) (by decide +kernel)), by decide +kernel⟩
theorem wB_361 : Cond.code yX12_is cX12_is 3 (some .boolean) ∈ dgB := List.mem_filter.mpr ⟨tbl_7 _ (List.mem_of_getElem? (i := 214) rfl), rfl⟩
theorem wB_362 : Cond.methodLink RX12 333 yX12_is ∈ dgB := List.mem_filter.mpr ⟨tbl_7 _ (List.mem_of_getElem? (i := 212) (by decide +kernel)), by decide +kernel⟩
theorem wB_363 : Cond.static yX12_is ∈ dgB := List.mem_filter.mpr ⟨tbl_7 _ (List.mem_of_getElem? (i := 213) (by decide +kernel)), by decide +kernel⟩
set_option maxHeartbeats 8000000 in
set_option maxRecDepth 100000 in
theorem c_m_is (l : Launch) (g : Nat → ClassId) (D : va_G) (o : Nat) (S : dg_S) (a1 : Int32) (a2 : Int32) (a3 : Int32) (I : CM o S) (sz : Nat) : Met l yX12_is (bw yX12_is cX12_is 3 (some .boolean)) ({ frames := 1, cells := 0, slots := 0, locals := 32 } : Room) (dk_Pc g D (dg_w g shM o rfM S) sz [.int a1, .int a2, .int a3]) (va_Qi (fun (r : Int32) S' => S' = S ∧ (0 ≤ (r).toInt ∧ (r).toInt ≤ 1) ∧ ((r).toInt = 1 ↔ ((a2).toInt ≤ (a1).toInt ∧ (a1).toInt ≤ (a3).toInt)) ∧ True) (dg_B g D shM o rfM) (dg_A o shM.length sz)) 0 0 (dg_A o shM.length sz) := by
  refine dg_met (cc := cX12_is) (maxL := 3) (ret := (some .boolean)) (dk_dq rfl) rfl (Nat.le_of_ble_eq_true rfl) ?_
  intro p e s m args below meth c A hAe harg hx hb hr hml hts hown hlocks hin hP K hS hA1 hA ST hsz ls hl
  rw [← hAe]
  have F : CallFix p m c cX12_is 3 s args (bw yX12_is cX12_is 3 (some .boolean)) RX12 := ⟨hx, hb, hml, hown, hts⟩
  have hl : lv_has ls 3 [(0, .int a1), (1, .int a2), (2, .int a3)] := hl
  have M_0 : dg_sm shM [] [] S S := dg_sm.rf
  refine lv_iload_n hx hb dX12_is_0 rfl (lv_at hl 0 rfl) ?_
  refine lv_iload_n hx hb dX12_is_1 rfl (lv_at hl 1 rfl) ?_
  refine lv_icmp_lt (tgt := 14) hx hb dX12_is_2 (dk_dq rfl) (fun c_1 => ?_) (fun c_1 => ?_)
  · have hf_1 := dk_full a1
    have hf_2 := dk_full a2
    have jc_1 := dk_ltc (k := (a2).toInt) rfl c_1
    refine lv_iconst (v := 0) hx hb dX12_is_14 (by decide +kernel) ?_
    have hz_4 : (0 : Int32).toInt = 0 := by decide +kernel
    have hz_5 : (0 : Int32).toInt = 0 := by decide +kernel
    refine W.widen (k := 0) (n := 0) (Nat.le_of_ble_eq_true rfl) (Nat.le_of_ble_eq_true rfl) ?_
    exact dg_iret hx hb hr hlocks (by decide +kernel) hP hS ⟨rfl, (by decide +kernel), (by omega), trivial⟩ dX12_is_15
  · have hf_5 := dk_full a1
    have hf_6 := dk_full a2
    have jc_1 := dk_nltc (k := (a2).toInt) rfl c_1
    refine lv_iload_n hx hb dX12_is_5 rfl (lv_at hl 0 rfl) ?_
    refine lv_iload_n hx hb dX12_is_6 rfl (lv_at hl 2 rfl) ?_
    refine lv_icmp_gt (tgt := 14) hx hb dX12_is_7 (dk_dq rfl) (fun c_8 => ?_) (fun c_8 => ?_)
    · have hf_8 := dk_full a1
      have hf_9 := dk_full a3
      have jc_8 := dk_gtc (k := (a3).toInt) rfl c_8
      refine lv_iconst (v := 0) hx hb dX12_is_14 (by decide +kernel) ?_
      have hz_11 : (0 : Int32).toInt = 0 := by decide +kernel
      have hz_12 : (0 : Int32).toInt = 0 := by decide +kernel
      refine W.widen (k := 0) (n := 0) (Nat.le_of_ble_eq_true rfl) (Nat.le_of_ble_eq_true rfl) ?_
      exact dg_iret hx hb hr hlocks (by decide +kernel) hP hS ⟨rfl, (by decide +kernel), (by omega), trivial⟩ dX12_is_15
    · have hf_12 := dk_full a1
      have hf_13 := dk_full a3
      have jc_8 := dk_ngtc (k := (a3).toInt) rfl c_8
      refine lv_iconst (v := 1) hx hb dX12_is_10 (by decide +kernel) ?_
      refine lv_goto (tgt := 15) hx hb dX12_is_11 (dk_dq rfl) ?_
      have hz_15 : (1 : Int32).toInt = 1 := by decide +kernel
      have hz_16 : (1 : Int32).toInt = 1 := by decide +kernel
      refine W.widen (k := 0) (n := 0) (Nat.le_of_ble_eq_true rfl) (Nat.le_of_ble_eq_true rfl) ?_
      exact dg_iret hx hb hr hlocks (by decide +kernel) hP hS ⟨rfl, (by decide +kernel), (by omega), trivial⟩ dX12_is_15
set_option maxHeartbeats 8000000 in
set_option maxRecDepth 100000 in
theorem c_m_blame (l : Launch) (g : Nat → ClassId) (D : va_G) (o : Nat) (S : dg_S) (a1 : Int32) (b_a1 : 1 ≤ (a1).toInt ∧ (a1).toInt ≤ 6) (a2 : Int32) (fk : Int32) (f_fk : S.1 0 8 = .int fk) (b_fk : 0 ≤ (fk).toInt ∧ (fk).toInt ≤ 6) (I : CM o S) (sz : Nat) : Met l yX12_blame (bw yX12_blame cX12_blame 3 none) ({ frames := 1, cells := 0, slots := 0, locals := 32 } : Room) (dk_Pc g D (dg_w g shM o rfM S) sz [.ref (o + 0), .int a1, .int a2]) (va_Qv (fun S' => CM o S' ∧ dg_sm shM [(0, 8), (0, 9)] [] S S' ∧ (∃ y9_8 : Int32, S'.1 0 8 = .int y9_8 ∧ (((fk).toInt ≠ 0 → (y9_8).toInt = (fk).toInt) ∧ ((fk).toInt = 0 → (y9_8).toInt = (a1).toInt))) ∧ True) (dg_B g D shM o rfM) (dg_A o shM.length sz)) 0 0 (dg_A o shM.length sz) := by
  refine dg_met (cc := cX12_blame) (maxL := 3) (ret := none) (dk_dq rfl) rfl (Nat.le_of_ble_eq_true rfl) ?_
  intro p e s m args below meth c A hAe harg hx hb hr hml hts hown hlocks hin hP K hS hA1 hA ST hsz ls hl
  rw [← hAe]
  have F : CallFix p m c cX12_blame 3 s args (bw yX12_blame cX12_blame 3 none) RX12 := ⟨hx, hb, hml, hown, hts⟩
  have hl : lv_has ls 3 [(0, .ref (o + 0)), (1, .int a1), (2, .int a2)] := hl
  have M_0 : dg_sm shM [(0, 8), (0, 9)] [] S S := dg_sm.rf
  refine lv_aload_n hx hb dX12_blame_0 rfl (lv_at hl 0 rfl) ?_
  refine dg_get (C := RX12) (T := TX12) (N := 77) hx hb hts (fun w h => bw_mem (wU_X12 w h)) hown K hP sM_0 rfl 8 (dk_dq rfl) (hts _ (bw_mem wB_303)) (fun _ h9 => h9) (v := .int fk) f_fk dX12_blame_1 ?_
  refine lv_if_le (tgt := 8) hx hb dX12_blame_4 (dk_dq rfl) (fun c_1 => ?_) (fun c_1 => ?_)
  · have jc_1 := dk_lec (k := 0) (by decide +kernel) c_1
    refine lv_aload_n hx hb dX12_blame_8 rfl (lv_at hl 0 rfl) ?_
    refine lv_iload_n hx hb dX12_blame_9 rfl (lv_at hl 1 rfl) ?_
    refine dg_put (ci := 12) (v := .int a1) (ty := tyX12 8) (C := RX12) (T := TX12) (N := 77) hx hb hts (fun w h => bw_mem (wU_X12 w h)) tyX12 tyX12_ok nmX12 hown K hP hS hA1 sM_0 rfl 8 (dk_dq rfl) (hts _ (bw_mem wB_303)) (fun _ h9 => h9) rfl (by decide +kernel) rfl rfl dX12_blame_10 (fun S_2 e_2 H locs hP hS => ?_)
    have I_2 := dg_I.uFi (lo := 0) (hi := 6) I e_2 sM_0 (by decide +kernel) (show 0 ≤ (a1).toInt ∧ (a1).toInt ≤ 6 from (by omega))
    have M_2 := dg_sm.uF M_0 e_2 sM_0 (dk_dq rfl)
    refine lv_aload_n hx hb dX12_blame_13 rfl (lv_at hl 0 rfl) ?_
    refine lv_iload_n hx hb dX12_blame_14 rfl (lv_at hl 2 rfl) ?_
    refine dg_put (ci := 12) (v := .int a2) (ty := tyX12 9) (C := RX12) (T := TX12) (N := 77) hx hb hts (fun w h => bw_mem (wU_X12 w h)) tyX12 tyX12_ok nmX12 hown K hP hS hA1 sM_0 rfl 9 (dk_dq rfl) (hts _ (bw_mem wB_304)) (fun _ h9 => h9) rfl (by decide +kernel) rfl rfl dX12_blame_15 (fun S_3 e_3 H locs hP hS => ?_)
    have I_3 := dg_I.uFi (lo := (-2147483648)) (hi := 2147483647) I_2 e_3 sM_0 (by decide +kernel) (show (-2147483648) ≤ (a2).toInt ∧ (a2).toInt ≤ 2147483647 from (dk_full _))
    have M_3 := dg_sm.uF M_2 e_3 sM_0 (dk_dq rfl)
    refine W.widen (k := 0) (n := 0) (Nat.le_of_ble_eq_true rfl) (Nat.le_of_ble_eq_true rfl) ?_
    exact dg_vret hx hb hr hlocks hP hS ⟨I_3, M_3, ⟨a1, ((dg_uF_ne e_3 (fun z => absurd z.2 (dk_dq rfl))).trans (dg_uF_at e_2)), (by omega)⟩, trivial⟩ dX12_blame_18
  · have jc_1 := dk_nlec (k := 0) (by decide +kernel) c_1
    refine W.widen (k := 0) (n := 0) (Nat.le_of_ble_eq_true rfl) (Nat.le_of_ble_eq_true rfl) ?_
    exact dg_vret hx hb hr hlocks hP hS ⟨I, M_0, ⟨fk, f_fk, (by omega)⟩, trivial⟩ dX12_blame_7
set_option maxHeartbeats 8000000 in
set_option maxRecDepth 100000 in
theorem c_m_lex (l : Launch) (g : Nat → ClassId) (D : va_G) (o : Nat) (S : dg_S) (tb : Nat → Int32) (tn : Nat) (fk : Int32) (f_fk : S.1 0 8 = .int fk) (b_fk : 0 ≤ (fk).toInt ∧ (fk).toInt ≤ 6) (sa : Int32) (f_sa : S.1 0 4 = .int sa) (b_sa : 0 ≤ (sa).toInt ∧ (sa).toInt ≤ 1600) (TK : TKM tb tn S) (I : CM o S) (sz : Nat) : Met l yX12_lex (bw yX12_lex cX12_lex 1 none) ({ frames := 2, cells := 0, slots := 0, locals := 54 } : Room) (dk_Pc g D (dg_w g shM o rfM S) sz [.ref (o + 0)]) (va_Qv (fun S' => CM o S' ∧ dg_sm shM [(0, 8), (0, 9)] [] S S' ∧ (∃ y9_8 : Int32, S'.1 0 8 = .int y9_8 ∧ (((fk).toInt ≠ 0 → (y9_8).toInt = (fk).toInt) ∧ ((fk).toInt = 0 → ((y9_8).toInt = 0 ↔ (T_kd tb tn (t_ix tb tn (sa : Int32).toNatClampNeg)).toInt ≠ 5)))) ∧ True) (dg_B g D shM o rfM) (dg_A o shM.length sz)) 0 0 (dg_A o shM.length sz) := by
  refine dg_met (cc := cX12_lex) (maxL := 1) (ret := none) (dk_dq rfl) rfl (Nat.le_of_ble_eq_true rfl) ?_
  intro p e s m args below meth c A hAe harg hx hb hr hml hts hown hlocks hin hP K hS hA1 hA ST hsz ls hl
  rw [← hAe]
  have F : CallFix p m c cX12_lex 1 s args (bw yX12_lex cX12_lex 1 none) RX12 := ⟨hx, hb, hml, hown, hts⟩
  have hl : lv_has ls 1 [(0, .ref (o + 0))] := hl
  have M_0 : dg_sm shM [(0, 8), (0, 9)] [] S S := dg_sm.rf
  obtain ⟨x_1, f_x_1, b_x_1⟩ := dg_I.int (i := 0) (k := 12) (lo := (-2147483648)) (hi := 2147483647) I sM_0 (by decide +kernel)
  have hlx := TKM.lex TK f_sa f_x_1
  refine lv_aload_n hx hb dX12_lex_0 rfl (lv_at hl 0 rfl) ?_
  refine dg_get (C := RX12) (T := TX12) (N := 77) hx hb hts (fun w h => bw_mem (wU_X12 w h)) hown K hP sM_0 rfl 12 (dk_dq rfl) (hts _ (bw_mem wB_293)) (fun _ h9 => h9) (v := .int x_1) f_x_1 dX12_lex_1 ?_
  refine lv_iconst (v := (-1)) hx hb dX12_lex_4 (by decide +kernel) ?_
  refine lv_icmp_eq (tgt := 17) hx hb dX12_lex_5 (dk_dq rfl) (fun c_2 => ?_) (fun c_2 => ?_)
  · have jc_2 := dk_eqc (k := (-1)) (by decide +kernel) c_2
    refine W.widen (k := 0) (n := 0) (Nat.le_of_ble_eq_true rfl) (Nat.le_of_ble_eq_true rfl) ?_
    exact dg_vret hx hb hr hlocks hP hS ⟨I, M_0, ⟨fk, f_fk, (by omega)⟩, trivial⟩ dX12_lex_17
  · have jc_2 := dk_neqc (k := (-1)) (by decide +kernel) c_2
    refine lv_aload_n hx hb dX12_lex_8 rfl (lv_at hl 0 rfl) ?_
    refine lv_iconst (v := 1) hx hb dX12_lex_9 (by decide +kernel) ?_
    refine lv_aload_n hx hb dX12_lex_10 rfl (lv_at hl 0 rfl) ?_
    refine dg_get (C := RX12) (T := TX12) (N := 77) hx hb hts (fun w h => bw_mem (wU_X12 w h)) hown K hP sM_0 rfl 12 (dk_dq rfl) (hts _ (bw_mem wB_293)) (fun _ h9 => h9) (v := .int x_1) f_x_1 dX12_lex_11 ?_
    have hz_3 : (1 : Int32).toInt = 1 := by decide +kernel
    refine dg_callv hS hA1 hA (va_runV (As := [.int 1, .int x_1]) (rest := []) F (c_m_blame l g D o S 1 (by decide +kernel) x_1 fk f_fk (by omega) I s.heap.size) (cwV 2 hts (bw_V wB_306 wB_307 wB_308 wB_297 wB_305) rfl rfl rfl (by decide +kernel) ⟨Nat.le_of_ble_eq_true rfl, Nat.le_of_ble_eq_true rfl⟩) (dg_preV sM_0 rfl K ST hP hS hA1 hA) rfl rfl hl.1 rfl (lv_room (Nat.le_of_ble_eq_true rfl)) dX12_lex_14 ⟨Nat.le_of_ble_eq_true rfl, Nat.le_of_ble_eq_true rfl⟩) (fun S_4 hw_4 H locs hP hS => ?_)
    obtain ⟨I_4, m_4, w_4_0, -⟩ := hw_4
    have M_4 := dg_sm.tr M_0 m_4 (dk_dq rfl) (dk_dq rfl)
    have hz_5 : (1 : Int32).toInt = 1 := by decide +kernel
    obtain ⟨y_6, f_y_6, w_4_0⟩ := w_4_0
    have w_4_0 : ((fk).toInt ≠ 0 → (y_6).toInt = (fk).toInt) ∧ ((fk).toInt = 0 → (y_6).toInt = ((1 : Int32)).toInt) := w_4_0
    have b_y_6 : 0 ≤ (y_6).toInt ∧ (y_6).toInt ≤ 6 := dg_I.intb (lo := 0) (hi := 6) I_4 sM_0 (by decide +kernel) f_y_6
    have hbl_y_6 : 1 ≤ (y_6).toInt := by omega
    refine W.widen (k := 0) (n := 0) (Nat.le_of_ble_eq_true rfl) (Nat.le_of_ble_eq_true rfl) ?_
    exact dg_vret hx hb hr hlocks hP hS ⟨I_4, M_4, ⟨y_6, f_y_6, (by omega)⟩, trivial⟩ dX12_lex_17
set_option maxHeartbeats 8000000 in
set_option maxRecDepth 100000 in
theorem c_m_isSign (l : Launch) (g : Nat → ClassId) (D : va_G) (o : Nat) (S : dg_S) (a1 : Int32) (sg : Int32) (f_sg : S.1 0 3 = .int sg) (b_sg : 0 ≤ (sg).toInt ∧ (sg).toInt ≤ 3) (va : Int32) (f_va : S.1 0 6 = .int va) (b_va : 0 ≤ (va).toInt ∧ (va).toInt ≤ 9999) (I : CM o S) (sz : Nat) : Met l yX12_isSign (bw yX12_isSign cX12_isSign 2 (some .boolean)) ({ frames := 1, cells := 0, slots := 0, locals := 32 } : Room) (dk_Pc g D (dg_w g shM o rfM S) sz [.ref (o + 0), .int a1]) (va_Qi (fun (r : Int32) S' => S' = S ∧ (0 ≤ (r).toInt ∧ (r).toInt ≤ 1) ∧ ((r).toInt = 1 ↔ ((sg).toInt = 3 ∧ (va).toInt = (a1).toInt)) ∧ True) (dg_B g D shM o rfM) (dg_A o shM.length sz)) 0 0 (dg_A o shM.length sz) := by
  refine dg_met (cc := cX12_isSign) (maxL := 2) (ret := (some .boolean)) (dk_dq rfl) rfl (Nat.le_of_ble_eq_true rfl) ?_
  intro p e s m args below meth c A hAe harg hx hb hr hml hts hown hlocks hin hP K hS hA1 hA ST hsz ls hl
  rw [← hAe]
  have F : CallFix p m c cX12_isSign 2 s args (bw yX12_isSign cX12_isSign 2 (some .boolean)) RX12 := ⟨hx, hb, hml, hown, hts⟩
  have hl : lv_has ls 2 [(0, .ref (o + 0)), (1, .int a1)] := hl
  have M_0 : dg_sm shM [] [] S S := dg_sm.rf
  refine lv_aload_n hx hb dX12_isSign_0 rfl (lv_at hl 0 rfl) ?_
  refine dg_get (C := RX12) (T := TX12) (N := 77) hx hb hts (fun w h => bw_mem (wU_X12 w h)) hown K hP sM_0 rfl 3 (dk_dq rfl) (hts _ (bw_mem wB_292)) (fun _ h9 => h9) (v := .int sg) f_sg dX12_isSign_1 ?_
  refine lv_iconst (v := 3) hx hb dX12_isSign_4 (by decide +kernel) ?_
  refine lv_icmp_ne (tgt := 20) hx hb dX12_isSign_5 (dk_dq rfl) (fun c_1 => ?_) (fun c_1 => ?_)
  · have jc_1 := dk_neqc (k := 3) (by decide +kernel) c_1
    refine lv_iconst (v := 0) hx hb dX12_isSign_20 (by decide +kernel) ?_
    have hz_2 : (0 : Int32).toInt = 0 := by decide +kernel
    have hz_3 : (0 : Int32).toInt = 0 := by decide +kernel
    refine W.widen (k := 0) (n := 0) (Nat.le_of_ble_eq_true rfl) (Nat.le_of_ble_eq_true rfl) ?_
    exact dg_iret hx hb hr hlocks (by decide +kernel) hP hS ⟨rfl, (by decide +kernel), (by omega), trivial⟩ dX12_isSign_21
  · have jc_1 := dk_eqc (k := 3) (by decide +kernel) c_1
    refine lv_aload_n hx hb dX12_isSign_8 rfl (lv_at hl 0 rfl) ?_
    refine dg_get (C := RX12) (T := TX12) (N := 77) hx hb hts (fun w h => bw_mem (wU_X12 w h)) hown K hP sM_0 rfl 6 (dk_dq rfl) (hts _ (bw_mem wB_301)) (fun _ h9 => h9) (v := .int va) f_va dX12_isSign_9 ?_
    refine lv_iload_n hx hb dX12_isSign_12 rfl (lv_at hl 1 rfl) ?_
    refine lv_icmp_ne (tgt := 20) hx hb dX12_isSign_13 (dk_dq rfl) (fun c_4 => ?_) (fun c_4 => ?_)
    · have hf_4 := dk_full a1
      have jc_4 := dk_neqc (k := (a1).toInt) rfl c_4
      refine lv_iconst (v := 0) hx hb dX12_isSign_20 (by decide +kernel) ?_
      have hz_6 : (0 : Int32).toInt = 0 := by decide +kernel
      have hz_7 : (0 : Int32).toInt = 0 := by decide +kernel
      refine W.widen (k := 0) (n := 0) (Nat.le_of_ble_eq_true rfl) (Nat.le_of_ble_eq_true rfl) ?_
      exact dg_iret hx hb hr hlocks (by decide +kernel) hP hS ⟨rfl, (by decide +kernel), (by omega), trivial⟩ dX12_isSign_21
    · have hf_7 := dk_full a1
      have jc_4 := dk_eqc (k := (a1).toInt) rfl c_4
      refine lv_iconst (v := 1) hx hb dX12_isSign_16 (by decide +kernel) ?_
      refine lv_goto (tgt := 21) hx hb dX12_isSign_17 (dk_dq rfl) ?_
      have hz_9 : (1 : Int32).toInt = 1 := by decide +kernel
      have hz_10 : (1 : Int32).toInt = 1 := by decide +kernel
      refine W.widen (k := 0) (n := 0) (Nat.le_of_ble_eq_true rfl) (Nat.le_of_ble_eq_true rfl) ?_
      exact dg_iret hx hb hr hlocks (by decide +kernel) hP hS ⟨rfl, (by decide +kernel), (by omega), trivial⟩ dX12_isSign_21
set_option maxHeartbeats 8000000 in
set_option maxRecDepth 100000 in
theorem c_m_isWord (l : Launch) (g : Nat → ClassId) (D : va_G) (o : Nat) (S : dg_S) (b1 : Int64) (sg : Int32) (f_sg : S.1 0 3 = .int sg) (b_sg : 0 ≤ (sg).toInt ∧ (sg).toInt ≤ 3) (I : CM o S) (sz : Nat) : Met l yX12_isWord (bw yX12_isWord cX12_isWord 3 (some .boolean)) ({ frames := 1, cells := 0, slots := 0, locals := 32 } : Room) (dk_Pc g D (dg_w g shM o rfM S) sz [.ref (o + 0), .long b1]) (va_Qi (fun (r : Int32) S' => S' = S ∧ (0 ≤ (r).toInt ∧ (r).toInt ≤ 1) ∧ (∀ w9 : Int64, S.1 0 7 = .long w9 → ((r).toInt = 1 ↔ ((sg).toInt = 1 ∧ w9.toInt = (b1).toInt))) ∧ True) (dg_B g D shM o rfM) (dg_A o shM.length sz)) 0 0 (dg_A o shM.length sz) := by
  refine dg_met (cc := cX12_isWord) (maxL := 3) (ret := (some .boolean)) (dk_dq rfl) rfl (Nat.le_of_ble_eq_true rfl) ?_
  intro p e s m args below meth c A hAe harg hx hb hr hml hts hown hlocks hin hP K hS hA1 hA ST hsz ls hl
  rw [← hAe]
  have F : CallFix p m c cX12_isWord 3 s args (bw yX12_isWord cX12_isWord 3 (some .boolean)) RX12 := ⟨hx, hb, hml, hown, hts⟩
  have hl : lv_has ls 3 [(0, .ref (o + 0)), (1, .long b1)] := hl
  have M_0 : dg_sm shM [] [] S S := dg_sm.rf
  refine lv_aload_n hx hb dX12_isWord_0 rfl (lv_at hl 0 rfl) ?_
  refine dg_get (C := RX12) (T := TX12) (N := 77) hx hb hts (fun w h => bw_mem (wU_X12 w h)) hown K hP sM_0 rfl 3 (dk_dq rfl) (hts _ (bw_mem wB_292)) (fun _ h9 => h9) (v := .int sg) f_sg dX12_isWord_1 ?_
  refine lv_iconst (v := 1) hx hb dX12_isWord_4 (by decide +kernel) ?_
  refine lv_icmp_ne (tgt := 21) hx hb dX12_isWord_5 (dk_dq rfl) (fun c_1 => ?_) (fun c_1 => ?_)
  · have jc_1 := dk_neqc (k := 1) (by decide +kernel) c_1
    refine lv_iconst (v := 0) hx hb dX12_isWord_21 (by decide +kernel) ?_
    have hz_2 : (0 : Int32).toInt = 0 := by decide +kernel
    have hz_3 : (0 : Int32).toInt = 0 := by decide +kernel
    refine W.widen (k := 0) (n := 0) (Nat.le_of_ble_eq_true rfl) (Nat.le_of_ble_eq_true rfl) ?_
    exact dg_iret hx hb hr hlocks (by decide +kernel) hP hS ⟨rfl, (by decide +kernel), (fun w9 hw9 => by omega), trivial⟩ dX12_isWord_22
  · have jc_1 := dk_eqc (k := 1) (by decide +kernel) c_1
    refine lv_aload_n hx hb dX12_isWord_8 rfl (lv_at hl 0 rfl) ?_
    obtain ⟨x_4, f_x_4⟩ := dg_I.long (i := 0) (k := 7) I sM_0 (by decide +kernel)
    refine dg_get (C := RX12) (T := TX12) (N := 77) hx hb hts (fun w h => bw_mem (wU_X12 w h)) hown K hP sM_0 rfl 7 (dk_dq rfl) (hts _ (bw_mem wB_302)) (fun _ h9 => h9) (v := .long x_4) f_x_4 dX12_isWord_9 ?_
    refine lv_lload_n hx hb dX12_isWord_12 rfl (lv_at hl 1 rfl) ?_
    refine W.lcmp hx hb dX12_isWord_13 ?_
    refine lv_topi (fun x_5 ex_5 => ?_)
    have hlc_x_5 := dk_lcmp ex_5
    refine lv_if_ne (tgt := 21) hx hb dX12_isWord_14 (dk_dq rfl) (fun c_6 => ?_) (fun c_6 => ?_)
    · have jc_6 := dk_neqc (k := 0) (by decide +kernel) c_6
      refine lv_iconst (v := 0) hx hb dX12_isWord_21 (by decide +kernel) ?_
      have hz_7 : (0 : Int32).toInt = 0 := by decide +kernel
      have hz_8 : (0 : Int32).toInt = 0 := by decide +kernel
      refine W.widen (k := 0) (n := 0) (Nat.le_of_ble_eq_true rfl) (Nat.le_of_ble_eq_true rfl) ?_
      exact dg_iret hx hb hr hlocks (by decide +kernel) hP hS ⟨rfl, (by decide +kernel), (fun w9 hw9 => by have q9 := (f_x_4).symm.trans hw9; cases q9; omega), trivial⟩ dX12_isWord_22
    · have jc_6 := dk_eqc (k := 0) (by decide +kernel) c_6
      refine lv_iconst (v := 1) hx hb dX12_isWord_17 (by decide +kernel) ?_
      refine lv_goto (tgt := 22) hx hb dX12_isWord_18 (dk_dq rfl) ?_
      have hz_9 : (1 : Int32).toInt = 1 := by decide +kernel
      have hz_10 : (1 : Int32).toInt = 1 := by decide +kernel
      refine W.widen (k := 0) (n := 0) (Nat.le_of_ble_eq_true rfl) (Nat.le_of_ble_eq_true rfl) ?_
      exact dg_iret hx hb hr hlocks (by decide +kernel) hP hS ⟨rfl, (by decide +kernel), (fun w9 hw9 => by have q9 := (f_x_4).symm.trans hw9; cases q9; omega), trivial⟩ dX12_isWord_22
set_option maxHeartbeats 8000000 in
set_option maxRecDepth 100000 in
theorem c_m_must (l : Launch) (g : Nat → ClassId) (D : va_G) (o : Nat) (S : dg_S) (a1 : Int32) (tb : Nat → Int32) (tn : Nat) (sg : Int32) (f_sg : S.1 0 3 = .int sg) (b_sg : 0 ≤ (sg).toInt ∧ (sg).toInt ≤ 3) (sa : Int32) (f_sa : S.1 0 4 = .int sa) (b_sa : 0 ≤ (sa).toInt ∧ (sa).toInt ≤ 1600) (se : Int32) (f_se : S.1 0 5 = .int se) (b_se : 0 ≤ (se).toInt ∧ (se).toInt ≤ 1600) (sl : Int32) (f_sl : S.1 0 2 = .int sl) (b_sl : 0 ≤ (sl).toInt ∧ (sl).toInt ≤ 1600) (fk : Int32) (f_fk : S.1 0 8 = .int fk) (b_fk : 0 ≤ (fk).toInt ∧ (fk).toInt ≤ 6) (va : Int32) (f_va : S.1 0 6 = .int va) (b_va : 0 ≤ (va).toInt ∧ (va).toInt ≤ 9999) (hlx : (sa).toInt ≤ (se).toInt ∧ (se).toInt ≤ (sl).toInt ∧ ((sg).toInt ≠ 0 → (sa).toInt + 1 ≤ (se).toInt)) (TK : TKM tb tn S) (I : CM o S) (sz : Nat) : Met l yX12_must (bw yX12_must cX12_must 2 none) ({ frames := 3, cells := 0, slots := 0, locals := 77 } : Room) (dk_Pc g D (dg_w g shM o rfM S) sz [.ref (o + 0), .int a1]) (va_Qv (fun S' => CM o S' ∧ dg_sm shM [(0, 3), (0, 4), (0, 5), (0, 6), (0, 7), (0, 8), (0, 9), (0, 12)] [] S S' ∧ (∃ y9_3 y9_4 y9_5 y9_8 : Int32, S'.1 0 3 = .int y9_3 ∧ S'.1 0 4 = .int y9_4 ∧ S'.1 0 5 = .int y9_5 ∧ S'.1 0 8 = .int y9_8 ∧ ((((y9_4).toInt ≤ (y9_5).toInt ∧ (y9_5).toInt ≤ (sl).toInt ∧ ((y9_3).toInt ≠ 0 → (y9_4).toInt + 1 ≤ (y9_5).toInt)) ∧ (sa).toInt ≤ (y9_4).toInt ∧ ((fk).toInt ≠ 0 → (y9_8).toInt ≠ 0) ∧ ((y9_8).toInt = 0 → (sa).toInt + 1 ≤ (y9_4).toInt)) ∧ m_hid ((fk).toInt = 0 → m_an y9_8 (g_tk (T_kd tb tn) (T_vl tb tn) (a1).toInt (t_ix tb tn (sa : Int32).toNatClampNeg)) (t_ix tb tn (y9_4 : Int32).toNatClampNeg)))) ∧ TKM tb tn S' ∧ True) (dg_B g D shM o rfM) (dg_A o shM.length sz)) 0 0 (dg_A o shM.length sz) := by
  refine dg_met (cc := cX12_must) (maxL := 2) (ret := none) (dk_dq rfl) rfl (Nat.le_of_ble_eq_true rfl) ?_
  intro p e s m args below meth c A hAe harg hx hb hr hml hts hown hlocks hin hP K hS hA1 hA ST hsz ls hl
  rw [← hAe]
  have F : CallFix p m c cX12_must 2 s args (bw yX12_must cX12_must 2 none) RX12 := ⟨hx, hb, hml, hown, hts⟩
  have hl : lv_has ls 2 [(0, .ref (o + 0)), (1, .int a1)] := hl
  have M_0 : dg_sm shM [(0, 3), (0, 4), (0, 5), (0, 6), (0, 7), (0, 8), (0, 9), (0, 12)] [] S S := dg_sm.rf
  have hz9 := TKM.zero TK f_sg f_sa
  refine lv_aload_n hx hb dX12_must_0 rfl (lv_at hl 0 rfl) ?_
  refine dg_callv hS hA1 hA (va_runV (As := []) (rest := []) F (c_m_lex l g D o S tb tn fk f_fk (by omega) sa f_sa (by omega) TK I s.heap.size) (cwV 0 hts (bw_V wB_310 wB_311 wB_312 wB_297 wB_309) rfl rfl rfl (by decide +kernel) ⟨Nat.le_of_ble_eq_true rfl, Nat.le_of_ble_eq_true rfl⟩) (dg_preV sM_0 rfl K ST hP hS hA1 hA) rfl rfl hl.1 rfl (lv_room (Nat.le_of_ble_eq_true rfl)) dX12_must_1 ⟨Nat.le_of_ble_eq_true rfl, Nat.le_of_ble_eq_true rfl⟩) (fun S_1 hw_1 H locs hP hS => ?_)
  obtain ⟨I_1, m_1, w_1_0, -⟩ := hw_1
  have M_1 := dg_sm.tr M_0 m_1 (dk_dq rfl) (dk_dq rfl)
  obtain ⟨y_2, f_y_2, w_1_0⟩ := w_1_0
  have w_1_0 : ((fk).toInt ≠ 0 → (y_2).toInt = (fk).toInt) ∧ ((fk).toInt = 0 → ((y_2).toInt = 0 ↔ (T_kd tb tn (t_ix tb tn (sa : Int32).toNatClampNeg)).toInt ≠ 5)) := w_1_0
  have b_y_2 : 0 ≤ (y_2).toInt ∧ (y_2).toInt ≤ 6 := dg_I.intb (lo := 0) (hi := 6) I_1 sM_0 (by decide +kernel) f_y_2
  refine lv_aload_n hx hb dX12_must_4 rfl (lv_at hl 0 rfl) ?_
  refine lv_iload_n hx hb dX12_must_5 rfl (lv_at hl 1 rfl) ?_
  refine dg_calli hS hA1 hA (va_runV (As := [.int a1]) (rest := []) F (c_m_isSign l g D o S_1 a1 sg ((m_1.1 0 3 _ sM_0 (dk_dq rfl)).trans f_sg) (by omega) va ((m_1.1 0 6 _ sM_0 (dk_dq rfl)).trans f_va) (by omega) I_1 H.size) (cwV 1 hts (bw_V wB_314 wB_315 wB_316 wB_297 wB_313) rfl rfl rfl (by decide +kernel) ⟨Nat.le_of_ble_eq_true rfl, Nat.le_of_ble_eq_true rfl⟩) (dg_preV sM_0 rfl K ST hP hS hA1 hA) rfl rfl hl.1 rfl (lv_room (Nat.le_of_ble_eq_true rfl)) dX12_must_6 ⟨Nat.le_of_ble_eq_true rfl, Nat.le_of_ble_eq_true rfl⟩) (fun x_3 S_4 hw_4 H locs hP hS => ?_)
  rw [hw_4.1] at hP
  obtain ⟨hq_4, w_4_0, w_4_1, -⟩ := hw_4
  have w_4_0 : 0 ≤ (x_3).toInt ∧ (x_3).toInt ≤ 1 := w_4_0
  have w_4_1 : (x_3).toInt = 1 ↔ ((sg).toInt = 3 ∧ (va).toInt = (a1).toInt) := w_4_1
  refine lv_if_ne (tgt := 21) hx hb dX12_must_9 (dk_dq rfl) (fun c_5 => ?_) (fun c_5 => ?_)
  · as_aux_lemma =>
      have jc_5 := dk_neqc (k := 0) (by decide +kernel) c_5
      have w_4_1_r := w_4_1.mp (by omega)
      clear w_4_1
      refine lv_aload_n hx hb dX12_must_21 rfl (lv_at hl 0 rfl) ?_
      refine dg_get (C := RX12) (T := TX12) (N := 77) hx hb hts (fun w h => bw_mem (wU_X12 w h)) hown K hP sM_0 rfl 8 (dk_dq rfl) (hts _ (bw_mem wB_303)) (fun _ h9 => h9) (v := .int y_2) f_y_2 dX12_must_22 ?_
      refine lv_if_ne (tgt := 32) hx hb dX12_must_25 (dk_dq rfl) (fun c_6 => ?_) (fun c_6 => ?_)
      · have jc_6 := dk_neqc (k := 0) (by decide +kernel) c_6
        refine W.widen (k := 0) (n := 0) (Nat.le_of_ble_eq_true rfl) (Nat.le_of_ble_eq_true rfl) ?_
        exact dg_vret hx hb hr hlocks hP hS ⟨I_1, M_1, ⟨sg, sa, se, y_2, ((m_1.1 0 3 _ sM_0 (dk_dq rfl)).trans f_sg), ((m_1.1 0 4 _ sM_0 (dk_dq rfl)).trans f_sa), ((m_1.1 0 5 _ sM_0 (dk_dq rfl)).trans f_se), f_y_2, ⟨by omega, m_hid.mk (fun h0 => MU.no (fun h5 => TKM.sgn TK f_sg f_sa f_va h5) (by omega) (by omega))⟩⟩, (TKM.keep TK m_1 (dk_dq rfl) (dk_dq rfl) (dk_dq rfl) (dk_dq rfl) (dk_dq rfl) (dk_dq rfl) (dk_dq rfl) (dk_dq rfl)), trivial⟩ dX12_must_32
      · have jc_6 := dk_eqc (k := 0) (by decide +kernel) c_6
        refine lv_aload_n hx hb dX12_must_28 rfl (lv_at hl 0 rfl) ?_
        refine dg_callv hS hA1 hA (va_runV (As := []) (rest := []) F (c_m_ahead l g D o S_1 tb tn se ((m_1.1 0 5 _ sM_0 (dk_dq rfl)).trans f_se) (by omega) sl ((m_1.1 0 2 _ sM_0 (dk_dq rfl)).trans f_sl) (by omega) (by omega) (TKM.keep TK m_1 (dk_dq rfl) (dk_dq rfl) (dk_dq rfl) (dk_dq rfl) (dk_dq rfl) (dk_dq rfl) (dk_dq rfl) (dk_dq rfl)).1 I_1 H.size) (cwV 0 hts (bw_V wB_318 wB_319 wB_320 wB_297 wB_317) rfl rfl rfl (by decide +kernel) ⟨Nat.le_of_ble_eq_true rfl, Nat.le_of_ble_eq_true rfl⟩) (dg_preV sM_0 rfl K ST hP hS hA1 hA) rfl rfl hl.1 rfl (lv_room (Nat.le_of_ble_eq_true rfl)) dX12_must_29 ⟨Nat.le_of_ble_eq_true rfl, Nat.le_of_ble_eq_true rfl⟩) (fun S_7 hw_7 H locs hP hS => ?_)
        obtain ⟨I_7, m_7, w_7_0, w_7_1, -⟩ := hw_7
        have M_7 := dg_sm.tr M_1 m_7 (dk_dq rfl) (dk_dq rfl)
        obtain ⟨y_8, y_9, y_10, f_y_8, f_y_9, f_y_10, w_7_0⟩ := w_7_0
        have w_7_0 : (se).toInt ≤ (y_9).toInt ∧ (y_9).toInt ≤ (y_10).toInt ∧ (y_10).toInt ≤ (sl).toInt ∧ ((y_8).toInt ≠ 0 → (y_9).toInt + 1 ≤ (y_10).toInt) := w_7_0
        have b_y_8 : 0 ≤ (y_8).toInt ∧ (y_8).toInt ≤ 3 := dg_I.intb (lo := 0) (hi := 3) I_7 sM_0 (by decide +kernel) f_y_8
        have b_y_9 : 0 ≤ (y_9).toInt ∧ (y_9).toInt ≤ 1600 := dg_I.intb (lo := 0) (hi := 1600) I_7 sM_0 (by decide +kernel) f_y_9
        have b_y_10 : 0 ≤ (y_10).toInt ∧ (y_10).toInt ≤ 1600 := dg_I.intb (lo := 0) (hi := 1600) I_7 sM_0 (by decide +kernel) f_y_10
        replace w_7_1 : TNX tb tn se S_7 := w_7_1
        obtain ⟨TK_7, nx_7, -⟩ := TKM.nx (TKM.keep TK m_1 (dk_dq rfl) (dk_dq rfl) (dk_dq rfl) (dk_dq rfl) (dk_dq rfl) (dk_dq rfl) (dk_dq rfl) (dk_dq rfl)) ((m_1.1 0 4 _ sM_0 (dk_dq rfl)).trans f_sa) ((m_1.1 0 5 _ sM_0 (dk_dq rfl)).trans f_se) w_7_1 m_7 (dk_dq rfl) (dk_dq rfl) f_y_9
        refine W.widen (k := 0) (n := 0) (Nat.le_of_ble_eq_true rfl) (Nat.le_of_ble_eq_true rfl) ?_
        exact dg_vret hx hb hr hlocks hP hS ⟨I_7, M_7, ⟨y_8, y_9, y_10, y_2, f_y_8, f_y_9, f_y_10, ((m_7.1 0 8 _ sM_0 (dk_dq rfl)).trans f_y_2), ⟨by omega, m_hid.mk (fun h0 => MU.y (TKM.sgn TK f_sg f_sa f_va (by omega)) (by omega) (by omega) (by omega))⟩⟩, TK_7, trivial⟩ dX12_must_32
  · as_aux_lemma =>
      have jc_5 := dk_eqc (k := 0) (by decide +kernel) c_5
      clear w_4_1
      refine lv_aload_n hx hb dX12_must_12 rfl (lv_at hl 0 rfl) ?_
      refine lv_iconst (v := 1) hx hb dX12_must_13 (by decide +kernel) ?_
      refine lv_aload_n hx hb dX12_must_14 rfl (lv_at hl 0 rfl) ?_
      refine dg_get (C := RX12) (T := TX12) (N := 77) hx hb hts (fun w h => bw_mem (wU_X12 w h)) hown K hP sM_0 rfl 4 (dk_dq rfl) (hts _ (bw_mem wB_291)) (fun _ h9 => h9) (v := .int sa) ((m_1.1 0 4 _ sM_0 (dk_dq rfl)).trans f_sa) dX12_must_15 ?_
      have hz_11 : (1 : Int32).toInt = 1 := by decide +kernel
      refine dg_callv hS hA1 hA (va_runV (As := [.int 1, .int sa]) (rest := []) F (c_m_blame l g D o S_1 1 (by decide +kernel) sa y_2 f_y_2 (by omega) I_1 H.size) (cwV 2 hts (bw_V wB_306 wB_307 wB_308 wB_297 wB_305) rfl rfl rfl (by decide +kernel) ⟨Nat.le_of_ble_eq_true rfl, Nat.le_of_ble_eq_true rfl⟩) (dg_preV sM_0 rfl K ST hP hS hA1 hA) rfl rfl hl.1 rfl (lv_room (Nat.le_of_ble_eq_true rfl)) dX12_must_18 ⟨Nat.le_of_ble_eq_true rfl, Nat.le_of_ble_eq_true rfl⟩) (fun S_12 hw_12 H locs hP hS => ?_)
      obtain ⟨I_12, m_12, w_12_0, -⟩ := hw_12
      have M_12 := dg_sm.tr M_1 m_12 (dk_dq rfl) (dk_dq rfl)
      have hz_13 : (1 : Int32).toInt = 1 := by decide +kernel
      obtain ⟨y_14, f_y_14, w_12_0⟩ := w_12_0
      have w_12_0 : ((y_2).toInt ≠ 0 → (y_14).toInt = (y_2).toInt) ∧ ((y_2).toInt = 0 → (y_14).toInt = ((1 : Int32)).toInt) := w_12_0
      have b_y_14 : 0 ≤ (y_14).toInt ∧ (y_14).toInt ≤ 6 := dg_I.intb (lo := 0) (hi := 6) I_12 sM_0 (by decide +kernel) f_y_14
      have hbl_y_14 : 1 ≤ (y_14).toInt := by omega
      refine lv_aload_n hx hb dX12_must_21 rfl (lv_at hl 0 rfl) ?_
      refine dg_get (C := RX12) (T := TX12) (N := 77) hx hb hts (fun w h => bw_mem (wU_X12 w h)) hown K hP sM_0 rfl 8 (dk_dq rfl) (hts _ (bw_mem wB_303)) (fun _ h9 => h9) (v := .int y_14) f_y_14 dX12_must_22 ?_
      refine lv_if_ne (tgt := 32) hx hb dX12_must_25 (dk_dq rfl) (fun _ => ?_) (fun c => absurd c (fun z => absurd (dk_eqc (k := 0) (by decide +kernel) z) (by omega)))
      refine W.widen (k := 0) (n := 0) (Nat.le_of_ble_eq_true rfl) (Nat.le_of_ble_eq_true rfl) ?_
      exact dg_vret hx hb hr hlocks hP hS ⟨I_12, M_12, ⟨sg, sa, se, y_14, (((m_12.1 0 3 _ sM_0 (dk_dq rfl)).trans (m_1.1 0 3 _ sM_0 (dk_dq rfl))).trans f_sg), (((m_12.1 0 4 _ sM_0 (dk_dq rfl)).trans (m_1.1 0 4 _ sM_0 (dk_dq rfl))).trans f_sa), (((m_12.1 0 5 _ sM_0 (dk_dq rfl)).trans (m_1.1 0 5 _ sM_0 (dk_dq rfl))).trans f_se), f_y_14, ⟨by omega, m_hid.mk (fun h0 => MU.no (fun h5 => TKM.sgn TK f_sg f_sa f_va h5) (by omega) (by omega))⟩⟩, (TKM.keep (TKM.keep TK m_1 (dk_dq rfl) (dk_dq rfl) (dk_dq rfl) (dk_dq rfl) (dk_dq rfl) (dk_dq rfl) (dk_dq rfl) (dk_dq rfl)) m_12 (dk_dq rfl) (dk_dq rfl) (dk_dq rfl) (dk_dq rfl) (dk_dq rfl) (dk_dq rfl) (dk_dq rfl) (dk_dq rfl)), trivial⟩ dX12_must_32
set_option maxHeartbeats 8000000 in
set_option maxRecDepth 100000 in
theorem c_m_must_ (l : Launch) (g : Nat → ClassId) (D : va_G) (o : Nat) (S : dg_S) (b1 : Int64) (tb : Nat → Int32) (tn : Nat) (wj : Int) (sg : Int32) (f_sg : S.1 0 3 = .int sg) (b_sg : 0 ≤ (sg).toInt ∧ (sg).toInt ≤ 3) (sa : Int32) (f_sa : S.1 0 4 = .int sa) (b_sa : 0 ≤ (sa).toInt ∧ (sa).toInt ≤ 1600) (se : Int32) (f_se : S.1 0 5 = .int se) (b_se : 0 ≤ (se).toInt ∧ (se).toInt ≤ 1600) (sl : Int32) (f_sl : S.1 0 2 = .int sl) (b_sl : 0 ≤ (sl).toInt ∧ (sl).toInt ≤ 1600) (fk : Int32) (f_fk : S.1 0 8 = .int fk) (b_fk : 0 ≤ (fk).toInt ∧ (fk).toInt ≤ 6) (hlx : (sa).toInt ≤ (se).toInt ∧ (se).toInt ≤ (sl).toInt ∧ ((sg).toInt ≠ 0 → (sa).toInt + 1 ≤ (se).toInt)) (hwj : (0 ≤ wj ∧ wj ≤ 26) ∧ (b1).toInt = m_cw wj) (TK : TKM tb tn S) (I : CM o S) (sz : Nat) : Met l yX12_must_ (bw yX12_must_ cX12_must_ 3 none) ({ frames := 3, cells := 0, slots := 0, locals := 77 } : Room) (dk_Pc g D (dg_w g shM o rfM S) sz [.ref (o + 0), .long b1]) (va_Qv (fun S' => CM o S' ∧ dg_sm shM [(0, 3), (0, 4), (0, 5), (0, 6), (0, 7), (0, 8), (0, 9), (0, 12)] [] S S' ∧ (∃ y9_3 y9_4 y9_5 y9_8 : Int32, S'.1 0 3 = .int y9_3 ∧ S'.1 0 4 = .int y9_4 ∧ S'.1 0 5 = .int y9_5 ∧ S'.1 0 8 = .int y9_8 ∧ ((((y9_4).toInt ≤ (y9_5).toInt ∧ (y9_5).toInt ≤ (sl).toInt ∧ ((y9_3).toInt ≠ 0 → (y9_4).toInt + 1 ≤ (y9_5).toInt)) ∧ (sa).toInt ≤ (y9_4).toInt ∧ ((fk).toInt ≠ 0 → (y9_8).toInt ≠ 0) ∧ ((y9_8).toInt = 0 → (sa).toInt + 1 ≤ (y9_4).toInt)) ∧ m_hid ((fk).toInt = 0 → m_an y9_8 (y_own (T_kd tb tn) (T_vl tb tn) wj (t_ix tb tn (sa : Int32).toNatClampNeg)) (t_ix tb tn (y9_4 : Int32).toNatClampNeg)))) ∧ TKM tb tn S' ∧ True) (dg_B g D shM o rfM) (dg_A o shM.length sz)) 0 0 (dg_A o shM.length sz) := by
  refine dg_met (cc := cX12_must_) (maxL := 3) (ret := none) (dk_dq rfl) rfl (Nat.le_of_ble_eq_true rfl) ?_
  intro p e s m args below meth c A hAe harg hx hb hr hml hts hown hlocks hin hP K hS hA1 hA ST hsz ls hl
  rw [← hAe]
  have F : CallFix p m c cX12_must_ 3 s args (bw yX12_must_ cX12_must_ 3 none) RX12 := ⟨hx, hb, hml, hown, hts⟩
  have hl : lv_has ls 3 [(0, .ref (o + 0)), (1, .long b1)] := hl
  have M_0 : dg_sm shM [(0, 3), (0, 4), (0, 5), (0, 6), (0, 7), (0, 8), (0, 9), (0, 12)] [] S S := dg_sm.rf
  have hz9 := TKM.zero TK f_sg f_sa
  refine lv_aload_n hx hb dX12_must__0 rfl (lv_at hl 0 rfl) ?_
  refine dg_callv hS hA1 hA (va_runV (As := []) (rest := []) F (c_m_lex l g D o S tb tn fk f_fk (by omega) sa f_sa (by omega) TK I s.heap.size) (cwV 0 hts (bw_V wB_310 wB_311 wB_312 wB_297 wB_309) rfl rfl rfl (by decide +kernel) ⟨Nat.le_of_ble_eq_true rfl, Nat.le_of_ble_eq_true rfl⟩) (dg_preV sM_0 rfl K ST hP hS hA1 hA) rfl rfl hl.1 rfl (lv_room (Nat.le_of_ble_eq_true rfl)) dX12_must__1 ⟨Nat.le_of_ble_eq_true rfl, Nat.le_of_ble_eq_true rfl⟩) (fun S_1 hw_1 H locs hP hS => ?_)
  obtain ⟨I_1, m_1, w_1_0, -⟩ := hw_1
  have M_1 := dg_sm.tr M_0 m_1 (dk_dq rfl) (dk_dq rfl)
  obtain ⟨y_2, f_y_2, w_1_0⟩ := w_1_0
  have w_1_0 : ((fk).toInt ≠ 0 → (y_2).toInt = (fk).toInt) ∧ ((fk).toInt = 0 → ((y_2).toInt = 0 ↔ (T_kd tb tn (t_ix tb tn (sa : Int32).toNatClampNeg)).toInt ≠ 5)) := w_1_0
  have b_y_2 : 0 ≤ (y_2).toInt ∧ (y_2).toInt ≤ 6 := dg_I.intb (lo := 0) (hi := 6) I_1 sM_0 (by decide +kernel) f_y_2
  refine lv_aload_n hx hb dX12_must__4 rfl (lv_at hl 0 rfl) ?_
  refine dg_get (C := RX12) (T := TX12) (N := 77) hx hb hts (fun w h => bw_mem (wU_X12 w h)) hown K hP sM_0 rfl 8 (dk_dq rfl) (hts _ (bw_mem wB_303)) (fun _ h9 => h9) (v := .int y_2) f_y_2 dX12_must__5 ?_
  refine lv_if_le (tgt := 12) hx hb dX12_must__8 (dk_dq rfl) (fun c_3 => ?_) (fun c_3 => ?_)
  · as_aux_lemma =>
      have jc_3 := dk_lec (k := 0) (by decide +kernel) c_3
      refine lv_aload_n hx hb dX12_must__12 rfl (lv_at hl 0 rfl) ?_
      refine lv_lload_n hx hb dX12_must__13 rfl (lv_at hl 1 rfl) ?_
      refine dg_calli hS hA1 hA (va_runV (As := [.long b1]) (rest := []) F (c_m_isWord l g D o S_1 b1 sg ((m_1.1 0 3 _ sM_0 (dk_dq rfl)).trans f_sg) (by omega) I_1 H.size) (cwV 1 hts (bw_V wB_322 wB_323 wB_324 wB_297 wB_321) rfl rfl rfl (by decide +kernel) ⟨Nat.le_of_ble_eq_true rfl, Nat.le_of_ble_eq_true rfl⟩) (dg_preV sM_0 rfl K ST hP hS hA1 hA) rfl rfl hl.1 rfl (lv_room (Nat.le_of_ble_eq_true rfl)) dX12_must__14 ⟨Nat.le_of_ble_eq_true rfl, Nat.le_of_ble_eq_true rfl⟩) (fun x_4 S_5 hw_5 H locs hP hS => ?_)
      rw [hw_5.1] at hP
      obtain ⟨hq_5, w_5_0, w_5_1, -⟩ := hw_5
      try rw [hq_5] at w_5_1
      have w_5_0 : 0 ≤ (x_4).toInt ∧ (x_4).toInt ≤ 1 := w_5_0
      replace w_5_1 : ∀ w9 : Int64, S_1.1 0 7 = .long w9 → ((x_4).toInt = 1 ↔ ((sg).toInt = 1 ∧ w9.toInt = (b1).toInt)) := w_5_1
      refine lv_if_ne (tgt := 29) hx hb dX12_must__17 (dk_dq rfl) (fun c_6 => ?_) (fun c_6 => ?_)
      · as_aux_lemma =>
          have jc_6 := dk_neqc (k := 0) (by decide +kernel) c_6
          obtain ⟨x_7, f_x_7⟩ := dg_I.long (i := 0) (k := 7) I_1 sM_0 (by decide +kernel)
          have w_5_1_r : (sg).toInt = 1 := ((w_5_1 _ f_x_7).mp (by omega)).1
          refine lv_aload_n hx hb dX12_must__29 rfl (lv_at hl 0 rfl) ?_
          refine dg_get (C := RX12) (T := TX12) (N := 77) hx hb hts (fun w h => bw_mem (wU_X12 w h)) hown K hP sM_0 rfl 8 (dk_dq rfl) (hts _ (bw_mem wB_303)) (fun _ h9 => h9) (v := .int y_2) f_y_2 dX12_must__30 ?_
          refine lv_if_ne (tgt := 40) hx hb dX12_must__33 (dk_dq rfl) (fun c => absurd (dk_eqp (k := 0) (by decide +kernel) (by omega)) c) (fun _ => ?_)
          refine lv_aload_n hx hb dX12_must__36 rfl (lv_at hl 0 rfl) ?_
          refine dg_callv hS hA1 hA (va_runV (As := []) (rest := []) F (c_m_ahead l g D o S_1 tb tn se ((m_1.1 0 5 _ sM_0 (dk_dq rfl)).trans f_se) (by omega) sl ((m_1.1 0 2 _ sM_0 (dk_dq rfl)).trans f_sl) (by omega) (by omega) (TKM.keep TK m_1 (dk_dq rfl) (dk_dq rfl) (dk_dq rfl) (dk_dq rfl) (dk_dq rfl) (dk_dq rfl) (dk_dq rfl) (dk_dq rfl)).1 I_1 H.size) (cwV 0 hts (bw_V wB_318 wB_319 wB_320 wB_297 wB_317) rfl rfl rfl (by decide +kernel) ⟨Nat.le_of_ble_eq_true rfl, Nat.le_of_ble_eq_true rfl⟩) (dg_preV sM_0 rfl K ST hP hS hA1 hA) rfl rfl hl.1 rfl (lv_room (Nat.le_of_ble_eq_true rfl)) dX12_must__37 ⟨Nat.le_of_ble_eq_true rfl, Nat.le_of_ble_eq_true rfl⟩) (fun S_8 hw_8 H locs hP hS => ?_)
          obtain ⟨I_8, m_8, w_8_0, w_8_1, -⟩ := hw_8
          have M_8 := dg_sm.tr M_1 m_8 (dk_dq rfl) (dk_dq rfl)
          obtain ⟨y_9, y_10, y_11, f_y_9, f_y_10, f_y_11, w_8_0⟩ := w_8_0
          have w_8_0 : (se).toInt ≤ (y_10).toInt ∧ (y_10).toInt ≤ (y_11).toInt ∧ (y_11).toInt ≤ (sl).toInt ∧ ((y_9).toInt ≠ 0 → (y_10).toInt + 1 ≤ (y_11).toInt) := w_8_0
          have b_y_9 : 0 ≤ (y_9).toInt ∧ (y_9).toInt ≤ 3 := dg_I.intb (lo := 0) (hi := 3) I_8 sM_0 (by decide +kernel) f_y_9
          have b_y_10 : 0 ≤ (y_10).toInt ∧ (y_10).toInt ≤ 1600 := dg_I.intb (lo := 0) (hi := 1600) I_8 sM_0 (by decide +kernel) f_y_10
          have b_y_11 : 0 ≤ (y_11).toInt ∧ (y_11).toInt ≤ 1600 := dg_I.intb (lo := 0) (hi := 1600) I_8 sM_0 (by decide +kernel) f_y_11
          replace w_8_1 : TNX tb tn se S_8 := w_8_1
          obtain ⟨TK_8, nx_8, -⟩ := TKM.nx (TKM.keep TK m_1 (dk_dq rfl) (dk_dq rfl) (dk_dq rfl) (dk_dq rfl) (dk_dq rfl) (dk_dq rfl) (dk_dq rfl) (dk_dq rfl)) ((m_1.1 0 4 _ sM_0 (dk_dq rfl)).trans f_sa) ((m_1.1 0 5 _ sM_0 (dk_dq rfl)).trans f_se) w_8_1 m_8 (dk_dq rfl) (dk_dq rfl) f_y_10
          refine W.widen (k := 0) (n := 0) (Nat.le_of_ble_eq_true rfl) (Nat.le_of_ble_eq_true rfl) ?_
          exact dg_vret hx hb hr hlocks hP hS ⟨I_8, M_8, ⟨y_9, y_10, y_11, y_2, f_y_9, f_y_10, f_y_11, ((m_8.1 0 8 _ sM_0 (dk_dq rfl)).trans f_y_2), ⟨by omega, m_hid.mk (fun h0 => MW9.y (TKM.isw (TKM.keep TK m_1 (dk_dq rfl) (dk_dq rfl) (dk_dq rfl) (dk_dq rfl) (dk_dq rfl) (dk_dq rfl) (dk_dq rfl) (dk_dq rfl)) ((m_1.1 0 3 _ sM_0 (dk_dq rfl)).trans f_sg) ((m_1.1 0 4 _ sM_0 (dk_dq rfl)).trans f_sa) (by omega) hwj.1 hwj.2 w_5_1) (by omega) (by omega) (by omega))⟩⟩, TK_8, trivial⟩ dX12_must__40
      · as_aux_lemma =>
          have jc_6 := dk_eqc (k := 0) (by decide +kernel) c_6
          refine lv_aload_n hx hb dX12_must__20 rfl (lv_at hl 0 rfl) ?_
          refine lv_iconst (v := 1) hx hb dX12_must__21 (by decide +kernel) ?_
          refine lv_aload_n hx hb dX12_must__22 rfl (lv_at hl 0 rfl) ?_
          refine dg_get (C := RX12) (T := TX12) (N := 77) hx hb hts (fun w h => bw_mem (wU_X12 w h)) hown K hP sM_0 rfl 4 (dk_dq rfl) (hts _ (bw_mem wB_291)) (fun _ h9 => h9) (v := .int sa) ((m_1.1 0 4 _ sM_0 (dk_dq rfl)).trans f_sa) dX12_must__23 ?_
          have hz_12 : (1 : Int32).toInt = 1 := by decide +kernel
          refine dg_callv hS hA1 hA (va_runV (As := [.int 1, .int sa]) (rest := []) F (c_m_blame l g D o S_1 1 (by decide +kernel) sa y_2 f_y_2 (by omega) I_1 H.size) (cwV 2 hts (bw_V wB_306 wB_307 wB_308 wB_297 wB_305) rfl rfl rfl (by decide +kernel) ⟨Nat.le_of_ble_eq_true rfl, Nat.le_of_ble_eq_true rfl⟩) (dg_preV sM_0 rfl K ST hP hS hA1 hA) rfl rfl hl.1 rfl (lv_room (Nat.le_of_ble_eq_true rfl)) dX12_must__26 ⟨Nat.le_of_ble_eq_true rfl, Nat.le_of_ble_eq_true rfl⟩) (fun S_13 hw_13 H locs hP hS => ?_)
          obtain ⟨I_13, m_13, w_13_0, -⟩ := hw_13
          have M_13 := dg_sm.tr M_1 m_13 (dk_dq rfl) (dk_dq rfl)
          have hz_14 : (1 : Int32).toInt = 1 := by decide +kernel
          obtain ⟨y_15, f_y_15, w_13_0⟩ := w_13_0
          have w_13_0 : ((y_2).toInt ≠ 0 → (y_15).toInt = (y_2).toInt) ∧ ((y_2).toInt = 0 → (y_15).toInt = ((1 : Int32)).toInt) := w_13_0
          have b_y_15 : 0 ≤ (y_15).toInt ∧ (y_15).toInt ≤ 6 := dg_I.intb (lo := 0) (hi := 6) I_13 sM_0 (by decide +kernel) f_y_15
          have hbl_y_15 : 1 ≤ (y_15).toInt := by omega
          refine lv_aload_n hx hb dX12_must__29 rfl (lv_at hl 0 rfl) ?_
          refine dg_get (C := RX12) (T := TX12) (N := 77) hx hb hts (fun w h => bw_mem (wU_X12 w h)) hown K hP sM_0 rfl 8 (dk_dq rfl) (hts _ (bw_mem wB_303)) (fun _ h9 => h9) (v := .int y_15) f_y_15 dX12_must__30 ?_
          refine lv_if_ne (tgt := 40) hx hb dX12_must__33 (dk_dq rfl) (fun _ => ?_) (fun c => absurd c (fun z => absurd (dk_eqc (k := 0) (by decide +kernel) z) (by omega)))
          refine W.widen (k := 0) (n := 0) (Nat.le_of_ble_eq_true rfl) (Nat.le_of_ble_eq_true rfl) ?_
          exact dg_vret hx hb hr hlocks hP hS ⟨I_13, M_13, ⟨sg, sa, se, y_15, (((m_13.1 0 3 _ sM_0 (dk_dq rfl)).trans (m_1.1 0 3 _ sM_0 (dk_dq rfl))).trans f_sg), (((m_13.1 0 4 _ sM_0 (dk_dq rfl)).trans (m_1.1 0 4 _ sM_0 (dk_dq rfl))).trans f_sa), (((m_13.1 0 5 _ sM_0 (dk_dq rfl)).trans (m_1.1 0 5 _ sM_0 (dk_dq rfl))).trans f_se), f_y_15, ⟨by omega, m_hid.mk (fun h0 => MW9.no (fun h5 => TKM.isw (TKM.keep TK m_1 (dk_dq rfl) (dk_dq rfl) (dk_dq rfl) (dk_dq rfl) (dk_dq rfl) (dk_dq rfl) (dk_dq rfl) (dk_dq rfl)) ((m_1.1 0 3 _ sM_0 (dk_dq rfl)).trans f_sg) ((m_1.1 0 4 _ sM_0 (dk_dq rfl)).trans f_sa) h5 hwj.1 hwj.2 w_5_1) (by omega) (by omega))⟩⟩, (TKM.keep (TKM.keep TK m_1 (dk_dq rfl) (dk_dq rfl) (dk_dq rfl) (dk_dq rfl) (dk_dq rfl) (dk_dq rfl) (dk_dq rfl) (dk_dq rfl)) m_13 (dk_dq rfl) (dk_dq rfl) (dk_dq rfl) (dk_dq rfl) (dk_dq rfl) (dk_dq rfl) (dk_dq rfl) (dk_dq rfl)), trivial⟩ dX12_must__40
  · have jc_3 := dk_nlec (k := 0) (by decide +kernel) c_3
    refine W.widen (k := 0) (n := 0) (Nat.le_of_ble_eq_true rfl) (Nat.le_of_ble_eq_true rfl) ?_
    exact dg_vret hx hb hr hlocks hP hS ⟨I_1, M_1, ⟨sg, sa, se, y_2, ((m_1.1 0 3 _ sM_0 (dk_dq rfl)).trans f_sg), ((m_1.1 0 4 _ sM_0 (dk_dq rfl)).trans f_sa), ((m_1.1 0 5 _ sM_0 (dk_dq rfl)).trans f_se), f_y_2, ⟨by omega, m_hid.mk (fun h0 => MW9.no (P := False) (fun h5 => absurd h5 (by omega)) (fun _ => id) (by omega))⟩⟩, (TKM.keep TK m_1 (dk_dq rfl) (dk_dq rfl) (dk_dq rfl) (dk_dq rfl) (dk_dq rfl) (dk_dq rfl) (dk_dq rfl) (dk_dq rfl)), trivial⟩ dX12_must__11
set_option maxHeartbeats 8000000 in
set_option maxRecDepth 100000 in
theorem c_m_isOwn (l : Launch) (g : Nat → ClassId) (D : va_G) (o : Nat) (S : dg_S) (b1 : Int64) (I : CM o S) (sz : Nat) : Met l yX12_isOwn (bw yX12_isOwn cX12_isOwn 3 (some .boolean)) ({ frames := 1, cells := 0, slots := 0, locals := 32 } : Room) (dk_Pc g D (dg_w g shM o rfM S) sz [.ref (o + 0), .long b1]) (va_Qi (fun (r : Int32) S' => S' = S ∧ (0 ≤ (r).toInt ∧ (r).toInt ≤ 1) ∧ ((r).toInt = 1 ↔ m_ow (b1).toInt = true) ∧ True) (dg_B g D shM o rfM) (dg_A o shM.length sz)) 0 0 (dg_A o shM.length sz) := by
  refine dg_met (cc := cX12_isOwn) (maxL := 3) (ret := (some .boolean)) (dk_dq rfl) rfl (Nat.le_of_ble_eq_true rfl) ?_
  intro p e s m args below meth c A hAe harg hx hb hr hml hts hown hlocks hin hP K hS hA1 hA ST hsz ls hl
  rw [← hAe]
  have F : CallFix p m c cX12_isOwn 3 s args (bw yX12_isOwn cX12_isOwn 3 (some .boolean)) RX12 := ⟨hx, hb, hml, hown, hts⟩
  have hl : lv_has ls 3 [(0, .ref (o + 0)), (1, .long b1)] := hl
  have M_0 : dg_sm shM [] [] S S := dg_sm.rf
  refine lv_lload_n hx hb dX12_isOwn_0 rfl (lv_at hl 1 rfl) ?_
  refine lv_ldc2 hx hb hown (hts _ (bw_mem wB_325)) dX12_isOwn_1 ?_
  refine W.lcmp hx hb dX12_isOwn_4 ?_
  refine lv_topi (fun x_1 ex_1 => ?_)
  have hz_1 : (1936023917 : Int64).toInt = 1936023917 := by decide +kernel
  have hlc_x_1 := dk_lcmp ex_1
  refine lv_if_eq (tgt := 40) hx hb dX12_isOwn_5 (dk_dq rfl) (fun c_3 => ?_) (fun c_3 => ?_)
  · have jc_3 := dk_eqc (k := 0) (by decide +kernel) c_3
    have he_x_1 : (b1).toInt = 1936023917 := by omega
    clear hlc_x_1
    refine lv_iconst (v := 1) hx hb dX12_isOwn_40 (by decide +kernel) ?_
    have hz_4 : (1 : Int32).toInt = 1 := by decide +kernel
    have hz_5 : (1 : Int32).toInt = 1 := by decide +kernel
    refine W.widen (k := 0) (n := 0) (Nat.le_of_ble_eq_true rfl) (Nat.le_of_ble_eq_true rfl) ?_
    exact dg_iret hx hb hr hlocks (by decide +kernel) hP hS ⟨rfl, (by decide +kernel), ⟨fun _ => by rw [m_ow_tab, m_tab_eq, he_x_1]; decide, fun _ => by decide +kernel⟩, trivial⟩ dX12_isOwn_41
  · as_aux_lemma =>
      have jc_3 := dk_neqc (k := 0) (by decide +kernel) c_3
      have hn_x_1 : ¬ (b1).toInt = 1936023917 := by omega
      clear hlc_x_1
      refine lv_lload_n hx hb dX12_isOwn_8 rfl (lv_at hl 1 rfl) ?_
      refine lv_ldc2 hx hb hown (hts _ (bw_mem wB_326)) dX12_isOwn_9 ?_
      refine W.lcmp hx hb dX12_isOwn_12 ?_
      refine lv_topi (fun x_6 ex_6 => ?_)
      have hz_6 : (25209 : Int64).toInt = 25209 := by decide +kernel
      have hlc_x_6 := dk_lcmp ex_6
      refine lv_if_eq (tgt := 40) hx hb dX12_isOwn_13 (dk_dq rfl) (fun c_8 => ?_) (fun c_8 => ?_)
      · have jc_8 := dk_eqc (k := 0) (by decide +kernel) c_8
        have he_x_6 : (b1).toInt = 25209 := by omega
        clear hlc_x_6
        refine lv_iconst (v := 1) hx hb dX12_isOwn_40 (by decide +kernel) ?_
        have hz_9 : (1 : Int32).toInt = 1 := by decide +kernel
        have hz_10 : (1 : Int32).toInt = 1 := by decide +kernel
        refine W.widen (k := 0) (n := 0) (Nat.le_of_ble_eq_true rfl) (Nat.le_of_ble_eq_true rfl) ?_
        exact dg_iret hx hb hr hlocks (by decide +kernel) hP hS ⟨rfl, (by decide +kernel), ⟨fun _ => by rw [m_ow_tab, m_tab_eq, he_x_6]; decide, fun _ => by decide +kernel⟩, trivial⟩ dX12_isOwn_41
      · as_aux_lemma =>
          have jc_8 := dk_neqc (k := 0) (by decide +kernel) c_8
          have hn_x_6 : ¬ (b1).toInt = 25209 := by omega
          clear hlc_x_6
          refine lv_lload_n hx hb dX12_isOwn_16 rfl (lv_at hl 1 rfl) ?_
          refine lv_ldc2 hx hb hown (hts _ (bw_mem wB_327)) dX12_isOwn_17 ?_
          refine W.lcmp hx hb dX12_isOwn_20 ?_
          refine lv_topi (fun x_11 ex_11 => ?_)
          have hz_11 : (495672452724 : Int64).toInt = 495672452724 := by decide +kernel
          have hlc_x_11 := dk_lcmp ex_11
          refine lv_if_eq (tgt := 40) hx hb dX12_isOwn_21 (dk_dq rfl) (fun c_13 => ?_) (fun c_13 => ?_)
          · have jc_13 := dk_eqc (k := 0) (by decide +kernel) c_13
            have he_x_11 : (b1).toInt = 495672452724 := by omega
            clear hlc_x_11
            refine lv_iconst (v := 1) hx hb dX12_isOwn_40 (by decide +kernel) ?_
            have hz_14 : (1 : Int32).toInt = 1 := by decide +kernel
            have hz_15 : (1 : Int32).toInt = 1 := by decide +kernel
            refine W.widen (k := 0) (n := 0) (Nat.le_of_ble_eq_true rfl) (Nat.le_of_ble_eq_true rfl) ?_
            exact dg_iret hx hb hr hlocks (by decide +kernel) hP hS ⟨rfl, (by decide +kernel), ⟨fun _ => by rw [m_ow_tab, m_tab_eq, he_x_11]; decide, fun _ => by decide +kernel⟩, trivial⟩ dX12_isOwn_41
          · as_aux_lemma =>
              have jc_13 := dk_neqc (k := 0) (by decide +kernel) c_13
              have hn_x_11 : ¬ (b1).toInt = 495672452724 := by omega
              clear hlc_x_11
              refine lv_lload_n hx hb dX12_isOwn_24 rfl (lv_at hl 1 rfl) ?_
              refine lv_ldc2 hx hb hown (hts _ (bw_mem wB_328)) dX12_isOwn_25 ?_
              refine W.lcmp hx hb dX12_isOwn_28 ?_
              refine lv_topi (fun x_16 ex_16 => ?_)
              have hz_16 : (491327153000 : Int64).toInt = 491327153000 := by decide +kernel
              have hlc_x_16 := dk_lcmp ex_16
              refine lv_if_eq (tgt := 40) hx hb dX12_isOwn_29 (dk_dq rfl) (fun c_18 => ?_) (fun c_18 => ?_)
              · have jc_18 := dk_eqc (k := 0) (by decide +kernel) c_18
                have he_x_16 : (b1).toInt = 491327153000 := by omega
                clear hlc_x_16
                refine lv_iconst (v := 1) hx hb dX12_isOwn_40 (by decide +kernel) ?_
                have hz_19 : (1 : Int32).toInt = 1 := by decide +kernel
                have hz_20 : (1 : Int32).toInt = 1 := by decide +kernel
                refine W.widen (k := 0) (n := 0) (Nat.le_of_ble_eq_true rfl) (Nat.le_of_ble_eq_true rfl) ?_
                exact dg_iret hx hb hr hlocks (by decide +kernel) hP hS ⟨rfl, (by decide +kernel), ⟨fun _ => by rw [m_ow_tab, m_tab_eq, he_x_16]; decide, fun _ => by decide +kernel⟩, trivial⟩ dX12_isOwn_41
              · as_aux_lemma =>
                  have jc_18 := dk_neqc (k := 0) (by decide +kernel) c_18
                  have hn_x_16 : ¬ (b1).toInt = 491327153000 := by omega
                  clear hlc_x_16
                  refine lv_lload_n hx hb dX12_isOwn_32 rfl (lv_at hl 1 rfl) ?_
                  refine lv_ldc2 hx hb hown (hts _ (bw_mem wB_329)) dX12_isOwn_33 ?_
                  refine W.lcmp hx hb dX12_isOwn_36 ?_
                  refine lv_topi (fun x_21 ex_21 => ?_)
                  have hz_21 : (487300623205 : Int64).toInt = 487300623205 := by decide +kernel
                  have hlc_x_21 := dk_lcmp ex_21
                  refine lv_if_ne (tgt := 42) hx hb dX12_isOwn_37 (dk_dq rfl) (fun c_23 => ?_) (fun c_23 => ?_)
                  · as_aux_lemma =>
                      have jc_23 := dk_neqc (k := 0) (by decide +kernel) c_23
                      have hn_x_21 : ¬ (b1).toInt = 487300623205 := by omega
                      clear hlc_x_21
                      refine lv_lload_n hx hb dX12_isOwn_42 rfl (lv_at hl 1 rfl) ?_
                      refine lv_ldc2 hx hb hown (hts _ (bw_mem wB_330)) dX12_isOwn_43 ?_
                      refine W.lcmp hx hb dX12_isOwn_46 ?_
                      refine lv_topi (fun x_24 ex_24 => ?_)
                      have hz_24 : (444300616805 : Int64).toInt = 444300616805 := by decide +kernel
                      have hlc_x_24 := dk_lcmp ex_24
                      refine lv_if_eq (tgt := 82) hx hb dX12_isOwn_47 (dk_dq rfl) (fun c_26 => ?_) (fun c_26 => ?_)
                      · have jc_26 := dk_eqc (k := 0) (by decide +kernel) c_26
                        have he_x_24 : (b1).toInt = 444300616805 := by omega
                        clear hlc_x_24
                        refine lv_iconst (v := 1) hx hb dX12_isOwn_82 (by decide +kernel) ?_
                        have hz_27 : (1 : Int32).toInt = 1 := by decide +kernel
                        have hz_28 : (1 : Int32).toInt = 1 := by decide +kernel
                        refine W.widen (k := 0) (n := 0) (Nat.le_of_ble_eq_true rfl) (Nat.le_of_ble_eq_true rfl) ?_
                        exact dg_iret hx hb hr hlocks (by decide +kernel) hP hS ⟨rfl, (by decide +kernel), ⟨fun _ => by rw [m_ow_tab, m_tab_eq, he_x_24]; decide, fun _ => by decide +kernel⟩, trivial⟩ dX12_isOwn_83
                      · as_aux_lemma =>
                          have jc_26 := dk_neqc (k := 0) (by decide +kernel) c_26
                          have hn_x_24 : ¬ (b1).toInt = 444300616805 := by omega
                          clear hlc_x_24
                          refine lv_lload_n hx hb dX12_isOwn_50 rfl (lv_at hl 1 rfl) ?_
                          refine lv_ldc2 hx hb hown (hts _ (bw_mem wB_331)) dX12_isOwn_51 ?_
                          refine W.lcmp hx hb dX12_isOwn_54 ?_
                          refine lv_topi (fun x_29 ex_29 => ?_)
                          have hz_29 : (469920277874 : Int64).toInt = 469920277874 := by decide +kernel
                          have hlc_x_29 := dk_lcmp ex_29
                          refine lv_if_eq (tgt := 82) hx hb dX12_isOwn_55 (dk_dq rfl) (fun c_31 => ?_) (fun c_31 => ?_)
                          · have jc_31 := dk_eqc (k := 0) (by decide +kernel) c_31
                            have he_x_29 : (b1).toInt = 469920277874 := by omega
                            clear hlc_x_29
                            refine lv_iconst (v := 1) hx hb dX12_isOwn_82 (by decide +kernel) ?_
                            have hz_32 : (1 : Int32).toInt = 1 := by decide +kernel
                            have hz_33 : (1 : Int32).toInt = 1 := by decide +kernel
                            refine W.widen (k := 0) (n := 0) (Nat.le_of_ble_eq_true rfl) (Nat.le_of_ble_eq_true rfl) ?_
                            exact dg_iret hx hb hr hlocks (by decide +kernel) hP hS ⟨rfl, (by decide +kernel), ⟨fun _ => by rw [m_ow_tab, m_tab_eq, he_x_29]; decide, fun _ => by decide +kernel⟩, trivial⟩ dX12_isOwn_83
                          · as_aux_lemma =>
                              have jc_31 := dk_neqc (k := 0) (by decide +kernel) c_31
                              have hn_x_29 : ¬ (b1).toInt = 469920277874 := by omega
                              clear hlc_x_29
                              refine lv_lload_n hx hb dX12_isOwn_58 rfl (lv_at hl 1 rfl) ?_
                              refine lv_ldc2 hx hb hown (hts _ (bw_mem wB_332)) dX12_isOwn_59 ?_
                              refine W.lcmp hx hb dX12_isOwn_62 ?_
                              refine lv_topi (fun x_34 ex_34 => ?_)
                              have hz_34 : (6580583 : Int64).toInt = 6580583 := by decide +kernel
                              have hlc_x_34 := dk_lcmp ex_34
                              refine lv_if_eq (tgt := 82) hx hb dX12_isOwn_63 (dk_dq rfl) (fun c_36 => ?_) (fun c_36 => ?_)
                              · have jc_36 := dk_eqc (k := 0) (by decide +kernel) c_36
                                have he_x_34 : (b1).toInt = 6580583 := by omega
                                clear hlc_x_34
                                refine lv_iconst (v := 1) hx hb dX12_isOwn_82 (by decide +kernel) ?_
                                have hz_37 : (1 : Int32).toInt = 1 := by decide +kernel
                                have hz_38 : (1 : Int32).toInt = 1 := by decide +kernel
                                refine W.widen (k := 0) (n := 0) (Nat.le_of_ble_eq_true rfl) (Nat.le_of_ble_eq_true rfl) ?_
                                exact dg_iret hx hb hr hlocks (by decide +kernel) hP hS ⟨rfl, (by decide +kernel), ⟨fun _ => by rw [m_ow_tab, m_tab_eq, he_x_34]; decide, fun _ => by decide +kernel⟩, trivial⟩ dX12_isOwn_83
                              · as_aux_lemma =>
                                  have jc_36 := dk_neqc (k := 0) (by decide +kernel) c_36
                                  have hn_x_34 : ¬ (b1).toInt = 6580583 := by omega
                                  clear hlc_x_34
                                  refine lv_lload_n hx hb dX12_isOwn_66 rfl (lv_at hl 1 rfl) ?_
                                  refine lv_ldc2 hx hb hown (hts _ (bw_mem wB_333)) dX12_isOwn_67 ?_
                                  refine W.lcmp hx hb dX12_isOwn_70 ?_
                                  refine lv_topi (fun x_39 ex_39 => ?_)
                                  have hz_39 : (24948 : Int64).toInt = 24948 := by decide +kernel
                                  have hlc_x_39 := dk_lcmp ex_39
                                  refine lv_if_eq (tgt := 82) hx hb dX12_isOwn_71 (dk_dq rfl) (fun c_41 => ?_) (fun c_41 => ?_)
                                  · have jc_41 := dk_eqc (k := 0) (by decide +kernel) c_41
                                    have he_x_39 : (b1).toInt = 24948 := by omega
                                    clear hlc_x_39
                                    refine lv_iconst (v := 1) hx hb dX12_isOwn_82 (by decide +kernel) ?_
                                    have hz_42 : (1 : Int32).toInt = 1 := by decide +kernel
                                    have hz_43 : (1 : Int32).toInt = 1 := by decide +kernel
                                    refine W.widen (k := 0) (n := 0) (Nat.le_of_ble_eq_true rfl) (Nat.le_of_ble_eq_true rfl) ?_
                                    exact dg_iret hx hb hr hlocks (by decide +kernel) hP hS ⟨rfl, (by decide +kernel), ⟨fun _ => by rw [m_ow_tab, m_tab_eq, he_x_39]; decide, fun _ => by decide +kernel⟩, trivial⟩ dX12_isOwn_83
                                  · as_aux_lemma =>
                                      have jc_41 := dk_neqc (k := 0) (by decide +kernel) c_41
                                      have hn_x_39 : ¬ (b1).toInt = 24948 := by omega
                                      clear hlc_x_39
                                      refine lv_lload_n hx hb dX12_isOwn_74 rfl (lv_at hl 1 rfl) ?_
                                      refine lv_ldc2 hx hb hown (hts _ (bw_mem wB_334)) dX12_isOwn_75 ?_
                                      refine W.lcmp hx hb dX12_isOwn_78 ?_
                                      refine lv_topi (fun x_44 ex_44 => ?_)
                                      have hz_44 : (478660552050 : Int64).toInt = 478660552050 := by decide +kernel
                                      have hlc_x_44 := dk_lcmp ex_44
                                      refine lv_if_ne (tgt := 84) hx hb dX12_isOwn_79 (dk_dq rfl) (fun c_46 => ?_) (fun c_46 => ?_)
                                      · as_aux_lemma =>
                                          have jc_46 := dk_neqc (k := 0) (by decide +kernel) c_46
                                          have hn_x_44 : ¬ (b1).toInt = 478660552050 := by omega
                                          clear hlc_x_44
                                          refine lv_lload_n hx hb dX12_isOwn_84 rfl (lv_at hl 1 rfl) ?_
                                          refine lv_ldc2 hx hb hown (hts _ (bw_mem wB_335)) dX12_isOwn_85 ?_
                                          refine W.lcmp hx hb dX12_isOwn_88 ?_
                                          refine lv_topi (fun x_47 ex_47 => ?_)
                                          have hz_47 : (1953849971 : Int64).toInt = 1953849971 := by decide +kernel
                                          have hlc_x_47 := dk_lcmp ex_47
                                          refine lv_if_eq (tgt := 124) hx hb dX12_isOwn_89 (dk_dq rfl) (fun c_49 => ?_) (fun c_49 => ?_)
                                          · have jc_49 := dk_eqc (k := 0) (by decide +kernel) c_49
                                            have he_x_47 : (b1).toInt = 1953849971 := by omega
                                            clear hlc_x_47
                                            refine lv_iconst (v := 1) hx hb dX12_isOwn_124 (by decide +kernel) ?_
                                            have hz_50 : (1 : Int32).toInt = 1 := by decide +kernel
                                            have hz_51 : (1 : Int32).toInt = 1 := by decide +kernel
                                            refine W.widen (k := 0) (n := 0) (Nat.le_of_ble_eq_true rfl) (Nat.le_of_ble_eq_true rfl) ?_
                                            exact dg_iret hx hb hr hlocks (by decide +kernel) hP hS ⟨rfl, (by decide +kernel), ⟨fun _ => by rw [m_ow_tab, m_tab_eq, he_x_47]; decide, fun _ => by decide +kernel⟩, trivial⟩ dX12_isOwn_125
                                          · as_aux_lemma =>
                                              have jc_49 := dk_neqc (k := 0) (by decide +kernel) c_49
                                              have hn_x_47 : ¬ (b1).toInt = 1953849971 := by omega
                                              clear hlc_x_47
                                              refine lv_lload_n hx hb dX12_isOwn_92 rfl (lv_at hl 1 rfl) ?_
                                              refine lv_ldc2 hx hb hown (hts _ (bw_mem wB_336)) dX12_isOwn_93 ?_
                                              refine W.lcmp hx hb dX12_isOwn_96 ?_
                                              refine lv_topi (fun x_52 ex_52 => ?_)
                                              have hz_52 : (1885436275 : Int64).toInt = 1885436275 := by decide +kernel
                                              have hlc_x_52 := dk_lcmp ex_52
                                              refine lv_if_eq (tgt := 124) hx hb dX12_isOwn_97 (dk_dq rfl) (fun c_54 => ?_) (fun c_54 => ?_)
                                              · have jc_54 := dk_eqc (k := 0) (by decide +kernel) c_54
                                                have he_x_52 : (b1).toInt = 1885436275 := by omega
                                                clear hlc_x_52
                                                refine lv_iconst (v := 1) hx hb dX12_isOwn_124 (by decide +kernel) ?_
                                                have hz_55 : (1 : Int32).toInt = 1 := by decide +kernel
                                                have hz_56 : (1 : Int32).toInt = 1 := by decide +kernel
                                                refine W.widen (k := 0) (n := 0) (Nat.le_of_ble_eq_true rfl) (Nat.le_of_ble_eq_true rfl) ?_
                                                exact dg_iret hx hb hr hlocks (by decide +kernel) hP hS ⟨rfl, (by decide +kernel), ⟨fun _ => by rw [m_ow_tab, m_tab_eq, he_x_52]; decide, fun _ => by decide +kernel⟩, trivial⟩ dX12_isOwn_125
                                              · as_aux_lemma =>
                                                  have jc_54 := dk_neqc (k := 0) (by decide +kernel) c_54
                                                  have hn_x_52 : ¬ (b1).toInt = 1885436275 := by omega
                                                  clear hlc_x_52
                                                  refine lv_lload_n hx hb dX12_isOwn_100 rfl (lv_at hl 1 rfl) ?_
                                                  refine lv_ldc2 hx hb hown (hts _ (bw_mem wB_337)) dX12_isOwn_101 ?_
                                                  refine W.lcmp hx hb dX12_isOwn_104 ?_
                                                  refine lv_topi (fun x_57 ex_57 => ?_)
                                                  have hz_57 : (126926742711411 : Int64).toInt = 126926742711411 := by decide +kernel
                                                  have hlc_x_57 := dk_lcmp ex_57
                                                  refine lv_if_eq (tgt := 124) hx hb dX12_isOwn_105 (dk_dq rfl) (fun c_59 => ?_) (fun c_59 => ?_)
                                                  · have jc_59 := dk_eqc (k := 0) (by decide +kernel) c_59
                                                    have he_x_57 : (b1).toInt = 126926742711411 := by omega
                                                    clear hlc_x_57
                                                    refine lv_iconst (v := 1) hx hb dX12_isOwn_124 (by decide +kernel) ?_
                                                    have hz_60 : (1 : Int32).toInt = 1 := by decide +kernel
                                                    have hz_61 : (1 : Int32).toInt = 1 := by decide +kernel
                                                    refine W.widen (k := 0) (n := 0) (Nat.le_of_ble_eq_true rfl) (Nat.le_of_ble_eq_true rfl) ?_
                                                    exact dg_iret hx hb hr hlocks (by decide +kernel) hP hS ⟨rfl, (by decide +kernel), ⟨fun _ => by rw [m_ow_tab, m_tab_eq, he_x_57]; decide, fun _ => by decide +kernel⟩, trivial⟩ dX12_isOwn_125
                                                  · as_aux_lemma =>
                                                      have jc_59 := dk_neqc (k := 0) (by decide +kernel) c_59
                                                      have hn_x_57 : ¬ (b1).toInt = 126926742711411 := by omega
                                                      clear hlc_x_57
                                                      refine lv_lload_n hx hb dX12_isOwn_108 rfl (lv_at hl 1 rfl) ?_
                                                      refine lv_ldc2 hx hb hown (hts _ (bw_mem wB_338)) dX12_isOwn_109 ?_
                                                      refine W.lcmp hx hb dX12_isOwn_112 ?_
                                                      refine lv_topi (fun x_62 ex_62 => ?_)
                                                      have hz_62 : (439721159795 : Int64).toInt = 439721159795 := by decide +kernel
                                                      have hlc_x_62 := dk_lcmp ex_62
                                                      refine lv_if_eq (tgt := 124) hx hb dX12_isOwn_113 (dk_dq rfl) (fun c_64 => ?_) (fun c_64 => ?_)
                                                      · have jc_64 := dk_eqc (k := 0) (by decide +kernel) c_64
                                                        have he_x_62 : (b1).toInt = 439721159795 := by omega
                                                        clear hlc_x_62
                                                        refine lv_iconst (v := 1) hx hb dX12_isOwn_124 (by decide +kernel) ?_
                                                        have hz_65 : (1 : Int32).toInt = 1 := by decide +kernel
                                                        have hz_66 : (1 : Int32).toInt = 1 := by decide +kernel
                                                        refine W.widen (k := 0) (n := 0) (Nat.le_of_ble_eq_true rfl) (Nat.le_of_ble_eq_true rfl) ?_
                                                        exact dg_iret hx hb hr hlocks (by decide +kernel) hP hS ⟨rfl, (by decide +kernel), ⟨fun _ => by rw [m_ow_tab, m_tab_eq, he_x_62]; decide, fun _ => by decide +kernel⟩, trivial⟩ dX12_isOwn_125
                                                      · as_aux_lemma =>
                                                          have jc_64 := dk_neqc (k := 0) (by decide +kernel) c_64
                                                          have hn_x_62 : ¬ (b1).toInt = 439721159795 := by omega
                                                          clear hlc_x_62
                                                          refine lv_lload_n hx hb dX12_isOwn_116 rfl (lv_at hl 1 rfl) ?_
                                                          refine lv_ldc2 hx hb hown (hts _ (bw_mem wB_339)) dX12_isOwn_117 ?_
                                                          refine W.lcmp hx hb dX12_isOwn_120 ?_
                                                          refine lv_topi (fun x_67 ex_67 => ?_)
                                                          have hz_67 : (1734702195 : Int64).toInt = 1734702195 := by decide +kernel
                                                          have hlc_x_67 := dk_lcmp ex_67
                                                          refine lv_if_ne (tgt := 126) hx hb dX12_isOwn_121 (dk_dq rfl) (fun c_69 => ?_) (fun c_69 => ?_)
                                                          · as_aux_lemma =>
                                                              have jc_69 := dk_neqc (k := 0) (by decide +kernel) c_69
                                                              have hn_x_67 : ¬ (b1).toInt = 1734702195 := by omega
                                                              clear hlc_x_67
                                                              refine lv_lload_n hx hb dX12_isOwn_126 rfl (lv_at hl 1 rfl) ?_
                                                              refine lv_ldc2 hx hb hown (hts _ (bw_mem wB_340)) dX12_isOwn_127 ?_
                                                              refine W.lcmp hx hb dX12_isOwn_130 ?_
                                                              refine lv_topi (fun x_70 ex_70 => ?_)
                                                              have hz_70 : (431198598248 : Int64).toInt = 431198598248 := by decide +kernel
                                                              have hlc_x_70 := dk_lcmp ex_70
                                                              refine lv_if_eq (tgt := 166) hx hb dX12_isOwn_131 (dk_dq rfl) (fun c_72 => ?_) (fun c_72 => ?_)
                                                              · have jc_72 := dk_eqc (k := 0) (by decide +kernel) c_72
                                                                have he_x_70 : (b1).toInt = 431198598248 := by omega
                                                                clear hlc_x_70
                                                                refine lv_iconst (v := 1) hx hb dX12_isOwn_166 (by decide +kernel) ?_
                                                                have hz_73 : (1 : Int32).toInt = 1 := by decide +kernel
                                                                have hz_74 : (1 : Int32).toInt = 1 := by decide +kernel
                                                                refine W.widen (k := 0) (n := 0) (Nat.le_of_ble_eq_true rfl) (Nat.le_of_ble_eq_true rfl) ?_
                                                                exact dg_iret hx hb hr hlocks (by decide +kernel) hP hS ⟨rfl, (by decide +kernel), ⟨fun _ => by rw [m_ow_tab, m_tab_eq, he_x_70]; decide, fun _ => by decide +kernel⟩, trivial⟩ dX12_isOwn_167
                                                              · as_aux_lemma =>
                                                                  have jc_72 := dk_neqc (k := 0) (by decide +kernel) c_72
                                                                  have hn_x_70 : ¬ (b1).toInt = 431198598248 := by omega
                                                                  clear hlc_x_70
                                                                  refine lv_lload_n hx hb dX12_isOwn_134 rfl (lv_at hl 1 rfl) ?_
                                                                  refine lv_ldc2 hx hb hown (hts _ (bw_mem wB_341)) dX12_isOwn_135 ?_
                                                                  refine W.lcmp hx hb dX12_isOwn_138 ?_
                                                                  refine lv_topi (fun x_75 ex_75 => ?_)
                                                                  have hz_75 : (495672977012 : Int64).toInt = 495672977012 := by decide +kernel
                                                                  have hlc_x_75 := dk_lcmp ex_75
                                                                  refine lv_if_eq (tgt := 166) hx hb dX12_isOwn_139 (dk_dq rfl) (fun c_77 => ?_) (fun c_77 => ?_)
                                                                  · have jc_77 := dk_eqc (k := 0) (by decide +kernel) c_77
                                                                    have he_x_75 : (b1).toInt = 495672977012 := by omega
                                                                    clear hlc_x_75
                                                                    refine lv_iconst (v := 1) hx hb dX12_isOwn_166 (by decide +kernel) ?_
                                                                    have hz_78 : (1 : Int32).toInt = 1 := by decide +kernel
                                                                    have hz_79 : (1 : Int32).toInt = 1 := by decide +kernel
                                                                    refine W.widen (k := 0) (n := 0) (Nat.le_of_ble_eq_true rfl) (Nat.le_of_ble_eq_true rfl) ?_
                                                                    exact dg_iret hx hb hr hlocks (by decide +kernel) hP hS ⟨rfl, (by decide +kernel), ⟨fun _ => by rw [m_ow_tab, m_tab_eq, he_x_75]; decide, fun _ => by decide +kernel⟩, trivial⟩ dX12_isOwn_167
                                                                  · as_aux_lemma =>
                                                                      have jc_77 := dk_neqc (k := 0) (by decide +kernel) c_77
                                                                      have hn_x_75 : ¬ (b1).toInt = 495672977012 := by omega
                                                                      clear hlc_x_75
                                                                      refine lv_lload_n hx hb dX12_isOwn_142 rfl (lv_at hl 1 rfl) ?_
                                                                      refine lv_ldc2 hx hb hown (hts _ (bw_mem wB_342)) dX12_isOwn_143 ?_
                                                                      refine W.lcmp hx hb dX12_isOwn_146 ?_
                                                                      refine lv_topi (fun x_80 ex_80 => ?_)
                                                                      have hz_80 : (6709618 : Int64).toInt = 6709618 := by decide +kernel
                                                                      have hlc_x_80 := dk_lcmp ex_80
                                                                      refine lv_if_eq (tgt := 166) hx hb dX12_isOwn_147 (dk_dq rfl) (fun c_82 => ?_) (fun c_82 => ?_)
                                                                      · have jc_82 := dk_eqc (k := 0) (by decide +kernel) c_82
                                                                        have he_x_80 : (b1).toInt = 6709618 := by omega
                                                                        clear hlc_x_80
                                                                        refine lv_iconst (v := 1) hx hb dX12_isOwn_166 (by decide +kernel) ?_
                                                                        have hz_83 : (1 : Int32).toInt = 1 := by decide +kernel
                                                                        have hz_84 : (1 : Int32).toInt = 1 := by decide +kernel
                                                                        refine W.widen (k := 0) (n := 0) (Nat.le_of_ble_eq_true rfl) (Nat.le_of_ble_eq_true rfl) ?_
                                                                        exact dg_iret hx hb hr hlocks (by decide +kernel) hP hS ⟨rfl, (by decide +kernel), ⟨fun _ => by rw [m_ow_tab, m_tab_eq, he_x_80]; decide, fun _ => by decide +kernel⟩, trivial⟩ dX12_isOwn_167
                                                                      · as_aux_lemma =>
                                                                          have jc_82 := dk_neqc (k := 0) (by decide +kernel) c_82
                                                                          have hn_x_80 : ¬ (b1).toInt = 6709618 := by omega
                                                                          clear hlc_x_80
                                                                          refine lv_lload_n hx hb dX12_isOwn_150 rfl (lv_at hl 1 rfl) ?_
                                                                          refine lv_ldc2 hx hb hown (hts _ (bw_mem wB_343)) dX12_isOwn_151 ?_
                                                                          refine W.lcmp hx hb dX12_isOwn_154 ?_
                                                                          refine lv_topi (fun x_85 ex_85 => ?_)
                                                                          have hz_85 : (1869636974 : Int64).toInt = 1869636974 := by decide +kernel
                                                                          have hlc_x_85 := dk_lcmp ex_85
                                                                          refine lv_if_eq (tgt := 166) hx hb dX12_isOwn_155 (dk_dq rfl) (fun c_87 => ?_) (fun c_87 => ?_)
                                                                          · have jc_87 := dk_eqc (k := 0) (by decide +kernel) c_87
                                                                            have he_x_85 : (b1).toInt = 1869636974 := by omega
                                                                            clear hlc_x_85
                                                                            refine lv_iconst (v := 1) hx hb dX12_isOwn_166 (by decide +kernel) ?_
                                                                            have hz_88 : (1 : Int32).toInt = 1 := by decide +kernel
                                                                            have hz_89 : (1 : Int32).toInt = 1 := by decide +kernel
                                                                            refine W.widen (k := 0) (n := 0) (Nat.le_of_ble_eq_true rfl) (Nat.le_of_ble_eq_true rfl) ?_
                                                                            exact dg_iret hx hb hr hlocks (by decide +kernel) hP hS ⟨rfl, (by decide +kernel), ⟨fun _ => by rw [m_ow_tab, m_tab_eq, he_x_85]; decide, fun _ => by decide +kernel⟩, trivial⟩ dX12_isOwn_167
                                                                          · as_aux_lemma =>
                                                                              have jc_87 := dk_neqc (k := 0) (by decide +kernel) c_87
                                                                              have hn_x_85 : ¬ (b1).toInt = 1869636974 := by omega
                                                                              clear hlc_x_85
                                                                              refine lv_lload_n hx hb dX12_isOwn_158 rfl (lv_at hl 1 rfl) ?_
                                                                              refine lv_ldc2 hx hb hown (hts _ (bw_mem wB_344)) dX12_isOwn_159 ?_
                                                                              refine W.lcmp hx hb dX12_isOwn_162 ?_
                                                                              refine lv_topi (fun x_90 ex_90 => ?_)
                                                                              have hz_90 : (7104884 : Int64).toInt = 7104884 := by decide +kernel
                                                                              have hlc_x_90 := dk_lcmp ex_90
                                                                              refine lv_if_ne (tgt := 168) hx hb dX12_isOwn_163 (dk_dq rfl) (fun c_92 => ?_) (fun c_92 => ?_)
                                                                              · as_aux_lemma =>
                                                                                  have jc_92 := dk_neqc (k := 0) (by decide +kernel) c_92
                                                                                  have hn_x_90 : ¬ (b1).toInt = 7104884 := by omega
                                                                                  clear hlc_x_90
                                                                                  refine lv_lload_n hx hb dX12_isOwn_168 rfl (lv_at hl 1 rfl) ?_
                                                                                  refine lv_ldc2 hx hb hown (hts _ (bw_mem wB_345)) dX12_isOwn_169 ?_
                                                                                  refine W.lcmp hx hb dX12_isOwn_172 ?_
                                                                                  refine lv_topi (fun x_93 ex_93 => ?_)
                                                                                  have hz_93 : (26982 : Int64).toInt = 26982 := by decide +kernel
                                                                                  have hlc_x_93 := dk_lcmp ex_93
                                                                                  refine lv_if_eq (tgt := 208) hx hb dX12_isOwn_173 (dk_dq rfl) (fun c_95 => ?_) (fun c_95 => ?_)
                                                                                  · have jc_95 := dk_eqc (k := 0) (by decide +kernel) c_95
                                                                                    have he_x_93 : (b1).toInt = 26982 := by omega
                                                                                    clear hlc_x_93
                                                                                    refine lv_iconst (v := 1) hx hb dX12_isOwn_208 (by decide +kernel) ?_
                                                                                    have hz_96 : (1 : Int32).toInt = 1 := by decide +kernel
                                                                                    have hz_97 : (1 : Int32).toInt = 1 := by decide +kernel
                                                                                    refine W.widen (k := 0) (n := 0) (Nat.le_of_ble_eq_true rfl) (Nat.le_of_ble_eq_true rfl) ?_
                                                                                    exact dg_iret hx hb hr hlocks (by decide +kernel) hP hS ⟨rfl, (by decide +kernel), ⟨fun _ => by rw [m_ow_tab, m_tab_eq, he_x_93]; decide, fun _ => by decide +kernel⟩, trivial⟩ dX12_isOwn_209
                                                                                  · as_aux_lemma =>
                                                                                      have jc_95 := dk_neqc (k := 0) (by decide +kernel) c_95
                                                                                      have hn_x_93 : ¬ (b1).toInt = 26982 := by omega
                                                                                      clear hlc_x_93
                                                                                      refine lv_lload_n hx hb dX12_isOwn_176 rfl (lv_at hl 1 rfl) ?_
                                                                                      refine lv_ldc2 hx hb hown (hts _ (bw_mem wB_346)) dX12_isOwn_177 ?_
                                                                                      refine W.lcmp hx hb dX12_isOwn_180 ?_
                                                                                      refine lv_topi (fun x_98 ex_98 => ?_)
                                                                                      have hz_98 : (28530 : Int64).toInt = 28530 := by decide +kernel
                                                                                      have hlc_x_98 := dk_lcmp ex_98
                                                                                      refine lv_if_eq (tgt := 208) hx hb dX12_isOwn_181 (dk_dq rfl) (fun c_100 => ?_) (fun c_100 => ?_)
                                                                                      · have jc_100 := dk_eqc (k := 0) (by decide +kernel) c_100
                                                                                        have he_x_98 : (b1).toInt = 28530 := by omega
                                                                                        clear hlc_x_98
                                                                                        refine lv_iconst (v := 1) hx hb dX12_isOwn_208 (by decide +kernel) ?_
                                                                                        have hz_101 : (1 : Int32).toInt = 1 := by decide +kernel
                                                                                        have hz_102 : (1 : Int32).toInt = 1 := by decide +kernel
                                                                                        refine W.widen (k := 0) (n := 0) (Nat.le_of_ble_eq_true rfl) (Nat.le_of_ble_eq_true rfl) ?_
                                                                                        exact dg_iret hx hb hr hlocks (by decide +kernel) hP hS ⟨rfl, (by decide +kernel), ⟨fun _ => by rw [m_ow_tab, m_tab_eq, he_x_98]; decide, fun _ => by decide +kernel⟩, trivial⟩ dX12_isOwn_209
                                                                                      · as_aux_lemma =>
                                                                                          have jc_100 := dk_neqc (k := 0) (by decide +kernel) c_100
                                                                                          have hn_x_98 : ¬ (b1).toInt = 28530 := by omega
                                                                                          clear hlc_x_98
                                                                                          refine lv_lload_n hx hb dX12_isOwn_184 rfl (lv_at hl 1 rfl) ?_
                                                                                          refine lv_ldc2 hx hb hown (hts _ (bw_mem wB_347)) dX12_isOwn_185 ?_
                                                                                          refine W.lcmp hx hb dX12_isOwn_188 ?_
                                                                                          refine lv_topi (fun x_103 ex_103 => ?_)
                                                                                          have hz_103 : (6385252 : Int64).toInt = 6385252 := by decide +kernel
                                                                                          have hlc_x_103 := dk_lcmp ex_103
                                                                                          refine lv_if_eq (tgt := 208) hx hb dX12_isOwn_189 (dk_dq rfl) (fun c_105 => ?_) (fun c_105 => ?_)
                                                                                          · have jc_105 := dk_eqc (k := 0) (by decide +kernel) c_105
                                                                                            have he_x_103 : (b1).toInt = 6385252 := by omega
                                                                                            clear hlc_x_103
                                                                                            refine lv_iconst (v := 1) hx hb dX12_isOwn_208 (by decide +kernel) ?_
                                                                                            have hz_106 : (1 : Int32).toInt = 1 := by decide +kernel
                                                                                            have hz_107 : (1 : Int32).toInt = 1 := by decide +kernel
                                                                                            refine W.widen (k := 0) (n := 0) (Nat.le_of_ble_eq_true rfl) (Nat.le_of_ble_eq_true rfl) ?_
                                                                                            exact dg_iret hx hb hr hlocks (by decide +kernel) hP hS ⟨rfl, (by decide +kernel), ⟨fun _ => by rw [m_ow_tab, m_tab_eq, he_x_103]; decide, fun _ => by decide +kernel⟩, trivial⟩ dX12_isOwn_209
                                                                                          · as_aux_lemma =>
                                                                                              have jc_105 := dk_neqc (k := 0) (by decide +kernel) c_105
                                                                                              have hn_x_103 : ¬ (b1).toInt = 6385252 := by omega
                                                                                              clear hlc_x_103
                                                                                              refine lv_lload_n hx hb dX12_isOwn_192 rfl (lv_at hl 1 rfl) ?_
                                                                                              refine lv_ldc2 hx hb hown (hts _ (bw_mem wB_348)) dX12_isOwn_193 ?_
                                                                                              refine W.lcmp hx hb dX12_isOwn_196 ?_
                                                                                              refine lv_topi (fun x_108 ex_108 => ?_)
                                                                                              have hz_108 : (7237492 : Int64).toInt = 7237492 := by decide +kernel
                                                                                              have hlc_x_108 := dk_lcmp ex_108
                                                                                              refine lv_if_eq (tgt := 208) hx hb dX12_isOwn_197 (dk_dq rfl) (fun c_110 => ?_) (fun c_110 => ?_)
                                                                                              · have jc_110 := dk_eqc (k := 0) (by decide +kernel) c_110
                                                                                                have he_x_108 : (b1).toInt = 7237492 := by omega
                                                                                                clear hlc_x_108
                                                                                                refine lv_iconst (v := 1) hx hb dX12_isOwn_208 (by decide +kernel) ?_
                                                                                                have hz_111 : (1 : Int32).toInt = 1 := by decide +kernel
                                                                                                have hz_112 : (1 : Int32).toInt = 1 := by decide +kernel
                                                                                                refine W.widen (k := 0) (n := 0) (Nat.le_of_ble_eq_true rfl) (Nat.le_of_ble_eq_true rfl) ?_
                                                                                                exact dg_iret hx hb hr hlocks (by decide +kernel) hP hS ⟨rfl, (by decide +kernel), ⟨fun _ => by rw [m_ow_tab, m_tab_eq, he_x_108]; decide, fun _ => by decide +kernel⟩, trivial⟩ dX12_isOwn_209
                                                                                              · as_aux_lemma =>
                                                                                                  have jc_110 := dk_neqc (k := 0) (by decide +kernel) c_110
                                                                                                  have hn_x_108 : ¬ (b1).toInt = 7237492 := by omega
                                                                                                  clear hlc_x_108
                                                                                                  refine lv_lload_n hx hb dX12_isOwn_200 rfl (lv_at hl 1 rfl) ?_
                                                                                                  refine lv_ldc2 hx hb hown (hts _ (bw_mem wB_349)) dX12_isOwn_201 ?_
                                                                                                  refine W.lcmp hx hb dX12_isOwn_204 ?_
                                                                                                  refine lv_topi (fun x_113 ex_113 => ?_)
                                                                                                  have hz_113 : (6384748 : Int64).toInt = 6384748 := by decide +kernel
                                                                                                  have hlc_x_113 := dk_lcmp ex_113
                                                                                                  refine lv_if_ne (tgt := 210) hx hb dX12_isOwn_205 (dk_dq rfl) (fun c_115 => ?_) (fun c_115 => ?_)
                                                                                                  · as_aux_lemma =>
                                                                                                      have jc_115 := dk_neqc (k := 0) (by decide +kernel) c_115
                                                                                                      have hn_x_113 : ¬ (b1).toInt = 6384748 := by omega
                                                                                                      clear hlc_x_113
                                                                                                      refine lv_lload_n hx hb dX12_isOwn_210 rfl (lv_at hl 1 rfl) ?_
                                                                                                      refine lv_ldc2 hx hb hown (hts _ (bw_mem wB_350)) dX12_isOwn_211 ?_
                                                                                                      refine W.lcmp hx hb dX12_isOwn_214 ?_
                                                                                                      refine lv_topi (fun x_116 ex_116 => ?_)
                                                                                                      have hz_116 : (7170414 : Int64).toInt = 7170414 := by decide +kernel
                                                                                                      have hlc_x_116 := dk_lcmp ex_116
                                                                                                      refine lv_if_eq (tgt := 226) hx hb dX12_isOwn_215 (dk_dq rfl) (fun c_118 => ?_) (fun c_118 => ?_)
                                                                                                      · have jc_118 := dk_eqc (k := 0) (by decide +kernel) c_118
                                                                                                        have he_x_116 : (b1).toInt = 7170414 := by omega
                                                                                                        clear hlc_x_116
                                                                                                        refine lv_iconst (v := 1) hx hb dX12_isOwn_226 (by decide +kernel) ?_
                                                                                                        have hz_119 : (1 : Int32).toInt = 1 := by decide +kernel
                                                                                                        have hz_120 : (1 : Int32).toInt = 1 := by decide +kernel
                                                                                                        refine W.widen (k := 0) (n := 0) (Nat.le_of_ble_eq_true rfl) (Nat.le_of_ble_eq_true rfl) ?_
                                                                                                        exact dg_iret hx hb hr hlocks (by decide +kernel) hP hS ⟨rfl, (by decide +kernel), ⟨fun _ => by rw [m_ow_tab, m_tab_eq, he_x_116]; decide, fun _ => by decide +kernel⟩, trivial⟩ dX12_isOwn_227
                                                                                                      · as_aux_lemma =>
                                                                                                          have jc_118 := dk_neqc (k := 0) (by decide +kernel) c_118
                                                                                                          have hn_x_116 : ¬ (b1).toInt = 7170414 := by omega
                                                                                                          clear hlc_x_116
                                                                                                          refine lv_lload_n hx hb dX12_isOwn_218 rfl (lv_at hl 1 rfl) ?_
                                                                                                          refine lv_ldc2 hx hb hown (hts _ (bw_mem wB_351)) dX12_isOwn_219 ?_
                                                                                                          refine W.lcmp hx hb dX12_isOwn_222 ?_
                                                                                                          refine lv_topi (fun x_121 ex_121 => ?_)
                                                                                                          have hz_121 : (7168376 : Int64).toInt = 7168376 := by decide +kernel
                                                                                                          have hlc_x_121 := dk_lcmp ex_121
                                                                                                          refine lv_if_ne (tgt := 228) hx hb dX12_isOwn_223 (dk_dq rfl) (fun c_123 => ?_) (fun c_123 => ?_)
                                                                                                          · have jc_123 := dk_neqc (k := 0) (by decide +kernel) c_123
                                                                                                            have hn_x_121 : ¬ (b1).toInt = 7168376 := by omega
                                                                                                            clear hlc_x_121
                                                                                                            refine lv_iconst (v := 0) hx hb dX12_isOwn_228 (by decide +kernel) ?_
                                                                                                            have hz_124 : (0 : Int32).toInt = 0 := by decide +kernel
                                                                                                            have hz_125 : (0 : Int32).toInt = 0 := by decide +kernel
                                                                                                            refine W.widen (k := 0) (n := 0) (Nat.le_of_ble_eq_true rfl) (Nat.le_of_ble_eq_true rfl) ?_
                                                                                                            exact dg_iret hx hb hr hlocks (by decide +kernel) hP hS ⟨rfl, (by decide +kernel), ⟨fun q9 => absurd q9 (by decide +kernel), fun q9 => by rw [m_ow_tab, m_tab_eq] at q9; simp only [List.mem_cons, List.not_mem_nil, or_false, hn_x_1, hn_x_6, hn_x_11, hn_x_16, hn_x_21, hn_x_24, hn_x_29, hn_x_34, hn_x_39, hn_x_44, hn_x_47, hn_x_52, hn_x_57, hn_x_62, hn_x_67, hn_x_70, hn_x_75, hn_x_80, hn_x_85, hn_x_90, hn_x_93, hn_x_98, hn_x_103, hn_x_108, hn_x_113, hn_x_116, hn_x_121] at q9⟩, trivial⟩ dX12_isOwn_229
                                                                                                          · have jc_123 := dk_eqc (k := 0) (by decide +kernel) c_123
                                                                                                            have he_x_121 : (b1).toInt = 7168376 := by omega
                                                                                                            clear hlc_x_121
                                                                                                            refine lv_iconst (v := 1) hx hb dX12_isOwn_226 (by decide +kernel) ?_
                                                                                                            have hz_126 : (1 : Int32).toInt = 1 := by decide +kernel
                                                                                                            have hz_127 : (1 : Int32).toInt = 1 := by decide +kernel
                                                                                                            refine W.widen (k := 0) (n := 0) (Nat.le_of_ble_eq_true rfl) (Nat.le_of_ble_eq_true rfl) ?_
                                                                                                            exact dg_iret hx hb hr hlocks (by decide +kernel) hP hS ⟨rfl, (by decide +kernel), ⟨fun _ => by rw [m_ow_tab, m_tab_eq, he_x_121]; decide, fun _ => by decide +kernel⟩, trivial⟩ dX12_isOwn_227
                                                                                                  · have jc_115 := dk_eqc (k := 0) (by decide +kernel) c_115
                                                                                                    have he_x_113 : (b1).toInt = 6384748 := by omega
                                                                                                    clear hlc_x_113
                                                                                                    refine lv_iconst (v := 1) hx hb dX12_isOwn_208 (by decide +kernel) ?_
                                                                                                    have hz_128 : (1 : Int32).toInt = 1 := by decide +kernel
                                                                                                    have hz_129 : (1 : Int32).toInt = 1 := by decide +kernel
                                                                                                    refine W.widen (k := 0) (n := 0) (Nat.le_of_ble_eq_true rfl) (Nat.le_of_ble_eq_true rfl) ?_
                                                                                                    exact dg_iret hx hb hr hlocks (by decide +kernel) hP hS ⟨rfl, (by decide +kernel), ⟨fun _ => by rw [m_ow_tab, m_tab_eq, he_x_113]; decide, fun _ => by decide +kernel⟩, trivial⟩ dX12_isOwn_209
                                                                              · have jc_92 := dk_eqc (k := 0) (by decide +kernel) c_92
                                                                                have he_x_90 : (b1).toInt = 7104884 := by omega
                                                                                clear hlc_x_90
                                                                                refine lv_iconst (v := 1) hx hb dX12_isOwn_166 (by decide +kernel) ?_
                                                                                have hz_130 : (1 : Int32).toInt = 1 := by decide +kernel
                                                                                have hz_131 : (1 : Int32).toInt = 1 := by decide +kernel
                                                                                refine W.widen (k := 0) (n := 0) (Nat.le_of_ble_eq_true rfl) (Nat.le_of_ble_eq_true rfl) ?_
                                                                                exact dg_iret hx hb hr hlocks (by decide +kernel) hP hS ⟨rfl, (by decide +kernel), ⟨fun _ => by rw [m_ow_tab, m_tab_eq, he_x_90]; decide, fun _ => by decide +kernel⟩, trivial⟩ dX12_isOwn_167
                                                          · have jc_69 := dk_eqc (k := 0) (by decide +kernel) c_69
                                                            have he_x_67 : (b1).toInt = 1734702195 := by omega
                                                            clear hlc_x_67
                                                            refine lv_iconst (v := 1) hx hb dX12_isOwn_124 (by decide +kernel) ?_
                                                            have hz_132 : (1 : Int32).toInt = 1 := by decide +kernel
                                                            have hz_133 : (1 : Int32).toInt = 1 := by decide +kernel
                                                            refine W.widen (k := 0) (n := 0) (Nat.le_of_ble_eq_true rfl) (Nat.le_of_ble_eq_true rfl) ?_
                                                            exact dg_iret hx hb hr hlocks (by decide +kernel) hP hS ⟨rfl, (by decide +kernel), ⟨fun _ => by rw [m_ow_tab, m_tab_eq, he_x_67]; decide, fun _ => by decide +kernel⟩, trivial⟩ dX12_isOwn_125
                                      · have jc_46 := dk_eqc (k := 0) (by decide +kernel) c_46
                                        have he_x_44 : (b1).toInt = 478660552050 := by omega
                                        clear hlc_x_44
                                        refine lv_iconst (v := 1) hx hb dX12_isOwn_82 (by decide +kernel) ?_
                                        have hz_134 : (1 : Int32).toInt = 1 := by decide +kernel
                                        have hz_135 : (1 : Int32).toInt = 1 := by decide +kernel
                                        refine W.widen (k := 0) (n := 0) (Nat.le_of_ble_eq_true rfl) (Nat.le_of_ble_eq_true rfl) ?_
                                        exact dg_iret hx hb hr hlocks (by decide +kernel) hP hS ⟨rfl, (by decide +kernel), ⟨fun _ => by rw [m_ow_tab, m_tab_eq, he_x_44]; decide, fun _ => by decide +kernel⟩, trivial⟩ dX12_isOwn_83
                  · have jc_23 := dk_eqc (k := 0) (by decide +kernel) c_23
                    have he_x_21 : (b1).toInt = 487300623205 := by omega
                    clear hlc_x_21
                    refine lv_iconst (v := 1) hx hb dX12_isOwn_40 (by decide +kernel) ?_
                    have hz_136 : (1 : Int32).toInt = 1 := by decide +kernel
                    have hz_137 : (1 : Int32).toInt = 1 := by decide +kernel
                    refine W.widen (k := 0) (n := 0) (Nat.le_of_ble_eq_true rfl) (Nat.le_of_ble_eq_true rfl) ?_
                    exact dg_iret hx hb hr hlocks (by decide +kernel) hP hS ⟨rfl, (by decide +kernel), ⟨fun _ => by rw [m_ow_tab, m_tab_eq, he_x_21]; decide, fun _ => by decide +kernel⟩, trivial⟩ dX12_isOwn_41
set_option maxHeartbeats 8000000 in
set_option maxRecDepth 100000 in
theorem c_m_minerNamed (l : Launch) (g : Nat → ClassId) (D : va_G) (o : Nat) (S : dg_S) (b1 : Int64) (ii : Int32) (f_ii : S.1 0 35 = .int ii) (b_ii : 0 ≤ (ii).toInt ∧ (ii).toInt ≤ 1) (mi : Int32) (f_mi : S.2.1 8 (ii : Int32).toNatClampNeg = mi) (b_mi : 0 ≤ (mi).toInt ∧ (mi).toInt ≤ 6) (I : CM o S) (sz : Nat) : Met l yX12_minerNamed (bw yX12_minerNamed cX12_minerNamed 4 (some .int)) ({ frames := 1, cells := 0, slots := 0, locals := 32 } : Room) (dk_Pc g D (dg_w g shM o rfM S) sz [.ref (o + 0), .long b1]) (va_Qi (fun (r : Int32) S' => S' = S ∧ ((-1) ≤ (r).toInt ∧ (r).toInt ≤ 5) ∧ (m_hid ((r).toInt ≠ -1 ↔ ∃ j9 : Nat, j9 < (mi : Int32).toNatClampNeg ∧ (S.2.2 20 (6 * (ii : Int32).toNatClampNeg + j9)).toInt = (b1).toInt)) ∧ (m_hid ((r).toInt ≠ -1 → (∀ j9 : Nat, j9 < (r : Int32).toNatClampNeg → (S.2.2 20 (6 * (ii : Int32).toNatClampNeg + j9)).toInt ≠ (b1).toInt) ∧ (S.2.2 20 (6 * (ii : Int32).toNatClampNeg + (r : Int32).toNatClampNeg)).toInt = (b1).toInt ∧ (r : Int32).toNatClampNeg < (mi : Int32).toNatClampNeg)) ∧ True) (dg_B g D shM o rfM) (dg_A o shM.length sz)) 0 0 (dg_A o shM.length sz) := by
  refine dg_met (cc := cX12_minerNamed) (maxL := 4) (ret := (some .int)) (dk_dq rfl) rfl (Nat.le_of_ble_eq_true rfl) ?_
  intro p e s m args below meth c A hAe harg hx hb hr hml hts hown hlocks hin hP K hS hA1 hA ST hsz ls hl
  rw [← hAe]
  have F : CallFix p m c cX12_minerNamed 4 s args (bw yX12_minerNamed cX12_minerNamed 4 (some .int)) RX12 := ⟨hx, hb, hml, hown, hts⟩
  have hl : lv_has ls 4 [(0, .ref (o + 0)), (1, .long b1)] := hl
  have M_0 : dg_sm shM [] [] S S := dg_sm.rf
  refine lv_iconst (v := 0) hx hb dX12_minerNamed_0 (by decide +kernel) ?_
  refine lv_istore_n (lv' := [(3, .int 0), (0, .ref (o + 0)), (1, .long b1)]) hx hb dX12_minerNamed_1 rfl hl (dk_dq rfl) rfl (fun ls hl => ?_)
  have L_30 : ∀ (n : Nat) (x_29 : Int32), (0 ≤ (x_29).toInt ∧ (x_29).toInt ≤ 6) → (∀ j9 : Nat, j9 < (x_29 : Int32).toNatClampNeg → (S.2.2 20 (6 * (ii : Int32).toNatClampNeg + j9)).toInt ≠ (b1).toInt) → ((7 - (x_29).toInt).toNat < n) → ∀ (H : Heap) (locs : List Loc), va_P D vwCl (dg_w g shM o rfM S) H → va_S A s.heap H locs → ∀ ls : Array Slot, lv_has ls 4 [(3, .int x_29), (0, .ref (o + 0)), (1, .long b1)] → W p l e ({ frames := 1, cells := 0, slots := 0, locals := 32 } : Room) s m args below meth c H locs 0 0 (MQ below (va_Qi (fun (r : Int32) S' => S' = S ∧ ((-1) ≤ (r).toInt ∧ (r).toInt ≤ 5) ∧ (m_hid ((r).toInt ≠ -1 ↔ ∃ j9 : Nat, j9 < (mi : Int32).toNatClampNeg ∧ (S.2.2 20 (6 * (ii : Int32).toNatClampNeg + j9)).toInt = (b1).toInt)) ∧ (m_hid ((r).toInt ≠ -1 → (∀ j9 : Nat, j9 < (r : Int32).toNatClampNeg → (S.2.2 20 (6 * (ii : Int32).toNatClampNeg + j9)).toInt ≠ (b1).toInt) ∧ (S.2.2 20 (6 * (ii : Int32).toNatClampNeg + (r : Int32).toNatClampNeg)).toInt = (b1).toInt ∧ (r : Int32).toNatClampNeg < (mi : Int32).toNatClampNeg)) ∧ True) (dg_B g D shM o rfM) A) args s 0 0 A) (F0 m 2 ls []) := by
    as_aux_lemma =>
      intro n
      induction n with
      | zero =>
        intro x_29 b_x_29 rel_0 hmu H locs hP hS ls hl
        omega
      | succ n ih =>
        as_aux_lemma =>
          intro x_29 b_x_29 rel_0 hmu H locs hP hS ls hl
          refine lv_iload_n hx hb dX12_minerNamed_2 rfl (lv_at hl 0 rfl) ?_
          refine lv_aload_n hx hb dX12_minerNamed_3 rfl (lv_at hl 1 rfl) ?_
          refine dg_get (C := RX12) (T := TX12) (N := 77) hx hb hts (fun w h => bw_mem (wU_X12 w h)) hown K hP sM_0 rfl 20 (dk_dq rfl) (hts _ (bw_mem wB_352)) (fun _ h9 => h9) (v := .ref (o + 8)) (show S.1 0 20 = .ref (o + 8) from dg_I.rel (d := 8) I sM_0 (by decide +kernel)) dX12_minerNamed_4 ?_
          refine lv_aload_n hx hb dX12_minerNamed_7 rfl (lv_at hl 1 rfl) ?_
          refine dg_get (C := RX12) (T := TX12) (N := 77) hx hb hts (fun w h => bw_mem (wU_X12 w h)) hown K hP sM_0 rfl 35 (dk_dq rfl) (hts _ (bw_mem wB_353)) (fun _ h9 => h9) (v := .int ii) f_ii dX12_minerNamed_8 ?_
          have hin_31 : vp_in ii 2 := (dk_inv2 (by omega))
          refine dg_iald hx hb K hP sM_8 hin_31 dX12_minerNamed_11 (fun y_32 ey_32 => ?_)
          obtain rfl : mi = y_32 := (ey_32.trans f_mi).symm
          refine lv_icmp_ge (tgt := 42) hx hb dX12_minerNamed_12 (dk_dq rfl) (fun c_33 => ?_) (fun c_33 => ?_)
          · have jc_33 := dk_gec (k := (mi).toInt) rfl c_33
            refine lv_iconst (v := (-1)) hx hb dX12_minerNamed_42 (by decide +kernel) ?_
            have hz_34 : (-1 : Int32).toInt = (-1) := by decide +kernel
            have hz_35 : (-1 : Int32).toInt = (-1) := by decide +kernel
            have hz_36 : (-1 : Int32).toInt = (-1) := by decide +kernel
            refine W.widen (k := 0) (n := 0) (Nat.le_of_ble_eq_true rfl) (Nat.le_of_ble_eq_true rfl) ?_
            exact dg_iret hx hb hr hlocks rfl hP hS ⟨rfl, (by decide +kernel), (m_hid.mk ⟨fun q9 => absurd (by decide +kernel) q9, fun ⟨j9, h8, h9⟩ => absurd h9 (rel_0 j9 (by have h6 := dk_clN mi; have h7 := dk_clN x_29; omega))⟩), (m_hid.mk (fun q9 => absurd (by decide +kernel) q9)), trivial⟩ dX12_minerNamed_43
          · as_aux_lemma =>
              have jc_33 := dk_ngec (k := (mi).toInt) rfl c_33
              refine lv_aload_n hx hb dX12_minerNamed_15 rfl (lv_at hl 1 rfl) ?_
              refine dg_get (C := RX12) (T := TX12) (N := 77) hx hb hts (fun w h => bw_mem (wU_X12 w h)) hown K hP sM_0 rfl 32 (dk_dq rfl) (hts _ (bw_mem wB_354)) (fun _ h9 => h9) (v := .ref (o + 20)) (show S.1 0 32 = .ref (o + 20) from dg_I.rel (d := 20) I sM_0 (by decide +kernel)) dX12_minerNamed_16 ?_
              refine lv_bipush (v := 6) hx hb dX12_minerNamed_19 (by decide +kernel) ?_
              refine lv_aload_n hx hb dX12_minerNamed_21 rfl (lv_at hl 1 rfl) ?_
              refine dg_get (C := RX12) (T := TX12) (N := 77) hx hb hts (fun w h => bw_mem (wU_X12 w h)) hown K hP sM_0 rfl 35 (dk_dq rfl) (hts _ (bw_mem wB_353)) (fun _ h9 => h9) (v := .int ii) f_ii dX12_minerNamed_22 ?_
              refine lv_imul hx hb dX12_minerNamed_25 ?_
              refine lv_topi (fun x_37 ex_37 => ?_)
              have jx_37 : (x_37).toInt = 6 * (ii).toInt := by rw [ex_37]; exact dk_mulT2 (by decide +kernel) rfl (by omega)
              refine lv_iload_n hx hb dX12_minerNamed_26 rfl (lv_at hl 0 rfl) ?_
              refine lv_iadd hx hb dX12_minerNamed_27 ?_
              refine lv_topi (fun x_38 ex_38 => ?_)
              have jx_38 : (x_38).toInt = (x_37).toInt + (x_29).toInt := by rw [ex_38]; exact dk_addT2 rfl rfl (by omega)
              have hin_39 : vp_in x_38 12 := (dk_inv2 (by omega))
              refine dg_lald hx hb K hP sM_20 hin_39 dX12_minerNamed_28 (fun x_40 ex_40 => ?_)
              have knx_40 : S.2.2 20 (6 * (ii : Int32).toNatClampNeg + (x_29 : Int32).toNatClampNeg) = x_40 := by rw [show 6 * (ii : Int32).toNatClampNeg + (x_29 : Int32).toNatClampNeg = (x_38 : Int32).toNatClampNeg from by have h7 := dk_clN x_38; have h8 := dk_clN ii; have h9 := dk_clN x_29; omega]; exact ex_40.symm
              refine lv_lload_n hx hb dX12_minerNamed_29 rfl (lv_at hl 2 rfl) ?_
              refine W.lcmp hx hb dX12_minerNamed_30 ?_
              refine lv_topi (fun x_41 ex_41 => ?_)
              have hlc_x_41 := dk_lcmp ex_41
              refine lv_if_ne (tgt := 36) hx hb dX12_minerNamed_31 (dk_dq rfl) (fun c_42 => ?_) (fun c_42 => ?_)
              · have jc_42 := dk_neqc (k := 0) (by decide +kernel) c_42
                have hn_x_41 : (S.2.2 20 (6 * (ii : Int32).toNatClampNeg + (x_29 : Int32).toNatClampNeg)).toInt ≠ (b1).toInt := by rw [knx_40]; omega
                clear hlc_x_41
                obtain ⟨x_43, ex_43⟩ : ∃ z, z = x_29 + 1 := ⟨_, rfl⟩
                have jx_43 : (x_43).toInt = (x_29).toInt + 1 := by rw [ex_43]; exact dk_addT2 rfl (by decide +kernel) (by omega)
                refine lv_iinc (v := x_43) (lv' := [(3, .int x_43), (0, .ref (o + 0)), (1, .long b1)]) hx hb dX12_minerNamed_36 hl (k := 0) rfl (by rw [ex_43]; rfl) (dk_dq rfl) rfl (fun ls hl => ?_)
                refine lv_goto (tgt := 2) hx hb dX12_minerNamed_39 (dk_dq rfl) ?_
                exact ih x_43 (by omega) (nm_stp (S.2.2 20) rel_0 hn_x_41 (by omega) (by omega)) (by first | exact mu_lt hmu (by omega) (by omega) | omega) _ _ hP hS _ (lv_sub hl [0, 1, 2] rfl)
              · have jc_42 := dk_eqc (k := 0) (by decide +kernel) c_42
                have he_x_41 : (S.2.2 20 (6 * (ii : Int32).toNatClampNeg + (x_29 : Int32).toNatClampNeg)).toInt = (b1).toInt := by rw [knx_40]; omega
                clear hlc_x_41
                refine lv_iload_n hx hb dX12_minerNamed_34 rfl (lv_at hl 0 rfl) ?_
                refine W.widen (k := 0) (n := 0) (Nat.le_of_ble_eq_true rfl) (Nat.le_of_ble_eq_true rfl) ?_
                exact dg_iret hx hb hr hlocks rfl hP hS ⟨rfl, (by omega), (m_hid.mk ⟨fun _ => ⟨(x_29 : Int32).toNatClampNeg, by have h6 := dk_clN mi; have h7 := dk_clN x_29; omega, he_x_41⟩, fun _ => by omega⟩), (m_hid.mk (fun _ => ⟨rel_0, he_x_41, by have h6 := dk_clN mi; have h7 := dk_clN x_29; omega⟩)), trivial⟩ dX12_minerNamed_35
  have hz_44 : (0 : Int32).toInt = 0 := by decide +kernel
  have hz_45 : (0 : Int32).toInt = 0 := by decide +kernel
  have hz_46 : (0 : Int32).toInt = 0 := by decide +kernel
  exact L_30 ((7 - ((0 : Int32)).toInt).toNat + 1) 0 (by decide +kernel) y_lt0 (by first | exact mu_lt hmu (by omega) (by omega) | omega) _ _ hP hS _ (lv_sub hl [0, 1, 2] rfl)
set_option maxHeartbeats 8000000 in
set_option maxRecDepth 100000 in
theorem c_m_isNamed (l : Launch) (g : Nat → ClassId) (D : va_G) (o : Nat) (S : dg_S) (b1 : Int64) (ii : Int32) (f_ii : S.1 0 35 = .int ii) (b_ii : 0 ≤ (ii).toInt ∧ (ii).toInt ≤ 1) (mi : Int32) (f_mi : S.2.1 8 (ii : Int32).toNatClampNeg = mi) (b_mi : 0 ≤ (mi).toInt ∧ (mi).toInt ≤ 6) (od : Int32) (f_od : S.2.1 12 (ii : Int32).toNatClampNeg = od) (b_od : 0 ≤ (od).toInt ∧ (od).toInt ≤ 5) (I : CM o S) (sz : Nat) : Met l yX12_isNamed (bw yX12_isNamed cX12_isNamed 4 (some .boolean)) ({ frames := 2, cells := 0, slots := 0, locals := 55 } : Room) (dk_Pc g D (dg_w g shM o rfM S) sz [.ref (o + 0), .long b1]) (va_Qi (fun (r : Int32) S' => S' = S ∧ (0 ≤ (r).toInt ∧ (r).toInt ≤ 1) ∧ (m_hid ((r).toInt = 1 ↔ ((∃ j9 : Nat, j9 < (od : Int32).toNatClampNeg ∧ (S.2.2 21 (5 * (ii : Int32).toNatClampNeg + j9)).toInt = (b1).toInt) ∨ (∃ j9 : Nat, j9 < (mi : Int32).toNatClampNeg ∧ (S.2.2 20 (6 * (ii : Int32).toNatClampNeg + j9)).toInt = (b1).toInt)))) ∧ True) (dg_B g D shM o rfM) (dg_A o shM.length sz)) 0 0 (dg_A o shM.length sz) := by
  refine dg_met (cc := cX12_isNamed) (maxL := 4) (ret := (some .boolean)) (dk_dq rfl) rfl (Nat.le_of_ble_eq_true rfl) ?_
  intro p e s m args below meth c A hAe harg hx hb hr hml hts hown hlocks hin hP K hS hA1 hA ST hsz ls hl
  rw [← hAe]
  have F : CallFix p m c cX12_isNamed 4 s args (bw yX12_isNamed cX12_isNamed 4 (some .boolean)) RX12 := ⟨hx, hb, hml, hown, hts⟩
  have hl : lv_has ls 4 [(0, .ref (o + 0)), (1, .long b1)] := hl
  have M_0 : dg_sm shM [] [] S S := dg_sm.rf
  refine lv_iconst (v := 0) hx hb dX12_isNamed_0 (by decide +kernel) ?_
  refine lv_istore_n (lv' := [(3, .int 0), (0, .ref (o + 0)), (1, .long b1)]) hx hb dX12_isNamed_1 rfl hl (dk_dq rfl) rfl (fun ls hl => ?_)
  have L_39 : ∀ (n : Nat) (x_38 : Int32), (0 ≤ (x_38).toInt ∧ (x_38).toInt ≤ 5) → (∀ j9 : Nat, j9 < (x_38 : Int32).toNatClampNeg → (S.2.2 21 (5 * (ii : Int32).toNatClampNeg + j9)).toInt ≠ (b1).toInt) → ((6 - (x_38).toInt).toNat < n) → ∀ (H : Heap) (locs : List Loc), va_P D vwCl (dg_w g shM o rfM S) H → va_S A s.heap H locs → ∀ ls : Array Slot, lv_has ls 4 [(3, .int x_38), (0, .ref (o + 0)), (1, .long b1)] → W p l e ({ frames := 2, cells := 0, slots := 0, locals := 55 } : Room) s m args below meth c H locs 0 0 (MQ below (va_Qi (fun (r : Int32) S' => S' = S ∧ (0 ≤ (r).toInt ∧ (r).toInt ≤ 1) ∧ (m_hid ((r).toInt = 1 ↔ ((∃ j9 : Nat, j9 < (od : Int32).toNatClampNeg ∧ (S.2.2 21 (5 * (ii : Int32).toNatClampNeg + j9)).toInt = (b1).toInt) ∨ (∃ j9 : Nat, j9 < (mi : Int32).toNatClampNeg ∧ (S.2.2 20 (6 * (ii : Int32).toNatClampNeg + j9)).toInt = (b1).toInt)))) ∧ True) (dg_B g D shM o rfM) A) args s 0 0 A) (F0 m 2 ls []) := by
    as_aux_lemma =>
      intro n
      induction n with
      | zero =>
        intro x_38 b_x_38 rel_0 hmu H locs hP hS ls hl
        omega
      | succ n ih =>
        as_aux_lemma =>
          intro x_38 b_x_38 rel_0 hmu H locs hP hS ls hl
          refine lv_iload_n hx hb dX12_isNamed_2 rfl (lv_at hl 0 rfl) ?_
          refine lv_aload_n hx hb dX12_isNamed_3 rfl (lv_at hl 1 rfl) ?_
          refine dg_get (C := RX12) (T := TX12) (N := 77) hx hb hts (fun w h => bw_mem (wU_X12 w h)) hown K hP sM_0 rfl 24 (dk_dq rfl) (hts _ (bw_mem wB_355)) (fun _ h9 => h9) (v := .ref (o + 12)) (show S.1 0 24 = .ref (o + 12) from dg_I.rel (d := 12) I sM_0 (by decide +kernel)) dX12_isNamed_4 ?_
          refine lv_aload_n hx hb dX12_isNamed_7 rfl (lv_at hl 1 rfl) ?_
          refine dg_get (C := RX12) (T := TX12) (N := 77) hx hb hts (fun w h => bw_mem (wU_X12 w h)) hown K hP sM_0 rfl 35 (dk_dq rfl) (hts _ (bw_mem wB_353)) (fun _ h9 => h9) (v := .int ii) f_ii dX12_isNamed_8 ?_
          have hin_40 : vp_in ii 2 := (dk_inv2 (by omega))
          refine dg_iald hx hb K hP sM_12 hin_40 dX12_isNamed_11 (fun y_41 ey_41 => ?_)
          obtain rfl : od = y_41 := (ey_41.trans f_od).symm
          refine lv_icmp_ge (tgt := 41) hx hb dX12_isNamed_12 (dk_dq rfl) (fun c_42 => ?_) (fun c_42 => ?_)
          · as_aux_lemma =>
              have jc_42 := dk_gec (k := (od).toInt) rfl c_42
              refine lv_aload_n hx hb dX12_isNamed_41 rfl (lv_at hl 1 rfl) ?_
              refine lv_lload_n hx hb dX12_isNamed_42 rfl (lv_at hl 2 rfl) ?_
              refine dg_calli hS hA1 hA (va_runV (As := [.long b1]) (rest := []) F (c_m_minerNamed l g D o S b1 ii f_ii (by omega) mi f_mi (by omega) I H.size) (cwV 1 hts (bw_V wB_357 wB_358 wB_359 wB_297 wB_356) rfl rfl rfl (by decide +kernel) ⟨Nat.le_of_ble_eq_true rfl, Nat.le_of_ble_eq_true rfl⟩) (dg_preV sM_0 rfl K ST hP hS hA1 hA) rfl rfl hl.1 rfl (lv_room (Nat.le_of_ble_eq_true rfl)) dX12_isNamed_43 ⟨Nat.le_of_ble_eq_true rfl, Nat.le_of_ble_eq_true rfl⟩) (fun x_43 S_44 hw_44 H locs hP hS => ?_)
              rw [hw_44.1] at hP
              obtain ⟨hq_44, w_44_0, w_44_1, w_44_2, -⟩ := hw_44
              try rw [hq_44] at w_44_1
              try rw [hq_44] at w_44_2
              have w_44_0 : (-1) ≤ (x_43).toInt ∧ (x_43).toInt ≤ 5 := w_44_0
              replace w_44_1 : m_hid ((x_43).toInt ≠ -1 ↔ ∃ j9 : Nat, j9 < (mi : Int32).toNatClampNeg ∧ (S.2.2 20 (6 * (ii : Int32).toNatClampNeg + j9)).toInt = (b1).toInt) := w_44_1
              replace w_44_2 : m_hid ((x_43).toInt ≠ -1 → (∀ j9 : Nat, j9 < (x_43 : Int32).toNatClampNeg → (S.2.2 20 (6 * (ii : Int32).toNatClampNeg + j9)).toInt ≠ (b1).toInt) ∧ (S.2.2 20 (6 * (ii : Int32).toNatClampNeg + (x_43 : Int32).toNatClampNeg)).toInt = (b1).toInt ∧ (x_43 : Int32).toNatClampNeg < (mi : Int32).toNatClampNeg) := w_44_2
              refine lv_iconst (v := (-1)) hx hb dX12_isNamed_46 (by decide +kernel) ?_
              refine lv_icmp_eq (tgt := 54) hx hb dX12_isNamed_47 (dk_dq rfl) (fun c_45 => ?_) (fun c_45 => ?_)
              · have jc_45 := dk_eqc (k := (-1)) (by decide +kernel) c_45
                refine lv_iconst (v := 0) hx hb dX12_isNamed_54 (by decide +kernel) ?_
                have hz_46 : (0 : Int32).toInt = 0 := by decide +kernel
                have hz_47 : (0 : Int32).toInt = 0 := by decide +kernel
                refine W.widen (k := 0) (n := 0) (Nat.le_of_ble_eq_true rfl) (Nat.le_of_ble_eq_true rfl) ?_
                exact dg_iret hx hb hr hlocks (by decide +kernel) hP hS ⟨rfl, (by decide +kernel), (m_hid.mk ⟨fun q9 => absurd q9 (by decide +kernel), fun q9 => by rcases q9 with ⟨j9, h8, h9⟩ | q9; exact absurd h9 (rel_0 j9 (by have h6 := dk_clN od; have h7 := dk_clN x_38; omega)); exact absurd (w_44_1.out.mpr q9) (by omega)⟩), trivial⟩ dX12_isNamed_55
              · have jc_45 := dk_neqc (k := (-1)) (by decide +kernel) c_45
                refine lv_iconst (v := 1) hx hb dX12_isNamed_50 (by decide +kernel) ?_
                refine lv_goto (tgt := 55) hx hb dX12_isNamed_51 (dk_dq rfl) ?_
                have hz_48 : (1 : Int32).toInt = 1 := by decide +kernel
                have hz_49 : (1 : Int32).toInt = 1 := by decide +kernel
                refine W.widen (k := 0) (n := 0) (Nat.le_of_ble_eq_true rfl) (Nat.le_of_ble_eq_true rfl) ?_
                exact dg_iret hx hb hr hlocks (by decide +kernel) hP hS ⟨rfl, (by decide +kernel), (m_hid.mk ⟨fun _ => Or.inr (w_44_1.out.mp (by omega)), fun _ => by decide +kernel⟩), trivial⟩ dX12_isNamed_55
          · as_aux_lemma =>
              have jc_42 := dk_ngec (k := (od).toInt) rfl c_42
              refine lv_aload_n hx hb dX12_isNamed_15 rfl (lv_at hl 1 rfl) ?_
              refine dg_get (C := RX12) (T := TX12) (N := 77) hx hb hts (fun w h => bw_mem (wU_X12 w h)) hown K hP sM_0 rfl 33 (dk_dq rfl) (hts _ (bw_mem wB_360)) (fun _ h9 => h9) (v := .ref (o + 21)) (show S.1 0 33 = .ref (o + 21) from dg_I.rel (d := 21) I sM_0 (by decide +kernel)) dX12_isNamed_16 ?_
              refine lv_iconst (v := 5) hx hb dX12_isNamed_19 (by decide +kernel) ?_
              refine lv_aload_n hx hb dX12_isNamed_20 rfl (lv_at hl 1 rfl) ?_
              refine dg_get (C := RX12) (T := TX12) (N := 77) hx hb hts (fun w h => bw_mem (wU_X12 w h)) hown K hP sM_0 rfl 35 (dk_dq rfl) (hts _ (bw_mem wB_353)) (fun _ h9 => h9) (v := .int ii) f_ii dX12_isNamed_21 ?_
              refine lv_imul hx hb dX12_isNamed_24 ?_
              refine lv_topi (fun x_50 ex_50 => ?_)
              have jx_50 : (x_50).toInt = 5 * (ii).toInt := by rw [ex_50]; exact dk_mulT2 (by decide +kernel) rfl (by omega)
              refine lv_iload_n hx hb dX12_isNamed_25 rfl (lv_at hl 0 rfl) ?_
              refine lv_iadd hx hb dX12_isNamed_26 ?_
              refine lv_topi (fun x_51 ex_51 => ?_)
              have jx_51 : (x_51).toInt = (x_50).toInt + (x_38).toInt := by rw [ex_51]; exact dk_addT2 rfl rfl (by omega)
              have hin_52 : vp_in x_51 10 := (dk_inv2 (by omega))
              refine dg_lald hx hb K hP sM_21 hin_52 dX12_isNamed_27 (fun x_53 ex_53 => ?_)
              have knx_53 : S.2.2 21 (5 * (ii : Int32).toNatClampNeg + (x_38 : Int32).toNatClampNeg) = x_53 := by rw [show 5 * (ii : Int32).toNatClampNeg + (x_38 : Int32).toNatClampNeg = (x_51 : Int32).toNatClampNeg from by have h7 := dk_clN x_51; have h8 := dk_clN ii; have h9 := dk_clN x_38; omega]; exact ex_53.symm
              refine lv_lload_n hx hb dX12_isNamed_28 rfl (lv_at hl 2 rfl) ?_
              refine W.lcmp hx hb dX12_isNamed_29 ?_
              refine lv_topi (fun x_54 ex_54 => ?_)
              have hlc_x_54 := dk_lcmp ex_54
              refine lv_if_ne (tgt := 35) hx hb dX12_isNamed_30 (dk_dq rfl) (fun c_55 => ?_) (fun c_55 => ?_)
              · have jc_55 := dk_neqc (k := 0) (by decide +kernel) c_55
                have hn_x_54 : (S.2.2 21 (5 * (ii : Int32).toNatClampNeg + (x_38 : Int32).toNatClampNeg)).toInt ≠ (b1).toInt := by rw [knx_53]; omega
                clear hlc_x_54
                obtain ⟨x_56, ex_56⟩ : ∃ z, z = x_38 + 1 := ⟨_, rfl⟩
                have jx_56 : (x_56).toInt = (x_38).toInt + 1 := by rw [ex_56]; exact dk_addT2 rfl (by decide +kernel) (by omega)
                refine lv_iinc (v := x_56) (lv' := [(3, .int x_56), (0, .ref (o + 0)), (1, .long b1)]) hx hb dX12_isNamed_35 hl (k := 0) rfl (by rw [ex_56]; rfl) (dk_dq rfl) rfl (fun ls hl => ?_)
                refine lv_goto (tgt := 2) hx hb dX12_isNamed_38 (dk_dq rfl) ?_
                exact ih x_56 (by omega) (nm_stp (S.2.2 21) rel_0 hn_x_54 (by omega) (by omega)) (by first | exact mu_lt hmu (by omega) (by omega) | omega) _ _ hP hS _ (lv_sub hl [0, 1, 2] rfl)
              · have jc_55 := dk_eqc (k := 0) (by decide +kernel) c_55
                have he_x_54 : (S.2.2 21 (5 * (ii : Int32).toNatClampNeg + (x_38 : Int32).toNatClampNeg)).toInt = (b1).toInt := by rw [knx_53]; omega
                clear hlc_x_54
                refine lv_iconst (v := 1) hx hb dX12_isNamed_33 (by decide +kernel) ?_
                have hz_57 : (1 : Int32).toInt = 1 := by decide +kernel
                have hz_58 : (1 : Int32).toInt = 1 := by decide +kernel
                refine W.widen (k := 0) (n := 0) (Nat.le_of_ble_eq_true rfl) (Nat.le_of_ble_eq_true rfl) ?_
                exact dg_iret hx hb hr hlocks (by decide +kernel) hP hS ⟨rfl, (by decide +kernel), (m_hid.mk ⟨fun _ => Or.inl ⟨(x_38 : Int32).toNatClampNeg, by have h6 := dk_clN od; have h7 := dk_clN x_38; omega, he_x_54⟩, fun _ => by decide +kernel⟩), trivial⟩ dX12_isNamed_34
  have hz_59 : (0 : Int32).toInt = 0 := by decide +kernel
  have hz_60 : (0 : Int32).toInt = 0 := by decide +kernel
  have hz_61 : (0 : Int32).toInt = 0 := by decide +kernel
  exact L_39 ((6 - ((0 : Int32)).toInt).toNat + 1) 0 (by decide +kernel) y_lt0 (by first | exact mu_lt hmu (by omega) (by omega) | omega) _ _ hP hS _ (lv_sub hl [0, 1, 2] rfl)
set_option maxHeartbeats 8000000 in
set_option maxRecDepth 100000 in
theorem c_m_number (l : Launch) (g : Nat → ClassId) (D : va_G) (o : Nat) (S : dg_S) (a1 : Int32) (a2 : Int32) (tb : Nat → Int32) (tn : Nat) (sg : Int32) (f_sg : S.1 0 3 = .int sg) (b_sg : 0 ≤ (sg).toInt ∧ (sg).toInt ≤ 3) (sa : Int32) (f_sa : S.1 0 4 = .int sa) (b_sa : 0 ≤ (sa).toInt ∧ (sa).toInt ≤ 1600) (se : Int32) (f_se : S.1 0 5 = .int se) (b_se : 0 ≤ (se).toInt ∧ (se).toInt ≤ 1600) (sl : Int32) (f_sl : S.1 0 2 = .int sl) (b_sl : 0 ≤ (sl).toInt ∧ (sl).toInt ≤ 1600) (fk : Int32) (f_fk : S.1 0 8 = .int fk) (b_fk : 0 ≤ (fk).toInt ∧ (fk).toInt ≤ 6) (hlx : (sa).toInt ≤ (se).toInt ∧ (se).toInt ≤ (sl).toInt ∧ ((sg).toInt ≠ 0 → (sa).toInt + 1 ≤ (se).toInt)) (TK : TKM tb tn S) (I : CM o S) (sz : Nat) : Met l yX12_number (bw yX12_number cX12_number 4 (some .int)) ({ frames := 3, cells := 0, slots := 0, locals := 77 } : Room) (dk_Pc g D (dg_w g shM o rfM S) sz [.ref (o + 0), .int a1, .int a2]) (va_Qi (fun (r : Int32) S' => CM o S' ∧ dg_sm shM [(0, 3), (0, 4), (0, 5), (0, 6), (0, 7), (0, 8), (0, 9), (0, 12)] [] S S' ∧ (0 ≤ (r).toInt ∧ (r).toInt ≤ 9999) ∧ (∃ y9_3 y9_4 y9_5 y9_8 : Int32, S'.1 0 3 = .int y9_3 ∧ S'.1 0 4 = .int y9_4 ∧ S'.1 0 5 = .int y9_5 ∧ S'.1 0 8 = .int y9_8 ∧ ((((y9_4).toInt ≤ (y9_5).toInt ∧ (y9_5).toInt ≤ (sl).toInt ∧ ((y9_3).toInt ≠ 0 → (y9_4).toInt + 1 ≤ (y9_5).toInt)) ∧ (sa).toInt ≤ (y9_4).toInt ∧ ((fk).toInt ≠ 0 → (y9_8).toInt ≠ 0) ∧ ((y9_8).toInt = 0 → ((a1).toInt ≤ (r).toInt ∧ (r).toInt ≤ (a2).toInt ∧ (sa).toInt + 1 ≤ (y9_4).toInt))) ∧ m_hid ((fk).toInt = 0 → m_an y9_8 (y_num (T_kd tb tn) (T_vl tb tn) (a1).toInt (a2).toInt (t_ix tb tn (sa : Int32).toNatClampNeg)) (t_ix tb tn (y9_4 : Int32).toNatClampNeg) ∧ ((y9_8).toInt = 0 → (r).toInt = (T_vl tb tn (t_ix tb tn (sa : Int32).toNatClampNeg)).toInt)))) ∧ TKM tb tn S' ∧ True) (dg_B g D shM o rfM) (dg_A o shM.length sz)) 0 0 (dg_A o shM.length sz) := by
  refine dg_met (cc := cX12_number) (maxL := 4) (ret := (some .int)) (dk_dq rfl) rfl (Nat.le_of_ble_eq_true rfl) ?_
  intro p e s m args below meth c A hAe harg hx hb hr hml hts hown hlocks hin hP K hS hA1 hA ST hsz ls hl
  rw [← hAe]
  have F : CallFix p m c cX12_number 4 s args (bw yX12_number cX12_number 4 (some .int)) RX12 := ⟨hx, hb, hml, hown, hts⟩
  have hl : lv_has ls 4 [(0, .ref (o + 0)), (1, .int a1), (2, .int a2)] := hl
  have M_0 : dg_sm shM [(0, 3), (0, 4), (0, 5), (0, 6), (0, 7), (0, 8), (0, 9), (0, 12)] [] S S := dg_sm.rf
  have hz9 := TKM.zero TK f_sg f_sa
  obtain ⟨x_1, f_x_1, b_x_1⟩ := dg_I.int (i := 0) (k := 6) (lo := 0) (hi := 9999) I sM_0 (by decide +kernel)
  refine lv_aload_n hx hb dX12_number_0 rfl (lv_at hl 0 rfl) ?_
  refine dg_callv hS hA1 hA (va_runV (As := []) (rest := []) F (c_m_lex l g D o S tb tn fk f_fk (by omega) sa f_sa (by omega) TK I s.heap.size) (cwV 0 hts (bw_V wB_310 wB_311 wB_312 wB_297 wB_309) rfl rfl rfl (by decide +kernel) ⟨Nat.le_of_ble_eq_true rfl, Nat.le_of_ble_eq_true rfl⟩) (dg_preV sM_0 rfl K ST hP hS hA1 hA) rfl rfl hl.1 rfl (lv_room (Nat.le_of_ble_eq_true rfl)) dX12_number_1 ⟨Nat.le_of_ble_eq_true rfl, Nat.le_of_ble_eq_true rfl⟩) (fun S_2 hw_2 H locs hP hS => ?_)
  obtain ⟨I_2, m_2, w_2_0, -⟩ := hw_2
  have M_2 := dg_sm.tr M_0 m_2 (dk_dq rfl) (dk_dq rfl)
  obtain ⟨y_3, f_y_3, w_2_0⟩ := w_2_0
  have w_2_0 : ((fk).toInt ≠ 0 → (y_3).toInt = (fk).toInt) ∧ ((fk).toInt = 0 → ((y_3).toInt = 0 ↔ (T_kd tb tn (t_ix tb tn (sa : Int32).toNatClampNeg)).toInt ≠ 5)) := w_2_0
  have b_y_3 : 0 ≤ (y_3).toInt ∧ (y_3).toInt ≤ 6 := dg_I.intb (lo := 0) (hi := 6) I_2 sM_0 (by decide +kernel) f_y_3
  refine lv_aload_n hx hb dX12_number_4 rfl (lv_at hl 0 rfl) ?_
  refine dg_get (C := RX12) (T := TX12) (N := 77) hx hb hts (fun w h => bw_mem (wU_X12 w h)) hown K hP sM_0 rfl 8 (dk_dq rfl) (hts _ (bw_mem wB_303)) (fun _ h9 => h9) (v := .int y_3) f_y_3 dX12_number_5 ?_
  refine lv_if_le (tgt := 13) hx hb dX12_number_8 (dk_dq rfl) (fun c_4 => ?_) (fun c_4 => ?_)
  · as_aux_lemma =>
      have jc_4 := dk_lec (k := 0) (by decide +kernel) c_4
      refine lv_aload_n hx hb dX12_number_13 rfl (lv_at hl 0 rfl) ?_
      refine dg_get (C := RX12) (T := TX12) (N := 77) hx hb hts (fun w h => bw_mem (wU_X12 w h)) hown K hP sM_0 rfl 3 (dk_dq rfl) (hts _ (bw_mem wB_292)) (fun _ h9 => h9) (v := .int sg) ((m_2.1 0 3 _ sM_0 (dk_dq rfl)).trans f_sg) dX12_number_14 ?_
      refine lv_iconst (v := 2) hx hb dX12_number_17 (by decide +kernel) ?_
      refine lv_icmp_eq (tgt := 30) hx hb dX12_number_18 (dk_dq rfl) (fun c_5 => ?_) (fun c_5 => ?_)
      · as_aux_lemma =>
          have jc_5 := dk_eqc (k := 2) (by decide +kernel) c_5
          refine lv_aload_n hx hb dX12_number_30 rfl (lv_at hl 0 rfl) ?_
          refine dg_get (C := RX12) (T := TX12) (N := 77) hx hb hts (fun w h => bw_mem (wU_X12 w h)) hown K hP sM_0 rfl 8 (dk_dq rfl) (hts _ (bw_mem wB_303)) (fun _ h9 => h9) (v := .int y_3) f_y_3 dX12_number_31 ?_
          refine lv_if_ne (tgt := 58) hx hb dX12_number_34 (dk_dq rfl) (fun c => absurd (dk_eqp (k := 0) (by decide +kernel) (by omega)) c) (fun _ => ?_)
          refine lv_aload_n hx hb dX12_number_37 rfl (lv_at hl 0 rfl) ?_
          refine dg_get (C := RX12) (T := TX12) (N := 77) hx hb hts (fun w h => bw_mem (wU_X12 w h)) hown K hP sM_0 rfl 6 (dk_dq rfl) (hts _ (bw_mem wB_301)) (fun _ h9 => h9) (v := .int x_1) ((m_2.1 0 6 _ sM_0 (dk_dq rfl)).trans f_x_1) dX12_number_38 ?_
          refine lv_iload_n hx hb dX12_number_41 rfl (lv_at hl 1 rfl) ?_
          refine lv_iload_n hx hb dX12_number_42 rfl (lv_at hl 2 rfl) ?_
          refine dg_calli hS hA1 hA (va_runS (As := [.int x_1, .int a1, .int a2]) (rest := []) F (c_m_is l g D o S_2 x_1 a1 a2 I_2 H.size) (va_cwS 3 hts (bw_S wB_362 wB_363 wB_297 wB_361) rfl rfl rfl (by decide +kernel) ⟨Nat.le_of_ble_eq_true rfl, Nat.le_of_ble_eq_true rfl⟩) (dg_preS K ST hP hS hA1 hA) rfl rfl hl.1 rfl (lv_room (Nat.le_of_ble_eq_true rfl)) dX12_number_43 ⟨Nat.le_of_ble_eq_true rfl, Nat.le_of_ble_eq_true rfl⟩) (fun x_6 S_7 hw_7 H locs hP hS => ?_)
          rw [hw_7.1] at hP
          obtain ⟨hq_7, w_7_0, w_7_1, -⟩ := hw_7
          have w_7_0 : 0 ≤ (x_6).toInt ∧ (x_6).toInt ≤ 1 := w_7_0
          have w_7_1 : (x_6).toInt = 1 ↔ ((a1).toInt ≤ (x_1).toInt ∧ (x_1).toInt ≤ (a2).toInt) := w_7_1
          refine lv_if_ne (tgt := 58) hx hb dX12_number_46 (dk_dq rfl) (fun c_8 => ?_) (fun c_8 => ?_)
          · as_aux_lemma =>
              have jc_8 := dk_neqc (k := 0) (by decide +kernel) c_8
              refine lv_aload_n hx hb dX12_number_58 rfl (lv_at hl 0 rfl) ?_
              refine dg_get (C := RX12) (T := TX12) (N := 77) hx hb hts (fun w h => bw_mem (wU_X12 w h)) hown K hP sM_0 rfl 6 (dk_dq rfl) (hts _ (bw_mem wB_301)) (fun _ h9 => h9) (v := .int x_1) ((m_2.1 0 6 _ sM_0 (dk_dq rfl)).trans f_x_1) dX12_number_59 ?_
              refine lv_istore_n (lv' := [(3, .int x_1), (0, .ref (o + 0)), (1, .int a1), (2, .int a2)]) hx hb dX12_number_62 rfl hl (dk_dq rfl) rfl (fun ls hl => ?_)
              refine lv_aload_n hx hb dX12_number_63 rfl (lv_at hl 1 rfl) ?_
              refine dg_get (C := RX12) (T := TX12) (N := 77) hx hb hts (fun w h => bw_mem (wU_X12 w h)) hown K hP sM_0 rfl 8 (dk_dq rfl) (hts _ (bw_mem wB_303)) (fun _ h9 => h9) (v := .int y_3) f_y_3 dX12_number_64 ?_
              refine lv_if_ne (tgt := 74) hx hb dX12_number_67 (dk_dq rfl) (fun c => absurd (dk_eqp (k := 0) (by decide +kernel) (by omega)) c) (fun _ => ?_)
              refine lv_aload_n hx hb dX12_number_70 rfl (lv_at hl 1 rfl) ?_
              refine dg_callv hS hA1 hA (va_runV (As := []) (rest := []) F (c_m_ahead l g D o S_2 tb tn se ((m_2.1 0 5 _ sM_0 (dk_dq rfl)).trans f_se) (by omega) sl ((m_2.1 0 2 _ sM_0 (dk_dq rfl)).trans f_sl) (by omega) (by omega) (TKM.keep TK m_2 (dk_dq rfl) (dk_dq rfl) (dk_dq rfl) (dk_dq rfl) (dk_dq rfl) (dk_dq rfl) (dk_dq rfl) (dk_dq rfl)).1 I_2 H.size) (cwV 0 hts (bw_V wB_318 wB_319 wB_320 wB_297 wB_317) rfl rfl rfl (by decide +kernel) ⟨Nat.le_of_ble_eq_true rfl, Nat.le_of_ble_eq_true rfl⟩) (dg_preV sM_0 rfl K ST hP hS hA1 hA) rfl rfl hl.1 rfl (lv_room (Nat.le_of_ble_eq_true rfl)) dX12_number_71 ⟨Nat.le_of_ble_eq_true rfl, Nat.le_of_ble_eq_true rfl⟩) (fun S_9 hw_9 H locs hP hS => ?_)
              obtain ⟨I_9, m_9, w_9_0, w_9_1, -⟩ := hw_9
              have M_9 := dg_sm.tr M_2 m_9 (dk_dq rfl) (dk_dq rfl)
              obtain ⟨y_10, y_11, y_12, f_y_10, f_y_11, f_y_12, w_9_0⟩ := w_9_0
              have w_9_0 : (se).toInt ≤ (y_11).toInt ∧ (y_11).toInt ≤ (y_12).toInt ∧ (y_12).toInt ≤ (sl).toInt ∧ ((y_10).toInt ≠ 0 → (y_11).toInt + 1 ≤ (y_12).toInt) := w_9_0
              have b_y_10 : 0 ≤ (y_10).toInt ∧ (y_10).toInt ≤ 3 := dg_I.intb (lo := 0) (hi := 3) I_9 sM_0 (by decide +kernel) f_y_10
              have b_y_11 : 0 ≤ (y_11).toInt ∧ (y_11).toInt ≤ 1600 := dg_I.intb (lo := 0) (hi := 1600) I_9 sM_0 (by decide +kernel) f_y_11
              have b_y_12 : 0 ≤ (y_12).toInt ∧ (y_12).toInt ≤ 1600 := dg_I.intb (lo := 0) (hi := 1600) I_9 sM_0 (by decide +kernel) f_y_12
              replace w_9_1 : TNX tb tn se S_9 := w_9_1
              obtain ⟨TK_9, nx_9, -⟩ := TKM.nx (TKM.keep TK m_2 (dk_dq rfl) (dk_dq rfl) (dk_dq rfl) (dk_dq rfl) (dk_dq rfl) (dk_dq rfl) (dk_dq rfl) (dk_dq rfl)) ((m_2.1 0 4 _ sM_0 (dk_dq rfl)).trans f_sa) ((m_2.1 0 5 _ sM_0 (dk_dq rfl)).trans f_se) w_9_1 m_9 (dk_dq rfl) (dk_dq rfl) f_y_11
              refine lv_iload_n hx hb dX12_number_74 rfl (lv_at hl 0 rfl) ?_
              refine W.widen (k := 0) (n := 0) (Nat.le_of_ble_eq_true rfl) (Nat.le_of_ble_eq_true rfl) ?_
              exact dg_iret hx hb hr hlocks rfl hP hS ⟨I_9, M_9, (by omega), ⟨y_10, y_11, y_12, y_3, f_y_10, f_y_11, f_y_12, ((m_9.1 0 8 _ sM_0 (dk_dq rfl)).trans f_y_3), ⟨by omega, m_hid.mk (fun h0 => NU.y (TKM.num TK f_sg f_sa f_x_1 (by omega)) (by omega) (by omega) (by omega) (by omega) (by omega) (by omega))⟩⟩, TK_9, trivial⟩ dX12_number_75
          · as_aux_lemma =>
              have jc_8 := dk_eqc (k := 0) (by decide +kernel) c_8
              refine lv_aload_n hx hb dX12_number_49 rfl (lv_at hl 0 rfl) ?_
              refine lv_iconst (v := 4) hx hb dX12_number_50 (by decide +kernel) ?_
              refine lv_aload_n hx hb dX12_number_51 rfl (lv_at hl 0 rfl) ?_
              refine dg_get (C := RX12) (T := TX12) (N := 77) hx hb hts (fun w h => bw_mem (wU_X12 w h)) hown K hP sM_0 rfl 4 (dk_dq rfl) (hts _ (bw_mem wB_291)) (fun _ h9 => h9) (v := .int sa) ((m_2.1 0 4 _ sM_0 (dk_dq rfl)).trans f_sa) dX12_number_52 ?_
              have hz_13 : (4 : Int32).toInt = 4 := by decide +kernel
              refine dg_callv hS hA1 hA (va_runV (As := [.int 4, .int sa]) (rest := []) F (c_m_blame l g D o S_2 4 (by decide +kernel) sa y_3 f_y_3 (by omega) I_2 H.size) (cwV 2 hts (bw_V wB_306 wB_307 wB_308 wB_297 wB_305) rfl rfl rfl (by decide +kernel) ⟨Nat.le_of_ble_eq_true rfl, Nat.le_of_ble_eq_true rfl⟩) (dg_preV sM_0 rfl K ST hP hS hA1 hA) rfl rfl hl.1 rfl (lv_room (Nat.le_of_ble_eq_true rfl)) dX12_number_55 ⟨Nat.le_of_ble_eq_true rfl, Nat.le_of_ble_eq_true rfl⟩) (fun S_14 hw_14 H locs hP hS => ?_)
              obtain ⟨I_14, m_14, w_14_0, -⟩ := hw_14
              have M_14 := dg_sm.tr M_2 m_14 (dk_dq rfl) (dk_dq rfl)
              have hz_15 : (4 : Int32).toInt = 4 := by decide +kernel
              obtain ⟨y_16, f_y_16, w_14_0⟩ := w_14_0
              have w_14_0 : ((y_3).toInt ≠ 0 → (y_16).toInt = (y_3).toInt) ∧ ((y_3).toInt = 0 → (y_16).toInt = ((4 : Int32)).toInt) := w_14_0
              have b_y_16 : 0 ≤ (y_16).toInt ∧ (y_16).toInt ≤ 6 := dg_I.intb (lo := 0) (hi := 6) I_14 sM_0 (by decide +kernel) f_y_16
              have hbl_y_16 : 1 ≤ (y_16).toInt := by omega
              refine lv_aload_n hx hb dX12_number_58 rfl (lv_at hl 0 rfl) ?_
              refine dg_get (C := RX12) (T := TX12) (N := 77) hx hb hts (fun w h => bw_mem (wU_X12 w h)) hown K hP sM_0 rfl 6 (dk_dq rfl) (hts _ (bw_mem wB_301)) (fun _ h9 => h9) (v := .int x_1) (((m_14.1 0 6 _ sM_0 (dk_dq rfl)).trans (m_2.1 0 6 _ sM_0 (dk_dq rfl))).trans f_x_1) dX12_number_59 ?_
              refine lv_istore_n (lv' := [(3, .int x_1), (0, .ref (o + 0)), (1, .int a1), (2, .int a2)]) hx hb dX12_number_62 rfl hl (dk_dq rfl) rfl (fun ls hl => ?_)
              refine lv_aload_n hx hb dX12_number_63 rfl (lv_at hl 1 rfl) ?_
              refine dg_get (C := RX12) (T := TX12) (N := 77) hx hb hts (fun w h => bw_mem (wU_X12 w h)) hown K hP sM_0 rfl 8 (dk_dq rfl) (hts _ (bw_mem wB_303)) (fun _ h9 => h9) (v := .int y_16) f_y_16 dX12_number_64 ?_
              refine lv_if_ne (tgt := 74) hx hb dX12_number_67 (dk_dq rfl) (fun _ => ?_) (fun c => absurd c (fun z => absurd (dk_eqc (k := 0) (by decide +kernel) z) (by omega)))
              refine lv_iload_n hx hb dX12_number_74 rfl (lv_at hl 0 rfl) ?_
              refine W.widen (k := 0) (n := 0) (Nat.le_of_ble_eq_true rfl) (Nat.le_of_ble_eq_true rfl) ?_
              exact dg_iret hx hb hr hlocks rfl hP hS ⟨I_14, M_14, (by omega), ⟨sg, sa, se, y_16, (((m_14.1 0 3 _ sM_0 (dk_dq rfl)).trans (m_2.1 0 3 _ sM_0 (dk_dq rfl))).trans f_sg), (((m_14.1 0 4 _ sM_0 (dk_dq rfl)).trans (m_2.1 0 4 _ sM_0 (dk_dq rfl))).trans f_sa), (((m_14.1 0 5 _ sM_0 (dk_dq rfl)).trans (m_2.1 0 5 _ sM_0 (dk_dq rfl))).trans f_se), f_y_16, ⟨by omega, m_hid.mk (fun h0 => NU.no (fun h5 => TKM.num TK f_sg f_sa f_x_1 h5) (by omega) (by omega))⟩⟩, (TKM.keep (TKM.keep TK m_2 (dk_dq rfl) (dk_dq rfl) (dk_dq rfl) (dk_dq rfl) (dk_dq rfl) (dk_dq rfl) (dk_dq rfl) (dk_dq rfl)) m_14 (dk_dq rfl) (dk_dq rfl) (dk_dq rfl) (dk_dq rfl) (dk_dq rfl) (dk_dq rfl) (dk_dq rfl) (dk_dq rfl)), trivial⟩ dX12_number_75
      · as_aux_lemma =>
          have jc_5 := dk_neqc (k := 2) (by decide +kernel) c_5
          refine lv_aload_n hx hb dX12_number_21 rfl (lv_at hl 0 rfl) ?_
          refine lv_iconst (v := 1) hx hb dX12_number_22 (by decide +kernel) ?_
          refine lv_aload_n hx hb dX12_number_23 rfl (lv_at hl 0 rfl) ?_
          refine dg_get (C := RX12) (T := TX12) (N := 77) hx hb hts (fun w h => bw_mem (wU_X12 w h)) hown K hP sM_0 rfl 4 (dk_dq rfl) (hts _ (bw_mem wB_291)) (fun _ h9 => h9) (v := .int sa) ((m_2.1 0 4 _ sM_0 (dk_dq rfl)).trans f_sa) dX12_number_24 ?_
          have hz_17 : (1 : Int32).toInt = 1 := by decide +kernel
          refine dg_callv hS hA1 hA (va_runV (As := [.int 1, .int sa]) (rest := []) F (c_m_blame l g D o S_2 1 (by decide +kernel) sa y_3 f_y_3 (by omega) I_2 H.size) (cwV 2 hts (bw_V wB_306 wB_307 wB_308 wB_297 wB_305) rfl rfl rfl (by decide +kernel) ⟨Nat.le_of_ble_eq_true rfl, Nat.le_of_ble_eq_true rfl⟩) (dg_preV sM_0 rfl K ST hP hS hA1 hA) rfl rfl hl.1 rfl (lv_room (Nat.le_of_ble_eq_true rfl)) dX12_number_27 ⟨Nat.le_of_ble_eq_true rfl, Nat.le_of_ble_eq_true rfl⟩) (fun S_18 hw_18 H locs hP hS => ?_)
          obtain ⟨I_18, m_18, w_18_0, -⟩ := hw_18
          have M_18 := dg_sm.tr M_2 m_18 (dk_dq rfl) (dk_dq rfl)
          have hz_19 : (1 : Int32).toInt = 1 := by decide +kernel
          obtain ⟨y_20, f_y_20, w_18_0⟩ := w_18_0
          have w_18_0 : ((y_3).toInt ≠ 0 → (y_20).toInt = (y_3).toInt) ∧ ((y_3).toInt = 0 → (y_20).toInt = ((1 : Int32)).toInt) := w_18_0
          have b_y_20 : 0 ≤ (y_20).toInt ∧ (y_20).toInt ≤ 6 := dg_I.intb (lo := 0) (hi := 6) I_18 sM_0 (by decide +kernel) f_y_20
          have hbl_y_20 : 1 ≤ (y_20).toInt := by omega
          refine lv_aload_n hx hb dX12_number_30 rfl (lv_at hl 0 rfl) ?_
          refine dg_get (C := RX12) (T := TX12) (N := 77) hx hb hts (fun w h => bw_mem (wU_X12 w h)) hown K hP sM_0 rfl 8 (dk_dq rfl) (hts _ (bw_mem wB_303)) (fun _ h9 => h9) (v := .int y_20) f_y_20 dX12_number_31 ?_
          refine lv_if_ne (tgt := 58) hx hb dX12_number_34 (dk_dq rfl) (fun _ => ?_) (fun c => absurd c (fun z => absurd (dk_eqc (k := 0) (by decide +kernel) z) (by omega)))
          refine lv_aload_n hx hb dX12_number_58 rfl (lv_at hl 0 rfl) ?_
          refine dg_get (C := RX12) (T := TX12) (N := 77) hx hb hts (fun w h => bw_mem (wU_X12 w h)) hown K hP sM_0 rfl 6 (dk_dq rfl) (hts _ (bw_mem wB_301)) (fun _ h9 => h9) (v := .int x_1) (((m_18.1 0 6 _ sM_0 (dk_dq rfl)).trans (m_2.1 0 6 _ sM_0 (dk_dq rfl))).trans f_x_1) dX12_number_59 ?_
          refine lv_istore_n (lv' := [(3, .int x_1), (0, .ref (o + 0)), (1, .int a1), (2, .int a2)]) hx hb dX12_number_62 rfl hl (dk_dq rfl) rfl (fun ls hl => ?_)
          refine lv_aload_n hx hb dX12_number_63 rfl (lv_at hl 1 rfl) ?_
          refine dg_get (C := RX12) (T := TX12) (N := 77) hx hb hts (fun w h => bw_mem (wU_X12 w h)) hown K hP sM_0 rfl 8 (dk_dq rfl) (hts _ (bw_mem wB_303)) (fun _ h9 => h9) (v := .int y_20) f_y_20 dX12_number_64 ?_
          refine lv_if_ne (tgt := 74) hx hb dX12_number_67 (dk_dq rfl) (fun _ => ?_) (fun c => absurd c (fun z => absurd (dk_eqc (k := 0) (by decide +kernel) z) (by omega)))
          refine lv_iload_n hx hb dX12_number_74 rfl (lv_at hl 0 rfl) ?_
          refine W.widen (k := 0) (n := 0) (Nat.le_of_ble_eq_true rfl) (Nat.le_of_ble_eq_true rfl) ?_
          exact dg_iret hx hb hr hlocks rfl hP hS ⟨I_18, M_18, (by omega), ⟨sg, sa, se, y_20, (((m_18.1 0 3 _ sM_0 (dk_dq rfl)).trans (m_2.1 0 3 _ sM_0 (dk_dq rfl))).trans f_sg), (((m_18.1 0 4 _ sM_0 (dk_dq rfl)).trans (m_2.1 0 4 _ sM_0 (dk_dq rfl))).trans f_sa), (((m_18.1 0 5 _ sM_0 (dk_dq rfl)).trans (m_2.1 0 5 _ sM_0 (dk_dq rfl))).trans f_se), f_y_20, ⟨by omega, m_hid.mk (fun h0 => NU.no (fun h5 => TKM.num TK f_sg f_sa f_x_1 h5) (by omega) (by omega))⟩⟩, (TKM.keep (TKM.keep TK m_2 (dk_dq rfl) (dk_dq rfl) (dk_dq rfl) (dk_dq rfl) (dk_dq rfl) (dk_dq rfl) (dk_dq rfl) (dk_dq rfl)) m_18 (dk_dq rfl) (dk_dq rfl) (dk_dq rfl) (dk_dq rfl) (dk_dq rfl) (dk_dq rfl) (dk_dq rfl) (dk_dq rfl)), trivial⟩ dX12_number_75
  · have jc_4 := dk_nlec (k := 0) (by decide +kernel) c_4
    refine lv_iconst (v := 0) hx hb dX12_number_11 (by decide +kernel) ?_
    have hz_21 : (0 : Int32).toInt = 0 := by decide +kernel
    have hz_22 : (0 : Int32).toInt = 0 := by decide +kernel
    refine W.widen (k := 0) (n := 0) (Nat.le_of_ble_eq_true rfl) (Nat.le_of_ble_eq_true rfl) ?_
    exact dg_iret hx hb hr hlocks rfl hP hS ⟨I_2, M_2, (by decide +kernel), ⟨sg, sa, se, y_3, ((m_2.1 0 3 _ sM_0 (dk_dq rfl)).trans f_sg), ((m_2.1 0 4 _ sM_0 (dk_dq rfl)).trans f_sa), ((m_2.1 0 5 _ sM_0 (dk_dq rfl)).trans f_se), f_y_3, ⟨by omega, m_hid.mk (fun h0 => NU.no (fun h5 => TKM.num TK f_sg f_sa f_x_1 h5) (by omega) (by omega))⟩⟩, (TKM.keep TK m_2 (dk_dq rfl) (dk_dq rfl) (dk_dq rfl) (dk_dq rfl) (dk_dq rfl) (dk_dq rfl) (dk_dq rfl) (dk_dq rfl)), trivial⟩ dX12_number_12
