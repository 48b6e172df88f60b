/-! 36.m5.lean.txt -/
theorem dX12_begin_0 : decode cX12_begin 0 = .ok (.aload_n 0, 1) := dk_o42 (by decide +kernel)
theorem dX12_begin_1 : decode cX12_begin 1 = .ok (.getfield 162, 3) := dk_o180 (by decide +kernel)
theorem dX12_begin_4 : decode cX12_begin 4 = .ok (.iconst 0, 1) := dk_o3 (by decide +kernel)
theorem dX12_begin_5 : decode cX12_begin 5 = .ok (.iconst 0, 1) := dk_o3 (by decide +kernel)
theorem dX12_begin_6 : decode cX12_begin 6 = .ok (.iastore, 1) := dk_o79 (by decide +kernel)
theorem dX12_begin_7 : decode cX12_begin 7 = .ok (.aload_n 0, 1) := dk_o42 (by decide +kernel)
theorem dX12_begin_8 : decode cX12_begin 8 = .ok (.getfield 165, 3) := dk_o180 (by decide +kernel)
theorem dX12_begin_11 : decode cX12_begin 11 = .ok (.iconst 0, 1) := dk_o3 (by decide +kernel)
theorem dX12_begin_12 : decode cX12_begin 12 = .ok (.iconst 0, 1) := dk_o3 (by decide +kernel)
theorem dX12_begin_13 : decode cX12_begin 13 = .ok (.iastore, 1) := dk_o79 (by decide +kernel)
theorem dX12_begin_14 : decode cX12_begin 14 = .ok (.aload_n 0, 1) := dk_o42 (by decide +kernel)
theorem dX12_begin_15 : decode cX12_begin 15 = .ok (.getfield 174, 3) := dk_o180 (by decide +kernel)
theorem dX12_begin_18 : decode cX12_begin 18 = .ok (.iconst 0, 1) := dk_o3 (by decide +kernel)
theorem dX12_begin_19 : decode cX12_begin 19 = .ok (.iconst 0, 1) := dk_o3 (by decide +kernel)
theorem dX12_begin_20 : decode cX12_begin 20 = .ok (.iastore, 1) := dk_o79 (by decide +kernel)
theorem dX12_begin_21 : decode cX12_begin 21 = .ok (.aload_n 0, 1) := dk_o42 (by decide +kernel)
theorem dX12_begin_22 : decode cX12_begin 22 = .ok (.getfield 177, 3) := dk_o180 (by decide +kernel)
theorem dX12_begin_25 : decode cX12_begin 25 = .ok (.iconst 0, 1) := dk_o3 (by decide +kernel)
theorem dX12_begin_26 : decode cX12_begin 26 = .ok (.iconst 0, 1) := dk_o3 (by decide +kernel)
theorem dX12_begin_27 : decode cX12_begin 27 = .ok (.iastore, 1) := dk_o79 (by decide +kernel)
theorem dX12_begin_28 : decode cX12_begin 28 = .ok (.iconst 0, 1) := dk_o3 (by decide +kernel)
theorem dX12_begin_29 : decode cX12_begin 29 = .ok (.istore_n 1, 1) := dk_o60 (by decide +kernel)
theorem dX12_begin_30 : decode cX12_begin 30 = .ok (.iload_n 1, 1) := dk_o27 (by decide +kernel)
theorem dX12_begin_31 : decode cX12_begin 31 = .ok (.bipush 64, 2) := dk_o16 (by decide +kernel)
theorem dX12_begin_33 : decode cX12_begin 33 = .ok (.if_icmp .ge 53, 3) := dk_o162 (by decide +kernel)
theorem dX12_begin_36 : decode cX12_begin 36 = .ok (.aload_n 0, 1) := dk_o42 (by decide +kernel)
theorem dX12_begin_37 : decode cX12_begin 37 = .ok (.getfield 168, 3) := dk_o180 (by decide +kernel)
theorem dX12_begin_40 : decode cX12_begin 40 = .ok (.iload_n 1, 1) := dk_o27 (by decide +kernel)
theorem dX12_begin_41 : decode cX12_begin 41 = .ok (.iload_n 1, 1) := dk_o27 (by decide +kernel)
theorem dX12_begin_42 : decode cX12_begin 42 = .ok (.aload_n 0, 1) := dk_o42 (by decide +kernel)
theorem dX12_begin_43 : decode cX12_begin 43 = .ok (.getfield 60, 3) := dk_o180 (by decide +kernel)
theorem dX12_begin_46 : decode cX12_begin 46 = .ok (.aload_n 0, 1) := dk_o42 (by decide +kernel)
theorem dX12_begin_47 : decode cX12_begin 47 = .ok (.getfield 51, 3) := dk_o180 (by decide +kernel)
theorem dX12_begin_50 : decode cX12_begin 50 = .ok (.iaload, 1) := dk_o46 (by decide +kernel)
theorem dX12_begin_51 : decode cX12_begin 51 = .ok (.if_icmp .ne 7, 3) := dk_o160 (by decide +kernel)
theorem dX12_begin_54 : decode cX12_begin 54 = .ok (.iconst (-1), 1) := dk_o2 (by decide +kernel)
theorem dX12_begin_55 : decode cX12_begin 55 = .ok (.goto 17, 3) := dk_o167 (by decide +kernel)
theorem dX12_begin_58 : decode cX12_begin 58 = .ok (.aload_n 0, 1) := dk_o42 (by decide +kernel)
theorem dX12_begin_59 : decode cX12_begin 59 = .ok (.getfield 69, 3) := dk_o180 (by decide +kernel)
theorem dX12_begin_62 : decode cX12_begin 62 = .ok (.bipush 64, 2) := dk_o16 (by decide +kernel)
theorem dX12_begin_64 : decode cX12_begin 64 = .ok (.aload_n 0, 1) := dk_o42 (by decide +kernel)
theorem dX12_begin_65 : decode cX12_begin 65 = .ok (.getfield 51, 3) := dk_o180 (by decide +kernel)
theorem dX12_begin_68 : decode cX12_begin 68 = .ok (.imul, 1) := dk_o104 (by decide +kernel)
theorem dX12_begin_69 : decode cX12_begin 69 = .ok (.iload_n 1, 1) := dk_o27 (by decide +kernel)
theorem dX12_begin_70 : decode cX12_begin 70 = .ok (.iadd, 1) := dk_o96 (by decide +kernel)
theorem dX12_begin_71 : decode cX12_begin 71 = .ok (.iaload, 1) := dk_o46 (by decide +kernel)
theorem dX12_begin_72 : decode cX12_begin 72 = .ok (.iastore, 1) := dk_o79 (by decide +kernel)
theorem dX12_begin_73 : decode cX12_begin 73 = .ok (.aload_n 0, 1) := dk_o42 (by decide +kernel)
theorem dX12_begin_74 : decode cX12_begin 74 = .ok (.getfield 171, 3) := dk_o180 (by decide +kernel)
theorem dX12_begin_77 : decode cX12_begin 77 = .ok (.iload_n 1, 1) := dk_o27 (by decide +kernel)
theorem dX12_begin_78 : decode cX12_begin 78 = .ok (.iconst 0, 1) := dk_o3 (by decide +kernel)
theorem dX12_begin_79 : decode cX12_begin 79 = .ok (.iastore, 1) := dk_o79 (by decide +kernel)
theorem dX12_begin_80 : decode cX12_begin 80 = .ok (.iinc 1 1, 3) := dk_o132 (by decide +kernel)
theorem dX12_begin_83 : decode cX12_begin 83 = .ok (.goto (-53), 3) := dk_o167 (by decide +kernel)
theorem dX12_begin_86 : decode cX12_begin 86 = .ok (.iconst 0, 1) := dk_o3 (by decide +kernel)
theorem dX12_begin_87 : decode cX12_begin 87 = .ok (.istore_n 1, 1) := dk_o60 (by decide +kernel)
theorem dX12_begin_88 : decode cX12_begin 88 = .ok (.iload_n 1, 1) := dk_o27 (by decide +kernel)
theorem dX12_begin_89 : decode cX12_begin 89 = .ok (.bipush 16, 2) := dk_o16 (by decide +kernel)
theorem dX12_begin_91 : decode cX12_begin 91 = .ok (.if_icmp .ge 49, 3) := dk_o162 (by decide +kernel)
theorem dX12_begin_94 : decode cX12_begin 94 = .ok (.aload_n 0, 1) := dk_o42 (by decide +kernel)
theorem dX12_begin_95 : decode cX12_begin 95 = .ok (.getfield 180, 3) := dk_o180 (by decide +kernel)
theorem dX12_begin_98 : decode cX12_begin 98 = .ok (.iload_n 1, 1) := dk_o27 (by decide +kernel)
theorem dX12_begin_99 : decode cX12_begin 99 = .ok (.aload_n 0, 1) := dk_o42 (by decide +kernel)
theorem dX12_begin_100 : decode cX12_begin 100 = .ok (.getfield 78, 3) := dk_o180 (by decide +kernel)
theorem dX12_begin_103 : decode cX12_begin 103 = .ok (.bipush 16, 2) := dk_o16 (by decide +kernel)
theorem dX12_begin_105 : decode cX12_begin 105 = .ok (.aload_n 0, 1) := dk_o42 (by decide +kernel)
theorem dX12_begin_106 : decode cX12_begin 106 = .ok (.getfield 51, 3) := dk_o180 (by decide +kernel)
theorem dX12_begin_109 : decode cX12_begin 109 = .ok (.imul, 1) := dk_o104 (by decide +kernel)
theorem dX12_begin_110 : decode cX12_begin 110 = .ok (.iload_n 1, 1) := dk_o27 (by decide +kernel)
theorem dX12_begin_111 : decode cX12_begin 111 = .ok (.iadd, 1) := dk_o96 (by decide +kernel)
theorem dX12_begin_112 : decode cX12_begin 112 = .ok (.iaload, 1) := dk_o46 (by decide +kernel)
theorem dX12_begin_113 : decode cX12_begin 113 = .ok (.iastore, 1) := dk_o79 (by decide +kernel)
theorem dX12_begin_114 : decode cX12_begin 114 = .ok (.aload_n 0, 1) := dk_o42 (by decide +kernel)
theorem dX12_begin_115 : decode cX12_begin 115 = .ok (.getfield 183, 3) := dk_o180 (by decide +kernel)
theorem dX12_begin_118 : decode cX12_begin 118 = .ok (.iload_n 1, 1) := dk_o27 (by decide +kernel)
theorem dX12_begin_119 : decode cX12_begin 119 = .ok (.aload_n 0, 1) := dk_o42 (by decide +kernel)
theorem dX12_begin_120 : decode cX12_begin 120 = .ok (.getfield 81, 3) := dk_o180 (by decide +kernel)
theorem dX12_begin_123 : decode cX12_begin 123 = .ok (.bipush 16, 2) := dk_o16 (by decide +kernel)
theorem dX12_begin_125 : decode cX12_begin 125 = .ok (.aload_n 0, 1) := dk_o42 (by decide +kernel)
theorem dX12_begin_126 : decode cX12_begin 126 = .ok (.getfield 51, 3) := dk_o180 (by decide +kernel)
theorem dX12_begin_129 : decode cX12_begin 129 = .ok (.imul, 1) := dk_o104 (by decide +kernel)
theorem dX12_begin_130 : decode cX12_begin 130 = .ok (.iload_n 1, 1) := dk_o27 (by decide +kernel)
theorem dX12_begin_131 : decode cX12_begin 131 = .ok (.iadd, 1) := dk_o96 (by decide +kernel)
theorem dX12_begin_132 : decode cX12_begin 132 = .ok (.iaload, 1) := dk_o46 (by decide +kernel)
theorem dX12_begin_133 : decode cX12_begin 133 = .ok (.iastore, 1) := dk_o79 (by decide +kernel)
theorem dX12_begin_134 : decode cX12_begin 134 = .ok (.iinc 1 1, 3) := dk_o132 (by decide +kernel)
theorem dX12_begin_137 : decode cX12_begin 137 = .ok (.goto (-49), 3) := dk_o167 (by decide +kernel)
theorem dX12_begin_140 : decode cX12_begin 140 = .ok (.iconst 0, 1) := dk_o3 (by decide +kernel)
theorem dX12_begin_141 : decode cX12_begin 141 = .ok (.istore_n 1, 1) := dk_o60 (by decide +kernel)
theorem dX12_begin_142 : decode cX12_begin 142 = .ok (.iload_n 1, 1) := dk_o27 (by decide +kernel)
theorem dX12_begin_143 : decode cX12_begin 143 = .ok (.bipush 10, 2) := dk_o16 (by decide +kernel)
theorem dX12_begin_145 : decode cX12_begin 145 = .ok (.if_icmp .ge 16, 3) := dk_o162 (by decide +kernel)
theorem dX12_begin_148 : decode cX12_begin 148 = .ok (.aload_n 0, 1) := dk_o42 (by decide +kernel)
theorem dX12_begin_149 : decode cX12_begin 149 = .ok (.getfield 186, 3) := dk_o180 (by decide +kernel)
theorem dX12_begin_152 : decode cX12_begin 152 = .ok (.iload_n 1, 1) := dk_o27 (by decide +kernel)
theorem dX12_begin_153 : decode cX12_begin 153 = .ok (.iconst 0, 1) := dk_o3 (by decide +kernel)
theorem dX12_begin_154 : decode cX12_begin 154 = .ok (.iastore, 1) := dk_o79 (by decide +kernel)
theorem dX12_begin_155 : decode cX12_begin 155 = .ok (.iinc 1 1, 3) := dk_o132 (by decide +kernel)
theorem dX12_begin_158 : decode cX12_begin 158 = .ok (.goto (-16), 3) := dk_o167 (by decide +kernel)
theorem dX12_begin_161 : decode cX12_begin 161 = .ok (.aload_n 0, 1) := dk_o42 (by decide +kernel)
theorem dX12_begin_162 : decode cX12_begin 162 = .ok (.aload_n 0, 1) := dk_o42 (by decide +kernel)
theorem dX12_begin_163 : decode cX12_begin 163 = .ok (.getfield 63, 3) := dk_o180 (by decide +kernel)
theorem dX12_begin_166 : decode cX12_begin 166 = .ok (.aload_n 0, 1) := dk_o42 (by decide +kernel)
theorem dX12_begin_167 : decode cX12_begin 167 = .ok (.getfield 51, 3) := dk_o180 (by decide +kernel)
theorem dX12_begin_170 : decode cX12_begin 170 = .ok (.iaload, 1) := dk_o46 (by decide +kernel)
theorem dX12_begin_171 : decode cX12_begin 171 = .ok (.putfield 204, 3) := dk_o181 (by decide +kernel)
theorem dX12_begin_174 : decode cX12_begin 174 = .ok (.aload_n 0, 1) := dk_o42 (by decide +kernel)
theorem dX12_begin_175 : decode cX12_begin 175 = .ok (.getfield 189, 3) := dk_o180 (by decide +kernel)
theorem dX12_begin_178 : decode cX12_begin 178 = .ok (.iconst 0, 1) := dk_o3 (by decide +kernel)
theorem dX12_begin_179 : decode cX12_begin 179 = .ok (.iconst 0, 1) := dk_o3 (by decide +kernel)
theorem dX12_begin_180 : decode cX12_begin 180 = .ok (.iastore, 1) := dk_o79 (by decide +kernel)
theorem dX12_begin_181 : decode cX12_begin 181 = .ok (.aload_n 0, 1) := dk_o42 (by decide +kernel)
theorem dX12_begin_182 : decode cX12_begin 182 = .ok (.iconst 0, 1) := dk_o3 (by decide +kernel)
theorem dX12_begin_183 : decode cX12_begin 183 = .ok (.putfield 198, 3) := dk_o181 (by decide +kernel)
theorem dX12_begin_186 : decode cX12_begin 186 = .ok (.aload_n 0, 1) := dk_o42 (by decide +kernel)
theorem dX12_begin_187 : decode cX12_begin 187 = .ok (.iconst 0, 1) := dk_o3 (by decide +kernel)
theorem dX12_begin_188 : decode cX12_begin 188 = .ok (.putfield 222, 3) := dk_o181 (by decide +kernel)
theorem dX12_begin_191 : decode cX12_begin 191 = .ok (.return_, 1) := dk_o177 (by decide +kernel)
theorem dX12_has_0 : decode cX12_has 0 = .ok (.iconst 0, 1) := dk_o3 (by decide +kernel)
theorem dX12_has_1 : decode cX12_has 1 = .ok (.istore_n 2, 1) := dk_o61 (by decide +kernel)
theorem dX12_has_2 : decode cX12_has 2 = .ok (.iload_n 1, 1) := dk_o27 (by decide +kernel)
theorem dX12_has_3 : decode cX12_has 3 = .ok (.tableswitch 333 0 16 #[81, 91, 101, 111, 121, 131, 138, 179, 225, 262, 272, 297, 304, 310, 317, 322, 327], 81) := by decide +kernel
theorem dX12_has_84 : decode cX12_has 84 = .ok (.aload_n 0, 1) := dk_o42 (by decide +kernel)
theorem dX12_has_85 : decode cX12_has 85 = .ok (.getfield 54, 3) := dk_o180 (by decide +kernel)
theorem dX12_has_88 : decode cX12_has 88 = .ok (.aload_n 0, 1) := dk_o42 (by decide +kernel)
theorem dX12_has_89 : decode cX12_has 89 = .ok (.getfield 51, 3) := dk_o180 (by decide +kernel)
theorem dX12_has_92 : decode cX12_has 92 = .ok (.iaload, 1) := dk_o46 (by decide +kernel)
theorem dX12_has_93 : decode cX12_has 93 = .ok (.ireturn, 1) := dk_o172 (by decide +kernel)
theorem dX12_has_94 : decode cX12_has 94 = .ok (.aload_n 0, 1) := dk_o42 (by decide +kernel)
theorem dX12_has_95 : decode cX12_has 95 = .ok (.getfield 57, 3) := dk_o180 (by decide +kernel)
theorem dX12_has_98 : decode cX12_has 98 = .ok (.aload_n 0, 1) := dk_o42 (by decide +kernel)
theorem dX12_has_99 : decode cX12_has 99 = .ok (.getfield 51, 3) := dk_o180 (by decide +kernel)
theorem dX12_has_102 : decode cX12_has 102 = .ok (.iaload, 1) := dk_o46 (by decide +kernel)
theorem dX12_has_103 : decode cX12_has 103 = .ok (.ireturn, 1) := dk_o172 (by decide +kernel)
theorem dX12_has_104 : decode cX12_has 104 = .ok (.aload_n 0, 1) := dk_o42 (by decide +kernel)
theorem dX12_has_105 : decode cX12_has 105 = .ok (.getfield 72, 3) := dk_o180 (by decide +kernel)
theorem dX12_has_108 : decode cX12_has 108 = .ok (.aload_n 0, 1) := dk_o42 (by decide +kernel)
theorem dX12_has_109 : decode cX12_has 109 = .ok (.getfield 51, 3) := dk_o180 (by decide +kernel)
theorem dX12_has_112 : decode cX12_has 112 = .ok (.iaload, 1) := dk_o46 (by decide +kernel)
theorem dX12_has_113 : decode cX12_has 113 = .ok (.ireturn, 1) := dk_o172 (by decide +kernel)
theorem dX12_has_114 : decode cX12_has 114 = .ok (.aload_n 0, 1) := dk_o42 (by decide +kernel)
theorem dX12_has_115 : decode cX12_has 115 = .ok (.getfield 75, 3) := dk_o180 (by decide +kernel)
theorem dX12_has_118 : decode cX12_has 118 = .ok (.aload_n 0, 1) := dk_o42 (by decide +kernel)
theorem dX12_has_119 : decode cX12_has 119 = .ok (.getfield 51, 3) := dk_o180 (by decide +kernel)
theorem dX12_has_122 : decode cX12_has 122 = .ok (.iaload, 1) := dk_o46 (by decide +kernel)
theorem dX12_has_123 : decode cX12_has 123 = .ok (.ireturn, 1) := dk_o172 (by decide +kernel)
theorem dX12_has_124 : decode cX12_has 124 = .ok (.aload_n 0, 1) := dk_o42 (by decide +kernel)
theorem dX12_has_125 : decode cX12_has 125 = .ok (.getfield 84, 3) := dk_o180 (by decide +kernel)
theorem dX12_has_128 : decode cX12_has 128 = .ok (.aload_n 0, 1) := dk_o42 (by decide +kernel)
theorem dX12_has_129 : decode cX12_has 129 = .ok (.getfield 51, 3) := dk_o180 (by decide +kernel)
theorem dX12_has_132 : decode cX12_has 132 = .ok (.iaload, 1) := dk_o46 (by decide +kernel)
theorem dX12_has_133 : decode cX12_has 133 = .ok (.ireturn, 1) := dk_o172 (by decide +kernel)
theorem dX12_has_134 : decode cX12_has 134 = .ok (.aload_n 0, 1) := dk_o42 (by decide +kernel)
theorem dX12_has_135 : decode cX12_has 135 = .ok (.getfield 162, 3) := dk_o180 (by decide +kernel)
theorem dX12_has_138 : decode cX12_has 138 = .ok (.iconst 0, 1) := dk_o3 (by decide +kernel)
theorem dX12_has_139 : decode cX12_has 139 = .ok (.iaload, 1) := dk_o46 (by decide +kernel)
theorem dX12_has_140 : decode cX12_has 140 = .ok (.ireturn, 1) := dk_o172 (by decide +kernel)
theorem dX12_has_141 : decode cX12_has 141 = .ok (.iconst 0, 1) := dk_o3 (by decide +kernel)
theorem dX12_has_142 : decode cX12_has 142 = .ok (.istore_n 3, 1) := dk_o62 (by decide +kernel)
theorem dX12_has_143 : decode cX12_has 143 = .ok (.iload_n 3, 1) := dk_o29 (by decide +kernel)
theorem dX12_has_144 : decode cX12_has 144 = .ok (.bipush 64, 2) := dk_o16 (by decide +kernel)
theorem dX12_has_146 : decode cX12_has 146 = .ok (.if_icmp .ge 34, 3) := dk_o162 (by decide +kernel)
theorem dX12_has_149 : decode cX12_has 149 = .ok (.iload_n 2, 1) := dk_o28 (by decide +kernel)
theorem dX12_has_150 : decode cX12_has 150 = .ok (.aload_n 0, 1) := dk_o42 (by decide +kernel)
theorem dX12_has_151 : decode cX12_has 151 = .ok (.iload_n 3, 1) := dk_o29 (by decide +kernel)
theorem dX12_has_152 : decode cX12_has 152 = .ok (.invokevirtual 503, 3) := dk_o182 (by decide +kernel)
theorem dX12_has_155 : decode cX12_has 155 = .ok (.ifCond .eq 16, 3) := dk_o153 (by decide +kernel)
theorem dX12_has_158 : decode cX12_has 158 = .ok (.aload_n 0, 1) := dk_o42 (by decide +kernel)
theorem dX12_has_159 : decode cX12_has 159 = .ok (.iconst 0, 1) := dk_o3 (by decide +kernel)
theorem dX12_has_160 : decode cX12_has 160 = .ok (.iload_n 3, 1) := dk_o29 (by decide +kernel)
theorem dX12_has_161 : decode cX12_has 161 = .ok (.invokevirtual 460, 3) := dk_o182 (by decide +kernel)
theorem dX12_has_164 : decode cX12_has 164 = .ok (.ifCond .eq 7, 3) := dk_o153 (by decide +kernel)
theorem dX12_has_167 : decode cX12_has 167 = .ok (.iconst 1, 1) := dk_o4 (by decide +kernel)
theorem dX12_has_168 : decode cX12_has 168 = .ok (.goto 4, 3) := dk_o167 (by decide +kernel)
theorem dX12_has_171 : decode cX12_has 171 = .ok (.iconst 0, 1) := dk_o3 (by decide +kernel)
theorem dX12_has_172 : decode cX12_has 172 = .ok (.iadd, 1) := dk_o96 (by decide +kernel)
theorem dX12_has_173 : decode cX12_has 173 = .ok (.istore_n 2, 1) := dk_o61 (by decide +kernel)
theorem dX12_has_174 : decode cX12_has 174 = .ok (.iinc 3 1, 3) := dk_o132 (by decide +kernel)
theorem dX12_has_177 : decode cX12_has 177 = .ok (.goto (-34), 3) := dk_o167 (by decide +kernel)
theorem dX12_has_180 : decode cX12_has 180 = .ok (.iload_n 2, 1) := dk_o28 (by decide +kernel)
theorem dX12_has_181 : decode cX12_has 181 = .ok (.ireturn, 1) := dk_o172 (by decide +kernel)
theorem dX12_has_182 : decode cX12_has 182 = .ok (.aload_n 0, 1) := dk_o42 (by decide +kernel)
theorem dX12_has_183 : decode cX12_has 183 = .ok (.iconst 0, 1) := dk_o3 (by decide +kernel)
theorem dX12_has_184 : decode cX12_has 184 = .ok (.invokevirtual 484, 3) := dk_o182 (by decide +kernel)
theorem dX12_has_187 : decode cX12_has 187 = .ok (.iconst 0, 1) := dk_o3 (by decide +kernel)
theorem dX12_has_188 : decode cX12_has 188 = .ok (.istore_n 3, 1) := dk_o62 (by decide +kernel)
theorem dX12_has_189 : decode cX12_has 189 = .ok (.iload_n 3, 1) := dk_o29 (by decide +kernel)
theorem dX12_has_190 : decode cX12_has 190 = .ok (.bipush 64, 2) := dk_o16 (by decide +kernel)
theorem dX12_has_192 : decode cX12_has 192 = .ok (.if_icmp .ge 34, 3) := dk_o162 (by decide +kernel)
theorem dX12_has_195 : decode cX12_has 195 = .ok (.iload_n 2, 1) := dk_o28 (by decide +kernel)
theorem dX12_has_196 : decode cX12_has 196 = .ok (.aload_n 0, 1) := dk_o42 (by decide +kernel)
theorem dX12_has_197 : decode cX12_has 197 = .ok (.iload_n 3, 1) := dk_o29 (by decide +kernel)
theorem dX12_has_198 : decode cX12_has 198 = .ok (.invokevirtual 503, 3) := dk_o182 (by decide +kernel)
theorem dX12_has_201 : decode cX12_has 201 = .ok (.ifCond .eq 16, 3) := dk_o153 (by decide +kernel)
theorem dX12_has_204 : decode cX12_has 204 = .ok (.aload_n 0, 1) := dk_o42 (by decide +kernel)
theorem dX12_has_205 : decode cX12_has 205 = .ok (.iconst 0, 1) := dk_o3 (by decide +kernel)
theorem dX12_has_206 : decode cX12_has 206 = .ok (.iload_n 3, 1) := dk_o29 (by decide +kernel)
theorem dX12_has_207 : decode cX12_has 207 = .ok (.invokevirtual 463, 3) := dk_o182 (by decide +kernel)
theorem dX12_has_210 : decode cX12_has 210 = .ok (.ifCond .eq 7, 3) := dk_o153 (by decide +kernel)
theorem dX12_has_213 : decode cX12_has 213 = .ok (.iconst 1, 1) := dk_o4 (by decide +kernel)
theorem dX12_has_214 : decode cX12_has 214 = .ok (.goto 4, 3) := dk_o167 (by decide +kernel)
theorem dX12_has_217 : decode cX12_has 217 = .ok (.iconst 0, 1) := dk_o3 (by decide +kernel)
theorem dX12_has_218 : decode cX12_has 218 = .ok (.iadd, 1) := dk_o96 (by decide +kernel)
theorem dX12_has_219 : decode cX12_has 219 = .ok (.istore_n 2, 1) := dk_o61 (by decide +kernel)
theorem dX12_has_220 : decode cX12_has 220 = .ok (.iinc 3 1, 3) := dk_o132 (by decide +kernel)
theorem dX12_has_223 : decode cX12_has 223 = .ok (.goto (-34), 3) := dk_o167 (by decide +kernel)
theorem dX12_has_226 : decode cX12_has 226 = .ok (.iload_n 2, 1) := dk_o28 (by decide +kernel)
theorem dX12_has_227 : decode cX12_has 227 = .ok (.ireturn, 1) := dk_o172 (by decide +kernel)
theorem dX12_has_228 : decode cX12_has 228 = .ok (.iconst 0, 1) := dk_o3 (by decide +kernel)
theorem dX12_has_229 : decode cX12_has 229 = .ok (.istore_n 3, 1) := dk_o62 (by decide +kernel)
theorem dX12_has_230 : decode cX12_has 230 = .ok (.iload_n 3, 1) := dk_o29 (by decide +kernel)
theorem dX12_has_231 : decode cX12_has 231 = .ok (.bipush 64, 2) := dk_o16 (by decide +kernel)
theorem dX12_has_233 : decode cX12_has 233 = .ok (.if_icmp .ge 30, 3) := dk_o162 (by decide +kernel)
theorem dX12_has_236 : decode cX12_has 236 = .ok (.iload_n 2, 1) := dk_o28 (by decide +kernel)
theorem dX12_has_237 : decode cX12_has 237 = .ok (.aload_n 0, 1) := dk_o42 (by decide +kernel)
theorem dX12_has_238 : decode cX12_has 238 = .ok (.iload_n 3, 1) := dk_o29 (by decide +kernel)
theorem dX12_has_239 : decode cX12_has 239 = .ok (.invokevirtual 503, 3) := dk_o182 (by decide +kernel)
theorem dX12_has_242 : decode cX12_has 242 = .ok (.ifCond .eq 12, 3) := dk_o153 (by decide +kernel)
theorem dX12_has_245 : decode cX12_has 245 = .ok (.aload_n 0, 1) := dk_o42 (by decide +kernel)
theorem dX12_has_246 : decode cX12_has 246 = .ok (.getfield 171, 3) := dk_o180 (by decide +kernel)
theorem dX12_has_249 : decode cX12_has 249 = .ok (.iload_n 3, 1) := dk_o29 (by decide +kernel)
theorem dX12_has_250 : decode cX12_has 250 = .ok (.iaload, 1) := dk_o46 (by decide +kernel)
theorem dX12_has_251 : decode cX12_has 251 = .ok (.goto 4, 3) := dk_o167 (by decide +kernel)
theorem dX12_has_254 : decode cX12_has 254 = .ok (.iconst 0, 1) := dk_o3 (by decide +kernel)
theorem dX12_has_255 : decode cX12_has 255 = .ok (.iadd, 1) := dk_o96 (by decide +kernel)
theorem dX12_has_256 : decode cX12_has 256 = .ok (.istore_n 2, 1) := dk_o61 (by decide +kernel)
theorem dX12_has_257 : decode cX12_has 257 = .ok (.iinc 3 1, 3) := dk_o132 (by decide +kernel)
theorem dX12_has_260 : decode cX12_has 260 = .ok (.goto (-30), 3) := dk_o167 (by decide +kernel)
theorem dX12_has_263 : decode cX12_has 263 = .ok (.iload_n 2, 1) := dk_o28 (by decide +kernel)
theorem dX12_has_264 : decode cX12_has 264 = .ok (.ireturn, 1) := dk_o172 (by decide +kernel)
theorem dX12_has_265 : decode cX12_has 265 = .ok (.aload_n 0, 1) := dk_o42 (by decide +kernel)
theorem dX12_has_266 : decode cX12_has 266 = .ok (.getfield 174, 3) := dk_o180 (by decide +kernel)
theorem dX12_has_269 : decode cX12_has 269 = .ok (.iconst 0, 1) := dk_o3 (by decide +kernel)
theorem dX12_has_270 : decode cX12_has 270 = .ok (.iaload, 1) := dk_o46 (by decide +kernel)
theorem dX12_has_271 : decode cX12_has 271 = .ok (.invokestatic 515, 3) := dk_o184 (by decide +kernel)
theorem dX12_has_274 : decode cX12_has 274 = .ok (.ireturn, 1) := dk_o172 (by decide +kernel)
theorem dX12_has_275 : decode cX12_has 275 = .ok (.iconst 0, 1) := dk_o3 (by decide +kernel)
theorem dX12_has_276 : decode cX12_has 276 = .ok (.istore_n 3, 1) := dk_o62 (by decide +kernel)
theorem dX12_has_277 : decode cX12_has 277 = .ok (.iload_n 3, 1) := dk_o29 (by decide +kernel)
theorem dX12_has_278 : decode cX12_has 278 = .ok (.bipush 10, 2) := dk_o16 (by decide +kernel)
theorem dX12_has_280 : decode cX12_has 280 = .ok (.if_icmp .ge 18, 3) := dk_o162 (by decide +kernel)
theorem dX12_has_283 : decode cX12_has 283 = .ok (.iload_n 2, 1) := dk_o28 (by decide +kernel)
theorem dX12_has_284 : decode cX12_has 284 = .ok (.aload_n 0, 1) := dk_o42 (by decide +kernel)
theorem dX12_has_285 : decode cX12_has 285 = .ok (.getfield 186, 3) := dk_o180 (by decide +kernel)
theorem dX12_has_288 : decode cX12_has 288 = .ok (.iload_n 3, 1) := dk_o29 (by decide +kernel)
theorem dX12_has_289 : decode cX12_has 289 = .ok (.iaload, 1) := dk_o46 (by decide +kernel)
theorem dX12_has_290 : decode cX12_has 290 = .ok (.iadd, 1) := dk_o96 (by decide +kernel)
theorem dX12_has_291 : decode cX12_has 291 = .ok (.istore_n 2, 1) := dk_o61 (by decide +kernel)
theorem dX12_has_292 : decode cX12_has 292 = .ok (.iinc 3 1, 3) := dk_o132 (by decide +kernel)
theorem dX12_has_295 : decode cX12_has 295 = .ok (.goto (-18), 3) := dk_o167 (by decide +kernel)
theorem dX12_has_298 : decode cX12_has 298 = .ok (.iload_n 2, 1) := dk_o28 (by decide +kernel)
theorem dX12_has_299 : decode cX12_has 299 = .ok (.ireturn, 1) := dk_o172 (by decide +kernel)
theorem dX12_has_300 : decode cX12_has 300 = .ok (.aload_n 0, 1) := dk_o42 (by decide +kernel)
theorem dX12_has_301 : decode cX12_has 301 = .ok (.getfield 165, 3) := dk_o180 (by decide +kernel)
theorem dX12_has_304 : decode cX12_has 304 = .ok (.iconst 0, 1) := dk_o3 (by decide +kernel)
theorem dX12_has_305 : decode cX12_has 305 = .ok (.iaload, 1) := dk_o46 (by decide +kernel)
theorem dX12_has_306 : decode cX12_has 306 = .ok (.ireturn, 1) := dk_o172 (by decide +kernel)
theorem dX12_has_307 : decode cX12_has 307 = .ok (.aload_n 0, 1) := dk_o42 (by decide +kernel)
theorem dX12_has_308 : decode cX12_has 308 = .ok (.iconst 0, 1) := dk_o3 (by decide +kernel)
theorem dX12_has_309 : decode cX12_has 309 = .ok (.invokevirtual 518, 3) := dk_o182 (by decide +kernel)
theorem dX12_has_312 : decode cX12_has 312 = .ok (.ireturn, 1) := dk_o172 (by decide +kernel)
theorem dX12_has_313 : decode cX12_has 313 = .ok (.aload_n 0, 1) := dk_o42 (by decide +kernel)
theorem dX12_has_314 : decode cX12_has 314 = .ok (.getfield 189, 3) := dk_o180 (by decide +kernel)
theorem dX12_has_317 : decode cX12_has 317 = .ok (.iconst 0, 1) := dk_o3 (by decide +kernel)
theorem dX12_has_318 : decode cX12_has 318 = .ok (.iaload, 1) := dk_o46 (by decide +kernel)
theorem dX12_has_319 : decode cX12_has 319 = .ok (.ireturn, 1) := dk_o172 (by decide +kernel)
theorem dX12_has_320 : decode cX12_has 320 = .ok (.aload_n 0, 1) := dk_o42 (by decide +kernel)
theorem dX12_has_321 : decode cX12_has 321 = .ok (.getfield 222, 3) := dk_o180 (by decide +kernel)
theorem dX12_has_324 : decode cX12_has 324 = .ok (.ireturn, 1) := dk_o172 (by decide +kernel)
theorem dX12_has_325 : decode cX12_has 325 = .ok (.aload_n 0, 1) := dk_o42 (by decide +kernel)
theorem dX12_has_326 : decode cX12_has 326 = .ok (.getfield 198, 3) := dk_o180 (by decide +kernel)
theorem dX12_has_329 : decode cX12_has 329 = .ok (.ireturn, 1) := dk_o172 (by decide +kernel)
theorem dX12_has_330 : decode cX12_has 330 = .ok (.aload_n 0, 1) := dk_o42 (by decide +kernel)
theorem dX12_has_331 : decode cX12_has 331 = .ok (.getfield 201, 3) := dk_o180 (by decide +kernel)
theorem dX12_has_334 : decode cX12_has 334 = .ok (.l2i, 1) := dk_o136 (by decide +kernel)
theorem dX12_has_335 : decode cX12_has 335 = .ok (.ireturn, 1) := dk_o172 (by decide +kernel)
theorem dX12_has_336 : decode cX12_has 336 = .ok (.iconst (-1), 1) := dk_o2 (by decide +kernel)
theorem dX12_has_337 : decode cX12_has 337 = .ok (.ireturn, 1) := dk_o172 (by decide +kernel)
theorem dX12_letter_0 : decode cX12_letter 0 = .ok (.iload_n 1, 1) := dk_o27 (by decide +kernel)
theorem dX12_letter_1 : decode cX12_letter 1 = .ok (.ifCond .ne 11, 3) := dk_o154 (by decide +kernel)
theorem dX12_letter_4 : decode cX12_letter 4 = .ok (.aload_n 0, 1) := dk_o42 (by decide +kernel)
theorem dX12_letter_5 : decode cX12_letter 5 = .ok (.iload_n 2, 1) := dk_o28 (by decide +kernel)
theorem dX12_letter_6 : decode cX12_letter 6 = .ok (.invokevirtual 521, 3) := dk_o182 (by decide +kernel)
theorem dX12_letter_9 : decode cX12_letter 9 = .ok (.goto 21, 3) := dk_o167 (by decide +kernel)
theorem dX12_letter_12 : decode cX12_letter 12 = .ok (.iload_n 1, 1) := dk_o27 (by decide +kernel)
theorem dX12_letter_13 : decode cX12_letter 13 = .ok (.iconst 1, 1) := dk_o4 (by decide +kernel)
theorem dX12_letter_14 : decode cX12_letter 14 = .ok (.if_icmp .ne 15, 3) := dk_o160 (by decide +kernel)
theorem dX12_letter_17 : decode cX12_letter 17 = .ok (.aload_n 0, 1) := dk_o42 (by decide +kernel)
theorem dX12_letter_18 : decode cX12_letter 18 = .ok (.iload_n 2, 1) := dk_o28 (by decide +kernel)
theorem dX12_letter_19 : decode cX12_letter 19 = .ok (.invokevirtual 524, 3) := dk_o182 (by decide +kernel)
theorem dX12_letter_22 : decode cX12_letter 22 = .ok (.ifCond .eq 7, 3) := dk_o153 (by decide +kernel)
theorem dX12_letter_25 : decode cX12_letter 25 = .ok (.iconst 1, 1) := dk_o4 (by decide +kernel)
theorem dX12_letter_26 : decode cX12_letter 26 = .ok (.goto 4, 3) := dk_o167 (by decide +kernel)
theorem dX12_letter_29 : decode cX12_letter 29 = .ok (.iconst 0, 1) := dk_o3 (by decide +kernel)
theorem dX12_letter_30 : decode cX12_letter 30 = .ok (.istore 4, 2) := dk_o54 (by decide +kernel)
theorem dX12_letter_32 : decode cX12_letter 32 = .ok (.iload 4, 2) := dk_o21 (by decide +kernel)
theorem dX12_letter_34 : decode cX12_letter 34 = .ok (.ifCond .eq 12, 3) := dk_o153 (by decide +kernel)
theorem dX12_letter_37 : decode cX12_letter 37 = .ok (.iload_n 3, 1) := dk_o29 (by decide +kernel)
theorem dX12_letter_38 : decode cX12_letter 38 = .ok (.iconst 0, 1) := dk_o3 (by decide +kernel)
theorem dX12_letter_39 : decode cX12_letter 39 = .ok (.iconst 5, 1) := dk_o8 (by decide +kernel)
theorem dX12_letter_40 : decode cX12_letter 40 = .ok (.invokestatic 333, 3) := dk_o184 (by decide +kernel)
theorem dX12_letter_43 : decode cX12_letter 43 = .ok (.ifCond .ne 5, 3) := dk_o154 (by decide +kernel)
theorem dX12_letter_46 : decode cX12_letter 46 = .ok (.iconst (-1), 1) := dk_o2 (by decide +kernel)
theorem dX12_letter_47 : decode cX12_letter 47 = .ok (.ireturn, 1) := dk_o172 (by decide +kernel)
theorem dX12_letter_48 : decode cX12_letter 48 = .ok (.iload_n 1, 1) := dk_o27 (by decide +kernel)
theorem dX12_letter_49 : decode cX12_letter 49 = .ok (.ifCond .ne 20, 3) := dk_o154 (by decide +kernel)
theorem dX12_letter_52 : decode cX12_letter 52 = .ok (.aload_n 0, 1) := dk_o42 (by decide +kernel)
theorem dX12_letter_53 : decode cX12_letter 53 = .ok (.getfield 108, 3) := dk_o180 (by decide +kernel)
theorem dX12_letter_56 : decode cX12_letter 56 = .ok (.bipush 6, 2) := dk_o16 (by decide +kernel)
theorem dX12_letter_58 : decode cX12_letter 58 = .ok (.aload_n 0, 1) := dk_o42 (by decide +kernel)
theorem dX12_letter_59 : decode cX12_letter 59 = .ok (.getfield 51, 3) := dk_o180 (by decide +kernel)
theorem dX12_letter_62 : decode cX12_letter 62 = .ok (.imul, 1) := dk_o104 (by decide +kernel)
theorem dX12_letter_63 : decode cX12_letter 63 = .ok (.iload_n 2, 1) := dk_o28 (by decide +kernel)
theorem dX12_letter_64 : decode cX12_letter 64 = .ok (.iadd, 1) := dk_o96 (by decide +kernel)
theorem dX12_letter_65 : decode cX12_letter 65 = .ok (.laload, 1) := dk_o47 (by decide +kernel)
theorem dX12_letter_66 : decode cX12_letter 66 = .ok (.goto 16, 3) := dk_o167 (by decide +kernel)
theorem dX12_letter_69 : decode cX12_letter 69 = .ok (.aload_n 0, 1) := dk_o42 (by decide +kernel)
theorem dX12_letter_70 : decode cX12_letter 70 = .ok (.getfield 112, 3) := dk_o180 (by decide +kernel)
theorem dX12_letter_73 : decode cX12_letter 73 = .ok (.iconst 5, 1) := dk_o8 (by decide +kernel)
theorem dX12_letter_74 : decode cX12_letter 74 = .ok (.aload_n 0, 1) := dk_o42 (by decide +kernel)
theorem dX12_letter_75 : decode cX12_letter 75 = .ok (.getfield 51, 3) := dk_o180 (by decide +kernel)
theorem dX12_letter_78 : decode cX12_letter 78 = .ok (.imul, 1) := dk_o104 (by decide +kernel)
theorem dX12_letter_79 : decode cX12_letter 79 = .ok (.iload_n 2, 1) := dk_o28 (by decide +kernel)
theorem dX12_letter_80 : decode cX12_letter 80 = .ok (.iadd, 1) := dk_o96 (by decide +kernel)
theorem dX12_letter_81 : decode cX12_letter 81 = .ok (.laload, 1) := dk_o47 (by decide +kernel)
theorem dX12_letter_82 : decode cX12_letter 82 = .ok (.lstore 5, 2) := dk_o55 (by decide +kernel)
theorem dX12_letter_84 : decode cX12_letter 84 = .ok (.iconst 0, 1) := dk_o3 (by decide +kernel)
theorem dX12_letter_85 : decode cX12_letter 85 = .ok (.istore 7, 2) := dk_o54 (by decide +kernel)
theorem dX12_letter_87 : decode cX12_letter 87 = .ok (.lload 5, 2) := dk_o22 (by decide +kernel)
theorem dX12_letter_89 : decode cX12_letter 89 = .ok (.lstore 8, 2) := dk_o55 (by decide +kernel)
theorem dX12_letter_91 : decode cX12_letter 91 = .ok (.lload 8, 2) := dk_o22 (by decide +kernel)
theorem dX12_letter_93 : decode cX12_letter 93 = .ok (.lconst 0, 1) := dk_o9 (by decide +kernel)
theorem dX12_letter_94 : decode cX12_letter 94 = .ok (.lcmp, 1) := dk_o148 (by decide +kernel)
theorem dX12_letter_95 : decode cX12_letter 95 = .ok (.ifCond .le 16, 3) := dk_o158 (by decide +kernel)
theorem dX12_letter_98 : decode cX12_letter 98 = .ok (.iinc 7 1, 3) := dk_o132 (by decide +kernel)
theorem dX12_letter_101 : decode cX12_letter 101 = .ok (.lload 8, 2) := dk_o22 (by decide +kernel)
theorem dX12_letter_103 : decode cX12_letter 103 = .ok (.bipush 8, 2) := dk_o16 (by decide +kernel)
theorem dX12_letter_105 : decode cX12_letter 105 = .ok (.lshr, 1) := dk_o123 (by decide +kernel)
theorem dX12_letter_106 : decode cX12_letter 106 = .ok (.lstore 8, 2) := dk_o55 (by decide +kernel)
theorem dX12_letter_108 : decode cX12_letter 108 = .ok (.goto (-17), 3) := dk_o167 (by decide +kernel)
theorem dX12_letter_111 : decode cX12_letter 111 = .ok (.iload_n 3, 1) := dk_o29 (by decide +kernel)
theorem dX12_letter_112 : decode cX12_letter 112 = .ok (.iload 7, 2) := dk_o21 (by decide +kernel)
theorem dX12_letter_114 : decode cX12_letter 114 = .ok (.if_icmp .lt 7, 3) := dk_o161 (by decide +kernel)
theorem dX12_letter_117 : decode cX12_letter 117 = .ok (.iconst 0, 1) := dk_o3 (by decide +kernel)
theorem dX12_letter_118 : decode cX12_letter 118 = .ok (.goto 25, 3) := dk_o167 (by decide +kernel)
theorem dX12_letter_121 : decode cX12_letter 121 = .ok (.lload 5, 2) := dk_o22 (by decide +kernel)
theorem dX12_letter_123 : decode cX12_letter 123 = .ok (.bipush 8, 2) := dk_o16 (by decide +kernel)
theorem dX12_letter_125 : decode cX12_letter 125 = .ok (.iload 7, 2) := dk_o21 (by decide +kernel)
theorem dX12_letter_127 : decode cX12_letter 127 = .ok (.iconst 1, 1) := dk_o4 (by decide +kernel)
theorem dX12_letter_128 : decode cX12_letter 128 = .ok (.isub, 1) := dk_o100 (by decide +kernel)
theorem dX12_letter_129 : decode cX12_letter 129 = .ok (.iload_n 3, 1) := dk_o29 (by decide +kernel)
theorem dX12_letter_130 : decode cX12_letter 130 = .ok (.isub, 1) := dk_o100 (by decide +kernel)
theorem dX12_letter_131 : decode cX12_letter 131 = .ok (.imul, 1) := dk_o104 (by decide +kernel)
theorem dX12_letter_132 : decode cX12_letter 132 = .ok (.lshr, 1) := dk_o123 (by decide +kernel)
theorem dX12_letter_133 : decode cX12_letter 133 = .ok (.ldc2_w 527, 3) := dk_o20 (by decide +kernel)
theorem dX12_letter_136 : decode cX12_letter 136 = .ok (.land, 1) := dk_o127 (by decide +kernel)
theorem dX12_letter_137 : decode cX12_letter 137 = .ok (.l2i, 1) := dk_o136 (by decide +kernel)
theorem dX12_letter_138 : decode cX12_letter 138 = .ok (.bipush 97, 2) := dk_o16 (by decide +kernel)
theorem dX12_letter_140 : decode cX12_letter 140 = .ok (.isub, 1) := dk_o100 (by decide +kernel)
theorem dX12_letter_141 : decode cX12_letter 141 = .ok (.iconst 1, 1) := dk_o4 (by decide +kernel)
theorem dX12_letter_142 : decode cX12_letter 142 = .ok (.iadd, 1) := dk_o96 (by decide +kernel)
theorem dX12_letter_143 : decode cX12_letter 143 = .ok (.ireturn, 1) := dk_o172 (by decide +kernel)
theorem dX12_cell_0 : decode cX12_cell 0 = .ok (.aload_n 0, 1) := dk_o42 (by decide +kernel)
theorem dX12_cell_1 : decode cX12_cell 1 = .ok (.iload_n 1, 1) := dk_o27 (by decide +kernel)
theorem dX12_cell_2 : decode cX12_cell 2 = .ok (.iload_n 2, 1) := dk_o28 (by decide +kernel)
theorem dX12_cell_3 : decode cX12_cell 3 = .ok (.invokevirtual 452, 3) := dk_o182 (by decide +kernel)
theorem dX12_cell_6 : decode cX12_cell 6 = .ok (.ifCond .ne 5, 3) := dk_o154 (by decide +kernel)
theorem dX12_cell_9 : decode cX12_cell 9 = .ok (.iconst (-1), 1) := dk_o2 (by decide +kernel)
theorem dX12_cell_10 : decode cX12_cell 10 = .ok (.ireturn, 1) := dk_o172 (by decide +kernel)
theorem dX12_cell_11 : decode cX12_cell 11 = .ok (.bipush 8, 2) := dk_o16 (by decide +kernel)
theorem dX12_cell_13 : decode cX12_cell 13 = .ok (.iload_n 2, 1) := dk_o28 (by decide +kernel)
theorem dX12_cell_14 : decode cX12_cell 14 = .ok (.imul, 1) := dk_o104 (by decide +kernel)
theorem dX12_cell_15 : decode cX12_cell 15 = .ok (.iload_n 1, 1) := dk_o27 (by decide +kernel)
theorem dX12_cell_16 : decode cX12_cell 16 = .ok (.iadd, 1) := dk_o96 (by decide +kernel)
theorem dX12_cell_17 : decode cX12_cell 17 = .ok (.istore 4, 2) := dk_o54 (by decide +kernel)
theorem dX12_cell_19 : decode cX12_cell 19 = .ok (.aload_n 0, 1) := dk_o42 (by decide +kernel)
theorem dX12_cell_20 : decode cX12_cell 20 = .ok (.iconst 0, 1) := dk_o3 (by decide +kernel)
theorem dX12_cell_21 : decode cX12_cell 21 = .ok (.invokevirtual 484, 3) := dk_o182 (by decide +kernel)
theorem dX12_cell_24 : decode cX12_cell 24 = .ok (.iload_n 3, 1) := dk_o29 (by decide +kernel)
theorem dX12_cell_25 : decode cX12_cell 25 = .ok (.tableswitch 148 0 5 #[39, 47, 63, 79, 87, 122], 39) := by decide +kernel
theorem dX12_cell_64 : decode cX12_cell 64 = .ok (.aload_n 0, 1) := dk_o42 (by decide +kernel)
theorem dX12_cell_65 : decode cX12_cell 65 = .ok (.getfield 168, 3) := dk_o180 (by decide +kernel)
theorem dX12_cell_68 : decode cX12_cell 68 = .ok (.iload 4, 2) := dk_o21 (by decide +kernel)
theorem dX12_cell_70 : decode cX12_cell 70 = .ok (.iaload, 1) := dk_o46 (by decide +kernel)
theorem dX12_cell_71 : decode cX12_cell 71 = .ok (.ireturn, 1) := dk_o172 (by decide +kernel)
theorem dX12_cell_72 : decode cX12_cell 72 = .ok (.aload_n 0, 1) := dk_o42 (by decide +kernel)
theorem dX12_cell_73 : decode cX12_cell 73 = .ok (.iconst 0, 1) := dk_o3 (by decide +kernel)
theorem dX12_cell_74 : decode cX12_cell 74 = .ok (.iload 4, 2) := dk_o21 (by decide +kernel)
theorem dX12_cell_76 : decode cX12_cell 76 = .ok (.invokevirtual 460, 3) := dk_o182 (by decide +kernel)
theorem dX12_cell_79 : decode cX12_cell 79 = .ok (.ifCond .eq 7, 3) := dk_o153 (by decide +kernel)
theorem dX12_cell_82 : decode cX12_cell 82 = .ok (.iconst 1, 1) := dk_o4 (by decide +kernel)
theorem dX12_cell_83 : decode cX12_cell 83 = .ok (.goto 4, 3) := dk_o167 (by decide +kernel)
theorem dX12_cell_86 : decode cX12_cell 86 = .ok (.iconst 0, 1) := dk_o3 (by decide +kernel)
theorem dX12_cell_87 : decode cX12_cell 87 = .ok (.ireturn, 1) := dk_o172 (by decide +kernel)
theorem dX12_cell_88 : decode cX12_cell 88 = .ok (.aload_n 0, 1) := dk_o42 (by decide +kernel)
theorem dX12_cell_89 : decode cX12_cell 89 = .ok (.iconst 0, 1) := dk_o3 (by decide +kernel)
theorem dX12_cell_90 : decode cX12_cell 90 = .ok (.iload 4, 2) := dk_o21 (by decide +kernel)
theorem dX12_cell_92 : decode cX12_cell 92 = .ok (.invokevirtual 463, 3) := dk_o182 (by decide +kernel)
theorem dX12_cell_95 : decode cX12_cell 95 = .ok (.ifCond .eq 7, 3) := dk_o153 (by decide +kernel)
theorem dX12_cell_98 : decode cX12_cell 98 = .ok (.iconst 1, 1) := dk_o4 (by decide +kernel)
theorem dX12_cell_99 : decode cX12_cell 99 = .ok (.goto 4, 3) := dk_o167 (by decide +kernel)
theorem dX12_cell_102 : decode cX12_cell 102 = .ok (.iconst 0, 1) := dk_o3 (by decide +kernel)
theorem dX12_cell_103 : decode cX12_cell 103 = .ok (.ireturn, 1) := dk_o172 (by decide +kernel)
theorem dX12_cell_104 : decode cX12_cell 104 = .ok (.aload_n 0, 1) := dk_o42 (by decide +kernel)
theorem dX12_cell_105 : decode cX12_cell 105 = .ok (.getfield 171, 3) := dk_o180 (by decide +kernel)
theorem dX12_cell_108 : decode cX12_cell 108 = .ok (.iload 4, 2) := dk_o21 (by decide +kernel)
theorem dX12_cell_110 : decode cX12_cell 110 = .ok (.iaload, 1) := dk_o46 (by decide +kernel)
theorem dX12_cell_111 : decode cX12_cell 111 = .ok (.ireturn, 1) := dk_o172 (by decide +kernel)
theorem dX12_cell_112 : decode cX12_cell 112 = .ok (.aload_n 0, 1) := dk_o42 (by decide +kernel)
theorem dX12_cell_113 : decode cX12_cell 113 = .ok (.iconst 0, 1) := dk_o3 (by decide +kernel)
theorem dX12_cell_114 : decode cX12_cell 114 = .ok (.iload 4, 2) := dk_o21 (by decide +kernel)
theorem dX12_cell_116 : decode cX12_cell 116 = .ok (.invokevirtual 460, 3) := dk_o182 (by decide +kernel)
theorem dX12_cell_119 : decode cX12_cell 119 = .ok (.ifCond .eq 26, 3) := dk_o153 (by decide +kernel)
theorem dX12_cell_122 : decode cX12_cell 122 = .ok (.aload_n 0, 1) := dk_o42 (by decide +kernel)
theorem dX12_cell_123 : decode cX12_cell 123 = .ok (.getfield 213, 3) := dk_o180 (by decide +kernel)
theorem dX12_cell_126 : decode cX12_cell 126 = .ok (.iload 4, 2) := dk_o21 (by decide +kernel)
theorem dX12_cell_128 : decode cX12_cell 128 = .ok (.iaload, 1) := dk_o46 (by decide +kernel)
theorem dX12_cell_129 : decode cX12_cell 129 = .ok (.ldc_w 456, 3) := dk_o19 (by decide +kernel)
theorem dX12_cell_132 : decode cX12_cell 132 = .ok (.if_icmp .ge 13, 3) := dk_o162 (by decide +kernel)
theorem dX12_cell_135 : decode cX12_cell 135 = .ok (.aload_n 0, 1) := dk_o42 (by decide +kernel)
theorem dX12_cell_136 : decode cX12_cell 136 = .ok (.getfield 213, 3) := dk_o180 (by decide +kernel)
theorem dX12_cell_139 : decode cX12_cell 139 = .ok (.iload 4, 2) := dk_o21 (by decide +kernel)
theorem dX12_cell_141 : decode cX12_cell 141 = .ok (.iaload, 1) := dk_o46 (by decide +kernel)
theorem dX12_cell_142 : decode cX12_cell 142 = .ok (.goto 4, 3) := dk_o167 (by decide +kernel)
theorem dX12_cell_145 : decode cX12_cell 145 = .ok (.iconst (-1), 1) := dk_o2 (by decide +kernel)
theorem dX12_cell_146 : decode cX12_cell 146 = .ok (.ireturn, 1) := dk_o172 (by decide +kernel)
theorem dX12_cell_147 : decode cX12_cell 147 = .ok (.aload_n 0, 1) := dk_o42 (by decide +kernel)
theorem dX12_cell_148 : decode cX12_cell 148 = .ok (.iconst 0, 1) := dk_o3 (by decide +kernel)
theorem dX12_cell_149 : decode cX12_cell 149 = .ok (.iload 4, 2) := dk_o21 (by decide +kernel)
theorem dX12_cell_151 : decode cX12_cell 151 = .ok (.invokevirtual 490, 3) := dk_o182 (by decide +kernel)
theorem dX12_cell_154 : decode cX12_cell 154 = .ok (.ifCond .eq 17, 3) := dk_o153 (by decide +kernel)
theorem dX12_cell_157 : decode cX12_cell 157 = .ok (.aload_n 0, 1) := dk_o42 (by decide +kernel)
theorem dX12_cell_158 : decode cX12_cell 158 = .ok (.iconst 0, 1) := dk_o3 (by decide +kernel)
theorem dX12_cell_159 : decode cX12_cell 159 = .ok (.iload 4, 2) := dk_o21 (by decide +kernel)
theorem dX12_cell_161 : decode cX12_cell 161 = .ok (.invokevirtual 493, 3) := dk_o182 (by decide +kernel)
theorem dX12_cell_164 : decode cX12_cell 164 = .ok (.ifCond .ne 7, 3) := dk_o154 (by decide +kernel)
theorem dX12_cell_167 : decode cX12_cell 167 = .ok (.iconst 1, 1) := dk_o4 (by decide +kernel)
theorem dX12_cell_168 : decode cX12_cell 168 = .ok (.goto 4, 3) := dk_o167 (by decide +kernel)
theorem dX12_cell_171 : decode cX12_cell 171 = .ok (.iconst 0, 1) := dk_o3 (by decide +kernel)
theorem dX12_cell_172 : decode cX12_cell 172 = .ok (.ireturn, 1) := dk_o172 (by decide +kernel)
theorem dX12_cell_173 : decode cX12_cell 173 = .ok (.iconst (-1), 1) := dk_o2 (by decide +kernel)
theorem dX12_cell_174 : decode cX12_cell 174 = .ok (.ireturn, 1) := dk_o172 (by decide +kernel)
theorem dX12_hurt_0 : decode cX12_hurt 0 = .ok (.aload_n 0, 1) := dk_o42 (by decide +kernel)
theorem dX12_hurt_1 : decode cX12_hurt 1 = .ok (.iload_n 1, 1) := dk_o27 (by decide +kernel)
theorem dX12_hurt_2 : decode cX12_hurt 2 = .ok (.invokevirtual 521, 3) := dk_o182 (by decide +kernel)
theorem dX12_hurt_5 : decode cX12_hurt 5 = .ok (.ifCond .eq 24, 3) := dk_o153 (by decide +kernel)
theorem dX12_hurt_8 : decode cX12_hurt 8 = .ok (.aload_n 0, 1) := dk_o42 (by decide +kernel)
theorem dX12_hurt_9 : decode cX12_hurt 9 = .ok (.getfield 174, 3) := dk_o180 (by decide +kernel)
theorem dX12_hurt_12 : decode cX12_hurt 12 = .ok (.iconst 0, 1) := dk_o3 (by decide +kernel)
theorem dX12_hurt_13 : decode cX12_hurt 13 = .ok (.iaload, 1) := dk_o46 (by decide +kernel)
theorem dX12_hurt_14 : decode cX12_hurt 14 = .ok (.iload_n 1, 1) := dk_o27 (by decide +kernel)
theorem dX12_hurt_15 : decode cX12_hurt 15 = .ok (.invokestatic 487, 3) := dk_o184 (by decide +kernel)
theorem dX12_hurt_18 : decode cX12_hurt 18 = .ok (.ifCond .eq 7, 3) := dk_o153 (by decide +kernel)
theorem dX12_hurt_21 : decode cX12_hurt 21 = .ok (.iconst 1, 1) := dk_o4 (by decide +kernel)
theorem dX12_hurt_22 : decode cX12_hurt 22 = .ok (.goto 8, 3) := dk_o167 (by decide +kernel)
theorem dX12_hurt_25 : decode cX12_hurt 25 = .ok (.iconst 0, 1) := dk_o3 (by decide +kernel)
theorem dX12_hurt_26 : decode cX12_hurt 26 = .ok (.goto 4, 3) := dk_o167 (by decide +kernel)
theorem dX12_hurt_29 : decode cX12_hurt 29 = .ok (.iconst (-1), 1) := dk_o2 (by decide +kernel)
theorem dX12_hurt_30 : decode cX12_hurt 30 = .ok (.ireturn, 1) := dk_o172 (by decide +kernel)
theorem dX12_plan_0 : decode cX12_plan 0 = .ok (.iload_n 1, 1) := dk_o27 (by decide +kernel)
theorem dX12_plan_1 : decode cX12_plan 1 = .ok (.iconst 0, 1) := dk_o3 (by decide +kernel)
theorem dX12_plan_2 : decode cX12_plan 2 = .ok (.aload_n 0, 1) := dk_o42 (by decide +kernel)
theorem dX12_plan_3 : decode cX12_plan 3 = .ok (.getfield 75, 3) := dk_o180 (by decide +kernel)
theorem dX12_plan_6 : decode cX12_plan 6 = .ok (.aload_n 0, 1) := dk_o42 (by decide +kernel)
theorem dX12_plan_7 : decode cX12_plan 7 = .ok (.getfield 51, 3) := dk_o180 (by decide +kernel)
theorem dX12_plan_10 : decode cX12_plan 10 = .ok (.iaload, 1) := dk_o46 (by decide +kernel)
theorem dX12_plan_11 : decode cX12_plan 11 = .ok (.iconst 1, 1) := dk_o4 (by decide +kernel)
theorem dX12_plan_12 : decode cX12_plan 12 = .ok (.isub, 1) := dk_o100 (by decide +kernel)
theorem dX12_plan_13 : decode cX12_plan 13 = .ok (.invokestatic 333, 3) := dk_o184 (by decide +kernel)
theorem dX12_plan_16 : decode cX12_plan 16 = .ok (.ifCond .eq 12, 3) := dk_o153 (by decide +kernel)
theorem dX12_plan_19 : decode cX12_plan 19 = .ok (.iload_n 2, 1) := dk_o28 (by decide +kernel)
theorem dX12_plan_20 : decode cX12_plan 20 = .ok (.iconst 0, 1) := dk_o3 (by decide +kernel)
theorem dX12_plan_21 : decode cX12_plan 21 = .ok (.iconst 2, 1) := dk_o5 (by decide +kernel)
theorem dX12_plan_22 : decode cX12_plan 22 = .ok (.invokestatic 333, 3) := dk_o184 (by decide +kernel)
theorem dX12_plan_25 : decode cX12_plan 25 = .ok (.ifCond .ne 7, 3) := dk_o154 (by decide +kernel)
theorem dX12_plan_28 : decode cX12_plan 28 = .ok (.iconst (-1), 1) := dk_o2 (by decide +kernel)
theorem dX12_plan_29 : decode cX12_plan 29 = .ok (.goto 28, 3) := dk_o167 (by decide +kernel)
theorem dX12_plan_32 : decode cX12_plan 32 = .ok (.iload_n 2, 1) := dk_o28 (by decide +kernel)
theorem dX12_plan_33 : decode cX12_plan 33 = .ok (.ifCond .ne 12, 3) := dk_o154 (by decide +kernel)
theorem dX12_plan_36 : decode cX12_plan 36 = .ok (.aload_n 0, 1) := dk_o42 (by decide +kernel)
theorem dX12_plan_37 : decode cX12_plan 37 = .ok (.getfield 180, 3) := dk_o180 (by decide +kernel)
theorem dX12_plan_40 : decode cX12_plan 40 = .ok (.iload_n 1, 1) := dk_o27 (by decide +kernel)
theorem dX12_plan_41 : decode cX12_plan 41 = .ok (.iaload, 1) := dk_o46 (by decide +kernel)
theorem dX12_plan_42 : decode cX12_plan 42 = .ok (.goto 15, 3) := dk_o167 (by decide +kernel)
theorem dX12_plan_45 : decode cX12_plan 45 = .ok (.aload_n 0, 1) := dk_o42 (by decide +kernel)
theorem dX12_plan_46 : decode cX12_plan 46 = .ok (.getfield 183, 3) := dk_o180 (by decide +kernel)
theorem dX12_plan_49 : decode cX12_plan 49 = .ok (.iload_n 1, 1) := dk_o27 (by decide +kernel)
theorem dX12_plan_50 : decode cX12_plan 50 = .ok (.iaload, 1) := dk_o46 (by decide +kernel)
theorem dX12_plan_51 : decode cX12_plan 51 = .ok (.iload_n 2, 1) := dk_o28 (by decide +kernel)
theorem dX12_plan_52 : decode cX12_plan 52 = .ok (.iconst 1, 1) := dk_o4 (by decide +kernel)
theorem dX12_plan_53 : decode cX12_plan 53 = .ok (.isub, 1) := dk_o100 (by decide +kernel)
theorem dX12_plan_54 : decode cX12_plan 54 = .ok (.invokestatic 529, 3) := dk_o184 (by decide +kernel)
theorem dX12_plan_57 : decode cX12_plan 57 = .ok (.ireturn, 1) := dk_o172 (by decide +kernel)
theorem dX12_canSell_0 : decode cX12_canSell 0 = .ok (.aload_n 0, 1) := dk_o42 (by decide +kernel)
theorem dX12_canSell_1 : decode cX12_canSell 1 = .ok (.iload_n 1, 1) := dk_o27 (by decide +kernel)
theorem dX12_canSell_2 : decode cX12_canSell 2 = .ok (.invokevirtual 524, 3) := dk_o182 (by decide +kernel)
theorem dX12_canSell_5 : decode cX12_canSell 5 = .ok (.ifCond .eq 54, 3) := dk_o153 (by decide +kernel)
theorem dX12_canSell_8 : decode cX12_canSell 8 = .ok (.aload_n 0, 1) := dk_o42 (by decide +kernel)
theorem dX12_canSell_9 : decode cX12_canSell 9 = .ok (.getfield 177, 3) := dk_o180 (by decide +kernel)
theorem dX12_canSell_12 : decode cX12_canSell 12 = .ok (.iconst 0, 1) := dk_o3 (by decide +kernel)
theorem dX12_canSell_13 : decode cX12_canSell 13 = .ok (.iaload, 1) := dk_o46 (by decide +kernel)
theorem dX12_canSell_14 : decode cX12_canSell 14 = .ok (.iload_n 1, 1) := dk_o27 (by decide +kernel)
theorem dX12_canSell_15 : decode cX12_canSell 15 = .ok (.invokestatic 487, 3) := dk_o184 (by decide +kernel)
theorem dX12_canSell_18 : decode cX12_canSell 18 = .ok (.ifCond .ne 41, 3) := dk_o154 (by decide +kernel)
theorem dX12_canSell_21 : decode cX12_canSell 21 = .ok (.aload_n 0, 1) := dk_o42 (by decide +kernel)
theorem dX12_canSell_22 : decode cX12_canSell 22 = .ok (.iconst 0, 1) := dk_o3 (by decide +kernel)
theorem dX12_canSell_23 : decode cX12_canSell 23 = .ok (.aload_n 0, 1) := dk_o42 (by decide +kernel)
theorem dX12_canSell_24 : decode cX12_canSell 24 = .ok (.getfield 87, 3) := dk_o180 (by decide +kernel)
theorem dX12_canSell_27 : decode cX12_canSell 27 = .ok (.iconst 5, 1) := dk_o8 (by decide +kernel)
theorem dX12_canSell_28 : decode cX12_canSell 28 = .ok (.aload_n 0, 1) := dk_o42 (by decide +kernel)
theorem dX12_canSell_29 : decode cX12_canSell 29 = .ok (.getfield 51, 3) := dk_o180 (by decide +kernel)
theorem dX12_canSell_32 : decode cX12_canSell 32 = .ok (.imul, 1) := dk_o104 (by decide +kernel)
theorem dX12_canSell_33 : decode cX12_canSell 33 = .ok (.iload_n 1, 1) := dk_o27 (by decide +kernel)
theorem dX12_canSell_34 : decode cX12_canSell 34 = .ok (.iadd, 1) := dk_o96 (by decide +kernel)
theorem dX12_canSell_35 : decode cX12_canSell 35 = .ok (.iaload, 1) := dk_o46 (by decide +kernel)
theorem dX12_canSell_36 : decode cX12_canSell 36 = .ok (.invokevirtual 532, 3) := dk_o182 (by decide +kernel)
theorem dX12_canSell_39 : decode cX12_canSell 39 = .ok (.aload_n 0, 1) := dk_o42 (by decide +kernel)
theorem dX12_canSell_40 : decode cX12_canSell 40 = .ok (.getfield 90, 3) := dk_o180 (by decide +kernel)
theorem dX12_canSell_43 : decode cX12_canSell 43 = .ok (.iconst 5, 1) := dk_o8 (by decide +kernel)
theorem dX12_canSell_44 : decode cX12_canSell 44 = .ok (.aload_n 0, 1) := dk_o42 (by decide +kernel)
theorem dX12_canSell_45 : decode cX12_canSell 45 = .ok (.getfield 51, 3) := dk_o180 (by decide +kernel)
theorem dX12_canSell_48 : decode cX12_canSell 48 = .ok (.imul, 1) := dk_o104 (by decide +kernel)
theorem dX12_canSell_49 : decode cX12_canSell 49 = .ok (.iload_n 1, 1) := dk_o27 (by decide +kernel)
theorem dX12_canSell_50 : decode cX12_canSell 50 = .ok (.iadd, 1) := dk_o96 (by decide +kernel)
theorem dX12_canSell_51 : decode cX12_canSell 51 = .ok (.iaload, 1) := dk_o46 (by decide +kernel)
theorem dX12_canSell_52 : decode cX12_canSell 52 = .ok (.if_icmp .lt 7, 3) := dk_o161 (by decide +kernel)
theorem dX12_canSell_55 : decode cX12_canSell 55 = .ok (.iconst 1, 1) := dk_o4 (by decide +kernel)
theorem dX12_canSell_56 : decode cX12_canSell 56 = .ok (.goto 4, 3) := dk_o167 (by decide +kernel)
theorem dX12_canSell_59 : decode cX12_canSell 59 = .ok (.iconst 0, 1) := dk_o3 (by decide +kernel)
theorem dX12_canSell_60 : decode cX12_canSell 60 = .ok (.ireturn, 1) := dk_o172 (by decide +kernel)
theorem dX12_order_0 : decode cX12_order 0 = .ok (.aload_n 0, 1) := dk_o42 (by decide +kernel)
theorem dX12_order_1 : decode cX12_order 1 = .ok (.iload_n 1, 1) := dk_o27 (by decide +kernel)
theorem dX12_order_2 : decode cX12_order 2 = .ok (.invokevirtual 524, 3) := dk_o182 (by decide +kernel)
theorem dX12_order_5 : decode cX12_order 5 = .ok (.ifCond .ne 5, 3) := dk_o154 (by decide +kernel)
theorem dX12_order_8 : decode cX12_order 8 = .ok (.iconst (-1), 1) := dk_o2 (by decide +kernel)
theorem dX12_order_9 : decode cX12_order 9 = .ok (.ireturn, 1) := dk_o172 (by decide +kernel)
theorem dX12_order_10 : decode cX12_order 10 = .ok (.iload_n 2, 1) := dk_o28 (by decide +kernel)
theorem dX12_order_11 : decode cX12_order 11 = .ok (.tableswitch 108 0 4 #[33, 47, 61, 75, 94], 33) := by decide +kernel
theorem dX12_order_44 : decode cX12_order 44 = .ok (.aload_n 0, 1) := dk_o42 (by decide +kernel)
theorem dX12_order_45 : decode cX12_order 45 = .ok (.getfield 87, 3) := dk_o180 (by decide +kernel)
theorem dX12_order_48 : decode cX12_order 48 = .ok (.iconst 5, 1) := dk_o8 (by decide +kernel)
theorem dX12_order_49 : decode cX12_order 49 = .ok (.aload_n 0, 1) := dk_o42 (by decide +kernel)
theorem dX12_order_50 : decode cX12_order 50 = .ok (.getfield 51, 3) := dk_o180 (by decide +kernel)
theorem dX12_order_53 : decode cX12_order 53 = .ok (.imul, 1) := dk_o104 (by decide +kernel)
theorem dX12_order_54 : decode cX12_order 54 = .ok (.iload_n 1, 1) := dk_o27 (by decide +kernel)
theorem dX12_order_55 : decode cX12_order 55 = .ok (.iadd, 1) := dk_o96 (by decide +kernel)
theorem dX12_order_56 : decode cX12_order 56 = .ok (.iaload, 1) := dk_o46 (by decide +kernel)
theorem dX12_order_57 : decode cX12_order 57 = .ok (.ireturn, 1) := dk_o172 (by decide +kernel)
theorem dX12_order_58 : decode cX12_order 58 = .ok (.aload_n 0, 1) := dk_o42 (by decide +kernel)
theorem dX12_order_59 : decode cX12_order 59 = .ok (.getfield 90, 3) := dk_o180 (by decide +kernel)
theorem dX12_order_62 : decode cX12_order 62 = .ok (.iconst 5, 1) := dk_o8 (by decide +kernel)
theorem dX12_order_63 : decode cX12_order 63 = .ok (.aload_n 0, 1) := dk_o42 (by decide +kernel)
theorem dX12_order_64 : decode cX12_order 64 = .ok (.getfield 51, 3) := dk_o180 (by decide +kernel)
theorem dX12_order_67 : decode cX12_order 67 = .ok (.imul, 1) := dk_o104 (by decide +kernel)
theorem dX12_order_68 : decode cX12_order 68 = .ok (.iload_n 1, 1) := dk_o27 (by decide +kernel)
theorem dX12_order_69 : decode cX12_order 69 = .ok (.iadd, 1) := dk_o96 (by decide +kernel)
theorem dX12_order_70 : decode cX12_order 70 = .ok (.iaload, 1) := dk_o46 (by decide +kernel)
theorem dX12_order_71 : decode cX12_order 71 = .ok (.ireturn, 1) := dk_o172 (by decide +kernel)
theorem dX12_order_72 : decode cX12_order 72 = .ok (.aload_n 0, 1) := dk_o42 (by decide +kernel)
theorem dX12_order_73 : decode cX12_order 73 = .ok (.getfield 93, 3) := dk_o180 (by decide +kernel)
theorem dX12_order_76 : decode cX12_order 76 = .ok (.iconst 5, 1) := dk_o8 (by decide +kernel)
theorem dX12_order_77 : decode cX12_order 77 = .ok (.aload_n 0, 1) := dk_o42 (by decide +kernel)
theorem dX12_order_78 : decode cX12_order 78 = .ok (.getfield 51, 3) := dk_o180 (by decide +kernel)
theorem dX12_order_81 : decode cX12_order 81 = .ok (.imul, 1) := dk_o104 (by decide +kernel)
theorem dX12_order_82 : decode cX12_order 82 = .ok (.iload_n 1, 1) := dk_o27 (by decide +kernel)
theorem dX12_order_83 : decode cX12_order 83 = .ok (.iadd, 1) := dk_o96 (by decide +kernel)
theorem dX12_order_84 : decode cX12_order 84 = .ok (.iaload, 1) := dk_o46 (by decide +kernel)
theorem dX12_order_85 : decode cX12_order 85 = .ok (.ireturn, 1) := dk_o172 (by decide +kernel)
theorem dX12_order_86 : decode cX12_order 86 = .ok (.aload_n 0, 1) := dk_o42 (by decide +kernel)
theorem dX12_order_87 : decode cX12_order 87 = .ok (.getfield 177, 3) := dk_o180 (by decide +kernel)
theorem dX12_order_90 : decode cX12_order 90 = .ok (.iconst 0, 1) := dk_o3 (by decide +kernel)
theorem dX12_order_91 : decode cX12_order 91 = .ok (.iaload, 1) := dk_o46 (by decide +kernel)
theorem dX12_order_92 : decode cX12_order 92 = .ok (.iload_n 1, 1) := dk_o27 (by decide +kernel)
theorem dX12_order_93 : decode cX12_order 93 = .ok (.invokestatic 487, 3) := dk_o184 (by decide +kernel)
theorem dX12_order_96 : decode cX12_order 96 = .ok (.ifCond .eq 7, 3) := dk_o153 (by decide +kernel)
theorem dX12_order_99 : decode cX12_order 99 = .ok (.iconst 1, 1) := dk_o4 (by decide +kernel)
theorem dX12_order_100 : decode cX12_order 100 = .ok (.goto 4, 3) := dk_o167 (by decide +kernel)
theorem dX12_order_103 : decode cX12_order 103 = .ok (.iconst 0, 1) := dk_o3 (by decide +kernel)
theorem dX12_order_104 : decode cX12_order 104 = .ok (.ireturn, 1) := dk_o172 (by decide +kernel)
theorem dX12_order_105 : decode cX12_order 105 = .ok (.aload_n 0, 1) := dk_o42 (by decide +kernel)
theorem dX12_order_106 : decode cX12_order 106 = .ok (.iload_n 1, 1) := dk_o27 (by decide +kernel)
theorem dX12_order_107 : decode cX12_order 107 = .ok (.invokevirtual 535, 3) := dk_o182 (by decide +kernel)
theorem dX12_order_110 : decode cX12_order 110 = .ok (.ifCond .eq 7, 3) := dk_o153 (by decide +kernel)
theorem dX12_order_113 : decode cX12_order 113 = .ok (.iconst 1, 1) := dk_o4 (by decide +kernel)
theorem dX12_order_114 : decode cX12_order 114 = .ok (.goto 4, 3) := dk_o167 (by decide +kernel)
theorem dX12_order_117 : decode cX12_order 117 = .ok (.iconst 0, 1) := dk_o3 (by decide +kernel)
theorem dX12_order_118 : decode cX12_order 118 = .ok (.ireturn, 1) := dk_o172 (by decide +kernel)
theorem dX12_order_119 : decode cX12_order 119 = .ok (.iconst (-1), 1) := dk_o2 (by decide +kernel)
theorem dX12_order_120 : decode cX12_order 120 = .ok (.ireturn, 1) := dk_o172 (by decide +kernel)
theorem dX12_tubs_0 : decode cX12_tubs 0 = .ok (.iload_n 1, 1) := dk_o27 (by decide +kernel)
theorem dX12_tubs_1 : decode cX12_tubs 1 = .ok (.iconst 0, 1) := dk_o3 (by decide +kernel)
theorem dX12_tubs_2 : decode cX12_tubs 2 = .ok (.bipush 9, 2) := dk_o16 (by decide +kernel)
theorem dX12_tubs_4 : decode cX12_tubs 4 = .ok (.invokestatic 333, 3) := dk_o184 (by decide +kernel)
theorem dX12_tubs_7 : decode cX12_tubs 7 = .ok (.ifCond .eq 12, 3) := dk_o153 (by decide +kernel)
theorem dX12_tubs_10 : decode cX12_tubs 10 = .ok (.aload_n 0, 1) := dk_o42 (by decide +kernel)
theorem dX12_tubs_11 : decode cX12_tubs 11 = .ok (.getfield 186, 3) := dk_o180 (by decide +kernel)
theorem dX12_tubs_14 : decode cX12_tubs 14 = .ok (.iload_n 1, 1) := dk_o27 (by decide +kernel)
theorem dX12_tubs_15 : decode cX12_tubs 15 = .ok (.iaload, 1) := dk_o46 (by decide +kernel)
theorem dX12_tubs_16 : decode cX12_tubs 16 = .ok (.goto 4, 3) := dk_o167 (by decide +kernel)
theorem dX12_tubs_19 : decode cX12_tubs 19 = .ok (.iconst (-1), 1) := dk_o2 (by decide +kernel)
theorem dX12_tubs_20 : decode cX12_tubs 20 = .ok (.ireturn, 1) := dk_o172 (by decide +kernel)
theorem wB_1192 : Cond.fieldLink RX12 198 "DarkMineModel" "undos" "I" ∈ dgB := List.mem_filter.mpr ⟨tbl_6 _ (List.mem_of_getElem? (i := 224) (by decide +kernel)), by decide +kernel⟩
theorem wB_1193 : Cond.fieldLink RX12 222 "DarkMineModel" "feltMany" "I" ∈ dgB := List.mem_filter.mpr ⟨tbl_6 _ (List.mem_of_getElem? (i := 232) (by decide +kernel)), by decide +kernel⟩
theorem wB_1194 : Cond.code yX12_bits cX12_bits 3 (some .int) ∈ dgB := List.mem_filter.mpr ⟨tbl_8 _ (List.mem_of_getElem? (i := 158) rfl), rfl⟩
theorem wB_1195 : Cond.methodLink RX12 515 yX12_bits ∈ dgB := List.mem_filter.mpr ⟨tbl_8 _ (List.mem_of_getElem? (i := 156) (by decide +kernel)), by decide +kernel⟩
theorem wB_1196 : Cond.static yX12_bits ∈ dgB := List.mem_filter.mpr ⟨tbl_8 _ (List.mem_of_getElem? (i := 157) (by decide +kernel)), by decide +kernel⟩
theorem wB_1197 : Cond.code yX12_worthOf cX12_worthOf 4 (some .int) ∈ dgB := List.mem_filter.mpr ⟨tbl_8 _ (List.mem_of_getElem? (i := 162) rfl), rfl⟩
theorem wB_1198 : Cond.methodLink RX12 518 yX12_worthOf ∈ dgB := List.mem_filter.mpr ⟨tbl_8 _ (List.mem_of_getElem? (i := 159) (by decide +kernel)), by decide +kernel⟩
theorem wB_1199 : Cond.instanceMethod yX12_worthOf ∈ dgB := List.mem_filter.mpr ⟨tbl_8 _ (List.mem_of_getElem? (i := 161) (by decide +kernel)), by decide +kernel⟩
theorem wB_1200 : Cond.selects RX12 yX12_worthOf yX12_worthOf ∈ dgB := List.mem_filter.mpr ⟨List.mem_of_getElem? (i := 123) (by decide +kernel), by decide +kernel⟩
theorem wB_1201 : Cond.fieldLink RX12 201 "DarkMineModel" "seeds" "J" ∈ dgB := List.mem_filter.mpr ⟨tbl_6 _ (List.mem_of_getElem? (i := 225) (by decide +kernel)), by decide +kernel⟩
theorem wB_1202 : Cond.code yX12_isOrder cX12_isOrder 2 (some .boolean) ∈ dgB := List.mem_filter.mpr ⟨tbl_8 _ (List.mem_of_getElem? (i := 178) rfl), rfl⟩
theorem wB_1203 : Cond.methodLink RX12 524 yX12_isOrder ∈ dgB := List.mem_filter.mpr ⟨tbl_8 _ (List.mem_of_getElem? (i := 175) (by decide +kernel)), by decide +kernel⟩
theorem wB_1204 : Cond.instanceMethod yX12_isOrder ∈ dgB := List.mem_filter.mpr ⟨tbl_8 _ (List.mem_of_getElem? (i := 177) (by decide +kernel)), by decide +kernel⟩
theorem wB_1205 : Cond.selects RX12 yX12_isOrder yX12_isOrder ∈ dgB := List.mem_filter.mpr ⟨List.mem_of_getElem? (i := 126) (by decide +kernel), by decide +kernel⟩
theorem wB_1206 : Cond.constantLong RX12 527 (255) ∈ dgB := List.mem_filter.mpr ⟨tbl_8 _ (List.mem_of_getElem? (i := 179) (by decide +kernel)), by decide +kernel⟩
theorem wB_1207 : Cond.code yX12_isMiner cX12_isMiner 2 (some .boolean) ∈ dgB := List.mem_filter.mpr ⟨tbl_8 _ (List.mem_of_getElem? (i := 174) rfl), rfl⟩
theorem wB_1208 : Cond.methodLink RX12 521 yX12_isMiner ∈ dgB := List.mem_filter.mpr ⟨tbl_8 _ (List.mem_of_getElem? (i := 171) (by decide +kernel)), by decide +kernel⟩
theorem wB_1209 : Cond.instanceMethod yX12_isMiner ∈ dgB := List.mem_filter.mpr ⟨tbl_8 _ (List.mem_of_getElem? (i := 173) (by decide +kernel)), by decide +kernel⟩
theorem wB_1210 : Cond.selects RX12 yX12_isMiner yX12_isMiner ∈ dgB := List.mem_filter.mpr ⟨List.mem_of_getElem? (i := 125) (by decide +kernel), by decide +kernel⟩
theorem wB_1211 : Cond.code yX12_partOf cX12_partOf 2 (some .int) ∈ dgB := List.mem_filter.mpr ⟨tbl_8 _ (List.mem_of_getElem? (i := 236) rfl), rfl⟩
theorem wB_1212 : Cond.methodLink RX12 529 yX12_partOf ∈ dgB := List.mem_filter.mpr ⟨tbl_8 _ (List.mem_of_getElem? (i := 234) (by decide +kernel)), by decide +kernel⟩
theorem wB_1213 : Cond.static yX12_partOf ∈ dgB := List.mem_filter.mpr ⟨tbl_8 _ (List.mem_of_getElem? (i := 235) (by decide +kernel)), by decide +kernel⟩
theorem wB_1214 : Cond.code yX12_tubsFrom cX12_tubsFrom 5 (some .int) ∈ dgB := List.mem_filter.mpr ⟨tbl_9 _ (List.mem_of_getElem? (i := 8) rfl), rfl⟩
theorem wB_1215 : Cond.methodLink RX12 532 yX12_tubsFrom ∈ dgB := List.mem_filter.mpr ⟨tbl_9 _ (List.mem_of_getElem? (i := 5) (by decide +kernel)), by decide +kernel⟩
theorem wB_1216 : Cond.instanceMethod yX12_tubsFrom ∈ dgB := List.mem_filter.mpr ⟨tbl_9 _ (List.mem_of_getElem? (i := 7) (by decide +kernel)), by decide +kernel⟩
theorem wB_1217 : Cond.selects RX12 yX12_tubsFrom yX12_tubsFrom ∈ dgB := List.mem_filter.mpr ⟨List.mem_of_getElem? (i := 135) (by decide +kernel), by decide +kernel⟩
theorem wB_1218 : Cond.code yX12_canSell cX12_canSell 2 (some .boolean) ∈ dgB := List.mem_filter.mpr ⟨tbl_9 _ (List.mem_of_getElem? (i := 4) rfl), rfl⟩
theorem wB_1219 : Cond.methodLink RX12 535 yX12_canSell ∈ dgB := List.mem_filter.mpr ⟨tbl_9 _ (List.mem_of_getElem? (i := 1) (by decide +kernel)), by decide +kernel⟩
theorem wB_1220 : Cond.instanceMethod yX12_canSell ∈ dgB := List.mem_filter.mpr ⟨tbl_9 _ (List.mem_of_getElem? (i := 3) (by decide +kernel)), by decide +kernel⟩
theorem wB_1221 : Cond.selects RX12 yX12_canSell yX12_canSell ∈ dgB := List.mem_filter.mpr ⟨List.mem_of_getElem? (i := 134) (by decide +kernel), by decide +kernel⟩
noncomputable def F_m_begin_J5 (S_494 : dg_S) : dg_S := (S_494)
noncomputable def F_m_begin_J4 (S : dg_S) (S_481 : dg_S) : dg_S := let x_483 : Int32 := zI S 0 13; let x_485 : Int32 := S_481.2.1 5 (x_483 : Int32).toNatClampNeg; let S_486 : dg_S := dg_uF S_481 0 63 (.int x_485); let S_488 : dg_S := dg_uf S_486 38 (upd (S_486.2.1 38) (0 : Int32).toNatClampNeg (0 : Int32)); let S_492 : dg_S := dg_uF S_488 0 61 (.int (0 : Int32)); let S_494 : dg_S := dg_uF S_492 0 69 (.int (0 : Int32)); (F_m_begin_J5 S_494)
noncomputable def F_m_begin_B6 (S : dg_S) : (Int32 × dg_S) → (Int32 × dg_S) ⊕ (dg_S) := fun w9 => match w9 with | (x_527, S_528) => (if (10 : Int32) ≤ x_527 then (Sum.inr ((F_m_begin_J4 S S_528))) else let S_533 : dg_S := dg_uf S_528 37 (upd (S_528.2.1 37) (x_527 : Int32).toNatClampNeg (0 : Int32)); let x_535 : Int32 := x_527 + 1; (Sum.inl (x_535, S_533)))
noncomputable def F_m_begin_J3 (S : dg_S) (S_428 : dg_S) : dg_S := (lp (F_m_begin_B6 S) S ((11 - ((0 : Int32)).toInt).toNat + 1) ((0 : Int32), S_428))
noncomputable def F_m_begin_B7 (S : dg_S) : (Int32 × dg_S) → (Int32 × dg_S) ⊕ (dg_S) := fun w9 => match w9 with | (x_619, S_620) => (if (16 : Int32) ≤ x_619 then (Sum.inr ((F_m_begin_J3 S S_620))) else let x_624 : Int32 := zI S 0 13; let x_625 : Int32 := (16 : Int32) * x_624; let x_626 : Int32 := x_625 + x_619; let x_628 : Int32 := S_620.2.1 10 (x_626 : Int32).toNatClampNeg; let S_630 : dg_S := dg_uf S_620 35 (upd (S_620.2.1 35) (x_619 : Int32).toNatClampNeg x_628); let x_631 : Int32 := (16 : Int32) * x_624; let x_632 : Int32 := x_631 + x_619; let x_634 : Int32 := S_630.2.1 11 (x_632 : Int32).toNatClampNeg; let S_636 : dg_S := dg_uf S_630 36 (upd (S_630.2.1 36) (x_619 : Int32).toNatClampNeg x_634); let x_637 : Int32 := x_619 + 1; (Sum.inl (x_637, S_636)))
noncomputable def F_m_begin_J2 (S : dg_S) (S_277 : dg_S) : dg_S := (lp (F_m_begin_B7 S) S ((17 - ((0 : Int32)).toInt).toNat + 1) ((0 : Int32), S_277))
noncomputable def F_m_begin_J9 (S_733 : dg_S) (x_732 : Int32) (x_746 : Int32) : (Int32 × dg_S) ⊕ (dg_S) := let S_755 : dg_S := dg_uf S_733 31 (upd (S_733.2.1 31) (x_732 : Int32).toNatClampNeg x_746); let S_757 : dg_S := dg_uf S_755 32 (upd (S_755.2.1 32) (x_732 : Int32).toNatClampNeg (0 : Int32)); let x_759 : Int32 := x_732 + 1; (Sum.inl (x_759, S_757))
noncomputable def F_m_begin_B8 (S : dg_S) : (Int32 × dg_S) → (Int32 × dg_S) ⊕ (dg_S) := fun w9 => match w9 with | (x_732, S_733) => (if (64 : Int32) ≤ x_732 then (Sum.inr ((F_m_begin_J2 S S_733))) else let x_737 : Int32 := zI S 0 13; let x_740 : Int32 := zI S 0 47; let x_739 : Int32 := S_733.2.1 4 (x_737 : Int32).toNatClampNeg; (if x_732 = x_739 then (F_m_begin_J9 S_733 x_732 (-1 : Int32)) else let x_761 : Int32 := (64 : Int32) * x_737; let x_762 : Int32 := x_761 + x_732; let x_764 : Int32 := S_733.2.1 7 (x_762 : Int32).toNatClampNeg; (F_m_begin_J9 S_733 x_732 x_764)))
noncomputable def F_m_begin_J1 (S : dg_S) (S_14 : dg_S) : dg_S := (lp (F_m_begin_B8 S) S ((65 - ((0 : Int32)).toInt).toNat + 1) ((0 : Int32), S_14))
noncomputable def F_m_begin (o : Nat) (S : dg_S) : dg_S := let S_2 : dg_S := dg_uf S 29 (upd (S.2.1 29) (0 : Int32).toNatClampNeg (0 : Int32)); let S_6 : dg_S := dg_uf S_2 30 (upd (S_2.2.1 30) (0 : Int32).toNatClampNeg (0 : Int32)); let S_10 : dg_S := dg_uf S_6 33 (upd (S_6.2.1 33) (0 : Int32).toNatClampNeg (0 : Int32)); let S_14 : dg_S := dg_uf S_10 34 (upd (S_10.2.1 34) (0 : Int32).toNatClampNeg (0 : Int32)); (F_m_begin_J1 S S_14)
theorem F_m_begin_p0 {S_494 : dg_S}  : F_m_begin_J5 S_494 = S_494 := rfl
theorem F_m_begin_p1 {S : dg_S} {S_481 : dg_S} {S_494 : dg_S} {x_483 : Int32} {x_485 : Int32} {S_486 : dg_S} {S_488 : dg_S} {S_492 : dg_S} (h0 : x_483 = zI S 0 13) (h1 : x_485 = S_481.2.1 5 (x_483 : Int32).toNatClampNeg) (h2 : S_486 = dg_uF S_481 0 63 (.int x_485)) (h3 : S_488 = dg_uf S_486 38 (upd (S_486.2.1 38) (0 : Int32).toNatClampNeg (0 : Int32))) (h4 : S_492 = dg_uF S_488 0 61 (.int (0 : Int32))) (h5 : S_494 = dg_uF S_492 0 69 (.int (0 : Int32))) : F_m_begin_J4 S S_481 = F_m_begin_J5 S_494 := by
  replace h0 := Eq.symm h0
  subst h0
  replace h1 := Eq.symm h1
  subst h1
  replace h2 := Eq.symm h2
  subst h2
  replace h3 := Eq.symm h3
  subst h3
  replace h4 := Eq.symm h4
  subst h4
  replace h5 := Eq.symm h5
  subst h5
  exact rfl
theorem F_m_begin_p2 {S : dg_S} {x_527 : Int32} {S_528 : dg_S} (h0 : (10 : Int32) ≤ x_527) : (F_m_begin_B6 S) (x_527, S_528) = Sum.inr (F_m_begin_J4 S S_528) := (Eq.trans (if_pos h0) rfl)
theorem F_m_begin_p3 {S : dg_S} {x_527 : Int32} {S_528 : dg_S} {x_535 : Int32} {S_533 : dg_S} (h0 : ¬ ((10 : Int32) ≤ x_527)) (h1 : S_533 = dg_uf S_528 37 (upd (S_528.2.1 37) (x_527 : Int32).toNatClampNeg (0 : Int32))) (h2 : x_535 = x_527 + 1) : (F_m_begin_B6 S) (x_527, S_528) = Sum.inl (x_535, S_533) := by
  replace h1 := Eq.symm h1
  subst h1
  replace h2 := Eq.symm h2
  subst h2
  exact (Eq.trans (if_neg h0) rfl)
theorem F_m_begin_p4 {S : dg_S} {S_428 : dg_S}  : F_m_begin_J3 S S_428 = lp (F_m_begin_B6 S) S ((11 - ((0 : Int32)).toInt).toNat + 1) ((0 : Int32), S_428) := rfl
theorem F_m_begin_p5 {S : dg_S} {x_619 : Int32} {S_620 : dg_S} (h0 : (16 : Int32) ≤ x_619) : (F_m_begin_B7 S) (x_619, S_620) = Sum.inr (F_m_begin_J3 S S_620) := (Eq.trans (if_pos h0) rfl)
theorem F_m_begin_p6 {S : dg_S} {x_619 : Int32} {S_620 : dg_S} {x_637 : Int32} {S_636 : dg_S} {x_624 : Int32} {x_625 : Int32} {x_626 : Int32} {x_628 : Int32} {S_630 : dg_S} {x_631 : Int32} {x_632 : Int32} {x_634 : Int32} (h0 : ¬ ((16 : Int32) ≤ x_619)) (h1 : x_624 = zI S 0 13) (h2 : x_625 = (16 : Int32) * x_624) (h3 : x_626 = x_625 + x_619) (h4 : x_628 = S_620.2.1 10 (x_626 : Int32).toNatClampNeg) (h5 : S_630 = dg_uf S_620 35 (upd (S_620.2.1 35) (x_619 : Int32).toNatClampNeg x_628)) (h6 : x_631 = (16 : Int32) * x_624) (h7 : x_632 = x_631 + x_619) (h8 : x_634 = S_630.2.1 11 (x_632 : Int32).toNatClampNeg) (h9 : S_636 = dg_uf S_630 36 (upd (S_630.2.1 36) (x_619 : Int32).toNatClampNeg x_634)) (h10 : x_637 = x_619 + 1) : (F_m_begin_B7 S) (x_619, S_620) = Sum.inl (x_637, S_636) := by
  replace h1 := Eq.symm h1
  subst h1
  replace h2 := Eq.symm h2
  subst h2
  replace h3 := Eq.symm h3
  subst h3
  replace h4 := Eq.symm h4
  subst h4
  replace h5 := Eq.symm h5
  subst h5
  replace h6 := Eq.symm h6
  subst h6
  replace h7 := Eq.symm h7
  subst h7
  replace h8 := Eq.symm h8
  subst h8
  replace h9 := Eq.symm h9
  subst h9
  replace h10 := Eq.symm h10
  subst h10
  exact (Eq.trans (if_neg h0) rfl)
theorem F_m_begin_p7 {S : dg_S} {S_277 : dg_S}  : F_m_begin_J2 S S_277 = lp (F_m_begin_B7 S) S ((17 - ((0 : Int32)).toInt).toNat + 1) ((0 : Int32), S_277) := rfl
theorem F_m_begin_p8 {S : dg_S} {x_732 : Int32} {S_733 : dg_S} (h0 : (64 : Int32) ≤ x_732) : (F_m_begin_B8 S) (x_732, S_733) = Sum.inr (F_m_begin_J2 S S_733) := (Eq.trans (if_pos h0) rfl)
theorem F_m_begin_p9 {S_733 : dg_S} {x_732 : Int32} {x_746 : Int32} {x_759 : Int32} {S_757 : dg_S} {S_755 : dg_S} (h0 : S_755 = dg_uf S_733 31 (upd (S_733.2.1 31) (x_732 : Int32).toNatClampNeg x_746)) (h1 : S_757 = dg_uf S_755 32 (upd (S_755.2.1 32) (x_732 : Int32).toNatClampNeg (0 : Int32))) (h2 : x_759 = x_732 + 1) : F_m_begin_J9 S_733 x_732 x_746 = Sum.inl (x_759, S_757) := by
  replace h0 := Eq.symm h0
  subst h0
  replace h1 := Eq.symm h1
  subst h1
  replace h2 := Eq.symm h2
  subst h2
  exact rfl
theorem F_m_begin_p10 {S : dg_S} {x_732 : Int32} {S_733 : dg_S} {x_764 : Int32} {x_737 : Int32} {x_739 : Int32} {x_761 : Int32} {x_762 : Int32} (h0 : ¬ ((64 : Int32) ≤ x_732)) (h1 : x_737 = zI S 0 13) (h2 : x_739 = S_733.2.1 4 (x_737 : Int32).toNatClampNeg) (h3 : ¬ (x_732 = x_739)) (h4 : x_761 = (64 : Int32) * x_737) (h5 : x_762 = x_761 + x_732) (h6 : x_764 = S_733.2.1 7 (x_762 : Int32).toNatClampNeg) : (F_m_begin_B8 S) (x_732, S_733) = F_m_begin_J9 S_733 x_732 x_764 := by
  replace h1 := Eq.symm h1
  subst h1
  replace h2 := Eq.symm h2
  subst h2
  replace h4 := Eq.symm h4
  subst h4
  replace h5 := Eq.symm h5
  subst h5
  replace h6 := Eq.symm h6
  subst h6
  exact (Eq.trans (if_neg h0) (Eq.trans (if_neg h3) rfl))
theorem F_m_begin_p11 {S : dg_S} {x_732 : Int32} {S_733 : dg_S} {x_737 : Int32} {x_739 : Int32} (h0 : ¬ ((64 : Int32) ≤ x_732)) (h1 : x_737 = zI S 0 13) (h2 : x_739 = S_733.2.1 4 (x_737 : Int32).toNatClampNeg) (h3 : x_732 = x_739) : (F_m_begin_B8 S) (x_732, S_733) = F_m_begin_J9 S_733 x_732 (-1 : Int32) := by
  replace h1 := Eq.symm h1
  subst h1
  replace h2 := Eq.symm h2
  subst h2
  exact (Eq.trans (if_neg h0) (Eq.trans (if_pos h3) rfl))
theorem F_m_begin_p12 {S : dg_S} {S_14 : dg_S}  : F_m_begin_J1 S S_14 = lp (F_m_begin_B8 S) S ((65 - ((0 : Int32)).toInt).toNat + 1) ((0 : Int32), S_14) := rfl
theorem F_m_begin_p13 {o : Nat} {S : dg_S} {S_14 : dg_S} {S_2 : dg_S} {S_6 : dg_S} {S_10 : dg_S} (h0 : S_2 = dg_uf S 29 (upd (S.2.1 29) (0 : Int32).toNatClampNeg (0 : Int32))) (h1 : S_6 = dg_uf S_2 30 (upd (S_2.2.1 30) (0 : Int32).toNatClampNeg (0 : Int32))) (h2 : S_10 = dg_uf S_6 33 (upd (S_6.2.1 33) (0 : Int32).toNatClampNeg (0 : Int32))) (h3 : S_14 = dg_uf S_10 34 (upd (S_10.2.1 34) (0 : Int32).toNatClampNeg (0 : Int32))) : F_m_begin o S = F_m_begin_J1 S S_14 := by
  replace h0 := Eq.symm h0
  subst h0
  replace h1 := Eq.symm h1
  subst h1
  replace h2 := Eq.symm h2
  subst h2
  replace h3 := Eq.symm h3
  subst h3
  exact rfl
set_option maxHeartbeats 8000000 in
set_option maxRecDepth 100000 in
theorem c_m_begin (l : Launch) (g : Nat → ClassId) (D : va_G) (o : Nat) (S : dg_S) (ZB : ZBM S) (ZS : ZSM S) (I : CM o S) (sz : Nat) : Met l yX12_begin (bw yX12_begin cX12_begin 2 none) ({ frames := 1, cells := 0, slots := 0, locals := 32 } : Room) (dk_Pc g D (dg_w g shM o rfM S) sz [.ref (o + 0)]) (va_Qv (fun S' => CM o S' ∧ dg_sm shM [(0, 61), (0, 63), (0, 69)] [29, 30, 31, 32, 33, 34, 35, 36, 37, 38] S S' ∧ ZSM S' ∧ (S' = F_m_begin o S) ∧ True) (dg_B g D shM o rfM) (dg_A o shM.length sz)) 0 0 (dg_A o shM.length sz) := by
  refine dg_met (cc := cX12_begin) (maxL := 2) (ret := none) (dk_dq rfl) rfl (Nat.le_of_ble_eq_true rfl) ?_
  intro p e s m args below meth c A hAe harg hx hb hr hml hts hown hlocks hin hP K hS hA1 hA ST hsz ls hl
  rw [← hAe]
  have F : CallFix p m c cX12_begin 2 s args (bw yX12_begin cX12_begin 2 none) RX12 := ⟨hx, hb, hml, hown, hts⟩
  have hl : lv_has ls 2 [(0, .ref (o + 0))] := hl
  have M_0 : dg_sm shM [(0, 61), (0, 63), (0, 69)] [29, 30, 31, 32, 33, 34, 35, 36, 37, 38] S S := dg_sm.rf
  refine lv_aload_n hx hb dX12_begin_0 rfl (lv_at hl 0 rfl) ?_
  refine dg_get (C := RX12) (T := TX12) (N := 77) hx hb hts (fun w h => bw_mem (wU_X12 w h)) hown K hP sM_0 rfl 49 (dk_dq rfl) (hts _ (bw_mem wB_1108)) (fun _ h9 => h9) (v := .ref (o + 29)) (show S.1 0 49 = .ref (o + 29) from dg_I.rel (d := 29) I sM_0 (by decide +kernel)) dX12_begin_1 ?_
  refine lv_iconst (v := 0) hx hb dX12_begin_4 (by decide +kernel) ?_
  refine lv_iconst (v := 0) hx hb dX12_begin_5 (by decide +kernel) ?_
  have hin_1 : vp_in (0 : Int32) 22 := (dk_in (by decide +kernel))
  have hz_3 : (0 : Int32).toInt = 0 := by decide +kernel
  have hz_4 : (0 : Int32).toInt = 0 := by decide +kernel
  refine dg_iast hx hb K hP hS hA1 sM_29 hin_1 dX12_begin_6 (fun S_2 e_2 H locs hP hS => ?_)
  have I_2 := dg_I.ufu (lo := 0) (hi := 2000) I e_2 sM_29 (by decide +kernel) (show 0 ≤ ((0 : Int32)).toInt ∧ ((0 : Int32)).toInt ≤ 2000 from (by decide +kernel))
  have M_2 := dg_sm.uf M_0 e_2 sM_29 (dk_dq rfl)
  have ZS_2 := ZSM.up ZS hin_1 e_2 (by omega)
  refine lv_aload_n hx hb dX12_begin_7 rfl (lv_at hl 0 rfl) ?_
  refine dg_get (C := RX12) (T := TX12) (N := 77) hx hb hts (fun w h => bw_mem (wU_X12 w h)) hown K hP sM_0 rfl 50 (dk_dq rfl) (hts _ (bw_mem wB_1129)) (fun _ h9 => h9) (v := .ref (o + 30)) (show S_2.1 0 50 = .ref (o + 30) from dg_I.rel (d := 30) I_2 sM_0 (by decide +kernel)) dX12_begin_8 ?_
  refine lv_iconst (v := 0) hx hb dX12_begin_11 (by decide +kernel) ?_
  refine lv_iconst (v := 0) hx hb dX12_begin_12 (by decide +kernel) ?_
  have hin_5 : vp_in (0 : Int32) 22 := (dk_in (by decide +kernel))
  have hz_7 : (0 : Int32).toInt = 0 := by decide +kernel
  have hz_8 : (0 : Int32).toInt = 0 := by decide +kernel
  refine dg_iast hx hb K hP hS hA1 sM_30 hin_5 dX12_begin_13 (fun S_6 e_6 H locs hP hS => ?_)
  have I_6 := dg_I.uf0 I_2 e_6 sM_30 (by decide +kernel)
  have M_6 := dg_sm.uf M_2 e_6 sM_30 (dk_dq rfl)
  refine lv_aload_n hx hb dX12_begin_14 rfl (lv_at hl 0 rfl) ?_
  refine dg_get (C := RX12) (T := TX12) (N := 77) hx hb hts (fun w h => bw_mem (wU_X12 w h)) hown K hP sM_0 rfl 53 (dk_dq rfl) (hts _ (bw_mem wB_1130)) (fun _ h9 => h9) (v := .ref (o + 33)) (show S_6.1 0 53 = .ref (o + 33) from dg_I.rel (d := 33) I_6 sM_0 (by decide +kernel)) dX12_begin_15 ?_
  refine lv_iconst (v := 0) hx hb dX12_begin_18 (by decide +kernel) ?_
  refine lv_iconst (v := 0) hx hb dX12_begin_19 (by decide +kernel) ?_
  have hin_9 : vp_in (0 : Int32) 22 := (dk_in (by decide +kernel))
  have hz_11 : (0 : Int32).toInt = 0 := by decide +kernel
  have hz_12 : (0 : Int32).toInt = 0 := by decide +kernel
  refine dg_iast hx hb K hP hS hA1 sM_33 hin_9 dX12_begin_20 (fun S_10 e_10 H locs hP hS => ?_)
  have I_10 := dg_I.uf0 I_6 e_10 sM_33 (by decide +kernel)
  have M_10 := dg_sm.uf M_6 e_10 sM_33 (dk_dq rfl)
  refine lv_aload_n hx hb dX12_begin_21 rfl (lv_at hl 0 rfl) ?_
  refine dg_get (C := RX12) (T := TX12) (N := 77) hx hb hts (fun w h => bw_mem (wU_X12 w h)) hown K hP sM_0 rfl 54 (dk_dq rfl) (hts _ (bw_mem wB_1131)) (fun _ h9 => h9) (v := .ref (o + 34)) (show S_10.1 0 54 = .ref (o + 34) from dg_I.rel (d := 34) I_10 sM_0 (by decide +kernel)) dX12_begin_22 ?_
  refine lv_iconst (v := 0) hx hb dX12_begin_25 (by decide +kernel) ?_
  as_aux_lemma =>
    refine lv_iconst (v := 0) hx hb dX12_begin_26 (by decide +kernel) ?_
    have hin_13 : vp_in (0 : Int32) 22 := (dk_in (by decide +kernel))
    have hz_15 : (0 : Int32).toInt = 0 := by decide +kernel
    have hz_16 : (0 : Int32).toInt = 0 := by decide +kernel
    refine dg_iast hx hb K hP hS hA1 sM_34 hin_13 dX12_begin_27 (fun S_14 e_14 H locs hP hS => ?_)
    have I_14 := dg_I.uf0 I_10 e_14 sM_34 (by decide +kernel)
    have M_14 := dg_sm.uf M_10 e_14 sM_34 (dk_dq rfl)
    have hF_1 : F_m_begin o S = F_m_begin_J1 S S_14 := (F_m_begin_p13 e_2 e_6 e_10 e_14)
    refine lv_iconst (v := 0) hx hb dX12_begin_28 (by decide +kernel) ?_
    refine lv_istore_n (lv' := [(1, .int 0), (0, .ref (o + 0))]) hx hb dX12_begin_29 rfl hl (dk_dq rfl) rfl (fun ls hl => ?_)
    have J_278 : ∀ (x_126 : Int32), (64 ≤ (x_126).toInt ∧ (x_126).toInt ≤ 2147483647) → ∀ S_277 : dg_S, CM o S_277 → dg_sm shM [(0, 61), (0, 63), (0, 69)] [29, 30, 31, 32, 33, 34, 35, 36, 37, 38] S S_277 → S_277.2.1 29 (0 : Int32).toNatClampNeg = 0 → S_277.2.1 30 (0 : Int32).toNatClampNeg = 0 → S_277.2.1 33 (0 : Int32).toNatClampNeg = 0 → S_277.2.1 34 (0 : Int32).toNatClampNeg = 0 → ZSM S_277 → (F_m_begin o S = F_m_begin_J2 S S_277) → ∀ (H : Heap) (locs : List Loc), va_P D vwCl (dg_w g shM o rfM S_277) H → va_S A s.heap H locs → ∀ ls : Array Slot, lv_has ls 2 [(1, .int x_126), (0, .ref (o + 0))] → W p l e ({ frames := 1, cells := 0, slots := 0, locals := 32 } : Room) s m args below meth c H locs 0 0 (MQ below (va_Qv (fun S' => CM o S' ∧ dg_sm shM [(0, 61), (0, 63), (0, 69)] [29, 30, 31, 32, 33, 34, 35, 36, 37, 38] S S' ∧ ZSM S' ∧ (S' = F_m_begin o S) ∧ True) (dg_B g D shM o rfM) A) args s 0 0 A) (F0 m 86 ls []) := by
      as_aux_lemma =>
        intro x_126 b_x_126 S_277 I_277 M_277 frw_277_0 frw_277_1 frw_277_2 frw_277_3 ZS_277 hF_2 H locs hP hS ls hl
        refine lv_iconst (v := 0) hx hb dX12_begin_86 (by decide +kernel) ?_
        refine lv_istore_n (lv' := [(1, .int 0), (0, .ref (o + 0))]) hx hb dX12_begin_87 rfl hl (dk_dq rfl) rfl (fun ls hl => ?_)
        have J_429 : ∀ (x_375 : Int32), (16 ≤ (x_375).toInt ∧ (x_375).toInt ≤ 2147483647) → ∀ S_428 : dg_S, CM o S_428 → dg_sm shM [(0, 61), (0, 63), (0, 69)] [29, 30, 31, 32, 33, 34, 35, 36, 37, 38] S S_428 → S_428.2.1 29 (0 : Int32).toNatClampNeg = 0 → S_428.2.1 30 (0 : Int32).toNatClampNeg = 0 → S_428.2.1 33 (0 : Int32).toNatClampNeg = 0 → S_428.2.1 34 (0 : Int32).toNatClampNeg = 0 → ZSM S_428 → (F_m_begin o S = F_m_begin_J3 S S_428) → ∀ (H : Heap) (locs : List Loc), va_P D vwCl (dg_w g shM o rfM S_428) H → va_S A s.heap H locs → ∀ ls : Array Slot, lv_has ls 2 [(1, .int x_375), (0, .ref (o + 0))] → W p l e ({ frames := 1, cells := 0, slots := 0, locals := 32 } : Room) s m args below meth c H locs 0 0 (MQ below (va_Qv (fun S' => CM o S' ∧ dg_sm shM [(0, 61), (0, 63), (0, 69)] [29, 30, 31, 32, 33, 34, 35, 36, 37, 38] S S' ∧ ZSM S' ∧ (S' = F_m_begin o S) ∧ True) (dg_B g D shM o rfM) A) args s 0 0 A) (F0 m 140 ls []) := by
          as_aux_lemma =>
            intro x_375 b_x_375 S_428 I_428 M_428 frw_428_0 frw_428_1 frw_428_2 frw_428_3 ZS_428 hF_3 H locs hP hS ls hl
            refine lv_iconst (v := 0) hx hb dX12_begin_140 (by decide +kernel) ?_
            refine lv_istore_n (lv' := [(1, .int 0), (0, .ref (o + 0))]) hx hb dX12_begin_141 rfl hl (dk_dq rfl) rfl (fun ls hl => ?_)
            have J_482 : ∀ (x_467 : Int32), (10 ≤ (x_467).toInt ∧ (x_467).toInt ≤ 2147483647) → ∀ S_481 : dg_S, CM o S_481 → dg_sm shM [(0, 61), (0, 63), (0, 69)] [29, 30, 31, 32, 33, 34, 35, 36, 37, 38] S S_481 → S_481.2.1 29 (0 : Int32).toNatClampNeg = 0 → S_481.2.1 30 (0 : Int32).toNatClampNeg = 0 → S_481.2.1 33 (0 : Int32).toNatClampNeg = 0 → S_481.2.1 34 (0 : Int32).toNatClampNeg = 0 → ZSM S_481 → (F_m_begin o S = F_m_begin_J4 S S_481) → ∀ (H : Heap) (locs : List Loc), va_P D vwCl (dg_w g shM o rfM S_481) H → va_S A s.heap H locs → ∀ ls : Array Slot, lv_has ls 2 [(1, .int x_467), (0, .ref (o + 0))] → W p l e ({ frames := 1, cells := 0, slots := 0, locals := 32 } : Room) s m args below meth c H locs 0 0 (MQ below (va_Qv (fun S' => CM o S' ∧ dg_sm shM [(0, 61), (0, 63), (0, 69)] [29, 30, 31, 32, 33, 34, 35, 36, 37, 38] S S' ∧ ZSM S' ∧ (S' = F_m_begin o S) ∧ True) (dg_B g D shM o rfM) A) args s 0 0 A) (F0 m 161 ls []) := by
              as_aux_lemma =>
                intro x_467 b_x_467 S_481 I_481 M_481 frw_481_0 frw_481_1 frw_481_2 frw_481_3 ZS_481 hF_4 H locs hP hS ls hl
                refine lv_aload_n hx hb dX12_begin_161 rfl (lv_at hl 1 rfl) ?_
                refine lv_aload_n hx hb dX12_begin_162 rfl (lv_at hl 1 rfl) ?_
                refine dg_get (C := RX12) (T := TX12) (N := 77) hx hb hts (fun w h => bw_mem (wU_X12 w h)) hown K hP sM_0 rfl 17 (dk_dq rfl) (hts _ (bw_mem wB_480)) (fun _ h9 => h9) (v := .ref (o + 5)) (show S_481.1 0 17 = .ref (o + 5) from dg_I.rel (d := 5) I_481 sM_0 (by decide +kernel)) dX12_begin_163 ?_
                refine lv_aload_n hx hb dX12_begin_166 rfl (lv_at hl 1 rfl) ?_
                obtain ⟨x_483, f_x_483, b_x_483⟩ := dg_I.int (i := 0) (k := 13) (lo := 0) (hi := 1) I sM_0 (by decide +kernel)
                refine dg_get (C := RX12) (T := TX12) (N := 77) hx hb hts (fun w h => bw_mem (wU_X12 w h)) hown K hP sM_0 rfl 13 (dk_dq rfl) (hts _ (bw_mem wB_1085)) (fun _ h9 => h9) (v := .int x_483) ((M_481.1 0 13 _ sM_0 (dk_dq rfl)).trans f_x_483) dX12_begin_167 ?_
                have hin_484 : vp_in x_483 2 := (dk_inv2 (by omega))
                refine dg_iald hx hb K hP sM_5 hin_484 dX12_begin_170 (fun x_485 ex_485 => ?_)
                have b_x_485 := dk_all_at (dg_I.row (lo := 0) (hi := 9999) I_481 sM_5 (by decide +kernel)) hin_484 ex_485
                refine dg_put (ci := 12) (v := .int x_485) (ty := tyX12 63) (C := RX12) (T := TX12) (N := 77) hx hb hts (fun w h => bw_mem (wU_X12 w h)) tyX12 tyX12_ok nmX12 hown K hP hS hA1 sM_0 rfl 63 (dk_dq rfl) (hts _ (bw_mem wB_1096)) (fun _ h9 => h9) rfl (by decide +kernel) rfl rfl dX12_begin_171 (fun S_486 e_486 H locs hP hS => ?_)
                have I_486 := dg_I.uFi (lo := (-2147483648)) (hi := 2147483647) I_481 e_486 sM_0 (by decide +kernel) (show (-2147483648) ≤ (x_485).toInt ∧ (x_485).toInt ≤ 2147483647 from (dk_full _))
                have M_486 := dg_sm.uF M_481 e_486 sM_0 (dk_dq rfl)
                refine lv_aload_n hx hb dX12_begin_174 rfl (lv_at hl 1 rfl) ?_
                refine dg_get (C := RX12) (T := TX12) (N := 77) hx hb hts (fun w h => bw_mem (wU_X12 w h)) hown K hP sM_0 rfl 58 (dk_dq rfl) (hts _ (bw_mem wB_1127)) (fun _ h9 => h9) (v := .ref (o + 38)) (show S_486.1 0 58 = .ref (o + 38) from dg_I.rel (d := 38) I_486 sM_0 (by decide +kernel)) dX12_begin_175 ?_
                refine lv_iconst (v := 0) hx hb dX12_begin_178 (by decide +kernel) ?_
                refine lv_iconst (v := 0) hx hb dX12_begin_179 (by decide +kernel) ?_
                have hin_487 : vp_in (0 : Int32) 22 := (dk_in (by decide +kernel))
                have hz_489 : (0 : Int32).toInt = 0 := by decide +kernel
                have hz_490 : (0 : Int32).toInt = 0 := by decide +kernel
                refine dg_iast hx hb K hP hS hA1 sM_38 hin_487 dX12_begin_180 (fun S_488 e_488 H locs hP hS => ?_)
                have I_488 := dg_I.ufu (lo := 0) (hi := 40) I_486 e_488 sM_38 (by decide +kernel) (show 0 ≤ ((0 : Int32)).toInt ∧ ((0 : Int32)).toInt ≤ 40 from (by decide +kernel))
                have M_488 := dg_sm.uf M_486 e_488 sM_38 (dk_dq rfl)
                refine lv_aload_n hx hb dX12_begin_181 rfl (lv_at hl 1 rfl) ?_
                refine lv_iconst (v := 0) hx hb dX12_begin_182 (by decide +kernel) ?_
                have hz_491 : (0 : Int32).toInt = 0 := by decide +kernel
                refine dg_put (ci := 12) (v := .int 0) (ty := tyX12 61) (C := RX12) (T := TX12) (N := 77) hx hb hts (fun w h => bw_mem (wU_X12 w h)) tyX12 tyX12_ok nmX12 hown K hP hS hA1 sM_0 rfl 61 (dk_dq rfl) (hts _ (bw_mem wB_1192)) (fun _ h9 => h9) rfl (by decide +kernel) rfl rfl dX12_begin_183 (fun S_492 e_492 H locs hP hS => ?_)
                have I_492 := dg_I.uFi (lo := 0) (hi := 20) I_488 e_492 sM_0 (by decide +kernel) (show 0 ≤ ((0 : Int32)).toInt ∧ ((0 : Int32)).toInt ≤ 20 from (by decide +kernel))
                have M_492 := dg_sm.uF M_488 e_492 sM_0 (dk_dq rfl)
                refine lv_aload_n hx hb dX12_begin_186 rfl (lv_at hl 1 rfl) ?_
                refine lv_iconst (v := 0) hx hb dX12_begin_187 (by decide +kernel) ?_
                have hz_493 : (0 : Int32).toInt = 0 := by decide +kernel
                refine dg_put (ci := 12) (v := .int 0) (ty := tyX12 69) (C := RX12) (T := TX12) (N := 77) hx hb hts (fun w h => bw_mem (wU_X12 w h)) tyX12 tyX12_ok nmX12 hown K hP hS hA1 sM_0 rfl 69 (dk_dq rfl) (hts _ (bw_mem wB_1193)) (fun _ h9 => h9) rfl (by decide +kernel) rfl rfl dX12_begin_188 (fun S_494 e_494 H locs hP hS => ?_)
                have I_494 := dg_I.uFi (lo := 0) (hi := 16) I_492 e_494 sM_0 (by decide +kernel) (show 0 ≤ ((0 : Int32)).toInt ∧ ((0 : Int32)).toInt ≤ 16 from (by decide +kernel))
                have M_494 := dg_sm.uF M_492 e_494 sM_0 (dk_dq rfl)
                have hF_5 : F_m_begin o S = F_m_begin_J5 S_494 := (Eq.trans hF_4 (F_m_begin_p1 (zI_eq f_x_483) (Eq.symm ex_485.symm) e_486 e_488 e_492 e_494))
                refine W.widen (k := 0) (n := 0) (Nat.le_of_ble_eq_true rfl) (Nat.le_of_ble_eq_true rfl) ?_
                exact dg_vret hx hb hr hlocks hP hS ⟨I_494, M_494, (ZSM.keep (ZSM.keep (ZSM.keep (ZSM.keep ZS_481 (dg_sm.uF (WF := [(0, 63)]) (WA := []) dg_sm.rf e_486 sM_0 (dk_dq rfl)) (dk_dq rfl)) (dg_sm.uf (WF := []) (WA := [38]) dg_sm.rf e_488 sM_38 (dk_dq rfl)) (dk_dq rfl)) (dg_sm.uF (WF := [(0, 61)]) (WA := []) dg_sm.rf e_492 sM_0 (dk_dq rfl)) (dk_dq rfl)) (dg_sm.uF (WF := [(0, 69)]) (WA := []) dg_sm.rf e_494 sM_0 (dk_dq rfl)) (dk_dq rfl)), (Eq.symm (Eq.trans hF_5 (F_m_begin_p0))), trivial⟩ dX12_begin_191
            have L_529 : ∀ (n : Nat) (x_527 : Int32), (0 ≤ (x_527).toInt ∧ (x_527).toInt ≤ 10) → ((11 - (x_527).toInt).toNat < n) → ∀ S_528 : dg_S, CM o S_528 → dg_sm shM [(0, 61), (0, 63), (0, 69)] [29, 30, 31, 32, 33, 34, 35, 36, 37, 38] S S_528 → S_528.2.1 29 (0 : Int32).toNatClampNeg = 0 → S_528.2.1 30 (0 : Int32).toNatClampNeg = 0 → S_528.2.1 33 (0 : Int32).toNatClampNeg = 0 → S_528.2.1 34 (0 : Int32).toNatClampNeg = 0 → ZSM S_528 → (F_m_begin o S = lp (F_m_begin_B6 S) S n (x_527, S_528)) → ∀ (H : Heap) (locs : List Loc), va_P D vwCl (dg_w g shM o rfM S_528) H → va_S A s.heap H locs → ∀ ls : Array Slot, lv_has ls 2 [(1, .int x_527), (0, .ref (o + 0))] → W p l e ({ frames := 1, cells := 0, slots := 0, locals := 32 } : Room) s m args below meth c H locs 0 0 (MQ below (va_Qv (fun S' => CM o S' ∧ dg_sm shM [(0, 61), (0, 63), (0, 69)] [29, 30, 31, 32, 33, 34, 35, 36, 37, 38] S S' ∧ ZSM S' ∧ (S' = F_m_begin o S) ∧ True) (dg_B g D shM o rfM) A) args s 0 0 A) (F0 m 142 ls []) := by
              as_aux_lemma =>
                intro n
                induction n with
                | zero =>
                  intro x_527 b_x_527 hmu S_528 I_528 M_528 frw_528_0 frw_528_1 frw_528_2 frw_528_3 ZS_528 hF_6 H locs hP hS ls hl
                  omega
                | succ n ih =>
                  as_aux_lemma =>
                    intro x_527 b_x_527 hmu S_528 I_528 M_528 frw_528_0 frw_528_1 frw_528_2 frw_528_3 ZS_528 hF_6 H locs hP hS ls hl
                    refine lv_iload_n hx hb dX12_begin_142 rfl (lv_at hl 0 rfl) ?_
                    refine lv_bipush (v := 10) hx hb dX12_begin_143 (by decide +kernel) ?_
                    refine lv_icmp_ge (tgt := 161) hx hb dX12_begin_145 (dk_dq rfl) (fun c_530 => ?_) (fun c_530 => ?_)
                    · have jc_530 := dk_gec (k := 10) (by decide +kernel) c_530
                      have hf_530 := dk_full x_527
                      exact J_482 x_527 (by omega) S_528 I_528 M_528 frw_528_0 frw_528_1 frw_528_2 frw_528_3 ZS_528 (lp_r hF_6 (F_m_begin_p2 c_530)) _ _ hP hS _ (lv_sub hl [0, 1] rfl)
                    · have jc_530 := dk_ngec (k := 10) (by decide +kernel) c_530
                      refine lv_aload_n hx hb dX12_begin_148 rfl (lv_at hl 1 rfl) ?_
                      refine dg_get (C := RX12) (T := TX12) (N := 77) hx hb hts (fun w h => bw_mem (wU_X12 w h)) hown K hP sM_0 rfl 57 (dk_dq rfl) (hts _ (bw_mem wB_1117)) (fun _ h9 => h9) (v := .ref (o + 37)) (show S_528.1 0 57 = .ref (o + 37) from dg_I.rel (d := 37) I_528 sM_0 (by decide +kernel)) dX12_begin_149 ?_
                      refine lv_iload_n hx hb dX12_begin_152 rfl (lv_at hl 0 rfl) ?_
                      refine lv_iconst (v := 0) hx hb dX12_begin_153 (by decide +kernel) ?_
                      have hin_532 : vp_in x_527 220 := (dk_inv2 (by omega))
                      have hz_534 : (0 : Int32).toInt = 0 := by decide +kernel
                      refine dg_iast hx hb K hP hS hA1 sM_37 hin_532 dX12_begin_154 (fun S_533 e_533 H locs hP hS => ?_)
                      have I_533 := dg_I.uf0 I_528 e_533 sM_37 (by decide +kernel)
                      have M_533 := dg_sm.uf M_528 e_533 sM_37 (dk_dq rfl)
                      obtain ⟨x_535, ex_535⟩ : ∃ z, z = x_527 + 1 := ⟨_, rfl⟩
                      have jx_535 : (x_535).toInt = (x_527).toInt + 1 := by rw [ex_535]; exact dk_addT2 rfl (by decide +kernel) (by omega)
                      refine lv_iinc (v := x_535) (lv' := [(1, .int x_535), (0, .ref (o + 0))]) hx hb dX12_begin_155 hl (k := 0) rfl (by rw [ex_535]; rfl) (dk_dq rfl) rfl (fun ls hl => ?_)
                      refine lv_goto (tgt := 142) hx hb dX12_begin_158 (dk_dq rfl) ?_
                      exact ih x_535 (by omega) (by first | exact mu_lt hmu (by omega) (by omega) | omega) S_533 I_533 M_533 ((congrFun (dg_uf_ne e_533 (dk_dq rfl)) _).trans frw_528_0) ((congrFun (dg_uf_ne e_533 (dk_dq rfl)) _).trans frw_528_1) ((congrFun (dg_uf_ne e_533 (dk_dq rfl)) _).trans frw_528_2) ((congrFun (dg_uf_ne e_533 (dk_dq rfl)) _).trans frw_528_3) (ZSM.keep ZS_528 (dg_sm.uf (WF := []) (WA := [37]) dg_sm.rf e_533 sM_37 (dk_dq rfl)) (dk_dq rfl)) (lp_l hF_6 (F_m_begin_p3 c_530 e_533 ex_535)) _ _ hP hS _ (lv_sub hl [0, 1] rfl)
            have hz_536 : (0 : Int32).toInt = 0 := by decide +kernel
            have hz_537 : (0 : Int32).toInt = 0 := by decide +kernel
            exact L_529 ((11 - ((0 : Int32)).toInt).toNat + 1) 0 (by decide +kernel) (by first | exact mu_lt hmu (by omega) (by omega) | omega) S_428 I_428 M_428 frw_428_0 frw_428_1 frw_428_2 frw_428_3 ZS_428 (Eq.trans hF_3 (F_m_begin_p4)) _ _ hP hS _ (lv_sub hl [0, 1] rfl)
        have L_621 : ∀ (n : Nat) (x_619 : Int32), (0 ≤ (x_619).toInt ∧ (x_619).toInt ≤ 16) → ((17 - (x_619).toInt).toNat < n) → ∀ S_620 : dg_S, CM o S_620 → dg_sm shM [(0, 61), (0, 63), (0, 69)] [29, 30, 31, 32, 33, 34, 35, 36, 37, 38] S S_620 → S_620.2.1 29 (0 : Int32).toNatClampNeg = 0 → S_620.2.1 30 (0 : Int32).toNatClampNeg = 0 → S_620.2.1 33 (0 : Int32).toNatClampNeg = 0 → S_620.2.1 34 (0 : Int32).toNatClampNeg = 0 → ZSM S_620 → (F_m_begin o S = lp (F_m_begin_B7 S) S n (x_619, S_620)) → ∀ (H : Heap) (locs : List Loc), va_P D vwCl (dg_w g shM o rfM S_620) H → va_S A s.heap H locs → ∀ ls : Array Slot, lv_has ls 2 [(1, .int x_619), (0, .ref (o + 0))] → W p l e ({ frames := 1, cells := 0, slots := 0, locals := 32 } : Room) s m args below meth c H locs 0 0 (MQ below (va_Qv (fun S' => CM o S' ∧ dg_sm shM [(0, 61), (0, 63), (0, 69)] [29, 30, 31, 32, 33, 34, 35, 36, 37, 38] S S' ∧ ZSM S' ∧ (S' = F_m_begin o S) ∧ True) (dg_B g D shM o rfM) A) args s 0 0 A) (F0 m 88 ls []) := by
          as_aux_lemma =>
            intro n
            induction n with
            | zero =>
              intro x_619 b_x_619 hmu S_620 I_620 M_620 frw_620_0 frw_620_1 frw_620_2 frw_620_3 ZS_620 hF_7 H locs hP hS ls hl
              omega
            | succ n ih =>
              as_aux_lemma =>
                intro x_619 b_x_619 hmu S_620 I_620 M_620 frw_620_0 frw_620_1 frw_620_2 frw_620_3 ZS_620 hF_7 H locs hP hS ls hl
                refine lv_iload_n hx hb dX12_begin_88 rfl (lv_at hl 0 rfl) ?_
                refine lv_bipush (v := 16) hx hb dX12_begin_89 (by decide +kernel) ?_
                refine lv_icmp_ge (tgt := 140) hx hb dX12_begin_91 (dk_dq rfl) (fun c_622 => ?_) (fun c_622 => ?_)
                · have jc_622 := dk_gec (k := 16) (by decide +kernel) c_622
                  have hf_622 := dk_full x_619
                  exact J_429 x_619 (by omega) S_620 I_620 M_620 frw_620_0 frw_620_1 frw_620_2 frw_620_3 ZS_620 (lp_r hF_7 (F_m_begin_p5 c_622)) _ _ hP hS _ (lv_sub hl [0, 1] rfl)
                · as_aux_lemma =>
                    have jc_622 := dk_ngec (k := 16) (by decide +kernel) c_622
                    refine lv_aload_n hx hb dX12_begin_94 rfl (lv_at hl 1 rfl) ?_
                    refine dg_get (C := RX12) (T := TX12) (N := 77) hx hb hts (fun w h => bw_mem (wU_X12 w h)) hown K hP sM_0 rfl 55 (dk_dq rfl) (hts _ (bw_mem wB_1132)) (fun _ h9 => h9) (v := .ref (o + 35)) (show S_620.1 0 55 = .ref (o + 35) from dg_I.rel (d := 35) I_620 sM_0 (by decide +kernel)) dX12_begin_95 ?_
                    refine lv_iload_n hx hb dX12_begin_98 rfl (lv_at hl 0 rfl) ?_
                    refine lv_aload_n hx hb dX12_begin_99 rfl (lv_at hl 1 rfl) ?_
                    refine dg_get (C := RX12) (T := TX12) (N := 77) hx hb hts (fun w h => bw_mem (wU_X12 w h)) hown K hP sM_0 rfl 22 (dk_dq rfl) (hts _ (bw_mem wB_396)) (fun _ h9 => h9) (v := .ref (o + 10)) (show S_620.1 0 22 = .ref (o + 10) from dg_I.rel (d := 10) I_620 sM_0 (by decide +kernel)) dX12_begin_100 ?_
                    refine lv_bipush (v := 16) hx hb dX12_begin_103 (by decide +kernel) ?_
                    refine lv_aload_n hx hb dX12_begin_105 rfl (lv_at hl 1 rfl) ?_
                    obtain ⟨x_624, f_x_624, b_x_624⟩ := dg_I.int (i := 0) (k := 13) (lo := 0) (hi := 1) I sM_0 (by decide +kernel)
                    refine dg_get (C := RX12) (T := TX12) (N := 77) hx hb hts (fun w h => bw_mem (wU_X12 w h)) hown K hP sM_0 rfl 13 (dk_dq rfl) (hts _ (bw_mem wB_1085)) (fun _ h9 => h9) (v := .int x_624) ((M_620.1 0 13 _ sM_0 (dk_dq rfl)).trans f_x_624) dX12_begin_106 ?_
                    refine lv_imul hx hb dX12_begin_109 ?_
                    refine lv_topi (fun x_625 ex_625 => ?_)
                    have jx_625 : (x_625).toInt = 16 * (x_624).toInt := by rw [ex_625]; exact dk_mulT2 (by decide +kernel) rfl (by omega)
                    refine lv_iload_n hx hb dX12_begin_110 rfl (lv_at hl 0 rfl) ?_
                    refine lv_iadd hx hb dX12_begin_111 ?_
                    refine lv_topi (fun x_626 ex_626 => ?_)
                    have jx_626 : (x_626).toInt = (x_625).toInt + (x_619).toInt := by rw [ex_626]; exact dk_addT2 rfl rfl (by omega)
                    have hin_627 : vp_in x_626 32 := (dk_inv2 (by omega))
                    refine dg_iald hx hb K hP sM_10 hin_627 dX12_begin_112 (fun x_628 ex_628 => ?_)
                    have hin_629 : vp_in x_619 352 := (dk_inv2 (by omega))
                    refine dg_iast hx hb K hP hS hA1 sM_35 hin_629 dX12_begin_113 (fun S_630 e_630 H locs hP hS => ?_)
                    have I_630 := dg_I.uf0 I_620 e_630 sM_35 (by decide +kernel)
                    have M_630 := dg_sm.uf M_620 e_630 sM_35 (dk_dq rfl)
                    refine lv_aload_n hx hb dX12_begin_114 rfl (lv_at hl 1 rfl) ?_
                    refine dg_get (C := RX12) (T := TX12) (N := 77) hx hb hts (fun w h => bw_mem (wU_X12 w h)) hown K hP sM_0 rfl 56 (dk_dq rfl) (hts _ (bw_mem wB_1133)) (fun _ h9 => h9) (v := .ref (o + 36)) (show S_630.1 0 56 = .ref (o + 36) from dg_I.rel (d := 36) I_630 sM_0 (by decide +kernel)) dX12_begin_115 ?_
                    refine lv_iload_n hx hb dX12_begin_118 rfl (lv_at hl 0 rfl) ?_
                    refine lv_aload_n hx hb dX12_begin_119 rfl (lv_at hl 1 rfl) ?_
                    refine dg_get (C := RX12) (T := TX12) (N := 77) hx hb hts (fun w h => bw_mem (wU_X12 w h)) hown K hP sM_0 rfl 23 (dk_dq rfl) (hts _ (bw_mem wB_397)) (fun _ h9 => h9) (v := .ref (o + 11)) (show S_630.1 0 23 = .ref (o + 11) from dg_I.rel (d := 11) I_630 sM_0 (by decide +kernel)) dX12_begin_120 ?_
                    refine lv_bipush (v := 16) hx hb dX12_begin_123 (by decide +kernel) ?_
                    refine lv_aload_n hx hb dX12_begin_125 rfl (lv_at hl 1 rfl) ?_
                    refine dg_get (C := RX12) (T := TX12) (N := 77) hx hb hts (fun w h => bw_mem (wU_X12 w h)) hown K hP sM_0 rfl 13 (dk_dq rfl) (hts _ (bw_mem wB_1085)) (fun _ h9 => h9) (v := .int x_624) (((dg_uf_F e_630 0 13).trans (M_620.1 0 13 _ sM_0 (dk_dq rfl))).trans f_x_624) dX12_begin_126 ?_
                    refine lv_imul hx hb dX12_begin_129 ?_
                    refine lv_topi (fun x_631 ex_631 => ?_)
                    have jx_631 : (x_631).toInt = 16 * (x_624).toInt := by rw [ex_631]; exact dk_mulT2 (by decide +kernel) rfl (by omega)
                    refine lv_iload_n hx hb dX12_begin_130 rfl (lv_at hl 0 rfl) ?_
                    refine lv_iadd hx hb dX12_begin_131 ?_
                    refine lv_topi (fun x_632 ex_632 => ?_)
                    have jx_632 : (x_632).toInt = (x_631).toInt + (x_619).toInt := by rw [ex_632]; exact dk_addT2 rfl rfl (by omega)
                    have hin_633 : vp_in x_632 32 := (dk_inv2 (by omega))
                    refine dg_iald hx hb K hP sM_11 hin_633 dX12_begin_132 (fun x_634 ex_634 => ?_)
                    have b_x_634 := dk_all_at (dg_I.row (lo := 0) (hi := 63) I_630 sM_11 (by decide +kernel)) hin_633 ex_634
                    have hin_635 : vp_in x_619 352 := (dk_inv2 (by omega))
                    refine dg_iast hx hb K hP hS hA1 sM_36 hin_635 dX12_begin_133 (fun S_636 e_636 H locs hP hS => ?_)
                    have I_636 := dg_I.ufu (lo := 0) (hi := 63) I_630 e_636 sM_36 (by decide +kernel) (show 0 ≤ (x_634).toInt ∧ (x_634).toInt ≤ 63 from (by omega))
                    have M_636 := dg_sm.uf M_630 e_636 sM_36 (dk_dq rfl)
                    obtain ⟨x_637, ex_637⟩ : ∃ z, z = x_619 + 1 := ⟨_, rfl⟩
                    have jx_637 : (x_637).toInt = (x_619).toInt + 1 := by rw [ex_637]; exact dk_addT2 rfl (by decide +kernel) (by omega)
                    refine lv_iinc (v := x_637) (lv' := [(1, .int x_637), (0, .ref (o + 0))]) hx hb dX12_begin_134 hl (k := 0) rfl (by rw [ex_637]; rfl) (dk_dq rfl) rfl (fun ls hl => ?_)
                    refine lv_goto (tgt := 88) hx hb dX12_begin_137 (dk_dq rfl) ?_
                    exact ih x_637 (by omega) (by first | exact mu_lt hmu (by omega) (by omega) | omega) S_636 I_636 M_636 ((congrFun ((dg_uf_ne e_636 (dk_dq rfl)).trans (dg_uf_ne e_630 (dk_dq rfl))) _).trans frw_620_0) ((congrFun ((dg_uf_ne e_636 (dk_dq rfl)).trans (dg_uf_ne e_630 (dk_dq rfl))) _).trans frw_620_1) ((congrFun ((dg_uf_ne e_636 (dk_dq rfl)).trans (dg_uf_ne e_630 (dk_dq rfl))) _).trans frw_620_2) ((congrFun ((dg_uf_ne e_636 (dk_dq rfl)).trans (dg_uf_ne e_630 (dk_dq rfl))) _).trans frw_620_3) (ZSM.keep (ZSM.keep ZS_620 (dg_sm.uf (WF := []) (WA := [35]) dg_sm.rf e_630 sM_35 (dk_dq rfl)) (dk_dq rfl)) (dg_sm.uf (WF := []) (WA := [36]) dg_sm.rf e_636 sM_36 (dk_dq rfl)) (dk_dq rfl)) (lp_l hF_7 (F_m_begin_p6 c_622 (zI_eq f_x_624) ex_625 ex_626 (Eq.symm ex_628.symm) e_630 ex_631 ex_632 (Eq.symm ex_634.symm) e_636 ex_637)) _ _ hP hS _ (lv_sub hl [0, 1] rfl)
        have hz_638 : (0 : Int32).toInt = 0 := by decide +kernel
        have hz_639 : (0 : Int32).toInt = 0 := by decide +kernel
        exact L_621 ((17 - ((0 : Int32)).toInt).toNat + 1) 0 (by decide +kernel) (by first | exact mu_lt hmu (by omega) (by omega) | omega) S_277 I_277 M_277 frw_277_0 frw_277_1 frw_277_2 frw_277_3 ZS_277 (Eq.trans hF_2 (F_m_begin_p7)) _ _ hP hS _ (lv_sub hl [0, 1] rfl)
    have L_734 : ∀ (n : Nat) (x_732 : Int32), (0 ≤ (x_732).toInt ∧ (x_732).toInt ≤ 64) → ((65 - (x_732).toInt).toNat < n) → ∀ S_733 : dg_S, CM o S_733 → dg_sm shM [(0, 61), (0, 63), (0, 69)] [29, 30, 31, 32, 33, 34, 35, 36, 37, 38] S S_733 → S_733.2.1 29 (0 : Int32).toNatClampNeg = 0 → S_733.2.1 30 (0 : Int32).toNatClampNeg = 0 → S_733.2.1 33 (0 : Int32).toNatClampNeg = 0 → S_733.2.1 34 (0 : Int32).toNatClampNeg = 0 → ZSM S_733 → (F_m_begin o S = lp (F_m_begin_B8 S) S n (x_732, S_733)) → ∀ (H : Heap) (locs : List Loc), va_P D vwCl (dg_w g shM o rfM S_733) H → va_S A s.heap H locs → ∀ ls : Array Slot, lv_has ls 2 [(1, .int x_732), (0, .ref (o + 0))] → W p l e ({ frames := 1, cells := 0, slots := 0, locals := 32 } : Room) s m args below meth c H locs 0 0 (MQ below (va_Qv (fun S' => CM o S' ∧ dg_sm shM [(0, 61), (0, 63), (0, 69)] [29, 30, 31, 32, 33, 34, 35, 36, 37, 38] S S' ∧ ZSM S' ∧ (S' = F_m_begin o S) ∧ True) (dg_B g D shM o rfM) A) args s 0 0 A) (F0 m 30 ls []) := by
      as_aux_lemma =>
        intro n
        induction n with
        | zero =>
          intro x_732 b_x_732 hmu S_733 I_733 M_733 frw_733_0 frw_733_1 frw_733_2 frw_733_3 ZS_733 hF_8 H locs hP hS ls hl
          omega
        | succ n ih =>
          as_aux_lemma =>
            intro x_732 b_x_732 hmu S_733 I_733 M_733 frw_733_0 frw_733_1 frw_733_2 frw_733_3 ZS_733 hF_8 H locs hP hS ls hl
            refine lv_iload_n hx hb dX12_begin_30 rfl (lv_at hl 0 rfl) ?_
            refine lv_bipush (v := 64) hx hb dX12_begin_31 (by decide +kernel) ?_
            refine lv_icmp_ge (tgt := 86) hx hb dX12_begin_33 (dk_dq rfl) (fun c_735 => ?_) (fun c_735 => ?_)
            · have jc_735 := dk_gec (k := 64) (by decide +kernel) c_735
              have hf_735 := dk_full x_732
              exact J_278 x_732 (by omega) S_733 I_733 M_733 frw_733_0 frw_733_1 frw_733_2 frw_733_3 ZS_733 (lp_r hF_8 (F_m_begin_p8 c_735)) _ _ hP hS _ (lv_sub hl [0, 1] rfl)
            · as_aux_lemma =>
                have jc_735 := dk_ngec (k := 64) (by decide +kernel) c_735
                refine lv_aload_n hx hb dX12_begin_36 rfl (lv_at hl 1 rfl) ?_
                refine dg_get (C := RX12) (T := TX12) (N := 77) hx hb hts (fun w h => bw_mem (wU_X12 w h)) hown K hP sM_0 rfl 51 (dk_dq rfl) (hts _ (bw_mem wB_1090)) (fun _ h9 => h9) (v := .ref (o + 31)) (show S_733.1 0 51 = .ref (o + 31) from dg_I.rel (d := 31) I_733 sM_0 (by decide +kernel)) dX12_begin_37 ?_
                refine lv_iload_n hx hb dX12_begin_40 rfl (lv_at hl 0 rfl) ?_
                refine lv_iload_n hx hb dX12_begin_41 rfl (lv_at hl 0 rfl) ?_
                refine lv_aload_n hx hb dX12_begin_42 rfl (lv_at hl 1 rfl) ?_
                refine dg_get (C := RX12) (T := TX12) (N := 77) hx hb hts (fun w h => bw_mem (wU_X12 w h)) hown K hP sM_0 rfl 16 (dk_dq rfl) (hts _ (bw_mem wB_481)) (fun _ h9 => h9) (v := .ref (o + 4)) (show S_733.1 0 16 = .ref (o + 4) from dg_I.rel (d := 4) I_733 sM_0 (by decide +kernel)) dX12_begin_43 ?_
                refine lv_aload_n hx hb dX12_begin_46 rfl (lv_at hl 1 rfl) ?_
                obtain ⟨x_737, f_x_737, b_x_737⟩ := dg_I.int (i := 0) (k := 13) (lo := 0) (hi := 1) I sM_0 (by decide +kernel)
                refine dg_get (C := RX12) (T := TX12) (N := 77) hx hb hts (fun w h => bw_mem (wU_X12 w h)) hown K hP sM_0 rfl 13 (dk_dq rfl) (hts _ (bw_mem wB_1085)) (fun _ h9 => h9) (v := .int x_737) ((M_733.1 0 13 _ sM_0 (dk_dq rfl)).trans f_x_737) dX12_begin_47 ?_
                have hin_738 : vp_in x_737 2 := (dk_inv2 (by omega))
                refine dg_iald hx hb K hP sM_4 hin_738 dX12_begin_50 (fun x_739 ex_739 => ?_)
                have b_x_739 := dk_all_at (dg_I.row (lo := 0) (hi := 9999) I_733 sM_4 (by decide +kernel)) hin_738 ex_739
                obtain ⟨x_740, f_x_740, b_x_740⟩ := dg_I.int (i := 0) (k := 47) (lo := 0) (hi := 1) I sM_0 (by decide +kernel)
                have zb_x_739 : (x_739).toInt ≤ 63 := by rw [ex_739]; exact ((ZBM.keep ZB M_733 (dk_dq rfl) (dk_dq rfl) (dk_dq rfl) (dk_dq rfl) (dk_dq rfl)) x_737 x_740 ((M_733.1 0 13 _ sM_0 (dk_dq rfl)).trans f_x_737) ((M_733.1 0 47 _ sM_0 (dk_dq rfl)).trans f_x_740)).2.2.1
                have J_753 : ∀ (x_746 : Int32), ((-1) ≤ (x_746).toInt ∧ (x_746).toInt ≤ 9) → ((F_m_begin_B8 S) (x_732, S_733) = F_m_begin_J9 S_733 x_732 x_746) → ∀ (H : Heap) (locs : List Loc), va_P D vwCl (dg_w g shM o rfM S_733) H → va_S A s.heap H locs → ∀ ls : Array Slot, lv_has ls 2 [(1, .int x_732), (0, .ref (o + 0))] → W p l e ({ frames := 1, cells := 0, slots := 0, locals := 32 } : Room) s m args below meth c H locs 0 0 (MQ below (va_Qv (fun S' => CM o S' ∧ dg_sm shM [(0, 61), (0, 63), (0, 69)] [29, 30, 31, 32, 33, 34, 35, 36, 37, 38] S S' ∧ ZSM S' ∧ (S' = F_m_begin o S) ∧ True) (dg_B g D shM o rfM) A) args s 0 0 A) (F0 m 72 ls [.int x_746, .int x_732, .ref (o + 31)]) := by
                  as_aux_lemma =>
                    intro x_746 b_x_746 hF_9 H locs hP hS ls hl
                    have hin_754 : vp_in x_732 1408 := (dk_inv2 (by omega))
                    refine dg_iast hx hb K hP hS hA1 sM_31 hin_754 dX12_begin_72 (fun S_755 e_755 H locs hP hS => ?_)
                    have I_755 := dg_I.ufu (lo := (-1)) (hi := 9) I_733 e_755 sM_31 (by decide +kernel) (show (-1) ≤ (x_746).toInt ∧ (x_746).toInt ≤ 9 from (by omega))
                    have M_755 := dg_sm.uf M_733 e_755 sM_31 (dk_dq rfl)
                    refine lv_aload_n hx hb dX12_begin_73 rfl (lv_at hl 1 rfl) ?_
                    refine dg_get (C := RX12) (T := TX12) (N := 77) hx hb hts (fun w h => bw_mem (wU_X12 w h)) hown K hP sM_0 rfl 52 (dk_dq rfl) (hts _ (bw_mem wB_1097)) (fun _ h9 => h9) (v := .ref (o + 32)) (show S_755.1 0 52 = .ref (o + 32) from dg_I.rel (d := 32) I_755 sM_0 (by decide +kernel)) dX12_begin_74 ?_
                    refine lv_iload_n hx hb dX12_begin_77 rfl (lv_at hl 0 rfl) ?_
                    refine lv_iconst (v := 0) hx hb dX12_begin_78 (by decide +kernel) ?_
                    have hin_756 : vp_in x_732 1408 := (dk_inv2 (by omega))
                    have hz_758 : (0 : Int32).toInt = 0 := by decide +kernel
                    refine dg_iast hx hb K hP hS hA1 sM_32 hin_756 dX12_begin_79 (fun S_757 e_757 H locs hP hS => ?_)
                    have I_757 := dg_I.uf0 I_755 e_757 sM_32 (by decide +kernel)
                    have M_757 := dg_sm.uf M_755 e_757 sM_32 (dk_dq rfl)
                    obtain ⟨x_759, ex_759⟩ : ∃ z, z = x_732 + 1 := ⟨_, rfl⟩
                    have jx_759 : (x_759).toInt = (x_732).toInt + 1 := by rw [ex_759]; exact dk_addT2 rfl (by decide +kernel) (by omega)
                    refine lv_iinc (v := x_759) (lv' := [(1, .int x_759), (0, .ref (o + 0))]) hx hb dX12_begin_80 hl (k := 0) rfl (by rw [ex_759]; rfl) (dk_dq rfl) rfl (fun ls hl => ?_)
                    refine lv_goto (tgt := 30) hx hb dX12_begin_83 (dk_dq rfl) ?_
                    exact ih x_759 (by omega) (by first | exact mu_lt hmu (by omega) (by omega) | omega) S_757 I_757 M_757 ((congrFun ((dg_uf_ne e_757 (dk_dq rfl)).trans (dg_uf_ne e_755 (dk_dq rfl))) _).trans frw_733_0) ((congrFun ((dg_uf_ne e_757 (dk_dq rfl)).trans (dg_uf_ne e_755 (dk_dq rfl))) _).trans frw_733_1) ((congrFun ((dg_uf_ne e_757 (dk_dq rfl)).trans (dg_uf_ne e_755 (dk_dq rfl))) _).trans frw_733_2) ((congrFun ((dg_uf_ne e_757 (dk_dq rfl)).trans (dg_uf_ne e_755 (dk_dq rfl))) _).trans frw_733_3) (ZSM.keep (ZSM.keep ZS_733 (dg_sm.uf (WF := []) (WA := [31]) dg_sm.rf e_755 sM_31 (dk_dq rfl)) (dk_dq rfl)) (dg_sm.uf (WF := []) (WA := [32]) dg_sm.rf e_757 sM_32 (dk_dq rfl)) (dk_dq rfl)) (lp_l hF_8 (Eq.trans hF_9 (F_m_begin_p9 e_755 e_757 ex_759))) _ _ hP hS _ (lv_sub hl [0, 1] rfl)
                refine lv_icmp_ne (tgt := 58) hx hb dX12_begin_51 (dk_dq rfl) (fun c_760 => ?_) (fun c_760 => ?_)
                · as_aux_lemma =>
                    have jc_760 := dk_neqc (k := (x_739).toInt) rfl c_760
                    refine lv_aload_n hx hb dX12_begin_58 rfl (lv_at hl 1 rfl) ?_
                    refine dg_get (C := RX12) (T := TX12) (N := 77) hx hb hts (fun w h => bw_mem (wU_X12 w h)) hown K hP sM_0 rfl 19 (dk_dq rfl) (hts _ (bw_mem wB_386)) (fun _ h9 => h9) (v := .ref (o + 7)) (show S_733.1 0 19 = .ref (o + 7) from dg_I.rel (d := 7) I_733 sM_0 (by decide +kernel)) dX12_begin_59 ?_
                    refine lv_bipush (v := 64) hx hb dX12_begin_62 (by decide +kernel) ?_
                    refine lv_aload_n hx hb dX12_begin_64 rfl (lv_at hl 1 rfl) ?_
                    refine dg_get (C := RX12) (T := TX12) (N := 77) hx hb hts (fun w h => bw_mem (wU_X12 w h)) hown K hP sM_0 rfl 13 (dk_dq rfl) (hts _ (bw_mem wB_1085)) (fun _ h9 => h9) (v := .int x_737) ((M_733.1 0 13 _ sM_0 (dk_dq rfl)).trans f_x_737) dX12_begin_65 ?_
                    refine lv_imul hx hb dX12_begin_68 ?_
                    refine lv_topi (fun x_761 ex_761 => ?_)
                    have jx_761 : (x_761).toInt = 64 * (x_737).toInt := by rw [ex_761]; exact dk_mulT2 (by decide +kernel) rfl (by omega)
                    refine lv_iload_n hx hb dX12_begin_69 rfl (lv_at hl 0 rfl) ?_
                    refine lv_iadd hx hb dX12_begin_70 ?_
                    refine lv_topi (fun x_762 ex_762 => ?_)
                    have jx_762 : (x_762).toInt = (x_761).toInt + (x_732).toInt := by rw [ex_762]; exact dk_addT2 rfl rfl (by omega)
                    have hin_763 : vp_in x_762 128 := (dk_inv2 (by omega))
                    refine dg_iald hx hb K hP sM_7 hin_763 dX12_begin_71 (fun x_764 ex_764 => ?_)
                    have b_x_764 := dk_all_at (dg_I.row (lo := 0) (hi := 9) I_733 sM_7 (by decide +kernel)) hin_763 ex_764
                    exact J_753 x_764 (by omega) (F_m_begin_p10 c_735 (zI_eq f_x_737) (Eq.symm ex_739.symm) c_760 ex_761 ex_762 (Eq.symm ex_764.symm)) _ _ hP hS _ (lv_sub hl [0, 1] rfl)
                · have jc_760 := dk_eqc (k := (x_739).toInt) rfl c_760
                  refine lv_iconst (v := (-1)) hx hb dX12_begin_54 (by decide +kernel) ?_
                  refine lv_goto (tgt := 72) hx hb dX12_begin_55 (dk_dq rfl) ?_
                  have hz_765 : (-1 : Int32).toInt = (-1) := by decide +kernel
                  exact J_753 (-1) (by decide +kernel) (F_m_begin_p11 c_735 (zI_eq f_x_737) (Eq.symm ex_739.symm) c_760) _ _ hP hS _ (lv_sub hl [0, 1] rfl)
    have hz_766 : (0 : Int32).toInt = 0 := by decide +kernel
    have hz_767 : (0 : Int32).toInt = 0 := by decide +kernel
    exact L_734 ((65 - ((0 : Int32)).toInt).toNat + 1) 0 (by decide +kernel) (by first | exact mu_lt hmu (by omega) (by omega) | omega) S_14 I_14 M_14 ((congrFun ((dg_uf_ne e_14 (dk_dq rfl)).trans ((dg_uf_ne e_10 (dk_dq rfl)).trans (dg_uf_ne e_6 (dk_dq rfl)))) _).trans ((congrFun (dg_uf_at e_2) _).trans (dg_upd_at rfl))) ((congrFun ((dg_uf_ne e_14 (dk_dq rfl)).trans (dg_uf_ne e_10 (dk_dq rfl))) _).trans ((congrFun (dg_uf_at e_6) _).trans (dg_upd_at rfl))) ((congrFun (dg_uf_ne e_14 (dk_dq rfl)) _).trans ((congrFun (dg_uf_at e_10) _).trans (dg_upd_at rfl))) ((congrFun (dg_uf_at e_14) _).trans (dg_upd_at rfl)) (ZSM.keep (ZSM.keep (ZSM.keep ZS_2 (dg_sm.uf (WF := []) (WA := [30]) dg_sm.rf e_6 sM_30 (dk_dq rfl)) (dk_dq rfl)) (dg_sm.uf (WF := []) (WA := [33]) dg_sm.rf e_10 sM_33 (dk_dq rfl)) (dk_dq rfl)) (dg_sm.uf (WF := []) (WA := [34]) dg_sm.rf e_14 sM_34 (dk_dq rfl)) (dk_dq rfl)) (Eq.trans hF_1 (F_m_begin_p12)) _ _ hP hS _ (lv_sub hl [0, 1] rfl)
noncomputable def F_m_has_J2 (x_83 : Int32) (x_93 : Int32) (x_82 : Int32) : (Int32 × Int32) ⊕ (dg_S × Int32) := let x_97 : Int32 := x_83 + x_93; let x_98 : Int32 := x_82 + 1; (Sum.inl (x_98, x_97))
noncomputable def F_m_has_J3 (x_83 : Int32) (x_82 : Int32) : (Int32 × Int32) ⊕ (dg_S × Int32) := (F_m_has_J2 x_83 (0 : Int32) x_82)
noncomputable def F_m_has_B1 (S : dg_S) (o : Nat) : (Int32 × Int32) → (Int32 × Int32) ⊕ (dg_S × Int32) := fun w9 => match w9 with | (x_82, x_83) => (if (64 : Int32) ≤ x_82 then (Sum.inr ((S, x_83))) else let x_86 : Int32 := F_m_isCellOf o S x_82; (if x_86 = (0 : Int32) then (F_m_has_J3 x_83 x_82) else let x_103 : Int32 := F_m_isOpen o S (0 : Int32) x_82; (if x_103 = (0 : Int32) then (F_m_has_J3 x_83 x_82) else (F_m_has_J2 x_83 (1 : Int32) x_82))))
noncomputable def F_m_has_J5 (x_178 : Int32) (x_188 : Int32) (x_177 : Int32) : (Int32 × Int32) ⊕ (dg_S × Int32) := let x_192 : Int32 := x_178 + x_188; let x_193 : Int32 := x_177 + 1; (Sum.inl (x_193, x_192))
noncomputable def F_m_has_J6 (x_178 : Int32) (x_177 : Int32) : (Int32 × Int32) ⊕ (dg_S × Int32) := (F_m_has_J5 x_178 (0 : Int32) x_177)
noncomputable def F_m_has_B4 (S_115 : dg_S) (o : Nat) : (Int32 × Int32) → (Int32 × Int32) ⊕ (dg_S × Int32) := fun w9 => match w9 with | (x_177, x_178) => (if (64 : Int32) ≤ x_177 then (Sum.inr ((S_115, x_178))) else let x_181 : Int32 := F_m_isCellOf o S_115 x_177; (if x_181 = (0 : Int32) then (F_m_has_J6 x_178 x_177) else let x_198 : Int32 := F_m_isLit o S_115 (0 : Int32) x_177; (if x_198 = (0 : Int32) then (F_m_has_J6 x_178 x_177) else (F_m_has_J5 x_178 (1 : Int32) x_177))))
noncomputable def F_m_has_J8 (x_257 : Int32) (x_265 : Int32) (x_256 : Int32) : (Int32 × Int32) ⊕ (dg_S × Int32) := let x_269 : Int32 := x_257 + x_265; let x_270 : Int32 := x_256 + 1; (Sum.inl (x_270, x_269))
noncomputable def F_m_has_B7 (S : dg_S) (o : Nat) : (Int32 × Int32) → (Int32 × Int32) ⊕ (dg_S × Int32) := fun w9 => match w9 with | (x_256, x_257) => (if (64 : Int32) ≤ x_256 then (Sum.inr ((S, x_257))) else let x_260 : Int32 := F_m_isCellOf o S x_256; (if x_260 = (0 : Int32) then (F_m_has_J8 x_257 (0 : Int32) x_256) else let x_273 : Int32 := S.2.1 32 (x_256 : Int32).toNatClampNeg; (F_m_has_J8 x_257 x_273 x_256)))
noncomputable def F_m_has_B9 (S : dg_S) : (Int32 × Int32) → (Int32 × Int32) ⊕ (dg_S × Int32) := fun w9 => match w9 with | (x_310, x_311) => (if (10 : Int32) ≤ x_310 then (Sum.inr ((S, x_311))) else let x_315 : Int32 := S.2.1 37 (x_310 : Int32).toNatClampNeg; let x_316 : Int32 := x_311 + x_315; let x_317 : Int32 := x_310 + 1; (Sum.inl (x_317, x_316)))
noncomputable def F_m_has (o : Nat) (S : dg_S) (a1 : Int32) : dg_S × Int32 := (if a1 = (0 : Int32) then let x_2 : Int32 := zI S 0 13; let x_5 : Int32 := zI S 0 47; let x_4 : Int32 := S.2.1 2 (x_2 : Int32).toNatClampNeg; (S, x_4) else (if a1 = (1 : Int32) then let x_6 : Int32 := zI S 0 13; let x_9 : Int32 := zI S 0 47; let x_8 : Int32 := S.2.1 3 (x_6 : Int32).toNatClampNeg; (S, x_8) else (if a1 = (2 : Int32) then let x_10 : Int32 := zI S 0 13; let x_12 : Int32 := S.2.1 8 (x_10 : Int32).toNatClampNeg; (S, x_12) else (if a1 = (3 : Int32) then let x_13 : Int32 := zI S 0 13; let x_15 : Int32 := S.2.1 9 (x_13 : Int32).toNatClampNeg; (S, x_15) else (if a1 = (4 : Int32) then let x_16 : Int32 := zI S 0 13; let x_18 : Int32 := S.2.1 12 (x_16 : Int32).toNatClampNeg; (S, x_18) else (if a1 = (5 : Int32) then let x_20 : Int32 := S.2.1 29 (0 : Int32).toNatClampNeg; (S, x_20) else (if a1 = (6 : Int32) then (lp (F_m_has_B1 S o) (S, (0 : Int32)) ((65 - ((0 : Int32)).toInt).toNat + 1) ((0 : Int32), (0 : Int32))) else (if a1 = (7 : Int32) then let x_111 : Int32 := zI S 0 13; let x_114 : Int32 := zI S 0 47; let x_112 : Int32 := S.2.1 4 (x_111 : Int32).toNatClampNeg; let S_115 : dg_S := F_m_measures o S (0 : Int32); (lp (F_m_has_B4 S_115 o) (S, (0 : Int32)) ((65 - ((0 : Int32)).toInt).toNat + 1) ((0 : Int32), (0 : Int32))) else (if a1 = (8 : Int32) then (lp (F_m_has_B7 S o) (S, (0 : Int32)) ((65 - ((0 : Int32)).toInt).toNat + 1) ((0 : Int32), (0 : Int32))) else (if a1 = (9 : Int32) then let x_278 : Int32 := S.2.1 33 (0 : Int32).toNatClampNeg; let x_279 : Int32 := F_m_bits o S x_278; (S, x_279) else (if a1 = (10 : Int32) then (lp (F_m_has_B9 S) (S, (0 : Int32)) ((11 - ((0 : Int32)).toInt).toNat + 1) ((0 : Int32), (0 : Int32))) else (if a1 = (11 : Int32) then let x_322 : Int32 := S.2.1 30 (0 : Int32).toNatClampNeg; (S, x_322) else (if a1 = (12 : Int32) then let x_324 : Int32 := F_m_worthOf o S (0 : Int32); (S, x_324) else (if a1 = (13 : Int32) then let x_327 : Int32 := S.2.1 38 (0 : Int32).toNatClampNeg; (S, x_327) else (if a1 = (14 : Int32) then let x_328 : Int32 := zI S 0 69; (S, x_328) else (if a1 = (15 : Int32) then let x_329 : Int32 := zI S 0 61; (S, x_329) else (if a1 = (16 : Int32) then let x_330 : Int64 := zL S 0 62; let x_331 : Int32 := Int64.toInt32 x_330; (S, x_331) else (S, (-1 : Int32)))))))))))))))))))
theorem F_m_has_p0 {o : Nat} {S : dg_S} {a1 : Int32} (h0 : ¬ (a1 = (0 : Int32))) (h1 : ¬ (a1 = (1 : Int32))) (h2 : ¬ (a1 = (2 : Int32))) (h3 : ¬ (a1 = (3 : Int32))) (h4 : ¬ (a1 = (4 : Int32))) (h5 : ¬ (a1 = (5 : Int32))) (h6 : ¬ (a1 = (6 : Int32))) (h7 : ¬ (a1 = (7 : Int32))) (h8 : ¬ (a1 = (8 : Int32))) (h9 : ¬ (a1 = (9 : Int32))) (h10 : ¬ (a1 = (10 : Int32))) (h11 : ¬ (a1 = (11 : Int32))) (h12 : ¬ (a1 = (12 : Int32))) (h13 : ¬ (a1 = (13 : Int32))) (h14 : ¬ (a1 = (14 : Int32))) (h15 : ¬ (a1 = (15 : Int32))) (h16 : ¬ (a1 = (16 : Int32))) : F_m_has o S a1 = (S, (-1 : Int32)) := (Eq.trans (if_neg h0) (Eq.trans (if_neg h1) (Eq.trans (if_neg h2) (Eq.trans (if_neg h3) (Eq.trans (if_neg h4) (Eq.trans (if_neg h5) (Eq.trans (if_neg h6) (Eq.trans (if_neg h7) (Eq.trans (if_neg h8) (Eq.trans (if_neg h9) (Eq.trans (if_neg h10) (Eq.trans (if_neg h11) (Eq.trans (if_neg h12) (Eq.trans (if_neg h13) (Eq.trans (if_neg h14) (Eq.trans (if_neg h15) (Eq.trans (if_neg h16) rfl)))))))))))))))))
theorem F_m_has_p1 {o : Nat} {S : dg_S} {a1 : Int32} {x_4 : Int32} {x_2 : Int32} (h0 : a1 = (0 : Int32)) (h1 : x_2 = zI S 0 13) (h2 : x_4 = S.2.1 2 (x_2 : Int32).toNatClampNeg) : F_m_has o S a1 = (S, x_4) := by
  replace h1 := Eq.symm h1
  subst h1
  replace h2 := Eq.symm h2
  subst h2
  exact (Eq.trans (if_pos h0) rfl)
theorem F_m_has_p2 {o : Nat} {S : dg_S} {a1 : Int32} {x_8 : Int32} {x_6 : Int32} (h0 : ¬ (a1 = (0 : Int32))) (h1 : a1 = (1 : Int32)) (h2 : x_6 = zI S 0 13) (h3 : x_8 = S.2.1 3 (x_6 : Int32).toNatClampNeg) : F_m_has o S a1 = (S, x_8) := by
  replace h2 := Eq.symm h2
  subst h2
  replace h3 := Eq.symm h3
  subst h3
  exact (Eq.trans (if_neg h0) (Eq.trans (if_pos h1) rfl))
theorem F_m_has_p3 {o : Nat} {S : dg_S} {a1 : Int32} {x_12 : Int32} {x_10 : Int32} (h0 : ¬ (a1 = (0 : Int32))) (h1 : ¬ (a1 = (1 : Int32))) (h2 : a1 = (2 : Int32)) (h3 : x_10 = zI S 0 13) (h4 : x_12 = S.2.1 8 (x_10 : Int32).toNatClampNeg) : F_m_has o S a1 = (S, x_12) := by
  replace h3 := Eq.symm h3
  subst h3
  replace h4 := Eq.symm h4
  subst h4
  exact (Eq.trans (if_neg h0) (Eq.trans (if_neg h1) (Eq.trans (if_pos h2) rfl)))
theorem F_m_has_p4 {o : Nat} {S : dg_S} {a1 : Int32} {x_15 : Int32} {x_13 : Int32} (h0 : ¬ (a1 = (0 : Int32))) (h1 : ¬ (a1 = (1 : Int32))) (h2 : ¬ (a1 = (2 : Int32))) (h3 : a1 = (3 : Int32)) (h4 : x_13 = zI S 0 13) (h5 : x_15 = S.2.1 9 (x_13 : Int32).toNatClampNeg) : F_m_has o S a1 = (S, x_15) := by
  replace h4 := Eq.symm h4
  subst h4
  replace h5 := Eq.symm h5
  subst h5
  exact (Eq.trans (if_neg h0) (Eq.trans (if_neg h1) (Eq.trans (if_neg h2) (Eq.trans (if_pos h3) rfl))))
theorem F_m_has_p5 {o : Nat} {S : dg_S} {a1 : Int32} {x_18 : Int32} {x_16 : Int32} (h0 : ¬ (a1 = (0 : Int32))) (h1 : ¬ (a1 = (1 : Int32))) (h2 : ¬ (a1 = (2 : Int32))) (h3 : ¬ (a1 = (3 : Int32))) (h4 : a1 = (4 : Int32)) (h5 : x_16 = zI S 0 13) (h6 : x_18 = S.2.1 12 (x_16 : Int32).toNatClampNeg) : F_m_has o S a1 = (S, x_18) := by
  replace h5 := Eq.symm h5
  subst h5
  replace h6 := Eq.symm h6
  subst h6
  exact (Eq.trans (if_neg h0) (Eq.trans (if_neg h1) (Eq.trans (if_neg h2) (Eq.trans (if_neg h3) (Eq.trans (if_pos h4) rfl)))))
theorem F_m_has_p6 {o : Nat} {S : dg_S} {a1 : Int32} {x_20 : Int32} (h0 : ¬ (a1 = (0 : Int32))) (h1 : ¬ (a1 = (1 : Int32))) (h2 : ¬ (a1 = (2 : Int32))) (h3 : ¬ (a1 = (3 : Int32))) (h4 : ¬ (a1 = (4 : Int32))) (h5 : a1 = (5 : Int32)) (h6 : x_20 = S.2.1 29 (0 : Int32).toNatClampNeg) : F_m_has o S a1 = (S, x_20) := by
  replace h6 := Eq.symm h6
  subst h6
  exact (Eq.trans (if_neg h0) (Eq.trans (if_neg h1) (Eq.trans (if_neg h2) (Eq.trans (if_neg h3) (Eq.trans (if_neg h4) (Eq.trans (if_pos h5) rfl))))))
theorem F_m_has_p7 {S : dg_S} {o : Nat} {x_82 : Int32} {x_83 : Int32} (h0 : (64 : Int32) ≤ x_82) : (F_m_has_B1 S o) (x_82, x_83) = Sum.inr ((S, x_83)) := (Eq.trans (if_pos h0) rfl)
theorem F_m_has_p8 {x_83 : Int32} {x_93 : Int32} {x_82 : Int32} {x_98 : Int32} {x_97 : Int32} (h0 : x_97 = x_83 + x_93) (h1 : x_98 = x_82 + 1) : F_m_has_J2 x_83 x_93 x_82 = Sum.inl (x_98, x_97) := by
  replace h0 := Eq.symm h0
  subst h0
  replace h1 := Eq.symm h1
  subst h1
  exact rfl
theorem F_m_has_p9 {x_83 : Int32} {x_82 : Int32}  : F_m_has_J3 x_83 x_82 = F_m_has_J2 x_83 (0 : Int32) x_82 := rfl
theorem F_m_has_p10 {S : dg_S} {o : Nat} {x_82 : Int32} {x_83 : Int32} {x_86 : Int32} (h0 : ¬ ((64 : Int32) ≤ x_82)) (h1 : x_86 = F_m_isCellOf o S x_82) (h2 : x_86 = (0 : Int32)) : (F_m_has_B1 S o) (x_82, x_83) = F_m_has_J3 x_83 x_82 := by
  replace h1 := Eq.symm h1
  subst h1
  exact (Eq.trans (if_neg h0) (Eq.trans (if_pos h2) rfl))
theorem F_m_has_p11 {S : dg_S} {o : Nat} {x_82 : Int32} {x_83 : Int32} {x_86 : Int32} {x_103 : Int32} (h0 : ¬ ((64 : Int32) ≤ x_82)) (h1 : x_86 = F_m_isCellOf o S x_82) (h2 : ¬ (x_86 = (0 : Int32))) (h3 : x_103 = F_m_isOpen o S (0 : Int32) x_82) (h4 : x_103 = (0 : Int32)) : (F_m_has_B1 S o) (x_82, x_83) = F_m_has_J3 x_83 x_82 := by
  replace h1 := Eq.symm h1
  subst h1
  replace h3 := Eq.symm h3
  subst h3
  exact (Eq.trans (if_neg h0) (Eq.trans (if_neg h2) (Eq.trans (if_pos h4) rfl)))
theorem F_m_has_p12 {S : dg_S} {o : Nat} {x_82 : Int32} {x_83 : Int32} {x_86 : Int32} {x_103 : Int32} (h0 : ¬ ((64 : Int32) ≤ x_82)) (h1 : x_86 = F_m_isCellOf o S x_82) (h2 : ¬ (x_86 = (0 : Int32))) (h3 : x_103 = F_m_isOpen o S (0 : Int32) x_82) (h4 : ¬ (x_103 = (0 : Int32))) : (F_m_has_B1 S o) (x_82, x_83) = F_m_has_J2 x_83 (1 : Int32) x_82 := by
  replace h1 := Eq.symm h1
  subst h1
  replace h3 := Eq.symm h3
  subst h3
  exact (Eq.trans (if_neg h0) (Eq.trans (if_neg h2) (Eq.trans (if_neg h4) rfl)))
theorem F_m_has_p13 {o : Nat} {S : dg_S} {a1 : Int32} (h0 : ¬ (a1 = (0 : Int32))) (h1 : ¬ (a1 = (1 : Int32))) (h2 : ¬ (a1 = (2 : Int32))) (h3 : ¬ (a1 = (3 : Int32))) (h4 : ¬ (a1 = (4 : Int32))) (h5 : ¬ (a1 = (5 : Int32))) (h6 : a1 = (6 : Int32)) : F_m_has o S a1 = lp (F_m_has_B1 S o) (S, (0 : Int32)) ((65 - ((0 : Int32)).toInt).toNat + 1) ((0 : Int32), (0 : Int32)) := (Eq.trans (if_neg h0) (Eq.trans (if_neg h1) (Eq.trans (if_neg h2) (Eq.trans (if_neg h3) (Eq.trans (if_neg h4) (Eq.trans (if_neg h5) (Eq.trans (if_pos h6) rfl)))))))
theorem F_m_has_p14 {S_115 : dg_S} {o : Nat} {x_177 : Int32} {x_178 : Int32} (h0 : (64 : Int32) ≤ x_177) : (F_m_has_B4 S_115 o) (x_177, x_178) = Sum.inr ((S_115, x_178)) := (Eq.trans (if_pos h0) rfl)
theorem F_m_has_p15 {x_178 : Int32} {x_188 : Int32} {x_177 : Int32} {x_193 : Int32} {x_192 : Int32} (h0 : x_192 = x_178 + x_188) (h1 : x_193 = x_177 + 1) : F_m_has_J5 x_178 x_188 x_177 = Sum.inl (x_193, x_192) := by
  replace h0 := Eq.symm h0
  subst h0
  replace h1 := Eq.symm h1
  subst h1
  exact rfl
theorem F_m_has_p16 {x_178 : Int32} {x_177 : Int32}  : F_m_has_J6 x_178 x_177 = F_m_has_J5 x_178 (0 : Int32) x_177 := rfl
theorem F_m_has_p17 {S_115 : dg_S} {o : Nat} {x_177 : Int32} {x_178 : Int32} {x_181 : Int32} (h0 : ¬ ((64 : Int32) ≤ x_177)) (h1 : x_181 = F_m_isCellOf o S_115 x_177) (h2 : x_181 = (0 : Int32)) : (F_m_has_B4 S_115 o) (x_177, x_178) = F_m_has_J6 x_178 x_177 := by
  replace h1 := Eq.symm h1
  subst h1
  exact (Eq.trans (if_neg h0) (Eq.trans (if_pos h2) rfl))
theorem F_m_has_p18 {S_115 : dg_S} {o : Nat} {x_177 : Int32} {x_178 : Int32} {x_181 : Int32} {x_198 : Int32} (h0 : ¬ ((64 : Int32) ≤ x_177)) (h1 : x_181 = F_m_isCellOf o S_115 x_177) (h2 : ¬ (x_181 = (0 : Int32))) (h3 : x_198 = F_m_isLit o S_115 (0 : Int32) x_177) (h4 : x_198 = (0 : Int32)) : (F_m_has_B4 S_115 o) (x_177, x_178) = F_m_has_J6 x_178 x_177 := by
  replace h1 := Eq.symm h1
  subst h1
  replace h3 := Eq.symm h3
  subst h3
  exact (Eq.trans (if_neg h0) (Eq.trans (if_neg h2) (Eq.trans (if_pos h4) rfl)))
theorem F_m_has_p19 {S_115 : dg_S} {o : Nat} {x_177 : Int32} {x_178 : Int32} {x_181 : Int32} {x_198 : Int32} (h0 : ¬ ((64 : Int32) ≤ x_177)) (h1 : x_181 = F_m_isCellOf o S_115 x_177) (h2 : ¬ (x_181 = (0 : Int32))) (h3 : x_198 = F_m_isLit o S_115 (0 : Int32) x_177) (h4 : ¬ (x_198 = (0 : Int32))) : (F_m_has_B4 S_115 o) (x_177, x_178) = F_m_has_J5 x_178 (1 : Int32) x_177 := by
  replace h1 := Eq.symm h1
  subst h1
  replace h3 := Eq.symm h3
  subst h3
  exact (Eq.trans (if_neg h0) (Eq.trans (if_neg h2) (Eq.trans (if_neg h4) rfl)))
theorem F_m_has_p20 {o : Nat} {S : dg_S} {a1 : Int32} {S_115 : dg_S} (h0 : ¬ (a1 = (0 : Int32))) (h1 : ¬ (a1 = (1 : Int32))) (h2 : ¬ (a1 = (2 : Int32))) (h3 : ¬ (a1 = (3 : Int32))) (h4 : ¬ (a1 = (4 : Int32))) (h5 : ¬ (a1 = (5 : Int32))) (h6 : ¬ (a1 = (6 : Int32))) (h7 : a1 = (7 : Int32)) (h8 : S_115 = F_m_measures o S (0 : Int32)) : F_m_has o S a1 = lp (F_m_has_B4 S_115 o) (S, (0 : Int32)) ((65 - ((0 : Int32)).toInt).toNat + 1) ((0 : Int32), (0 : Int32)) := by
  replace h8 := Eq.symm h8
  subst h8
  exact (Eq.trans (if_neg h0) (Eq.trans (if_neg h1) (Eq.trans (if_neg h2) (Eq.trans (if_neg h3) (Eq.trans (if_neg h4) (Eq.trans (if_neg h5) (Eq.trans (if_neg h6) (Eq.trans (if_pos h7) rfl))))))))
theorem F_m_has_p21 {S : dg_S} {o : Nat} {x_256 : Int32} {x_257 : Int32} (h0 : (64 : Int32) ≤ x_256) : (F_m_has_B7 S o) (x_256, x_257) = Sum.inr ((S, x_257)) := (Eq.trans (if_pos h0) rfl)
theorem F_m_has_p22 {x_257 : Int32} {x_265 : Int32} {x_256 : Int32} {x_270 : Int32} {x_269 : Int32} (h0 : x_269 = x_257 + x_265) (h1 : x_270 = x_256 + 1) : F_m_has_J8 x_257 x_265 x_256 = Sum.inl (x_270, x_269) := by
  replace h0 := Eq.symm h0
  subst h0
  replace h1 := Eq.symm h1
  subst h1
  exact rfl
theorem F_m_has_p23 {S : dg_S} {o : Nat} {x_256 : Int32} {x_257 : Int32} {x_260 : Int32} (h0 : ¬ ((64 : Int32) ≤ x_256)) (h1 : x_260 = F_m_isCellOf o S x_256) (h2 : x_260 = (0 : Int32)) : (F_m_has_B7 S o) (x_256, x_257) = F_m_has_J8 x_257 (0 : Int32) x_256 := by
  replace h1 := Eq.symm h1
  subst h1
  exact (Eq.trans (if_neg h0) (Eq.trans (if_pos h2) rfl))
theorem F_m_has_p24 {S : dg_S} {o : Nat} {x_256 : Int32} {x_257 : Int32} {x_273 : Int32} {x_260 : Int32} (h0 : ¬ ((64 : Int32) ≤ x_256)) (h1 : x_260 = F_m_isCellOf o S x_256) (h2 : ¬ (x_260 = (0 : Int32))) (h3 : x_273 = S.2.1 32 (x_256 : Int32).toNatClampNeg) : (F_m_has_B7 S o) (x_256, x_257) = F_m_has_J8 x_257 x_273 x_256 := by
  replace h1 := Eq.symm h1
  subst h1
  replace h3 := Eq.symm h3
  subst h3
  exact (Eq.trans (if_neg h0) (Eq.trans (if_neg h2) rfl))
theorem F_m_has_p25 {o : Nat} {S : dg_S} {a1 : Int32} (h0 : ¬ (a1 = (0 : Int32))) (h1 : ¬ (a1 = (1 : Int32))) (h2 : ¬ (a1 = (2 : Int32))) (h3 : ¬ (a1 = (3 : Int32))) (h4 : ¬ (a1 = (4 : Int32))) (h5 : ¬ (a1 = (5 : Int32))) (h6 : ¬ (a1 = (6 : Int32))) (h7 : ¬ (a1 = (7 : Int32))) (h8 : a1 = (8 : Int32)) : F_m_has o S a1 = lp (F_m_has_B7 S o) (S, (0 : Int32)) ((65 - ((0 : Int32)).toInt).toNat + 1) ((0 : Int32), (0 : Int32)) := (Eq.trans (if_neg h0) (Eq.trans (if_neg h1) (Eq.trans (if_neg h2) (Eq.trans (if_neg h3) (Eq.trans (if_neg h4) (Eq.trans (if_neg h5) (Eq.trans (if_neg h6) (Eq.trans (if_neg h7) (Eq.trans (if_pos h8) rfl)))))))))
theorem F_m_has_p26 {o : Nat} {S : dg_S} {a1 : Int32} {x_279 : Int32} {x_278 : Int32} (h0 : ¬ (a1 = (0 : Int32))) (h1 : ¬ (a1 = (1 : Int32))) (h2 : ¬ (a1 = (2 : Int32))) (h3 : ¬ (a1 = (3 : Int32))) (h4 : ¬ (a1 = (4 : Int32))) (h5 : ¬ (a1 = (5 : Int32))) (h6 : ¬ (a1 = (6 : Int32))) (h7 : ¬ (a1 = (7 : Int32))) (h8 : ¬ (a1 = (8 : Int32))) (h9 : a1 = (9 : Int32)) (h10 : x_278 = S.2.1 33 (0 : Int32).toNatClampNeg) (h11 : x_279 = F_m_bits o S x_278) : F_m_has o S a1 = (S, x_279) := by
  replace h10 := Eq.symm h10
  subst h10
  replace h11 := Eq.symm h11
  subst h11
  exact (Eq.trans (if_neg h0) (Eq.trans (if_neg h1) (Eq.trans (if_neg h2) (Eq.trans (if_neg h3) (Eq.trans (if_neg h4) (Eq.trans (if_neg h5) (Eq.trans (if_neg h6) (Eq.trans (if_neg h7) (Eq.trans (if_neg h8) (Eq.trans (if_pos h9) rfl))))))))))
theorem F_m_has_p27 {S : dg_S} {x_310 : Int32} {x_311 : Int32} (h0 : (10 : Int32) ≤ x_310) : (F_m_has_B9 S) (x_310, x_311) = Sum.inr ((S, x_311)) := (Eq.trans (if_pos h0) rfl)
theorem F_m_has_p28 {S : dg_S} {x_310 : Int32} {x_311 : Int32} {x_317 : Int32} {x_316 : Int32} {x_315 : Int32} (h0 : ¬ ((10 : Int32) ≤ x_310)) (h1 : x_315 = S.2.1 37 (x_310 : Int32).toNatClampNeg) (h2 : x_316 = x_311 + x_315) (h3 : x_317 = x_310 + 1) : (F_m_has_B9 S) (x_310, x_311) = Sum.inl (x_317, x_316) := by
  replace h1 := Eq.symm h1
  subst h1
  replace h2 := Eq.symm h2
  subst h2
  replace h3 := Eq.symm h3
  subst h3
  exact (Eq.trans (if_neg h0) rfl)
theorem F_m_has_p29 {o : Nat} {S : dg_S} {a1 : Int32} (h0 : ¬ (a1 = (0 : Int32))) (h1 : ¬ (a1 = (1 : Int32))) (h2 : ¬ (a1 = (2 : Int32))) (h3 : ¬ (a1 = (3 : Int32))) (h4 : ¬ (a1 = (4 : Int32))) (h5 : ¬ (a1 = (5 : Int32))) (h6 : ¬ (a1 = (6 : Int32))) (h7 : ¬ (a1 = (7 : Int32))) (h8 : ¬ (a1 = (8 : Int32))) (h9 : ¬ (a1 = (9 : Int32))) (h10 : a1 = (10 : Int32)) : F_m_has o S a1 = lp (F_m_has_B9 S) (S, (0 : Int32)) ((11 - ((0 : Int32)).toInt).toNat + 1) ((0 : Int32), (0 : Int32)) := (Eq.trans (if_neg h0) (Eq.trans (if_neg h1) (Eq.trans (if_neg h2) (Eq.trans (if_neg h3) (Eq.trans (if_neg h4) (Eq.trans (if_neg h5) (Eq.trans (if_neg h6) (Eq.trans (if_neg h7) (Eq.trans (if_neg h8) (Eq.trans (if_neg h9) (Eq.trans (if_pos h10) rfl)))))))))))
theorem F_m_has_p30 {o : Nat} {S : dg_S} {a1 : Int32} {x_322 : Int32} (h0 : ¬ (a1 = (0 : Int32))) (h1 : ¬ (a1 = (1 : Int32))) (h2 : ¬ (a1 = (2 : Int32))) (h3 : ¬ (a1 = (3 : Int32))) (h4 : ¬ (a1 = (4 : Int32))) (h5 : ¬ (a1 = (5 : Int32))) (h6 : ¬ (a1 = (6 : Int32))) (h7 : ¬ (a1 = (7 : Int32))) (h8 : ¬ (a1 = (8 : Int32))) (h9 : ¬ (a1 = (9 : Int32))) (h10 : ¬ (a1 = (10 : Int32))) (h11 : a1 = (11 : Int32)) (h12 : x_322 = S.2.1 30 (0 : Int32).toNatClampNeg) : F_m_has o S a1 = (S, x_322) := by
  replace h12 := Eq.symm h12
  subst h12
  exact (Eq.trans (if_neg h0) (Eq.trans (if_neg h1) (Eq.trans (if_neg h2) (Eq.trans (if_neg h3) (Eq.trans (if_neg h4) (Eq.trans (if_neg h5) (Eq.trans (if_neg h6) (Eq.trans (if_neg h7) (Eq.trans (if_neg h8) (Eq.trans (if_neg h9) (Eq.trans (if_neg h10) (Eq.trans (if_pos h11) rfl))))))))))))
theorem F_m_has_p31 {o : Nat} {S : dg_S} {a1 : Int32} {x_324 : Int32} (h0 : ¬ (a1 = (0 : Int32))) (h1 : ¬ (a1 = (1 : Int32))) (h2 : ¬ (a1 = (2 : Int32))) (h3 : ¬ (a1 = (3 : Int32))) (h4 : ¬ (a1 = (4 : Int32))) (h5 : ¬ (a1 = (5 : Int32))) (h6 : ¬ (a1 = (6 : Int32))) (h7 : ¬ (a1 = (7 : Int32))) (h8 : ¬ (a1 = (8 : Int32))) (h9 : ¬ (a1 = (9 : Int32))) (h10 : ¬ (a1 = (10 : Int32))) (h11 : ¬ (a1 = (11 : Int32))) (h12 : a1 = (12 : Int32)) (h13 : x_324 = F_m_worthOf o S (0 : Int32)) : F_m_has o S a1 = (S, x_324) := by
  replace h13 := Eq.symm h13
  subst h13
  exact (Eq.trans (if_neg h0) (Eq.trans (if_neg h1) (Eq.trans (if_neg h2) (Eq.trans (if_neg h3) (Eq.trans (if_neg h4) (Eq.trans (if_neg h5) (Eq.trans (if_neg h6) (Eq.trans (if_neg h7) (Eq.trans (if_neg h8) (Eq.trans (if_neg h9) (Eq.trans (if_neg h10) (Eq.trans (if_neg h11) (Eq.trans (if_pos h12) rfl)))))))))))))
theorem F_m_has_p32 {o : Nat} {S : dg_S} {a1 : Int32} {x_327 : Int32} (h0 : ¬ (a1 = (0 : Int32))) (h1 : ¬ (a1 = (1 : Int32))) (h2 : ¬ (a1 = (2 : Int32))) (h3 : ¬ (a1 = (3 : Int32))) (h4 : ¬ (a1 = (4 : Int32))) (h5 : ¬ (a1 = (5 : Int32))) (h6 : ¬ (a1 = (6 : Int32))) (h7 : ¬ (a1 = (7 : Int32))) (h8 : ¬ (a1 = (8 : Int32))) (h9 : ¬ (a1 = (9 : Int32))) (h10 : ¬ (a1 = (10 : Int32))) (h11 : ¬ (a1 = (11 : Int32))) (h12 : ¬ (a1 = (12 : Int32))) (h13 : a1 = (13 : Int32)) (h14 : x_327 = S.2.1 38 (0 : Int32).toNatClampNeg) : F_m_has o S a1 = (S, x_327) := by
  replace h14 := Eq.symm h14
  subst h14
  exact (Eq.trans (if_neg h0) (Eq.trans (if_neg h1) (Eq.trans (if_neg h2) (Eq.trans (if_neg h3) (Eq.trans (if_neg h4) (Eq.trans (if_neg h5) (Eq.trans (if_neg h6) (Eq.trans (if_neg h7) (Eq.trans (if_neg h8) (Eq.trans (if_neg h9) (Eq.trans (if_neg h10) (Eq.trans (if_neg h11) (Eq.trans (if_neg h12) (Eq.trans (if_pos h13) rfl))))))))))))))
theorem F_m_has_p33 {o : Nat} {S : dg_S} {a1 : Int32} {x_328 : Int32} (h0 : ¬ (a1 = (0 : Int32))) (h1 : ¬ (a1 = (1 : Int32))) (h2 : ¬ (a1 = (2 : Int32))) (h3 : ¬ (a1 = (3 : Int32))) (h4 : ¬ (a1 = (4 : Int32))) (h5 : ¬ (a1 = (5 : Int32))) (h6 : ¬ (a1 = (6 : Int32))) (h7 : ¬ (a1 = (7 : Int32))) (h8 : ¬ (a1 = (8 : Int32))) (h9 : ¬ (a1 = (9 : Int32))) (h10 : ¬ (a1 = (10 : Int32))) (h11 : ¬ (a1 = (11 : Int32))) (h12 : ¬ (a1 = (12 : Int32))) (h13 : ¬ (a1 = (13 : Int32))) (h14 : a1 = (14 : Int32)) (h15 : x_328 = zI S 0 69) : F_m_has o S a1 = (S, x_328) := by
  replace h15 := Eq.symm h15
  subst h15
  exact (Eq.trans (if_neg h0) (Eq.trans (if_neg h1) (Eq.trans (if_neg h2) (Eq.trans (if_neg h3) (Eq.trans (if_neg h4) (Eq.trans (if_neg h5) (Eq.trans (if_neg h6) (Eq.trans (if_neg h7) (Eq.trans (if_neg h8) (Eq.trans (if_neg h9) (Eq.trans (if_neg h10) (Eq.trans (if_neg h11) (Eq.trans (if_neg h12) (Eq.trans (if_neg h13) (Eq.trans (if_pos h14) rfl)))))))))))))))
theorem F_m_has_p34 {o : Nat} {S : dg_S} {a1 : Int32} {x_329 : Int32} (h0 : ¬ (a1 = (0 : Int32))) (h1 : ¬ (a1 = (1 : Int32))) (h2 : ¬ (a1 = (2 : Int32))) (h3 : ¬ (a1 = (3 : Int32))) (h4 : ¬ (a1 = (4 : Int32))) (h5 : ¬ (a1 = (5 : Int32))) (h6 : ¬ (a1 = (6 : Int32))) (h7 : ¬ (a1 = (7 : Int32))) (h8 : ¬ (a1 = (8 : Int32))) (h9 : ¬ (a1 = (9 : Int32))) (h10 : ¬ (a1 = (10 : Int32))) (h11 : ¬ (a1 = (11 : Int32))) (h12 : ¬ (a1 = (12 : Int32))) (h13 : ¬ (a1 = (13 : Int32))) (h14 : ¬ (a1 = (14 : Int32))) (h15 : a1 = (15 : Int32)) (h16 : x_329 = zI S 0 61) : F_m_has o S a1 = (S, x_329) := by
  replace h16 := Eq.symm h16
  subst h16
  exact (Eq.trans (if_neg h0) (Eq.trans (if_neg h1) (Eq.trans (if_neg h2) (Eq.trans (if_neg h3) (Eq.trans (if_neg h4) (Eq.trans (if_neg h5) (Eq.trans (if_neg h6) (Eq.trans (if_neg h7) (Eq.trans (if_neg h8) (Eq.trans (if_neg h9) (Eq.trans (if_neg h10) (Eq.trans (if_neg h11) (Eq.trans (if_neg h12) (Eq.trans (if_neg h13) (Eq.trans (if_neg h14) (Eq.trans (if_pos h15) rfl))))))))))))))))
theorem F_m_has_p35 {o : Nat} {S : dg_S} {a1 : Int32} {x_331 : Int32} {x_330 : Int64} (h0 : ¬ (a1 = (0 : Int32))) (h1 : ¬ (a1 = (1 : Int32))) (h2 : ¬ (a1 = (2 : Int32))) (h3 : ¬ (a1 = (3 : Int32))) (h4 : ¬ (a1 = (4 : Int32))) (h5 : ¬ (a1 = (5 : Int32))) (h6 : ¬ (a1 = (6 : Int32))) (h7 : ¬ (a1 = (7 : Int32))) (h8 : ¬ (a1 = (8 : Int32))) (h9 : ¬ (a1 = (9 : Int32))) (h10 : ¬ (a1 = (10 : Int32))) (h11 : ¬ (a1 = (11 : Int32))) (h12 : ¬ (a1 = (12 : Int32))) (h13 : ¬ (a1 = (13 : Int32))) (h14 : ¬ (a1 = (14 : Int32))) (h15 : ¬ (a1 = (15 : Int32))) (h16 : a1 = (16 : Int32)) (h17 : x_330 = zL S 0 62) (h18 : x_331 = Int64.toInt32 x_330) : F_m_has o S a1 = (S, x_331) := by
  replace h17 := Eq.symm h17
  subst h17
  replace h18 := Eq.symm h18
  subst h18
  exact (Eq.trans (if_neg h0) (Eq.trans (if_neg h1) (Eq.trans (if_neg h2) (Eq.trans (if_neg h3) (Eq.trans (if_neg h4) (Eq.trans (if_neg h5) (Eq.trans (if_neg h6) (Eq.trans (if_neg h7) (Eq.trans (if_neg h8) (Eq.trans (if_neg h9) (Eq.trans (if_neg h10) (Eq.trans (if_neg h11) (Eq.trans (if_neg h12) (Eq.trans (if_neg h13) (Eq.trans (if_neg h14) (Eq.trans (if_neg h15) (Eq.trans (if_pos h16) rfl)))))))))))))))))
set_option maxHeartbeats 8000000 in
set_option maxRecDepth 100000 in
theorem c_m_has (l : Launch) (g : Nat → ClassId) (D : va_G) (o : Nat) (S : dg_S) (a1 : Int32) (ZB : ZBM S) (I : CM o S) (sz : Nat) : Met l yX12_has (bw yX12_has cX12_has 4 (some .int)) ({ frames := 5, cells := 0, slots := 0, locals := 126 } : Room) (dk_Pc g D (dg_w g shM o rfM S) sz [.ref (o + 0), .int a1]) (va_Qi (fun (r : Int32) S' => CM o S' ∧ dg_sm shM [] [42, 43] S S' ∧ (S' = (F_m_has o S a1).1 ∧ r = (F_m_has o S a1).2) ∧ True) (dg_B g D shM o rfM) (dg_A o shM.length sz)) 0 0 (dg_A o shM.length sz) := by
  refine dg_met (cc := cX12_has) (maxL := 4) (ret := (some .int)) (dk_dq rfl) rfl (Nat.le_of_ble_eq_true rfl) ?_
  intro p e s m args below meth c A hAe harg hx hb hr hml hts hown hlocks hin hP K hS hA1 hA ST hsz ls hl
  rw [← hAe]
  have F : CallFix p m c cX12_has 4 s args (bw yX12_has cX12_has 4 (some .int)) RX12 := ⟨hx, hb, hml, hown, hts⟩
  have hl : lv_has ls 4 [(0, .ref (o + 0)), (1, .int a1)] := hl
  have M_0 : dg_sm shM [] [42, 43] S S := dg_sm.rf
  refine lv_iconst (v := 0) hx hb dX12_has_0 (by decide +kernel) ?_
  refine lv_istore_n (lv' := [(2, .int 0), (0, .ref (o + 0)), (1, .int a1)]) hx hb dX12_has_1 rfl hl (dk_dq rfl) rfl (fun ls hl => ?_)
  refine lv_iload_n hx hb dX12_has_2 rfl (lv_at hl 2 rfl) ?_
  rcases (show ((a1).toInt < 0 ∨ 16 < (a1).toInt) ∨ (a1).toInt = 0 ∨ (a1).toInt = 1 ∨ (a1).toInt = 2 ∨ (a1).toInt = 3 ∨ (a1).toInt = 4 ∨ (a1).toInt = 5 ∨ (a1).toInt = 6 ∨ (a1).toInt = 7 ∨ (a1).toInt = 8 ∨ (a1).toInt = 9 ∨ (a1).toInt = 10 ∨ (a1).toInt = 11 ∨ (a1).toInt = 12 ∨ (a1).toInt = 13 ∨ (a1).toInt = 14 ∨ (a1).toInt = 15 ∨ (a1).toInt = 16 by omega) with jc_1 | jc_1 | jc_1 | jc_1 | jc_1 | jc_1 | jc_1 | jc_1 | jc_1 | jc_1 | jc_1 | jc_1 | jc_1 | jc_1 | jc_1 | jc_1 | jc_1 | jc_1
  · refine lv_tableOut (tgt := 336) hx hb dX12_has_3 jc_1 (dk_dq rfl) ?_
    refine lv_iconst (v := (-1)) hx hb dX12_has_336 (by decide +kernel) ?_
    refine W.widen (k := 0) (n := 0) (Nat.le_of_ble_eq_true rfl) (Nat.le_of_ble_eq_true rfl) ?_
    exact dg_iret hx hb hr hlocks rfl hP hS ⟨I, M_0, ⟨congrArg Prod.fst (Eq.symm (F_m_has_p0 (dk_neO jc_1 (k := 0) (b := 0) (by decide +kernel) (dk_dq rfl)) (dk_neO jc_1 (k := 1) (b := 1) (by decide +kernel) (dk_dq rfl)) (dk_neO jc_1 (k := 2) (b := 2) (by decide +kernel) (dk_dq rfl)) (dk_neO jc_1 (k := 3) (b := 3) (by decide +kernel) (dk_dq rfl)) (dk_neO jc_1 (k := 4) (b := 4) (by decide +kernel) (dk_dq rfl)) (dk_neO jc_1 (k := 5) (b := 5) (by decide +kernel) (dk_dq rfl)) (dk_neO jc_1 (k := 6) (b := 6) (by decide +kernel) (dk_dq rfl)) (dk_neO jc_1 (k := 7) (b := 7) (by decide +kernel) (dk_dq rfl)) (dk_neO jc_1 (k := 8) (b := 8) (by decide +kernel) (dk_dq rfl)) (dk_neO jc_1 (k := 9) (b := 9) (by decide +kernel) (dk_dq rfl)) (dk_neO jc_1 (k := 10) (b := 10) (by decide +kernel) (dk_dq rfl)) (dk_neO jc_1 (k := 11) (b := 11) (by decide +kernel) (dk_dq rfl)) (dk_neO jc_1 (k := 12) (b := 12) (by decide +kernel) (dk_dq rfl)) (dk_neO jc_1 (k := 13) (b := 13) (by decide +kernel) (dk_dq rfl)) (dk_neO jc_1 (k := 14) (b := 14) (by decide +kernel) (dk_dq rfl)) (dk_neO jc_1 (k := 15) (b := 15) (by decide +kernel) (dk_dq rfl)) (dk_neO jc_1 (k := 16) (b := 16) (by decide +kernel) (dk_dq rfl)))), congrArg Prod.snd (Eq.symm (F_m_has_p0 (dk_neO jc_1 (k := 0) (b := 0) (by decide +kernel) (dk_dq rfl)) (dk_neO jc_1 (k := 1) (b := 1) (by decide +kernel) (dk_dq rfl)) (dk_neO jc_1 (k := 2) (b := 2) (by decide +kernel) (dk_dq rfl)) (dk_neO jc_1 (k := 3) (b := 3) (by decide +kernel) (dk_dq rfl)) (dk_neO jc_1 (k := 4) (b := 4) (by decide +kernel) (dk_dq rfl)) (dk_neO jc_1 (k := 5) (b := 5) (by decide +kernel) (dk_dq rfl)) (dk_neO jc_1 (k := 6) (b := 6) (by decide +kernel) (dk_dq rfl)) (dk_neO jc_1 (k := 7) (b := 7) (by decide +kernel) (dk_dq rfl)) (dk_neO jc_1 (k := 8) (b := 8) (by decide +kernel) (dk_dq rfl)) (dk_neO jc_1 (k := 9) (b := 9) (by decide +kernel) (dk_dq rfl)) (dk_neO jc_1 (k := 10) (b := 10) (by decide +kernel) (dk_dq rfl)) (dk_neO jc_1 (k := 11) (b := 11) (by decide +kernel) (dk_dq rfl)) (dk_neO jc_1 (k := 12) (b := 12) (by decide +kernel) (dk_dq rfl)) (dk_neO jc_1 (k := 13) (b := 13) (by decide +kernel) (dk_dq rfl)) (dk_neO jc_1 (k := 14) (b := 14) (by decide +kernel) (dk_dq rfl)) (dk_neO jc_1 (k := 15) (b := 15) (by decide +kernel) (dk_dq rfl)) (dk_neO jc_1 (k := 16) (b := 16) (by decide +kernel) (dk_dq rfl))))⟩, trivial⟩ dX12_has_337
  · refine lv_tableIn (off := 81) (tgt := 84) hx hb dX12_has_3 (by rw [jc_1]; decide) (by rw [jc_1]; decide) (by rw [jc_1]; decide +kernel) (dk_dq rfl) ?_
    refine lv_aload_n hx hb dX12_has_84 rfl (lv_at hl 1 rfl) ?_
    refine dg_get (C := RX12) (T := TX12) (N := 77) hx hb hts (fun w h => bw_mem (wU_X12 w h)) hown K hP sM_0 rfl 14 (dk_dq rfl) (hts _ (bw_mem wB_372)) (fun _ h9 => h9) (v := .ref (o + 2)) (show S.1 0 14 = .ref (o + 2) from dg_I.rel (d := 2) I sM_0 (by decide +kernel)) dX12_has_85 ?_
    refine lv_aload_n hx hb dX12_has_88 rfl (lv_at hl 1 rfl) ?_
    obtain ⟨x_2, f_x_2, b_x_2⟩ := dg_I.int (i := 0) (k := 13) (lo := 0) (hi := 1) I sM_0 (by decide +kernel)
    refine dg_get (C := RX12) (T := TX12) (N := 77) hx hb hts (fun w h => bw_mem (wU_X12 w h)) hown K hP sM_0 rfl 13 (dk_dq rfl) (hts _ (bw_mem wB_1085)) (fun _ h9 => h9) (v := .int x_2) f_x_2 dX12_has_89 ?_
    have hin_3 : vp_in x_2 2 := (dk_inv2 (by omega))
    refine dg_iald hx hb K hP sM_2 hin_3 dX12_has_92 (fun x_4 ex_4 => ?_)
    have b_x_4 := dk_all_at (dg_I.row (lo := 0) (hi := 9999) I sM_2 (by decide +kernel)) hin_3 ex_4
    obtain ⟨x_5, f_x_5, b_x_5⟩ := dg_I.int (i := 0) (k := 47) (lo := 0) (hi := 1) I sM_0 (by decide +kernel)
    have zb_x_4 : (x_4).toInt ≤ 7 ∧ ((x_5 : Int32).toInt = 1 → 3 ≤ (x_4).toInt) := by rw [ex_4]; exact ⟨(ZB x_2 x_5 f_x_2 f_x_5).1, fun h9 => ((ZB x_2 x_5 f_x_2 f_x_5).2.2.2 h9).1⟩
    refine W.widen (k := 0) (n := 0) (Nat.le_of_ble_eq_true rfl) (Nat.le_of_ble_eq_true rfl) ?_
    exact dg_iret hx hb hr hlocks rfl hP hS ⟨I, M_0, ⟨congrArg Prod.fst (Eq.symm (F_m_has_p1 (dk_eqT jc_1 (k := 0) (by decide +kernel)) (zI_eq f_x_2) (Eq.symm ex_4.symm))), congrArg Prod.snd (Eq.symm (F_m_has_p1 (dk_eqT jc_1 (k := 0) (by decide +kernel)) (zI_eq f_x_2) (Eq.symm ex_4.symm)))⟩, trivial⟩ dX12_has_93
  · refine lv_tableIn (off := 91) (tgt := 94) hx hb dX12_has_3 (by rw [jc_1]; decide) (by rw [jc_1]; decide) (by rw [jc_1]; decide +kernel) (dk_dq rfl) ?_
    refine lv_aload_n hx hb dX12_has_94 rfl (lv_at hl 1 rfl) ?_
    refine dg_get (C := RX12) (T := TX12) (N := 77) hx hb hts (fun w h => bw_mem (wU_X12 w h)) hown K hP sM_0 rfl 15 (dk_dq rfl) (hts _ (bw_mem wB_377)) (fun _ h9 => h9) (v := .ref (o + 3)) (show S.1 0 15 = .ref (o + 3) from dg_I.rel (d := 3) I sM_0 (by decide +kernel)) dX12_has_95 ?_
    refine lv_aload_n hx hb dX12_has_98 rfl (lv_at hl 1 rfl) ?_
    obtain ⟨x_6, f_x_6, b_x_6⟩ := dg_I.int (i := 0) (k := 13) (lo := 0) (hi := 1) I sM_0 (by decide +kernel)
    refine dg_get (C := RX12) (T := TX12) (N := 77) hx hb hts (fun w h => bw_mem (wU_X12 w h)) hown K hP sM_0 rfl 13 (dk_dq rfl) (hts _ (bw_mem wB_1085)) (fun _ h9 => h9) (v := .int x_6) f_x_6 dX12_has_99 ?_
    have hin_7 : vp_in x_6 2 := (dk_inv2 (by omega))
    refine dg_iald hx hb K hP sM_3 hin_7 dX12_has_102 (fun x_8 ex_8 => ?_)
    have b_x_8 := dk_all_at (dg_I.row (lo := 0) (hi := 9999) I sM_3 (by decide +kernel)) hin_7 ex_8
    obtain ⟨x_9, f_x_9, b_x_9⟩ := dg_I.int (i := 0) (k := 47) (lo := 0) (hi := 1) I sM_0 (by decide +kernel)
    have zb_x_8 : (x_8).toInt ≤ 7 ∧ ((x_9 : Int32).toInt = 1 → 3 ≤ (x_8).toInt) := by rw [ex_8]; exact ⟨(ZB x_6 x_9 f_x_6 f_x_9).2.1, fun h9 => ((ZB x_6 x_9 f_x_6 f_x_9).2.2.2 h9).2⟩
    refine W.widen (k := 0) (n := 0) (Nat.le_of_ble_eq_true rfl) (Nat.le_of_ble_eq_true rfl) ?_
    exact dg_iret hx hb hr hlocks rfl hP hS ⟨I, M_0, ⟨congrArg Prod.fst (Eq.symm (F_m_has_p2 (dk_neT jc_1 (k := 0) (b := 0) (by decide +kernel) (dk_dq rfl)) (dk_eqT jc_1 (k := 1) (by decide +kernel)) (zI_eq f_x_6) (Eq.symm ex_8.symm))), congrArg Prod.snd (Eq.symm (F_m_has_p2 (dk_neT jc_1 (k := 0) (b := 0) (by decide +kernel) (dk_dq rfl)) (dk_eqT jc_1 (k := 1) (by decide +kernel)) (zI_eq f_x_6) (Eq.symm ex_8.symm)))⟩, trivial⟩ dX12_has_103
  · refine lv_tableIn (off := 101) (tgt := 104) hx hb dX12_has_3 (by rw [jc_1]; decide) (by rw [jc_1]; decide) (by rw [jc_1]; decide +kernel) (dk_dq rfl) ?_
    refine lv_aload_n hx hb dX12_has_104 rfl (lv_at hl 1 rfl) ?_
    refine dg_get (C := RX12) (T := TX12) (N := 77) hx hb hts (fun w h => bw_mem (wU_X12 w h)) hown K hP sM_0 rfl 20 (dk_dq rfl) (hts _ (bw_mem wB_352)) (fun _ h9 => h9) (v := .ref (o + 8)) (show S.1 0 20 = .ref (o + 8) from dg_I.rel (d := 8) I sM_0 (by decide +kernel)) dX12_has_105 ?_
    refine lv_aload_n hx hb dX12_has_108 rfl (lv_at hl 1 rfl) ?_
    obtain ⟨x_10, f_x_10, b_x_10⟩ := dg_I.int (i := 0) (k := 13) (lo := 0) (hi := 1) I sM_0 (by decide +kernel)
    refine dg_get (C := RX12) (T := TX12) (N := 77) hx hb hts (fun w h => bw_mem (wU_X12 w h)) hown K hP sM_0 rfl 13 (dk_dq rfl) (hts _ (bw_mem wB_1085)) (fun _ h9 => h9) (v := .int x_10) f_x_10 dX12_has_109 ?_
    have hin_11 : vp_in x_10 2 := (dk_inv2 (by omega))
    refine dg_iald hx hb K hP sM_8 hin_11 dX12_has_112 (fun x_12 ex_12 => ?_)
    have b_x_12 := dk_all_at (dg_I.row (lo := 0) (hi := 6) I sM_8 (by decide +kernel)) hin_11 ex_12
    refine W.widen (k := 0) (n := 0) (Nat.le_of_ble_eq_true rfl) (Nat.le_of_ble_eq_true rfl) ?_
    exact dg_iret hx hb hr hlocks rfl hP hS ⟨I, M_0, ⟨congrArg Prod.fst (Eq.symm (F_m_has_p3 (dk_neT jc_1 (k := 0) (b := 0) (by decide +kernel) (dk_dq rfl)) (dk_neT jc_1 (k := 1) (b := 1) (by decide +kernel) (dk_dq rfl)) (dk_eqT jc_1 (k := 2) (by decide +kernel)) (zI_eq f_x_10) (Eq.symm ex_12.symm))), congrArg Prod.snd (Eq.symm (F_m_has_p3 (dk_neT jc_1 (k := 0) (b := 0) (by decide +kernel) (dk_dq rfl)) (dk_neT jc_1 (k := 1) (b := 1) (by decide +kernel) (dk_dq rfl)) (dk_eqT jc_1 (k := 2) (by decide +kernel)) (zI_eq f_x_10) (Eq.symm ex_12.symm)))⟩, trivial⟩ dX12_has_113
  · refine lv_tableIn (off := 111) (tgt := 114) hx hb dX12_has_3 (by rw [jc_1]; decide) (by rw [jc_1]; decide) (by rw [jc_1]; decide +kernel) (dk_dq rfl) ?_
    refine lv_aload_n hx hb dX12_has_114 rfl (lv_at hl 1 rfl) ?_
    refine dg_get (C := RX12) (T := TX12) (N := 77) hx hb hts (fun w h => bw_mem (wU_X12 w h)) hown K hP sM_0 rfl 21 (dk_dq rfl) (hts _ (bw_mem wB_391)) (fun _ h9 => h9) (v := .ref (o + 9)) (show S.1 0 21 = .ref (o + 9) from dg_I.rel (d := 9) I sM_0 (by decide +kernel)) dX12_has_115 ?_
    refine lv_aload_n hx hb dX12_has_118 rfl (lv_at hl 1 rfl) ?_
    obtain ⟨x_13, f_x_13, b_x_13⟩ := dg_I.int (i := 0) (k := 13) (lo := 0) (hi := 1) I sM_0 (by decide +kernel)
    refine dg_get (C := RX12) (T := TX12) (N := 77) hx hb hts (fun w h => bw_mem (wU_X12 w h)) hown K hP sM_0 rfl 13 (dk_dq rfl) (hts _ (bw_mem wB_1085)) (fun _ h9 => h9) (v := .int x_13) f_x_13 dX12_has_119 ?_
    have hin_14 : vp_in x_13 2 := (dk_inv2 (by omega))
    refine dg_iald hx hb K hP sM_9 hin_14 dX12_has_122 (fun x_15 ex_15 => ?_)
    have b_x_15 := dk_all_at (dg_I.row (lo := 0) (hi := 16) I sM_9 (by decide +kernel)) hin_14 ex_15
    refine W.widen (k := 0) (n := 0) (Nat.le_of_ble_eq_true rfl) (Nat.le_of_ble_eq_true rfl) ?_
    exact dg_iret hx hb hr hlocks rfl hP hS ⟨I, M_0, ⟨congrArg Prod.fst (Eq.symm (F_m_has_p4 (dk_neT jc_1 (k := 0) (b := 0) (by decide +kernel) (dk_dq rfl)) (dk_neT jc_1 (k := 1) (b := 1) (by decide +kernel) (dk_dq rfl)) (dk_neT jc_1 (k := 2) (b := 2) (by decide +kernel) (dk_dq rfl)) (dk_eqT jc_1 (k := 3) (by decide +kernel)) (zI_eq f_x_13) (Eq.symm ex_15.symm))), congrArg Prod.snd (Eq.symm (F_m_has_p4 (dk_neT jc_1 (k := 0) (b := 0) (by decide +kernel) (dk_dq rfl)) (dk_neT jc_1 (k := 1) (b := 1) (by decide +kernel) (dk_dq rfl)) (dk_neT jc_1 (k := 2) (b := 2) (by decide +kernel) (dk_dq rfl)) (dk_eqT jc_1 (k := 3) (by decide +kernel)) (zI_eq f_x_13) (Eq.symm ex_15.symm)))⟩, trivial⟩ dX12_has_123
  · refine lv_tableIn (off := 121) (tgt := 124) hx hb dX12_has_3 (by rw [jc_1]; decide) (by rw [jc_1]; decide) (by rw [jc_1]; decide +kernel) (dk_dq rfl) ?_
    refine lv_aload_n hx hb dX12_has_124 rfl (lv_at hl 1 rfl) ?_
    refine dg_get (C := RX12) (T := TX12) (N := 77) hx hb hts (fun w h => bw_mem (wU_X12 w h)) hown K hP sM_0 rfl 24 (dk_dq rfl) (hts _ (bw_mem wB_355)) (fun _ h9 => h9) (v := .ref (o + 12)) (show S.1 0 24 = .ref (o + 12) from dg_I.rel (d := 12) I sM_0 (by decide +kernel)) dX12_has_125 ?_
    refine lv_aload_n hx hb dX12_has_128 rfl (lv_at hl 1 rfl) ?_
    obtain ⟨x_16, f_x_16, b_x_16⟩ := dg_I.int (i := 0) (k := 13) (lo := 0) (hi := 1) I sM_0 (by decide +kernel)
    refine dg_get (C := RX12) (T := TX12) (N := 77) hx hb hts (fun w h => bw_mem (wU_X12 w h)) hown K hP sM_0 rfl 13 (dk_dq rfl) (hts _ (bw_mem wB_1085)) (fun _ h9 => h9) (v := .int x_16) f_x_16 dX12_has_129 ?_
    have hin_17 : vp_in x_16 2 := (dk_inv2 (by omega))
    refine dg_iald hx hb K hP sM_12 hin_17 dX12_has_132 (fun x_18 ex_18 => ?_)
    have b_x_18 := dk_all_at (dg_I.row (lo := 0) (hi := 5) I sM_12 (by decide +kernel)) hin_17 ex_18
    refine W.widen (k := 0) (n := 0) (Nat.le_of_ble_eq_true rfl) (Nat.le_of_ble_eq_true rfl) ?_
    exact dg_iret hx hb hr hlocks rfl hP hS ⟨I, M_0, ⟨congrArg Prod.fst (Eq.symm (F_m_has_p5 (dk_neT jc_1 (k := 0) (b := 0) (by decide +kernel) (dk_dq rfl)) (dk_neT jc_1 (k := 1) (b := 1) (by decide +kernel) (dk_dq rfl)) (dk_neT jc_1 (k := 2) (b := 2) (by decide +kernel) (dk_dq rfl)) (dk_neT jc_1 (k := 3) (b := 3) (by decide +kernel) (dk_dq rfl)) (dk_eqT jc_1 (k := 4) (by decide +kernel)) (zI_eq f_x_16) (Eq.symm ex_18.symm))), congrArg Prod.snd (Eq.symm (F_m_has_p5 (dk_neT jc_1 (k := 0) (b := 0) (by decide +kernel) (dk_dq rfl)) (dk_neT jc_1 (k := 1) (b := 1) (by decide +kernel) (dk_dq rfl)) (dk_neT jc_1 (k := 2) (b := 2) (by decide +kernel) (dk_dq rfl)) (dk_neT jc_1 (k := 3) (b := 3) (by decide +kernel) (dk_dq rfl)) (dk_eqT jc_1 (k := 4) (by decide +kernel)) (zI_eq f_x_16) (Eq.symm ex_18.symm)))⟩, trivial⟩ dX12_has_133
  · refine lv_tableIn (off := 131) (tgt := 134) hx hb dX12_has_3 (by rw [jc_1]; decide) (by rw [jc_1]; decide) (by rw [jc_1]; decide +kernel) (dk_dq rfl) ?_
    refine lv_aload_n hx hb dX12_has_134 rfl (lv_at hl 1 rfl) ?_
    refine dg_get (C := RX12) (T := TX12) (N := 77) hx hb hts (fun w h => bw_mem (wU_X12 w h)) hown K hP sM_0 rfl 49 (dk_dq rfl) (hts _ (bw_mem wB_1108)) (fun _ h9 => h9) (v := .ref (o + 29)) (show S.1 0 49 = .ref (o + 29) from dg_I.rel (d := 29) I sM_0 (by decide +kernel)) dX12_has_135 ?_
    refine lv_iconst (v := 0) hx hb dX12_has_138 (by decide +kernel) ?_
    have hin_19 : vp_in (0 : Int32) 22 := (dk_in (by decide +kernel))
    refine dg_iald hx hb K hP sM_29 hin_19 dX12_has_139 (fun x_20 ex_20 => ?_)
    have b_x_20 := dk_all_at (dg_I.row (lo := 0) (hi := 2000) I sM_29 (by decide +kernel)) hin_19 ex_20
    refine W.widen (k := 0) (n := 0) (Nat.le_of_ble_eq_true rfl) (Nat.le_of_ble_eq_true rfl) ?_
    exact dg_iret hx hb hr hlocks rfl hP hS ⟨I, M_0, ⟨congrArg Prod.fst (Eq.symm (F_m_has_p6 (dk_neT jc_1 (k := 0) (b := 0) (by decide +kernel) (dk_dq rfl)) (dk_neT jc_1 (k := 1) (b := 1) (by decide +kernel) (dk_dq rfl)) (dk_neT jc_1 (k := 2) (b := 2) (by decide +kernel) (dk_dq rfl)) (dk_neT jc_1 (k := 3) (b := 3) (by decide +kernel) (dk_dq rfl)) (dk_neT jc_1 (k := 4) (b := 4) (by decide +kernel) (dk_dq rfl)) (dk_eqT jc_1 (k := 5) (by decide +kernel)) (Eq.symm ex_20.symm))), congrArg Prod.snd (Eq.symm (F_m_has_p6 (dk_neT jc_1 (k := 0) (b := 0) (by decide +kernel) (dk_dq rfl)) (dk_neT jc_1 (k := 1) (b := 1) (by decide +kernel) (dk_dq rfl)) (dk_neT jc_1 (k := 2) (b := 2) (by decide +kernel) (dk_dq rfl)) (dk_neT jc_1 (k := 3) (b := 3) (by decide +kernel) (dk_dq rfl)) (dk_neT jc_1 (k := 4) (b := 4) (by decide +kernel) (dk_dq rfl)) (dk_eqT jc_1 (k := 5) (by decide +kernel)) (Eq.symm ex_20.symm)))⟩, trivial⟩ dX12_has_140
  · as_aux_lemma =>
      refine lv_tableIn (off := 138) (tgt := 141) hx hb dX12_has_3 (by rw [jc_1]; decide) (by rw [jc_1]; decide) (by rw [jc_1]; decide +kernel) (dk_dq rfl) ?_
      refine lv_iconst (v := 0) hx hb dX12_has_141 (by decide +kernel) ?_
      refine lv_istore_n (lv' := [(3, .int 0), (2, .int 0), (0, .ref (o + 0)), (1, .int a1)]) hx hb dX12_has_142 rfl hl (dk_dq rfl) rfl (fun ls hl => ?_)
      have L_84 : ∀ (n : Nat) (x_82 : Int32) (x_83 : Int32), (0 ≤ (x_82).toInt ∧ (x_82).toInt ≤ 64) → ((65 - (x_82).toInt).toNat < n) → (F_m_has o S a1 = lp (F_m_has_B1 S o) (S, (0 : Int32)) n (x_82, x_83)) → ∀ (H : Heap) (locs : List Loc), va_P D vwCl (dg_w g shM o rfM S) H → va_S A s.heap H locs → ∀ ls : Array Slot, lv_has ls 4 [(3, .int x_82), (2, .int x_83), (0, .ref (o + 0)), (1, .int a1)] → W p l e ({ frames := 5, cells := 0, slots := 0, locals := 126 } : Room) s m args below meth c H locs 0 0 (MQ below (va_Qi (fun (r : Int32) S' => CM o S' ∧ dg_sm shM [] [42, 43] S S' ∧ (S' = (F_m_has o S a1).1 ∧ r = (F_m_has o S a1).2) ∧ True) (dg_B g D shM o rfM) A) args s 0 0 A) (F0 m 143 ls []) := by
        as_aux_lemma =>
          intro n
          induction n with
          | zero =>
            intro x_82 x_83 b_x_82 hmu hF_1 H locs hP hS ls hl
            omega
          | succ n ih =>
            as_aux_lemma =>
              intro x_82 x_83 b_x_82 hmu hF_1 H locs hP hS ls hl
              refine lv_iload_n hx hb dX12_has_143 rfl (lv_at hl 0 rfl) ?_
              refine lv_bipush (v := 64) hx hb dX12_has_144 (by decide +kernel) ?_
              refine lv_icmp_ge (tgt := 180) hx hb dX12_has_146 (dk_dq rfl) (fun c_85 => ?_) (fun c_85 => ?_)
              · have jc_85 := dk_gec (k := 64) (by decide +kernel) c_85
                refine lv_iload_n hx hb dX12_has_180 rfl (lv_at hl 1 rfl) ?_
                refine W.widen (k := 0) (n := 0) (Nat.le_of_ble_eq_true rfl) (Nat.le_of_ble_eq_true rfl) ?_
                exact dg_iret hx hb hr hlocks rfl hP hS ⟨I, M_0, ⟨congrArg Prod.fst (Eq.symm (lp_r hF_1 (F_m_has_p7 c_85))), congrArg Prod.snd (Eq.symm (lp_r hF_1 (F_m_has_p7 c_85)))⟩, trivial⟩ dX12_has_181
              · as_aux_lemma =>
                  have jc_85 := dk_ngec (k := 64) (by decide +kernel) c_85
                  refine lv_iload_n hx hb dX12_has_149 rfl (lv_at hl 1 rfl) ?_
                  refine lv_aload_n hx hb dX12_has_150 rfl (lv_at hl 2 rfl) ?_
                  refine lv_iload_n hx hb dX12_has_151 rfl (lv_at hl 0 rfl) ?_
                  refine dg_calli hS hA1 hA (va_runV (As := [.int x_82]) (rest := [.int x_83]) F (c_m_isCellOf l g D o S x_82 (by omega) ZB I H.size) (cwV 1 hts (bw_V wB_1123 wB_1124 wB_1125 wB_297 wB_1122) rfl rfl rfl (by decide +kernel) ⟨Nat.le_of_ble_eq_true rfl, Nat.le_of_ble_eq_true rfl⟩) (dg_preV sM_0 rfl K ST hP hS hA1 hA) rfl rfl hl.1 rfl (lv_room (Nat.le_of_ble_eq_true rfl)) dX12_has_152 ⟨Nat.le_of_ble_eq_true rfl, Nat.le_of_ble_eq_true rfl⟩) (fun x_86 S_87 hw_87 H locs hP hS => ?_)
                  rw [hw_87.1] at hP
                  obtain ⟨hq_87, w_87_0, w_87_1, w_87_2, -⟩ := hw_87
                  have w_87_0 : 0 ≤ (x_86).toInt ∧ (x_86).toInt ≤ 1 := w_87_0
                  have w_87_1 : (x_86).toInt = 1 → 0 ≤ (x_82).toInt := w_87_1
                  have J_96 : ∀ (x_93 : Int32), (0 ≤ (x_93).toInt ∧ (x_93).toInt ≤ 1) → ((F_m_has_B1 S o) (x_82, x_83) = F_m_has_J2 x_83 x_93 x_82) → ∀ (H : Heap) (locs : List Loc), va_P D vwCl (dg_w g shM o rfM S) H → va_S A s.heap H locs → ∀ ls : Array Slot, lv_has ls 4 [(3, .int x_82), (2, .int x_83), (0, .ref (o + 0)), (1, .int a1)] → W p l e ({ frames := 5, cells := 0, slots := 0, locals := 126 } : Room) s m args below meth c H locs 0 0 (MQ below (va_Qi (fun (r : Int32) S' => CM o S' ∧ dg_sm shM [] [42, 43] S S' ∧ (S' = (F_m_has o S a1).1 ∧ r = (F_m_has o S a1).2) ∧ True) (dg_B g D shM o rfM) A) args s 0 0 A) (F0 m 172 ls [.int x_93, .int x_83]) := by
                    intro x_93 b_x_93 hF_2 H locs hP hS ls hl
                    refine lv_iadd hx hb dX12_has_172 ?_
                    refine lv_topi (fun x_97 ex_97 => ?_)
                    refine lv_istore_n (lv' := [(2, .int x_97), (3, .int x_82), (0, .ref (o + 0)), (1, .int a1)]) hx hb dX12_has_173 rfl hl (dk_dq rfl) rfl (fun ls hl => ?_)
                    obtain ⟨x_98, ex_98⟩ : ∃ z, z = x_82 + 1 := ⟨_, rfl⟩
                    have jx_98 : (x_98).toInt = (x_82).toInt + 1 := by rw [ex_98]; exact dk_addT2 rfl (by decide +kernel) (by omega)
                    refine lv_iinc (v := x_98) (lv' := [(3, .int x_98), (2, .int x_97), (0, .ref (o + 0)), (1, .int a1)]) hx hb dX12_has_174 hl (k := 1) rfl (by rw [ex_98]; rfl) (dk_dq rfl) rfl (fun ls hl => ?_)
                    refine lv_goto (tgt := 143) hx hb dX12_has_177 (dk_dq rfl) ?_
                    exact ih x_98 x_97 (by omega) (by first | exact mu_lt hmu (by omega) (by omega) | omega) (lp_l hF_1 (Eq.trans hF_2 (F_m_has_p8 ex_97 ex_98))) _ _ hP hS _ (lv_sub hl [0, 1, 2, 3] rfl)
                  have J_99 : ((F_m_has_B1 S o) (x_82, x_83) = F_m_has_J3 x_83 x_82) → ∀ (H : Heap) (locs : List Loc), va_P D vwCl (dg_w g shM o rfM S) H → va_S A s.heap H locs → ∀ ls : Array Slot, lv_has ls 4 [(3, .int x_82), (2, .int x_83), (0, .ref (o + 0)), (1, .int a1)] → W p l e ({ frames := 5, cells := 0, slots := 0, locals := 126 } : Room) s m args below meth c H locs 0 0 (MQ below (va_Qi (fun (r : Int32) S' => CM o S' ∧ dg_sm shM [] [42, 43] S S' ∧ (S' = (F_m_has o S a1).1 ∧ r = (F_m_has o S a1).2) ∧ True) (dg_B g D shM o rfM) A) args s 0 0 A) (F0 m 171 ls [.int x_83]) := by
                    intro hF_3 H locs hP hS ls hl
                    refine lv_iconst (v := 0) hx hb dX12_has_171 (by decide +kernel) ?_
                    have hz_100 : (0 : Int32).toInt = 0 := by decide +kernel
                    exact J_96 0 (by decide +kernel) (Eq.trans hF_3 (F_m_has_p9)) _ _ hP hS _ (lv_sub hl [0, 1, 2, 3] rfl)
                  refine lv_if_eq (tgt := 171) hx hb dX12_has_155 (dk_dq rfl) (fun c_101 => ?_) (fun c_101 => ?_)
                  · have jc_101 := dk_eqc (k := 0) (by decide +kernel) c_101
                    exact J_99   (F_m_has_p10 c_85 w_87_2 c_101) _ _ hP hS _ (lv_sub hl [0, 1, 2, 3] rfl)
                  · as_aux_lemma =>
                      have jc_101 := dk_neqc (k := 0) (by decide +kernel) c_101
                      refine lv_aload_n hx hb dX12_has_158 rfl (lv_at hl 2 rfl) ?_
                      refine lv_iconst (v := 0) hx hb dX12_has_159 (by decide +kernel) ?_
                      refine lv_iload_n hx hb dX12_has_160 rfl (lv_at hl 0 rfl) ?_
                      have hz_102 : (0 : Int32).toInt = 0 := by decide +kernel
                      refine dg_calli hS hA1 hA (va_runV (As := [.int 0, .int x_82]) (rest := [.int x_83]) F (c_m_isOpen l g D o S 0 (by decide +kernel) x_82 (by omega) I H.size) (cwV 2 hts (bw_V wB_1092 wB_1093 wB_1094 wB_297 wB_1091) rfl rfl rfl (by decide +kernel) ⟨Nat.le_of_ble_eq_true rfl, Nat.le_of_ble_eq_true rfl⟩) (dg_preV sM_0 rfl K ST hP hS hA1 hA) rfl rfl hl.1 rfl (lv_room (Nat.le_of_ble_eq_true rfl)) dX12_has_161 ⟨Nat.le_of_ble_eq_true rfl, Nat.le_of_ble_eq_true rfl⟩) (fun x_103 S_104 hw_104 H locs hP hS => ?_)
                      rw [hw_104.1] at hP
                      obtain ⟨hq_104, w_104_0, w_104_1, -⟩ := hw_104
                      have w_104_0 : 0 ≤ (x_103).toInt ∧ (x_103).toInt ≤ 1 := w_104_0
                      refine lv_if_eq (tgt := 171) hx hb dX12_has_164 (dk_dq rfl) (fun c_105 => ?_) (fun c_105 => ?_)
                      · have jc_105 := dk_eqc (k := 0) (by decide +kernel) c_105
                        exact J_99   (F_m_has_p11 c_85 w_87_2 c_101 w_104_1 c_105) _ _ hP hS _ (lv_sub hl [0, 1, 2, 3] rfl)
                      · have jc_105 := dk_neqc (k := 0) (by decide +kernel) c_105
                        refine lv_iconst (v := 1) hx hb dX12_has_167 (by decide +kernel) ?_
                        refine lv_goto (tgt := 172) hx hb dX12_has_168 (dk_dq rfl) ?_
                        have hz_106 : (1 : Int32).toInt = 1 := by decide +kernel
                        exact J_96 1 (by decide +kernel) (F_m_has_p12 c_85 w_87_2 c_101 w_104_1 c_105) _ _ hP hS _ (lv_sub hl [0, 1, 2, 3] rfl)
      have hz_107 : (0 : Int32).toInt = 0 := by decide +kernel
      have hz_108 : (0 : Int32).toInt = 0 := by decide +kernel
      have hz_109 : (0 : Int32).toInt = 0 := by decide +kernel
      exact L_84 ((65 - ((0 : Int32)).toInt).toNat + 1) 0 0 (by decide +kernel) (by first | exact mu_lt hmu (by omega) (by omega) | omega) (F_m_has_p13 (dk_neT jc_1 (k := 0) (b := 0) (by decide +kernel) (dk_dq rfl)) (dk_neT jc_1 (k := 1) (b := 1) (by decide +kernel) (dk_dq rfl)) (dk_neT jc_1 (k := 2) (b := 2) (by decide +kernel) (dk_dq rfl)) (dk_neT jc_1 (k := 3) (b := 3) (by decide +kernel) (dk_dq rfl)) (dk_neT jc_1 (k := 4) (b := 4) (by decide +kernel) (dk_dq rfl)) (dk_neT jc_1 (k := 5) (b := 5) (by decide +kernel) (dk_dq rfl)) (dk_eqT jc_1 (k := 6) (by decide +kernel))) _ _ hP hS _ (lv_sub hl [0, 1, 2, 3] rfl)
  · as_aux_lemma =>
      refine lv_tableIn (off := 179) (tgt := 182) hx hb dX12_has_3 (by rw [jc_1]; decide) (by rw [jc_1]; decide) (by rw [jc_1]; decide +kernel) (dk_dq rfl) ?_
      refine lv_aload_n hx hb dX12_has_182 rfl (lv_at hl 1 rfl) ?_
      refine lv_iconst (v := 0) hx hb dX12_has_183 (by decide +kernel) ?_
      have hz_110 : (0 : Int32).toInt = 0 := by decide +kernel
      obtain ⟨x_111, f_x_111, b_x_111⟩ := dg_I.int (i := 0) (k := 13) (lo := 0) (hi := 1) I sM_0 (by decide +kernel)
      obtain ⟨x_112, f_x_112⟩ : ∃ x, S.2.1 4 (x_111 : Int32).toNatClampNeg = x := ⟨_, rfl⟩
      have hin_113 : vp_in (x_111 : Int32) 2 := (dk_inv2 (by omega))
      have b_x_112 := dk_all_at (dg_I.row (lo := 0) (hi := 9999) I sM_4 (by decide +kernel)) hin_113 f_x_112.symm
      have ex_112 := f_x_112.symm
      obtain ⟨x_114, f_x_114, b_x_114⟩ := dg_I.int (i := 0) (k := 47) (lo := 0) (hi := 1) I sM_0 (by decide +kernel)
      have zb_x_112 : (x_112).toInt ≤ 63 := by rw [ex_112]; exact (ZB x_111 x_114 f_x_111 f_x_114).2.2.1
      refine dg_callv hS hA1 hA (va_runV (As := [.int 0]) (rest := []) F (c_m_measures l g D o S 0 (by decide +kernel) x_111 f_x_111 (by omega) x_112 f_x_112 (by omega) ZB I s.heap.size) (cwV 1 hts (bw_V wB_1161 wB_1162 wB_1163 wB_297 wB_1160) rfl rfl rfl (by decide +kernel) ⟨Nat.le_of_ble_eq_true rfl, Nat.le_of_ble_eq_true rfl⟩) (dg_preV sM_0 rfl K ST hP hS hA1 hA) rfl rfl hl.1 rfl (lv_room (Nat.le_of_ble_eq_true rfl)) dX12_has_184 ⟨Nat.le_of_ble_eq_true rfl, Nat.le_of_ble_eq_true rfl⟩) (fun S_115 hw_115 H locs hP hS => ?_)
      obtain ⟨I_115, m_115, w_115_0, -⟩ := hw_115
      have M_115 := dg_sm.tr M_0 m_115 (dk_dq rfl) (dk_dq rfl)
      refine lv_iconst (v := 0) hx hb dX12_has_187 (by decide +kernel) ?_
      refine lv_istore_n (lv' := [(3, .int 0), (2, .int 0), (0, .ref (o + 0)), (1, .int a1)]) hx hb dX12_has_188 rfl hl (dk_dq rfl) rfl (fun ls hl => ?_)
      have L_179 : ∀ (n : Nat) (x_177 : Int32) (x_178 : Int32), (0 ≤ (x_177).toInt ∧ (x_177).toInt ≤ 64) → ((65 - (x_177).toInt).toNat < n) → (F_m_has o S a1 = lp (F_m_has_B4 S_115 o) (S, (0 : Int32)) n (x_177, x_178)) → ∀ (H : Heap) (locs : List Loc), va_P D vwCl (dg_w g shM o rfM S_115) H → va_S A s.heap H locs → ∀ ls : Array Slot, lv_has ls 4 [(3, .int x_177), (2, .int x_178), (0, .ref (o + 0)), (1, .int a1)] → W p l e ({ frames := 5, cells := 0, slots := 0, locals := 126 } : Room) s m args below meth c H locs 0 0 (MQ below (va_Qi (fun (r : Int32) S' => CM o S' ∧ dg_sm shM [] [42, 43] S S' ∧ (S' = (F_m_has o S a1).1 ∧ r = (F_m_has o S a1).2) ∧ True) (dg_B g D shM o rfM) A) args s 0 0 A) (F0 m 189 ls []) := by
        as_aux_lemma =>
          intro n
          induction n with
          | zero =>
            intro x_177 x_178 b_x_177 hmu hF_4 H locs hP hS ls hl
            omega
          | succ n ih =>
            as_aux_lemma =>
              intro x_177 x_178 b_x_177 hmu hF_4 H locs hP hS ls hl
              refine lv_iload_n hx hb dX12_has_189 rfl (lv_at hl 0 rfl) ?_
              refine lv_bipush (v := 64) hx hb dX12_has_190 (by decide +kernel) ?_
              refine lv_icmp_ge (tgt := 226) hx hb dX12_has_192 (dk_dq rfl) (fun c_180 => ?_) (fun c_180 => ?_)
              · have jc_180 := dk_gec (k := 64) (by decide +kernel) c_180
                refine lv_iload_n hx hb dX12_has_226 rfl (lv_at hl 1 rfl) ?_
                refine W.widen (k := 0) (n := 0) (Nat.le_of_ble_eq_true rfl) (Nat.le_of_ble_eq_true rfl) ?_
                exact dg_iret hx hb hr hlocks rfl hP hS ⟨I_115, M_115, ⟨congrArg Prod.fst (Eq.symm (lp_r hF_4 (F_m_has_p14 c_180))), congrArg Prod.snd (Eq.symm (lp_r hF_4 (F_m_has_p14 c_180)))⟩, trivial⟩ dX12_has_227
              · as_aux_lemma =>
                  have jc_180 := dk_ngec (k := 64) (by decide +kernel) c_180
                  refine lv_iload_n hx hb dX12_has_195 rfl (lv_at hl 1 rfl) ?_
                  refine lv_aload_n hx hb dX12_has_196 rfl (lv_at hl 2 rfl) ?_
                  refine lv_iload_n hx hb dX12_has_197 rfl (lv_at hl 0 rfl) ?_
                  refine dg_calli hS hA1 hA (va_runV (As := [.int x_177]) (rest := [.int x_178]) F (c_m_isCellOf l g D o S_115 x_177 (by omega) (ZBM.keep ZB m_115 (dk_dq rfl) (dk_dq rfl) (dk_dq rfl) (dk_dq rfl) (dk_dq rfl)) I_115 H.size) (cwV 1 hts (bw_V wB_1123 wB_1124 wB_1125 wB_297 wB_1122) rfl rfl rfl (by decide +kernel) ⟨Nat.le_of_ble_eq_true rfl, Nat.le_of_ble_eq_true rfl⟩) (dg_preV sM_0 rfl K ST hP hS hA1 hA) rfl rfl hl.1 rfl (lv_room (Nat.le_of_ble_eq_true rfl)) dX12_has_198 ⟨Nat.le_of_ble_eq_true rfl, Nat.le_of_ble_eq_true rfl⟩) (fun x_181 S_182 hw_182 H locs hP hS => ?_)
                  rw [hw_182.1] at hP
                  obtain ⟨hq_182, w_182_0, w_182_1, w_182_2, -⟩ := hw_182
                  have w_182_0 : 0 ≤ (x_181).toInt ∧ (x_181).toInt ≤ 1 := w_182_0
                  have w_182_1 : (x_181).toInt = 1 → 0 ≤ (x_177).toInt := w_182_1
                  have J_191 : ∀ (x_188 : Int32), (0 ≤ (x_188).toInt ∧ (x_188).toInt ≤ 1) → ((F_m_has_B4 S_115 o) (x_177, x_178) = F_m_has_J5 x_178 x_188 x_177) → ∀ (H : Heap) (locs : List Loc), va_P D vwCl (dg_w g shM o rfM S_115) H → va_S A s.heap H locs → ∀ ls : Array Slot, lv_has ls 4 [(3, .int x_177), (2, .int x_178), (0, .ref (o + 0)), (1, .int a1)] → W p l e ({ frames := 5, cells := 0, slots := 0, locals := 126 } : Room) s m args below meth c H locs 0 0 (MQ below (va_Qi (fun (r : Int32) S' => CM o S' ∧ dg_sm shM [] [42, 43] S S' ∧ (S' = (F_m_has o S a1).1 ∧ r = (F_m_has o S a1).2) ∧ True) (dg_B g D shM o rfM) A) args s 0 0 A) (F0 m 218 ls [.int x_188, .int x_178]) := by
                    intro x_188 b_x_188 hF_5 H locs hP hS ls hl
                    refine lv_iadd hx hb dX12_has_218 ?_
                    refine lv_topi (fun x_192 ex_192 => ?_)
                    refine lv_istore_n (lv' := [(2, .int x_192), (3, .int x_177), (0, .ref (o + 0)), (1, .int a1)]) hx hb dX12_has_219 rfl hl (dk_dq rfl) rfl (fun ls hl => ?_)
                    obtain ⟨x_193, ex_193⟩ : ∃ z, z = x_177 + 1 := ⟨_, rfl⟩
                    have jx_193 : (x_193).toInt = (x_177).toInt + 1 := by rw [ex_193]; exact dk_addT2 rfl (by decide +kernel) (by omega)
                    refine lv_iinc (v := x_193) (lv' := [(3, .int x_193), (2, .int x_192), (0, .ref (o + 0)), (1, .int a1)]) hx hb dX12_has_220 hl (k := 1) rfl (by rw [ex_193]; rfl) (dk_dq rfl) rfl (fun ls hl => ?_)
                    refine lv_goto (tgt := 189) hx hb dX12_has_223 (dk_dq rfl) ?_
                    exact ih x_193 x_192 (by omega) (by first | exact mu_lt hmu (by omega) (by omega) | omega) (lp_l hF_4 (Eq.trans hF_5 (F_m_has_p15 ex_192 ex_193))) _ _ hP hS _ (lv_sub hl [0, 1, 2, 3] rfl)
                  have J_194 : ((F_m_has_B4 S_115 o) (x_177, x_178) = F_m_has_J6 x_178 x_177) → ∀ (H : Heap) (locs : List Loc), va_P D vwCl (dg_w g shM o rfM S_115) H → va_S A s.heap H locs → ∀ ls : Array Slot, lv_has ls 4 [(3, .int x_177), (2, .int x_178), (0, .ref (o + 0)), (1, .int a1)] → W p l e ({ frames := 5, cells := 0, slots := 0, locals := 126 } : Room) s m args below meth c H locs 0 0 (MQ below (va_Qi (fun (r : Int32) S' => CM o S' ∧ dg_sm shM [] [42, 43] S S' ∧ (S' = (F_m_has o S a1).1 ∧ r = (F_m_has o S a1).2) ∧ True) (dg_B g D shM o rfM) A) args s 0 0 A) (F0 m 217 ls [.int x_178]) := by
                    intro hF_6 H locs hP hS ls hl
                    refine lv_iconst (v := 0) hx hb dX12_has_217 (by decide +kernel) ?_
                    have hz_195 : (0 : Int32).toInt = 0 := by decide +kernel
                    exact J_191 0 (by decide +kernel) (Eq.trans hF_6 (F_m_has_p16)) _ _ hP hS _ (lv_sub hl [0, 1, 2, 3] rfl)
                  refine lv_if_eq (tgt := 217) hx hb dX12_has_201 (dk_dq rfl) (fun c_196 => ?_) (fun c_196 => ?_)
                  · have jc_196 := dk_eqc (k := 0) (by decide +kernel) c_196
                    exact J_194   (F_m_has_p17 c_180 w_182_2 c_196) _ _ hP hS _ (lv_sub hl [0, 1, 2, 3] rfl)
                  · as_aux_lemma =>
                      have jc_196 := dk_neqc (k := 0) (by decide +kernel) c_196
                      refine lv_aload_n hx hb dX12_has_204 rfl (lv_at hl 2 rfl) ?_
                      refine lv_iconst (v := 0) hx hb dX12_has_205 (by decide +kernel) ?_
                      refine lv_iload_n hx hb dX12_has_206 rfl (lv_at hl 0 rfl) ?_
                      have hz_197 : (0 : Int32).toInt = 0 := by decide +kernel
                      refine dg_calli hS hA1 hA (va_runV (As := [.int 0, .int x_177]) (rest := [.int x_178]) F (c_m_isLit l g D o S_115 0 (by decide +kernel) x_177 (by omega) I_115 H.size) (cwV 2 hts (bw_V wB_1104 wB_1105 wB_1106 wB_297 wB_1103) rfl rfl rfl (by decide +kernel) ⟨Nat.le_of_ble_eq_true rfl, Nat.le_of_ble_eq_true rfl⟩) (dg_preV sM_0 rfl K ST hP hS hA1 hA) rfl rfl hl.1 rfl (lv_room (Nat.le_of_ble_eq_true rfl)) dX12_has_207 ⟨Nat.le_of_ble_eq_true rfl, Nat.le_of_ble_eq_true rfl⟩) (fun x_198 S_199 hw_199 H locs hP hS => ?_)
                      rw [hw_199.1] at hP
                      obtain ⟨hq_199, w_199_0, w_199_1, -⟩ := hw_199
                      have w_199_0 : 0 ≤ (x_198).toInt ∧ (x_198).toInt ≤ 1 := w_199_0
                      refine lv_if_eq (tgt := 217) hx hb dX12_has_210 (dk_dq rfl) (fun c_200 => ?_) (fun c_200 => ?_)
                      · have jc_200 := dk_eqc (k := 0) (by decide +kernel) c_200
                        exact J_194   (F_m_has_p18 c_180 w_182_2 c_196 w_199_1 c_200) _ _ hP hS _ (lv_sub hl [0, 1, 2, 3] rfl)
                      · have jc_200 := dk_neqc (k := 0) (by decide +kernel) c_200
                        refine lv_iconst (v := 1) hx hb dX12_has_213 (by decide +kernel) ?_
                        refine lv_goto (tgt := 218) hx hb dX12_has_214 (dk_dq rfl) ?_
                        have hz_201 : (1 : Int32).toInt = 1 := by decide +kernel
                        exact J_191 1 (by decide +kernel) (F_m_has_p19 c_180 w_182_2 c_196 w_199_1 c_200) _ _ hP hS _ (lv_sub hl [0, 1, 2, 3] rfl)
      have hz_202 : (0 : Int32).toInt = 0 := by decide +kernel
      have hz_203 : (0 : Int32).toInt = 0 := by decide +kernel
      have hz_204 : (0 : Int32).toInt = 0 := by decide +kernel
      exact L_179 ((65 - ((0 : Int32)).toInt).toNat + 1) 0 0 (by decide +kernel) (by first | exact mu_lt hmu (by omega) (by omega) | omega) (F_m_has_p20 (dk_neT jc_1 (k := 0) (b := 0) (by decide +kernel) (dk_dq rfl)) (dk_neT jc_1 (k := 1) (b := 1) (by decide +kernel) (dk_dq rfl)) (dk_neT jc_1 (k := 2) (b := 2) (by decide +kernel) (dk_dq rfl)) (dk_neT jc_1 (k := 3) (b := 3) (by decide +kernel) (dk_dq rfl)) (dk_neT jc_1 (k := 4) (b := 4) (by decide +kernel) (dk_dq rfl)) (dk_neT jc_1 (k := 5) (b := 5) (by decide +kernel) (dk_dq rfl)) (dk_neT jc_1 (k := 6) (b := 6) (by decide +kernel) (dk_dq rfl)) (dk_eqT jc_1 (k := 7) (by decide +kernel)) w_115_0) _ _ hP hS _ (lv_sub hl [0, 1, 2, 3] rfl)
  · as_aux_lemma =>
      refine lv_tableIn (off := 225) (tgt := 228) hx hb dX12_has_3 (by rw [jc_1]; decide) (by rw [jc_1]; decide) (by rw [jc_1]; decide +kernel) (dk_dq rfl) ?_
      refine lv_iconst (v := 0) hx hb dX12_has_228 (by decide +kernel) ?_
      refine lv_istore_n (lv' := [(3, .int 0), (2, .int 0), (0, .ref (o + 0)), (1, .int a1)]) hx hb dX12_has_229 rfl hl (dk_dq rfl) rfl (fun ls hl => ?_)
      have L_258 : ∀ (n : Nat) (x_256 : Int32) (x_257 : Int32), (0 ≤ (x_256).toInt ∧ (x_256).toInt ≤ 64) → ((65 - (x_256).toInt).toNat < n) → (F_m_has o S a1 = lp (F_m_has_B7 S o) (S, (0 : Int32)) n (x_256, x_257)) → ∀ (H : Heap) (locs : List Loc), va_P D vwCl (dg_w g shM o rfM S) H → va_S A s.heap H locs → ∀ ls : Array Slot, lv_has ls 4 [(3, .int x_256), (2, .int x_257), (0, .ref (o + 0)), (1, .int a1)] → W p l e ({ frames := 5, cells := 0, slots := 0, locals := 126 } : Room) s m args below meth c H locs 0 0 (MQ below (va_Qi (fun (r : Int32) S' => CM o S' ∧ dg_sm shM [] [42, 43] S S' ∧ (S' = (F_m_has o S a1).1 ∧ r = (F_m_has o S a1).2) ∧ True) (dg_B g D shM o rfM) A) args s 0 0 A) (F0 m 230 ls []) := by
        as_aux_lemma =>
          intro n
          induction n with
          | zero =>
            intro x_256 x_257 b_x_256 hmu hF_7 H locs hP hS ls hl
            omega
          | succ n ih =>
            as_aux_lemma =>
              intro x_256 x_257 b_x_256 hmu hF_7 H locs hP hS ls hl
              refine lv_iload_n hx hb dX12_has_230 rfl (lv_at hl 0 rfl) ?_
              refine lv_bipush (v := 64) hx hb dX12_has_231 (by decide +kernel) ?_
              refine lv_icmp_ge (tgt := 263) hx hb dX12_has_233 (dk_dq rfl) (fun c_259 => ?_) (fun c_259 => ?_)
              · have jc_259 := dk_gec (k := 64) (by decide +kernel) c_259
                refine lv_iload_n hx hb dX12_has_263 rfl (lv_at hl 1 rfl) ?_
                refine W.widen (k := 0) (n := 0) (Nat.le_of_ble_eq_true rfl) (Nat.le_of_ble_eq_true rfl) ?_
                exact dg_iret hx hb hr hlocks rfl hP hS ⟨I, M_0, ⟨congrArg Prod.fst (Eq.symm (lp_r hF_7 (F_m_has_p21 c_259))), congrArg Prod.snd (Eq.symm (lp_r hF_7 (F_m_has_p21 c_259)))⟩, trivial⟩ dX12_has_264
              · as_aux_lemma =>
                  have jc_259 := dk_ngec (k := 64) (by decide +kernel) c_259
                  refine lv_iload_n hx hb dX12_has_236 rfl (lv_at hl 1 rfl) ?_
                  refine lv_aload_n hx hb dX12_has_237 rfl (lv_at hl 2 rfl) ?_
                  refine lv_iload_n hx hb dX12_has_238 rfl (lv_at hl 0 rfl) ?_
                  refine dg_calli hS hA1 hA (va_runV (As := [.int x_256]) (rest := [.int x_257]) F (c_m_isCellOf l g D o S x_256 (by omega) ZB I H.size) (cwV 1 hts (bw_V wB_1123 wB_1124 wB_1125 wB_297 wB_1122) rfl rfl rfl (by decide +kernel) ⟨Nat.le_of_ble_eq_true rfl, Nat.le_of_ble_eq_true rfl⟩) (dg_preV sM_0 rfl K ST hP hS hA1 hA) rfl rfl hl.1 rfl (lv_room (Nat.le_of_ble_eq_true rfl)) dX12_has_239 ⟨Nat.le_of_ble_eq_true rfl, Nat.le_of_ble_eq_true rfl⟩) (fun x_260 S_261 hw_261 H locs hP hS => ?_)
                  rw [hw_261.1] at hP
                  obtain ⟨hq_261, w_261_0, w_261_1, w_261_2, -⟩ := hw_261
                  have w_261_0 : 0 ≤ (x_260).toInt ∧ (x_260).toInt ≤ 1 := w_261_0
                  have w_261_1 : (x_260).toInt = 1 → 0 ≤ (x_256).toInt := w_261_1
                  have J_268 : ∀ (x_265 : Int32), ((F_m_has_B7 S o) (x_256, x_257) = F_m_has_J8 x_257 x_265 x_256) → ∀ (H : Heap) (locs : List Loc), va_P D vwCl (dg_w g shM o rfM S) H → va_S A s.heap H locs → ∀ ls : Array Slot, lv_has ls 4 [(3, .int x_256), (2, .int x_257), (0, .ref (o + 0)), (1, .int a1)] → W p l e ({ frames := 5, cells := 0, slots := 0, locals := 126 } : Room) s m args below meth c H locs 0 0 (MQ below (va_Qi (fun (r : Int32) S' => CM o S' ∧ dg_sm shM [] [42, 43] S S' ∧ (S' = (F_m_has o S a1).1 ∧ r = (F_m_has o S a1).2) ∧ True) (dg_B g D shM o rfM) A) args s 0 0 A) (F0 m 255 ls [.int x_265, .int x_257]) := by
                    intro x_265 hF_8 H locs hP hS ls hl
                    refine lv_iadd hx hb dX12_has_255 ?_
                    refine lv_topi (fun x_269 ex_269 => ?_)
                    refine lv_istore_n (lv' := [(2, .int x_269), (3, .int x_256), (0, .ref (o + 0)), (1, .int a1)]) hx hb dX12_has_256 rfl hl (dk_dq rfl) rfl (fun ls hl => ?_)
                    obtain ⟨x_270, ex_270⟩ : ∃ z, z = x_256 + 1 := ⟨_, rfl⟩
                    have jx_270 : (x_270).toInt = (x_256).toInt + 1 := by rw [ex_270]; exact dk_addT2 rfl (by decide +kernel) (by omega)
                    refine lv_iinc (v := x_270) (lv' := [(3, .int x_270), (2, .int x_269), (0, .ref (o + 0)), (1, .int a1)]) hx hb dX12_has_257 hl (k := 1) rfl (by rw [ex_270]; rfl) (dk_dq rfl) rfl (fun ls hl => ?_)
                    refine lv_goto (tgt := 230) hx hb dX12_has_260 (dk_dq rfl) ?_
                    exact ih x_270 x_269 (by omega) (by first | exact mu_lt hmu (by omega) (by omega) | omega) (lp_l hF_7 (Eq.trans hF_8 (F_m_has_p22 ex_269 ex_270))) _ _ hP hS _ (lv_sub hl [0, 1, 2, 3] rfl)
                  refine lv_if_eq (tgt := 254) hx hb dX12_has_242 (dk_dq rfl) (fun c_271 => ?_) (fun c_271 => ?_)
                  · have jc_271 := dk_eqc (k := 0) (by decide +kernel) c_271
                    refine lv_iconst (v := 0) hx hb dX12_has_254 (by decide +kernel) ?_
                    exact J_268 0  (F_m_has_p23 c_259 w_261_2 c_271) _ _ hP hS _ (lv_sub hl [0, 1, 2, 3] rfl)
                  · have jc_271 := dk_neqc (k := 0) (by decide +kernel) c_271
                    refine lv_aload_n hx hb dX12_has_245 rfl (lv_at hl 2 rfl) ?_
                    refine dg_get (C := RX12) (T := TX12) (N := 77) hx hb hts (fun w h => bw_mem (wU_X12 w h)) hown K hP sM_0 rfl 52 (dk_dq rfl) (hts _ (bw_mem wB_1097)) (fun _ h9 => h9) (v := .ref (o + 32)) (show S.1 0 52 = .ref (o + 32) from dg_I.rel (d := 32) I sM_0 (by decide +kernel)) dX12_has_246 ?_
                    refine lv_iload_n hx hb dX12_has_249 rfl (lv_at hl 0 rfl) ?_
                    have hin_272 : vp_in x_256 1408 := (dk_inv2 (by omega))
                    refine dg_iald hx hb K hP sM_32 hin_272 dX12_has_250 (fun x_273 ex_273 => ?_)
                    refine lv_goto (tgt := 255) hx hb dX12_has_251 (dk_dq rfl) ?_
                    exact J_268 x_273  (F_m_has_p24 c_259 w_261_2 c_271 (Eq.symm ex_273.symm)) _ _ hP hS _ (lv_sub hl [0, 1, 2, 3] rfl)
      have hz_274 : (0 : Int32).toInt = 0 := by decide +kernel
      have hz_275 : (0 : Int32).toInt = 0 := by decide +kernel
      have hz_276 : (0 : Int32).toInt = 0 := by decide +kernel
      exact L_258 ((65 - ((0 : Int32)).toInt).toNat + 1) 0 0 (by decide +kernel) (by first | exact mu_lt hmu (by omega) (by omega) | omega) (F_m_has_p25 (dk_neT jc_1 (k := 0) (b := 0) (by decide +kernel) (dk_dq rfl)) (dk_neT jc_1 (k := 1) (b := 1) (by decide +kernel) (dk_dq rfl)) (dk_neT jc_1 (k := 2) (b := 2) (by decide +kernel) (dk_dq rfl)) (dk_neT jc_1 (k := 3) (b := 3) (by decide +kernel) (dk_dq rfl)) (dk_neT jc_1 (k := 4) (b := 4) (by decide +kernel) (dk_dq rfl)) (dk_neT jc_1 (k := 5) (b := 5) (by decide +kernel) (dk_dq rfl)) (dk_neT jc_1 (k := 6) (b := 6) (by decide +kernel) (dk_dq rfl)) (dk_neT jc_1 (k := 7) (b := 7) (by decide +kernel) (dk_dq rfl)) (dk_eqT jc_1 (k := 8) (by decide +kernel))) _ _ hP hS _ (lv_sub hl [0, 1, 2, 3] rfl)
  · refine lv_tableIn (off := 262) (tgt := 265) hx hb dX12_has_3 (by rw [jc_1]; decide) (by rw [jc_1]; decide) (by rw [jc_1]; decide +kernel) (dk_dq rfl) ?_
    refine lv_aload_n hx hb dX12_has_265 rfl (lv_at hl 1 rfl) ?_
    refine dg_get (C := RX12) (T := TX12) (N := 77) hx hb hts (fun w h => bw_mem (wU_X12 w h)) hown K hP sM_0 rfl 53 (dk_dq rfl) (hts _ (bw_mem wB_1130)) (fun _ h9 => h9) (v := .ref (o + 33)) (show S.1 0 53 = .ref (o + 33) from dg_I.rel (d := 33) I sM_0 (by decide +kernel)) dX12_has_266 ?_
    refine lv_iconst (v := 0) hx hb dX12_has_269 (by decide +kernel) ?_
    have hin_277 : vp_in (0 : Int32) 22 := (dk_in (by decide +kernel))
    refine dg_iald hx hb K hP sM_33 hin_277 dX12_has_270 (fun x_278 ex_278 => ?_)
    refine dg_calli hS hA1 hA (va_runS (As := [.int x_278]) (rest := []) F (c_m_bits l g D o S x_278 I s.heap.size) (va_cwS 1 hts (bw_S wB_1195 wB_1196 wB_297 wB_1194) rfl rfl rfl (by decide +kernel) ⟨Nat.le_of_ble_eq_true rfl, Nat.le_of_ble_eq_true rfl⟩) (dg_preS K ST hP hS hA1 hA) rfl rfl hl.1 rfl (lv_room (Nat.le_of_ble_eq_true rfl)) dX12_has_271 ⟨Nat.le_of_ble_eq_true rfl, Nat.le_of_ble_eq_true rfl⟩) (fun x_279 S_280 hw_280 H locs hP hS => ?_)
    rw [hw_280.1] at hP
    obtain ⟨hq_280, w_280_0, -⟩ := hw_280
    refine W.widen (k := 0) (n := 0) (Nat.le_of_ble_eq_true rfl) (Nat.le_of_ble_eq_true rfl) ?_
    exact dg_iret hx hb hr hlocks rfl hP hS ⟨I, M_0, ⟨congrArg Prod.fst (Eq.symm (F_m_has_p26 (dk_neT jc_1 (k := 0) (b := 0) (by decide +kernel) (dk_dq rfl)) (dk_neT jc_1 (k := 1) (b := 1) (by decide +kernel) (dk_dq rfl)) (dk_neT jc_1 (k := 2) (b := 2) (by decide +kernel) (dk_dq rfl)) (dk_neT jc_1 (k := 3) (b := 3) (by decide +kernel) (dk_dq rfl)) (dk_neT jc_1 (k := 4) (b := 4) (by decide +kernel) (dk_dq rfl)) (dk_neT jc_1 (k := 5) (b := 5) (by decide +kernel) (dk_dq rfl)) (dk_neT jc_1 (k := 6) (b := 6) (by decide +kernel) (dk_dq rfl)) (dk_neT jc_1 (k := 7) (b := 7) (by decide +kernel) (dk_dq rfl)) (dk_neT jc_1 (k := 8) (b := 8) (by decide +kernel) (dk_dq rfl)) (dk_eqT jc_1 (k := 9) (by decide +kernel)) (Eq.symm ex_278.symm) w_280_0)), congrArg Prod.snd (Eq.symm (F_m_has_p26 (dk_neT jc_1 (k := 0) (b := 0) (by decide +kernel) (dk_dq rfl)) (dk_neT jc_1 (k := 1) (b := 1) (by decide +kernel) (dk_dq rfl)) (dk_neT jc_1 (k := 2) (b := 2) (by decide +kernel) (dk_dq rfl)) (dk_neT jc_1 (k := 3) (b := 3) (by decide +kernel) (dk_dq rfl)) (dk_neT jc_1 (k := 4) (b := 4) (by decide +kernel) (dk_dq rfl)) (dk_neT jc_1 (k := 5) (b := 5) (by decide +kernel) (dk_dq rfl)) (dk_neT jc_1 (k := 6) (b := 6) (by decide +kernel) (dk_dq rfl)) (dk_neT jc_1 (k := 7) (b := 7) (by decide +kernel) (dk_dq rfl)) (dk_neT jc_1 (k := 8) (b := 8) (by decide +kernel) (dk_dq rfl)) (dk_eqT jc_1 (k := 9) (by decide +kernel)) (Eq.symm ex_278.symm) w_280_0))⟩, trivial⟩ dX12_has_274
  · as_aux_lemma =>
      refine lv_tableIn (off := 272) (tgt := 275) hx hb dX12_has_3 (by rw [jc_1]; decide) (by rw [jc_1]; decide) (by rw [jc_1]; decide +kernel) (dk_dq rfl) ?_
      refine lv_iconst (v := 0) hx hb dX12_has_275 (by decide +kernel) ?_
      refine lv_istore_n (lv' := [(3, .int 0), (2, .int 0), (0, .ref (o + 0)), (1, .int a1)]) hx hb dX12_has_276 rfl hl (dk_dq rfl) rfl (fun ls hl => ?_)
      have L_312 : ∀ (n : Nat) (x_310 : Int32) (x_311 : Int32), (0 ≤ (x_310).toInt ∧ (x_310).toInt ≤ 10) → ((11 - (x_310).toInt).toNat < n) → (F_m_has o S a1 = lp (F_m_has_B9 S) (S, (0 : Int32)) n (x_310, x_311)) → ∀ (H : Heap) (locs : List Loc), va_P D vwCl (dg_w g shM o rfM S) H → va_S A s.heap H locs → ∀ ls : Array Slot, lv_has ls 4 [(3, .int x_310), (2, .int x_311), (0, .ref (o + 0)), (1, .int a1)] → W p l e ({ frames := 5, cells := 0, slots := 0, locals := 126 } : Room) s m args below meth c H locs 0 0 (MQ below (va_Qi (fun (r : Int32) S' => CM o S' ∧ dg_sm shM [] [42, 43] S S' ∧ (S' = (F_m_has o S a1).1 ∧ r = (F_m_has o S a1).2) ∧ True) (dg_B g D shM o rfM) A) args s 0 0 A) (F0 m 277 ls []) := by
        as_aux_lemma =>
          intro n
          induction n with
          | zero =>
            intro x_310 x_311 b_x_310 hmu hF_9 H locs hP hS ls hl
            omega
          | succ n ih =>
            as_aux_lemma =>
              intro x_310 x_311 b_x_310 hmu hF_9 H locs hP hS ls hl
              refine lv_iload_n hx hb dX12_has_277 rfl (lv_at hl 0 rfl) ?_
              refine lv_bipush (v := 10) hx hb dX12_has_278 (by decide +kernel) ?_
              refine lv_icmp_ge (tgt := 298) hx hb dX12_has_280 (dk_dq rfl) (fun c_313 => ?_) (fun c_313 => ?_)
              · have jc_313 := dk_gec (k := 10) (by decide +kernel) c_313
                refine lv_iload_n hx hb dX12_has_298 rfl (lv_at hl 1 rfl) ?_
                refine W.widen (k := 0) (n := 0) (Nat.le_of_ble_eq_true rfl) (Nat.le_of_ble_eq_true rfl) ?_
                exact dg_iret hx hb hr hlocks rfl hP hS ⟨I, M_0, ⟨congrArg Prod.fst (Eq.symm (lp_r hF_9 (F_m_has_p27 c_313))), congrArg Prod.snd (Eq.symm (lp_r hF_9 (F_m_has_p27 c_313)))⟩, trivial⟩ dX12_has_299
              · have jc_313 := dk_ngec (k := 10) (by decide +kernel) c_313
                refine lv_iload_n hx hb dX12_has_283 rfl (lv_at hl 1 rfl) ?_
                refine lv_aload_n hx hb dX12_has_284 rfl (lv_at hl 2 rfl) ?_
                refine dg_get (C := RX12) (T := TX12) (N := 77) hx hb hts (fun w h => bw_mem (wU_X12 w h)) hown K hP sM_0 rfl 57 (dk_dq rfl) (hts _ (bw_mem wB_1117)) (fun _ h9 => h9) (v := .ref (o + 37)) (show S.1 0 57 = .ref (o + 37) from dg_I.rel (d := 37) I sM_0 (by decide +kernel)) dX12_has_285 ?_
                refine lv_iload_n hx hb dX12_has_288 rfl (lv_at hl 0 rfl) ?_
                have hin_314 : vp_in x_310 220 := (dk_inv2 (by omega))
                refine dg_iald hx hb K hP sM_37 hin_314 dX12_has_289 (fun x_315 ex_315 => ?_)
                refine lv_iadd hx hb dX12_has_290 ?_
                refine lv_topi (fun x_316 ex_316 => ?_)
                refine lv_istore_n (lv' := [(2, .int x_316), (3, .int x_310), (0, .ref (o + 0)), (1, .int a1)]) hx hb dX12_has_291 rfl hl (dk_dq rfl) rfl (fun ls hl => ?_)
                obtain ⟨x_317, ex_317⟩ : ∃ z, z = x_310 + 1 := ⟨_, rfl⟩
                have jx_317 : (x_317).toInt = (x_310).toInt + 1 := by rw [ex_317]; exact dk_addT2 rfl (by decide +kernel) (by omega)
                refine lv_iinc (v := x_317) (lv' := [(3, .int x_317), (2, .int x_316), (0, .ref (o + 0)), (1, .int a1)]) hx hb dX12_has_292 hl (k := 1) rfl (by rw [ex_317]; rfl) (dk_dq rfl) rfl (fun ls hl => ?_)
                refine lv_goto (tgt := 277) hx hb dX12_has_295 (dk_dq rfl) ?_
                exact ih x_317 x_316 (by omega) (by first | exact mu_lt hmu (by omega) (by omega) | omega) (lp_l hF_9 (F_m_has_p28 c_313 (Eq.symm ex_315.symm) ex_316 ex_317)) _ _ hP hS _ (lv_sub hl [0, 1, 2, 3] rfl)
      have hz_318 : (0 : Int32).toInt = 0 := by decide +kernel
      have hz_319 : (0 : Int32).toInt = 0 := by decide +kernel
      have hz_320 : (0 : Int32).toInt = 0 := by decide +kernel
      exact L_312 ((11 - ((0 : Int32)).toInt).toNat + 1) 0 0 (by decide +kernel) (by first | exact mu_lt hmu (by omega) (by omega) | omega) (F_m_has_p29 (dk_neT jc_1 (k := 0) (b := 0) (by decide +kernel) (dk_dq rfl)) (dk_neT jc_1 (k := 1) (b := 1) (by decide +kernel) (dk_dq rfl)) (dk_neT jc_1 (k := 2) (b := 2) (by decide +kernel) (dk_dq rfl)) (dk_neT jc_1 (k := 3) (b := 3) (by decide +kernel) (dk_dq rfl)) (dk_neT jc_1 (k := 4) (b := 4) (by decide +kernel) (dk_dq rfl)) (dk_neT jc_1 (k := 5) (b := 5) (by decide +kernel) (dk_dq rfl)) (dk_neT jc_1 (k := 6) (b := 6) (by decide +kernel) (dk_dq rfl)) (dk_neT jc_1 (k := 7) (b := 7) (by decide +kernel) (dk_dq rfl)) (dk_neT jc_1 (k := 8) (b := 8) (by decide +kernel) (dk_dq rfl)) (dk_neT jc_1 (k := 9) (b := 9) (by decide +kernel) (dk_dq rfl)) (dk_eqT jc_1 (k := 10) (by decide +kernel))) _ _ hP hS _ (lv_sub hl [0, 1, 2, 3] rfl)
  · refine lv_tableIn (off := 297) (tgt := 300) hx hb dX12_has_3 (by rw [jc_1]; decide) (by rw [jc_1]; decide) (by rw [jc_1]; decide +kernel) (dk_dq rfl) ?_
    refine lv_aload_n hx hb dX12_has_300 rfl (lv_at hl 1 rfl) ?_
    refine dg_get (C := RX12) (T := TX12) (N := 77) hx hb hts (fun w h => bw_mem (wU_X12 w h)) hown K hP sM_0 rfl 50 (dk_dq rfl) (hts _ (bw_mem wB_1129)) (fun _ h9 => h9) (v := .ref (o + 30)) (show S.1 0 50 = .ref (o + 30) from dg_I.rel (d := 30) I sM_0 (by decide +kernel)) dX12_has_301 ?_
    refine lv_iconst (v := 0) hx hb dX12_has_304 (by decide +kernel) ?_
    have hin_321 : vp_in (0 : Int32) 22 := (dk_in (by decide +kernel))
    refine dg_iald hx hb K hP sM_30 hin_321 dX12_has_305 (fun x_322 ex_322 => ?_)
    refine W.widen (k := 0) (n := 0) (Nat.le_of_ble_eq_true rfl) (Nat.le_of_ble_eq_true rfl) ?_
    exact dg_iret hx hb hr hlocks rfl hP hS ⟨I, M_0, ⟨congrArg Prod.fst (Eq.symm (F_m_has_p30 (dk_neT jc_1 (k := 0) (b := 0) (by decide +kernel) (dk_dq rfl)) (dk_neT jc_1 (k := 1) (b := 1) (by decide +kernel) (dk_dq rfl)) (dk_neT jc_1 (k := 2) (b := 2) (by decide +kernel) (dk_dq rfl)) (dk_neT jc_1 (k := 3) (b := 3) (by decide +kernel) (dk_dq rfl)) (dk_neT jc_1 (k := 4) (b := 4) (by decide +kernel) (dk_dq rfl)) (dk_neT jc_1 (k := 5) (b := 5) (by decide +kernel) (dk_dq rfl)) (dk_neT jc_1 (k := 6) (b := 6) (by decide +kernel) (dk_dq rfl)) (dk_neT jc_1 (k := 7) (b := 7) (by decide +kernel) (dk_dq rfl)) (dk_neT jc_1 (k := 8) (b := 8) (by decide +kernel) (dk_dq rfl)) (dk_neT jc_1 (k := 9) (b := 9) (by decide +kernel) (dk_dq rfl)) (dk_neT jc_1 (k := 10) (b := 10) (by decide +kernel) (dk_dq rfl)) (dk_eqT jc_1 (k := 11) (by decide +kernel)) (Eq.symm ex_322.symm))), congrArg Prod.snd (Eq.symm (F_m_has_p30 (dk_neT jc_1 (k := 0) (b := 0) (by decide +kernel) (dk_dq rfl)) (dk_neT jc_1 (k := 1) (b := 1) (by decide +kernel) (dk_dq rfl)) (dk_neT jc_1 (k := 2) (b := 2) (by decide +kernel) (dk_dq rfl)) (dk_neT jc_1 (k := 3) (b := 3) (by decide +kernel) (dk_dq rfl)) (dk_neT jc_1 (k := 4) (b := 4) (by decide +kernel) (dk_dq rfl)) (dk_neT jc_1 (k := 5) (b := 5) (by decide +kernel) (dk_dq rfl)) (dk_neT jc_1 (k := 6) (b := 6) (by decide +kernel) (dk_dq rfl)) (dk_neT jc_1 (k := 7) (b := 7) (by decide +kernel) (dk_dq rfl)) (dk_neT jc_1 (k := 8) (b := 8) (by decide +kernel) (dk_dq rfl)) (dk_neT jc_1 (k := 9) (b := 9) (by decide +kernel) (dk_dq rfl)) (dk_neT jc_1 (k := 10) (b := 10) (by decide +kernel) (dk_dq rfl)) (dk_eqT jc_1 (k := 11) (by decide +kernel)) (Eq.symm ex_322.symm)))⟩, trivial⟩ dX12_has_306
  · refine lv_tableIn (off := 304) (tgt := 307) hx hb dX12_has_3 (by rw [jc_1]; decide) (by rw [jc_1]; decide) (by rw [jc_1]; decide +kernel) (dk_dq rfl) ?_
    refine lv_aload_n hx hb dX12_has_307 rfl (lv_at hl 1 rfl) ?_
    refine lv_iconst (v := 0) hx hb dX12_has_308 (by decide +kernel) ?_
    have hz_323 : (0 : Int32).toInt = 0 := by decide +kernel
    refine dg_calli hS hA1 hA (va_runV (As := [.int 0]) (rest := []) F (c_m_worthOf l g D o S 0 (by decide +kernel) ZB I s.heap.size) (cwV 1 hts (bw_V wB_1198 wB_1199 wB_1200 wB_297 wB_1197) rfl rfl rfl (by decide +kernel) ⟨Nat.le_of_ble_eq_true rfl, Nat.le_of_ble_eq_true rfl⟩) (dg_preV sM_0 rfl K ST hP hS hA1 hA) rfl rfl hl.1 rfl (lv_room (Nat.le_of_ble_eq_true rfl)) dX12_has_309 ⟨Nat.le_of_ble_eq_true rfl, Nat.le_of_ble_eq_true rfl⟩) (fun x_324 S_325 hw_325 H locs hP hS => ?_)
    rw [hw_325.1] at hP
    obtain ⟨hq_325, w_325_0, -⟩ := hw_325
    refine W.widen (k := 0) (n := 0) (Nat.le_of_ble_eq_true rfl) (Nat.le_of_ble_eq_true rfl) ?_
    exact dg_iret hx hb hr hlocks rfl hP hS ⟨I, M_0, ⟨congrArg Prod.fst (Eq.symm (F_m_has_p31 (dk_neT jc_1 (k := 0) (b := 0) (by decide +kernel) (dk_dq rfl)) (dk_neT jc_1 (k := 1) (b := 1) (by decide +kernel) (dk_dq rfl)) (dk_neT jc_1 (k := 2) (b := 2) (by decide +kernel) (dk_dq rfl)) (dk_neT jc_1 (k := 3) (b := 3) (by decide +kernel) (dk_dq rfl)) (dk_neT jc_1 (k := 4) (b := 4) (by decide +kernel) (dk_dq rfl)) (dk_neT jc_1 (k := 5) (b := 5) (by decide +kernel) (dk_dq rfl)) (dk_neT jc_1 (k := 6) (b := 6) (by decide +kernel) (dk_dq rfl)) (dk_neT jc_1 (k := 7) (b := 7) (by decide +kernel) (dk_dq rfl)) (dk_neT jc_1 (k := 8) (b := 8) (by decide +kernel) (dk_dq rfl)) (dk_neT jc_1 (k := 9) (b := 9) (by decide +kernel) (dk_dq rfl)) (dk_neT jc_1 (k := 10) (b := 10) (by decide +kernel) (dk_dq rfl)) (dk_neT jc_1 (k := 11) (b := 11) (by decide +kernel) (dk_dq rfl)) (dk_eqT jc_1 (k := 12) (by decide +kernel)) w_325_0)), congrArg Prod.snd (Eq.symm (F_m_has_p31 (dk_neT jc_1 (k := 0) (b := 0) (by decide +kernel) (dk_dq rfl)) (dk_neT jc_1 (k := 1) (b := 1) (by decide +kernel) (dk_dq rfl)) (dk_neT jc_1 (k := 2) (b := 2) (by decide +kernel) (dk_dq rfl)) (dk_neT jc_1 (k := 3) (b := 3) (by decide +kernel) (dk_dq rfl)) (dk_neT jc_1 (k := 4) (b := 4) (by decide +kernel) (dk_dq rfl)) (dk_neT jc_1 (k := 5) (b := 5) (by decide +kernel) (dk_dq rfl)) (dk_neT jc_1 (k := 6) (b := 6) (by decide +kernel) (dk_dq rfl)) (dk_neT jc_1 (k := 7) (b := 7) (by decide +kernel) (dk_dq rfl)) (dk_neT jc_1 (k := 8) (b := 8) (by decide +kernel) (dk_dq rfl)) (dk_neT jc_1 (k := 9) (b := 9) (by decide +kernel) (dk_dq rfl)) (dk_neT jc_1 (k := 10) (b := 10) (by decide +kernel) (dk_dq rfl)) (dk_neT jc_1 (k := 11) (b := 11) (by decide +kernel) (dk_dq rfl)) (dk_eqT jc_1 (k := 12) (by decide +kernel)) w_325_0))⟩, trivial⟩ dX12_has_312
  · refine lv_tableIn (off := 310) (tgt := 313) hx hb dX12_has_3 (by rw [jc_1]; decide) (by rw [jc_1]; decide) (by rw [jc_1]; decide +kernel) (dk_dq rfl) ?_
    refine lv_aload_n hx hb dX12_has_313 rfl (lv_at hl 1 rfl) ?_
    refine dg_get (C := RX12) (T := TX12) (N := 77) hx hb hts (fun w h => bw_mem (wU_X12 w h)) hown K hP sM_0 rfl 58 (dk_dq rfl) (hts _ (bw_mem wB_1127)) (fun _ h9 => h9) (v := .ref (o + 38)) (show S.1 0 58 = .ref (o + 38) from dg_I.rel (d := 38) I sM_0 (by decide +kernel)) dX12_has_314 ?_
    refine lv_iconst (v := 0) hx hb dX12_has_317 (by decide +kernel) ?_
    have hin_326 : vp_in (0 : Int32) 22 := (dk_in (by decide +kernel))
    refine dg_iald hx hb K hP sM_38 hin_326 dX12_has_318 (fun x_327 ex_327 => ?_)
    have b_x_327 := dk_all_at (dg_I.row (lo := 0) (hi := 40) I sM_38 (by decide +kernel)) hin_326 ex_327
    refine W.widen (k := 0) (n := 0) (Nat.le_of_ble_eq_true rfl) (Nat.le_of_ble_eq_true rfl) ?_
    exact dg_iret hx hb hr hlocks rfl hP hS ⟨I, M_0, ⟨congrArg Prod.fst (Eq.symm (F_m_has_p32 (dk_neT jc_1 (k := 0) (b := 0) (by decide +kernel) (dk_dq rfl)) (dk_neT jc_1 (k := 1) (b := 1) (by decide +kernel) (dk_dq rfl)) (dk_neT jc_1 (k := 2) (b := 2) (by decide +kernel) (dk_dq rfl)) (dk_neT jc_1 (k := 3) (b := 3) (by decide +kernel) (dk_dq rfl)) (dk_neT jc_1 (k := 4) (b := 4) (by decide +kernel) (dk_dq rfl)) (dk_neT jc_1 (k := 5) (b := 5) (by decide +kernel) (dk_dq rfl)) (dk_neT jc_1 (k := 6) (b := 6) (by decide +kernel) (dk_dq rfl)) (dk_neT jc_1 (k := 7) (b := 7) (by decide +kernel) (dk_dq rfl)) (dk_neT jc_1 (k := 8) (b := 8) (by decide +kernel) (dk_dq rfl)) (dk_neT jc_1 (k := 9) (b := 9) (by decide +kernel) (dk_dq rfl)) (dk_neT jc_1 (k := 10) (b := 10) (by decide +kernel) (dk_dq rfl)) (dk_neT jc_1 (k := 11) (b := 11) (by decide +kernel) (dk_dq rfl)) (dk_neT jc_1 (k := 12) (b := 12) (by decide +kernel) (dk_dq rfl)) (dk_eqT jc_1 (k := 13) (by decide +kernel)) (Eq.symm ex_327.symm))), congrArg Prod.snd (Eq.symm (F_m_has_p32 (dk_neT jc_1 (k := 0) (b := 0) (by decide +kernel) (dk_dq rfl)) (dk_neT jc_1 (k := 1) (b := 1) (by decide +kernel) (dk_dq rfl)) (dk_neT jc_1 (k := 2) (b := 2) (by decide +kernel) (dk_dq rfl)) (dk_neT jc_1 (k := 3) (b := 3) (by decide +kernel) (dk_dq rfl)) (dk_neT jc_1 (k := 4) (b := 4) (by decide +kernel) (dk_dq rfl)) (dk_neT jc_1 (k := 5) (b := 5) (by decide +kernel) (dk_dq rfl)) (dk_neT jc_1 (k := 6) (b := 6) (by decide +kernel) (dk_dq rfl)) (dk_neT jc_1 (k := 7) (b := 7) (by decide +kernel) (dk_dq rfl)) (dk_neT jc_1 (k := 8) (b := 8) (by decide +kernel) (dk_dq rfl)) (dk_neT jc_1 (k := 9) (b := 9) (by decide +kernel) (dk_dq rfl)) (dk_neT jc_1 (k := 10) (b := 10) (by decide +kernel) (dk_dq rfl)) (dk_neT jc_1 (k := 11) (b := 11) (by decide +kernel) (dk_dq rfl)) (dk_neT jc_1 (k := 12) (b := 12) (by decide +kernel) (dk_dq rfl)) (dk_eqT jc_1 (k := 13) (by decide +kernel)) (Eq.symm ex_327.symm)))⟩, trivial⟩ dX12_has_319
  · refine lv_tableIn (off := 317) (tgt := 320) hx hb dX12_has_3 (by rw [jc_1]; decide) (by rw [jc_1]; decide) (by rw [jc_1]; decide +kernel) (dk_dq rfl) ?_
    refine lv_aload_n hx hb dX12_has_320 rfl (lv_at hl 1 rfl) ?_
    obtain ⟨x_328, f_x_328, b_x_328⟩ := dg_I.int (i := 0) (k := 69) (lo := 0) (hi := 16) I sM_0 (by decide +kernel)
    refine dg_get (C := RX12) (T := TX12) (N := 77) hx hb hts (fun w h => bw_mem (wU_X12 w h)) hown K hP sM_0 rfl 69 (dk_dq rfl) (hts _ (bw_mem wB_1193)) (fun _ h9 => h9) (v := .int x_328) f_x_328 dX12_has_321 ?_
    refine W.widen (k := 0) (n := 0) (Nat.le_of_ble_eq_true rfl) (Nat.le_of_ble_eq_true rfl) ?_
    exact dg_iret hx hb hr hlocks rfl hP hS ⟨I, M_0, ⟨congrArg Prod.fst (Eq.symm (F_m_has_p33 (dk_neT jc_1 (k := 0) (b := 0) (by decide +kernel) (dk_dq rfl)) (dk_neT jc_1 (k := 1) (b := 1) (by decide +kernel) (dk_dq rfl)) (dk_neT jc_1 (k := 2) (b := 2) (by decide +kernel) (dk_dq rfl)) (dk_neT jc_1 (k := 3) (b := 3) (by decide +kernel) (dk_dq rfl)) (dk_neT jc_1 (k := 4) (b := 4) (by decide +kernel) (dk_dq rfl)) (dk_neT jc_1 (k := 5) (b := 5) (by decide +kernel) (dk_dq rfl)) (dk_neT jc_1 (k := 6) (b := 6) (by decide +kernel) (dk_dq rfl)) (dk_neT jc_1 (k := 7) (b := 7) (by decide +kernel) (dk_dq rfl)) (dk_neT jc_1 (k := 8) (b := 8) (by decide +kernel) (dk_dq rfl)) (dk_neT jc_1 (k := 9) (b := 9) (by decide +kernel) (dk_dq rfl)) (dk_neT jc_1 (k := 10) (b := 10) (by decide +kernel) (dk_dq rfl)) (dk_neT jc_1 (k := 11) (b := 11) (by decide +kernel) (dk_dq rfl)) (dk_neT jc_1 (k := 12) (b := 12) (by decide +kernel) (dk_dq rfl)) (dk_neT jc_1 (k := 13) (b := 13) (by decide +kernel) (dk_dq rfl)) (dk_eqT jc_1 (k := 14) (by decide +kernel)) (zI_eq f_x_328))), congrArg Prod.snd (Eq.symm (F_m_has_p33 (dk_neT jc_1 (k := 0) (b := 0) (by decide +kernel) (dk_dq rfl)) (dk_neT jc_1 (k := 1) (b := 1) (by decide +kernel) (dk_dq rfl)) (dk_neT jc_1 (k := 2) (b := 2) (by decide +kernel) (dk_dq rfl)) (dk_neT jc_1 (k := 3) (b := 3) (by decide +kernel) (dk_dq rfl)) (dk_neT jc_1 (k := 4) (b := 4) (by decide +kernel) (dk_dq rfl)) (dk_neT jc_1 (k := 5) (b := 5) (by decide +kernel) (dk_dq rfl)) (dk_neT jc_1 (k := 6) (b := 6) (by decide +kernel) (dk_dq rfl)) (dk_neT jc_1 (k := 7) (b := 7) (by decide +kernel) (dk_dq rfl)) (dk_neT jc_1 (k := 8) (b := 8) (by decide +kernel) (dk_dq rfl)) (dk_neT jc_1 (k := 9) (b := 9) (by decide +kernel) (dk_dq rfl)) (dk_neT jc_1 (k := 10) (b := 10) (by decide +kernel) (dk_dq rfl)) (dk_neT jc_1 (k := 11) (b := 11) (by decide +kernel) (dk_dq rfl)) (dk_neT jc_1 (k := 12) (b := 12) (by decide +kernel) (dk_dq rfl)) (dk_neT jc_1 (k := 13) (b := 13) (by decide +kernel) (dk_dq rfl)) (dk_eqT jc_1 (k := 14) (by decide +kernel)) (zI_eq f_x_328)))⟩, trivial⟩ dX12_has_324
  · refine lv_tableIn (off := 322) (tgt := 325) hx hb dX12_has_3 (by rw [jc_1]; decide) (by rw [jc_1]; decide) (by rw [jc_1]; decide +kernel) (dk_dq rfl) ?_
    refine lv_aload_n hx hb dX12_has_325 rfl (lv_at hl 1 rfl) ?_
    obtain ⟨x_329, f_x_329, b_x_329⟩ := dg_I.int (i := 0) (k := 61) (lo := 0) (hi := 20) I sM_0 (by decide +kernel)
    refine dg_get (C := RX12) (T := TX12) (N := 77) hx hb hts (fun w h => bw_mem (wU_X12 w h)) hown K hP sM_0 rfl 61 (dk_dq rfl) (hts _ (bw_mem wB_1192)) (fun _ h9 => h9) (v := .int x_329) f_x_329 dX12_has_326 ?_
    refine W.widen (k := 0) (n := 0) (Nat.le_of_ble_eq_true rfl) (Nat.le_of_ble_eq_true rfl) ?_
    exact dg_iret hx hb hr hlocks rfl hP hS ⟨I, M_0, ⟨congrArg Prod.fst (Eq.symm (F_m_has_p34 (dk_neT jc_1 (k := 0) (b := 0) (by decide +kernel) (dk_dq rfl)) (dk_neT jc_1 (k := 1) (b := 1) (by decide +kernel) (dk_dq rfl)) (dk_neT jc_1 (k := 2) (b := 2) (by decide +kernel) (dk_dq rfl)) (dk_neT jc_1 (k := 3) (b := 3) (by decide +kernel) (dk_dq rfl)) (dk_neT jc_1 (k := 4) (b := 4) (by decide +kernel) (dk_dq rfl)) (dk_neT jc_1 (k := 5) (b := 5) (by decide +kernel) (dk_dq rfl)) (dk_neT jc_1 (k := 6) (b := 6) (by decide +kernel) (dk_dq rfl)) (dk_neT jc_1 (k := 7) (b := 7) (by decide +kernel) (dk_dq rfl)) (dk_neT jc_1 (k := 8) (b := 8) (by decide +kernel) (dk_dq rfl)) (dk_neT jc_1 (k := 9) (b := 9) (by decide +kernel) (dk_dq rfl)) (dk_neT jc_1 (k := 10) (b := 10) (by decide +kernel) (dk_dq rfl)) (dk_neT jc_1 (k := 11) (b := 11) (by decide +kernel) (dk_dq rfl)) (dk_neT jc_1 (k := 12) (b := 12) (by decide +kernel) (dk_dq rfl)) (dk_neT jc_1 (k := 13) (b := 13) (by decide +kernel) (dk_dq rfl)) (dk_neT jc_1 (k := 14) (b := 14) (by decide +kernel) (dk_dq rfl)) (dk_eqT jc_1 (k := 15) (by decide +kernel)) (zI_eq f_x_329))), congrArg Prod.snd (Eq.symm (F_m_has_p34 (dk_neT jc_1 (k := 0) (b := 0) (by decide +kernel) (dk_dq rfl)) (dk_neT jc_1 (k := 1) (b := 1) (by decide +kernel) (dk_dq rfl)) (dk_neT jc_1 (k := 2) (b := 2) (by decide +kernel) (dk_dq rfl)) (dk_neT jc_1 (k := 3) (b := 3) (by decide +kernel) (dk_dq rfl)) (dk_neT jc_1 (k := 4) (b := 4) (by decide +kernel) (dk_dq rfl)) (dk_neT jc_1 (k := 5) (b := 5) (by decide +kernel) (dk_dq rfl)) (dk_neT jc_1 (k := 6) (b := 6) (by decide +kernel) (dk_dq rfl)) (dk_neT jc_1 (k := 7) (b := 7) (by decide +kernel) (dk_dq rfl)) (dk_neT jc_1 (k := 8) (b := 8) (by decide +kernel) (dk_dq rfl)) (dk_neT jc_1 (k := 9) (b := 9) (by decide +kernel) (dk_dq rfl)) (dk_neT jc_1 (k := 10) (b := 10) (by decide +kernel) (dk_dq rfl)) (dk_neT jc_1 (k := 11) (b := 11) (by decide +kernel) (dk_dq rfl)) (dk_neT jc_1 (k := 12) (b := 12) (by decide +kernel) (dk_dq rfl)) (dk_neT jc_1 (k := 13) (b := 13) (by decide +kernel) (dk_dq rfl)) (dk_neT jc_1 (k := 14) (b := 14) (by decide +kernel) (dk_dq rfl)) (dk_eqT jc_1 (k := 15) (by decide +kernel)) (zI_eq f_x_329)))⟩, trivial⟩ dX12_has_329
  · refine lv_tableIn (off := 327) (tgt := 330) hx hb dX12_has_3 (by rw [jc_1]; decide) (by rw [jc_1]; decide) (by rw [jc_1]; decide +kernel) (dk_dq rfl) ?_
    refine lv_aload_n hx hb dX12_has_330 rfl (lv_at hl 1 rfl) ?_
    obtain ⟨x_330, f_x_330⟩ := dg_I.long (i := 0) (k := 62) I sM_0 (by decide +kernel)
    refine dg_get (C := RX12) (T := TX12) (N := 77) hx hb hts (fun w h => bw_mem (wU_X12 w h)) hown K hP sM_0 rfl 62 (dk_dq rfl) (hts _ (bw_mem wB_1201)) (fun _ h9 => h9) (v := .long x_330) f_x_330 dX12_has_331 ?_
    obtain ⟨x_331, ex_331⟩ : ∃ z, (x_330 : Int64).toInt32 = z := ⟨_, rfl⟩
    refine lv_l2i (v := x_331) hx hb dX12_has_334 ex_331 ?_
    have hli_x_331 := dk_l2i ex_331
    refine W.widen (k := 0) (n := 0) (Nat.le_of_ble_eq_true rfl) (Nat.le_of_ble_eq_true rfl) ?_
    exact dg_iret hx hb hr hlocks rfl hP hS ⟨I, M_0, ⟨congrArg Prod.fst (Eq.symm (F_m_has_p35 (dk_neT jc_1 (k := 0) (b := 0) (by decide +kernel) (dk_dq rfl)) (dk_neT jc_1 (k := 1) (b := 1) (by decide +kernel) (dk_dq rfl)) (dk_neT jc_1 (k := 2) (b := 2) (by decide +kernel) (dk_dq rfl)) (dk_neT jc_1 (k := 3) (b := 3) (by decide +kernel) (dk_dq rfl)) (dk_neT jc_1 (k := 4) (b := 4) (by decide +kernel) (dk_dq rfl)) (dk_neT jc_1 (k := 5) (b := 5) (by decide +kernel) (dk_dq rfl)) (dk_neT jc_1 (k := 6) (b := 6) (by decide +kernel) (dk_dq rfl)) (dk_neT jc_1 (k := 7) (b := 7) (by decide +kernel) (dk_dq rfl)) (dk_neT jc_1 (k := 8) (b := 8) (by decide +kernel) (dk_dq rfl)) (dk_neT jc_1 (k := 9) (b := 9) (by decide +kernel) (dk_dq rfl)) (dk_neT jc_1 (k := 10) (b := 10) (by decide +kernel) (dk_dq rfl)) (dk_neT jc_1 (k := 11) (b := 11) (by decide +kernel) (dk_dq rfl)) (dk_neT jc_1 (k := 12) (b := 12) (by decide +kernel) (dk_dq rfl)) (dk_neT jc_1 (k := 13) (b := 13) (by decide +kernel) (dk_dq rfl)) (dk_neT jc_1 (k := 14) (b := 14) (by decide +kernel) (dk_dq rfl)) (dk_neT jc_1 (k := 15) (b := 15) (by decide +kernel) (dk_dq rfl)) (dk_eqT jc_1 (k := 16) (by decide +kernel)) (zL_eq f_x_330) (Eq.symm ex_331))), congrArg Prod.snd (Eq.symm (F_m_has_p35 (dk_neT jc_1 (k := 0) (b := 0) (by decide +kernel) (dk_dq rfl)) (dk_neT jc_1 (k := 1) (b := 1) (by decide +kernel) (dk_dq rfl)) (dk_neT jc_1 (k := 2) (b := 2) (by decide +kernel) (dk_dq rfl)) (dk_neT jc_1 (k := 3) (b := 3) (by decide +kernel) (dk_dq rfl)) (dk_neT jc_1 (k := 4) (b := 4) (by decide +kernel) (dk_dq rfl)) (dk_neT jc_1 (k := 5) (b := 5) (by decide +kernel) (dk_dq rfl)) (dk_neT jc_1 (k := 6) (b := 6) (by decide +kernel) (dk_dq rfl)) (dk_neT jc_1 (k := 7) (b := 7) (by decide +kernel) (dk_dq rfl)) (dk_neT jc_1 (k := 8) (b := 8) (by decide +kernel) (dk_dq rfl)) (dk_neT jc_1 (k := 9) (b := 9) (by decide +kernel) (dk_dq rfl)) (dk_neT jc_1 (k := 10) (b := 10) (by decide +kernel) (dk_dq rfl)) (dk_neT jc_1 (k := 11) (b := 11) (by decide +kernel) (dk_dq rfl)) (dk_neT jc_1 (k := 12) (b := 12) (by decide +kernel) (dk_dq rfl)) (dk_neT jc_1 (k := 13) (b := 13) (by decide +kernel) (dk_dq rfl)) (dk_neT jc_1 (k := 14) (b := 14) (by decide +kernel) (dk_dq rfl)) (dk_neT jc_1 (k := 15) (b := 15) (by decide +kernel) (dk_dq rfl)) (dk_eqT jc_1 (k := 16) (by decide +kernel)) (zL_eq f_x_330) (Eq.symm ex_331)))⟩, trivial⟩ dX12_has_335
noncomputable def F_m_letter_J1 (a3 : Int32) (x_56 : Int32) (x_15 : Int64) : Int32 := (if a3 < x_56 then let x_73 : Int32 := x_56 - (1 : Int32); let x_74 : Int32 := x_73 - a3; let x_75 : Int32 := (8 : Int32) * x_74; let x_76 : Int64 := x_15 >>> (Int32.toInt64 x_75 &&& 63); let x_77 : Int64 := x_76 &&& (255 : Int64); let x_78 : Int32 := Int64.toInt32 x_77; let x_79 : Int32 := x_78 - (97 : Int32); let x_80 : Int32 := x_79 + (1 : Int32); x_80 else (0 : Int32))
noncomputable def F_m_letter_B2 (a3 : Int32) (x_15 : Int64) : (Int64 × Int32) → (Int64 × Int32) ⊕ (Int32) := fun w9 => match w9 with | (x_114, x_115) => let x_117 : Int32 := lg_cmp x_114 (0 : Int64); (if x_117 ≤ (0 : Int32) then (Sum.inr ((F_m_letter_J1 a3 x_115 x_15))) else let x_120 : Int32 := x_115 + 1; let x_121 : Int64 := x_114 >>> (Int32.toInt64 (8 : Int32) &&& 63); (Sum.inl (x_121, x_120)))
noncomputable def F_m_letter_J3 (a3 : Int32) (x_176 : Int32) (x_135 : Int64) : Int32 := (if a3 < x_176 then let x_193 : Int32 := x_176 - (1 : Int32); let x_194 : Int32 := x_193 - a3; let x_195 : Int32 := (8 : Int32) * x_194; let x_196 : Int64 := x_135 >>> (Int32.toInt64 x_195 &&& 63); let x_197 : Int64 := x_196 &&& (255 : Int64); let x_198 : Int32 := Int64.toInt32 x_197; let x_199 : Int32 := x_198 - (97 : Int32); let x_200 : Int32 := x_199 + (1 : Int32); x_200 else (0 : Int32))
noncomputable def F_m_letter_B4 (a3 : Int32) (x_135 : Int64) : (Int64 × Int32) → (Int64 × Int32) ⊕ (Int32) := fun w9 => match w9 with | (x_234, x_235) => let x_237 : Int32 := lg_cmp x_234 (0 : Int64); (if x_237 ≤ (0 : Int32) then (Sum.inr ((F_m_letter_J3 a3 x_235 x_135))) else let x_240 : Int32 := x_235 + 1; let x_241 : Int64 := x_234 >>> (Int32.toInt64 (8 : Int32) &&& 63); (Sum.inl (x_241, x_240)))
noncomputable def F_m_letter (o : Nat) (S : dg_S) (a1 : Int32) (a2 : Int32) (a3 : Int32) : Int32 := (if a1 = (0 : Int32) then let x_123 : Int32 := F_m_isMiner o S a2; (if x_123 = (0 : Int32) then (-1 : Int32) else let x_126 : Int32 := F_m_is o S a3 (0 : Int32) (5 : Int32); (if x_126 = (0 : Int32) then (-1 : Int32) else let x_131 : Int32 := zI S 0 13; let x_132 : Int32 := (6 : Int32) * x_131; let x_133 : Int32 := x_132 + a2; let x_135 : Int64 := S.2.2 20 (x_133 : Int32).toNatClampNeg; (lp (F_m_letter_B4 a3 x_135) (0 : Int32) ((((x_135 : Int64)).toInt).toNat + 1) (x_135, (0 : Int32))))) else (if a1 = (1 : Int32) then let x_3 : Int32 := F_m_isOrder o S a2; (if x_3 = (0 : Int32) then (-1 : Int32) else let x_6 : Int32 := F_m_is o S a3 (0 : Int32) (5 : Int32); (if x_6 = (0 : Int32) then (-1 : Int32) else let x_11 : Int32 := zI S 0 13; let x_12 : Int32 := (5 : Int32) * x_11; let x_13 : Int32 := x_12 + a2; let x_15 : Int64 := S.2.2 21 (x_13 : Int32).toNatClampNeg; (lp (F_m_letter_B2 a3 x_15) (0 : Int32) ((((x_15 : Int64)).toInt).toNat + 1) (x_15, (0 : Int32))))) else (-1 : Int32)))
theorem F_m_letter_p0 {o : Nat} {S : dg_S} {a1 : Int32} {a2 : Int32} {a3 : Int32} (h0 : ¬ (a1 = (0 : Int32))) (h1 : ¬ (a1 = (1 : Int32))) : F_m_letter o S a1 a2 a3 = (-1 : Int32) := (Eq.trans (if_neg h0) (Eq.trans (if_neg h1) rfl))
theorem F_m_letter_p1 {o : Nat} {S : dg_S} {a1 : Int32} {a2 : Int32} {a3 : Int32} {x_3 : Int32} (h0 : ¬ (a1 = (0 : Int32))) (h1 : a1 = (1 : Int32)) (h2 : x_3 = F_m_isOrder o S a2) (h3 : x_3 = (0 : Int32)) : F_m_letter o S a1 a2 a3 = (-1 : Int32) := by
  replace h2 := Eq.symm h2
  subst h2
  exact (Eq.trans (if_neg h0) (Eq.trans (if_pos h1) (Eq.trans (if_pos h3) rfl)))
theorem F_m_letter_p2 {a3 : Int32} {x_56 : Int32} {x_15 : Int64} {x_80 : Int32} {x_73 : Int32} {x_74 : Int32} {x_75 : Int32} {x_76 : Int64} {x_77 : Int64} {x_78 : Int32} {x_79 : Int32} (h0 : a3 < x_56) (h1 : x_73 = x_56 - (1 : Int32)) (h2 : x_74 = x_73 - a3) (h3 : x_75 = (8 : Int32) * x_74) (h4 : x_76 = x_15 >>> (Int32.toInt64 x_75 &&& 63)) (h5 : x_77 = x_76 &&& (255 : Int64)) (h6 : x_78 = Int64.toInt32 x_77) (h7 : x_79 = x_78 - (97 : Int32)) (h8 : x_80 = x_79 + (1 : Int32)) : F_m_letter_J1 a3 x_56 x_15 = x_80 := by
  replace h1 := Eq.symm h1
  subst h1
  replace h2 := Eq.symm h2
  subst h2
  replace h3 := Eq.symm h3
  subst h3
  replace h4 := Eq.symm h4
  subst h4
  replace h5 := Eq.symm h5
  subst h5
  replace h6 := Eq.symm h6
  subst h6
  replace h7 := Eq.symm h7
  subst h7
  replace h8 := Eq.symm h8
  subst h8
  exact (Eq.trans (if_pos h0) rfl)
theorem F_m_letter_p3 {a3 : Int32} {x_56 : Int32} {x_15 : Int64} (h0 : ¬ (a3 < x_56)) : F_m_letter_J1 a3 x_56 x_15 = (0 : Int32) := (Eq.trans (if_neg h0) rfl)
theorem F_m_letter_p4 {a3 : Int32} {x_15 : Int64} {x_114 : Int64} {x_115 : Int32} {x_117 : Int32} (h0 : x_117 = lg_cmp x_114 (0 : Int64)) (h1 : x_117 ≤ (0 : Int32)) : (F_m_letter_B2 a3 x_15) (x_114, x_115) = Sum.inr (F_m_letter_J1 a3 x_115 x_15) := by
  replace h0 := Eq.symm h0
  subst h0
  exact (Eq.trans (if_pos h1) rfl)
theorem F_m_letter_p5 {a3 : Int32} {x_15 : Int64} {x_114 : Int64} {x_115 : Int32} {x_121 : Int64} {x_120 : Int32} {x_117 : Int32} (h0 : x_117 = lg_cmp x_114 (0 : Int64)) (h1 : ¬ (x_117 ≤ (0 : Int32))) (h2 : x_120 = x_115 + 1) (h3 : x_121 = x_114 >>> (Int32.toInt64 (8 : Int32) &&& 63)) : (F_m_letter_B2 a3 x_15) (x_114, x_115) = Sum.inl (x_121, x_120) := by
  replace h0 := Eq.symm h0
  subst h0
  replace h2 := Eq.symm h2
  subst h2
  replace h3 := Eq.symm h3
  subst h3
  exact (Eq.trans (if_neg h1) rfl)
theorem F_m_letter_p6 {o : Nat} {S : dg_S} {a1 : Int32} {a2 : Int32} {a3 : Int32} {x_15 : Int64} {x_3 : Int32} {x_6 : Int32} {x_11 : Int32} {x_12 : Int32} {x_13 : Int32} (h0 : ¬ (a1 = (0 : Int32))) (h1 : a1 = (1 : Int32)) (h2 : x_3 = F_m_isOrder o S a2) (h3 : ¬ (x_3 = (0 : Int32))) (h4 : x_6 = F_m_is o S a3 (0 : Int32) (5 : Int32)) (h5 : ¬ (x_6 = (0 : Int32))) (h6 : x_11 = zI S 0 13) (h7 : x_12 = (5 : Int32) * x_11) (h8 : x_13 = x_12 + a2) (h9 : x_15 = S.2.2 21 (x_13 : Int32).toNatClampNeg) : F_m_letter o S a1 a2 a3 = lp (F_m_letter_B2 a3 x_15) (0 : Int32) ((((x_15 : Int64)).toInt).toNat + 1) (x_15, (0 : Int32)) := by
  replace h2 := Eq.symm h2
  subst h2
  replace h4 := Eq.symm h4
  subst h4
  replace h6 := Eq.symm h6
  subst h6
  replace h7 := Eq.symm h7
  subst h7
  replace h8 := Eq.symm h8
  subst h8
  replace h9 := Eq.symm h9
  subst h9
  exact (Eq.trans (if_neg h0) (Eq.trans (if_pos h1) (Eq.trans (if_neg h3) (Eq.trans (if_neg h5) rfl))))
theorem F_m_letter_p7 {o : Nat} {S : dg_S} {a1 : Int32} {a2 : Int32} {a3 : Int32} {x_3 : Int32} {x_6 : Int32} (h0 : ¬ (a1 = (0 : Int32))) (h1 : a1 = (1 : Int32)) (h2 : x_3 = F_m_isOrder o S a2) (h3 : ¬ (x_3 = (0 : Int32))) (h4 : x_6 = F_m_is o S a3 (0 : Int32) (5 : Int32)) (h5 : x_6 = (0 : Int32)) : F_m_letter o S a1 a2 a3 = (-1 : Int32) := by
  replace h2 := Eq.symm h2
  subst h2
  replace h4 := Eq.symm h4
  subst h4
  exact (Eq.trans (if_neg h0) (Eq.trans (if_pos h1) (Eq.trans (if_neg h3) (Eq.trans (if_pos h5) rfl))))
theorem F_m_letter_p8 {o : Nat} {S : dg_S} {a1 : Int32} {a2 : Int32} {a3 : Int32} {x_123 : Int32} (h0 : a1 = (0 : Int32)) (h1 : x_123 = F_m_isMiner o S a2) (h2 : x_123 = (0 : Int32)) : F_m_letter o S a1 a2 a3 = (-1 : Int32) := by
  replace h1 := Eq.symm h1
  subst h1
  exact (Eq.trans (if_pos h0) (Eq.trans (if_pos h2) rfl))
theorem F_m_letter_p9 {a3 : Int32} {x_176 : Int32} {x_135 : Int64} {x_200 : Int32} {x_193 : Int32} {x_194 : Int32} {x_195 : Int32} {x_196 : Int64} {x_197 : Int64} {x_198 : Int32} {x_199 : Int32} (h0 : a3 < x_176) (h1 : x_193 = x_176 - (1 : Int32)) (h2 : x_194 = x_193 - a3) (h3 : x_195 = (8 : Int32) * x_194) (h4 : x_196 = x_135 >>> (Int32.toInt64 x_195 &&& 63)) (h5 : x_197 = x_196 &&& (255 : Int64)) (h6 : x_198 = Int64.toInt32 x_197) (h7 : x_199 = x_198 - (97 : Int32)) (h8 : x_200 = x_199 + (1 : Int32)) : F_m_letter_J3 a3 x_176 x_135 = x_200 := by
  replace h1 := Eq.symm h1
  subst h1
  replace h2 := Eq.symm h2
  subst h2
  replace h3 := Eq.symm h3
  subst h3
  replace h4 := Eq.symm h4
  subst h4
  replace h5 := Eq.symm h5
  subst h5
  replace h6 := Eq.symm h6
  subst h6
  replace h7 := Eq.symm h7
  subst h7
  replace h8 := Eq.symm h8
  subst h8
  exact (Eq.trans (if_pos h0) rfl)
theorem F_m_letter_p10 {a3 : Int32} {x_176 : Int32} {x_135 : Int64} (h0 : ¬ (a3 < x_176)) : F_m_letter_J3 a3 x_176 x_135 = (0 : Int32) := (Eq.trans (if_neg h0) rfl)
theorem F_m_letter_p11 {a3 : Int32} {x_135 : Int64} {x_234 : Int64} {x_235 : Int32} {x_237 : Int32} (h0 : x_237 = lg_cmp x_234 (0 : Int64)) (h1 : x_237 ≤ (0 : Int32)) : (F_m_letter_B4 a3 x_135) (x_234, x_235) = Sum.inr (F_m_letter_J3 a3 x_235 x_135) := by
  replace h0 := Eq.symm h0
  subst h0
  exact (Eq.trans (if_pos h1) rfl)
theorem F_m_letter_p12 {a3 : Int32} {x_135 : Int64} {x_234 : Int64} {x_235 : Int32} {x_241 : Int64} {x_240 : Int32} {x_237 : Int32} (h0 : x_237 = lg_cmp x_234 (0 : Int64)) (h1 : ¬ (x_237 ≤ (0 : Int32))) (h2 : x_240 = x_235 + 1) (h3 : x_241 = x_234 >>> (Int32.toInt64 (8 : Int32) &&& 63)) : (F_m_letter_B4 a3 x_135) (x_234, x_235) = Sum.inl (x_241, x_240) := by
  replace h0 := Eq.symm h0
  subst h0
  replace h2 := Eq.symm h2
  subst h2
  replace h3 := Eq.symm h3
  subst h3
  exact (Eq.trans (if_neg h1) rfl)
theorem F_m_letter_p13 {o : Nat} {S : dg_S} {a1 : Int32} {a2 : Int32} {a3 : Int32} {x_135 : Int64} {x_123 : Int32} {x_126 : Int32} {x_131 : Int32} {x_132 : Int32} {x_133 : Int32} (h0 : a1 = (0 : Int32)) (h1 : x_123 = F_m_isMiner o S a2) (h2 : ¬ (x_123 = (0 : Int32))) (h3 : x_126 = F_m_is o S a3 (0 : Int32) (5 : Int32)) (h4 : ¬ (x_126 = (0 : Int32))) (h5 : x_131 = zI S 0 13) (h6 : x_132 = (6 : Int32) * x_131) (h7 : x_133 = x_132 + a2) (h8 : x_135 = S.2.2 20 (x_133 : Int32).toNatClampNeg) : F_m_letter o S a1 a2 a3 = lp (F_m_letter_B4 a3 x_135) (0 : Int32) ((((x_135 : Int64)).toInt).toNat + 1) (x_135, (0 : Int32)) := by
  replace h1 := Eq.symm h1
  subst h1
  replace h3 := Eq.symm h3
  subst h3
  replace h5 := Eq.symm h5
  subst h5
  replace h6 := Eq.symm h6
  subst h6
  replace h7 := Eq.symm h7
  subst h7
  replace h8 := Eq.symm h8
  subst h8
  exact (Eq.trans (if_pos h0) (Eq.trans (if_neg h2) (Eq.trans (if_neg h4) rfl)))
theorem F_m_letter_p14 {o : Nat} {S : dg_S} {a1 : Int32} {a2 : Int32} {a3 : Int32} {x_123 : Int32} {x_126 : Int32} (h0 : a1 = (0 : Int32)) (h1 : x_123 = F_m_isMiner o S a2) (h2 : ¬ (x_123 = (0 : Int32))) (h3 : x_126 = F_m_is o S a3 (0 : Int32) (5 : Int32)) (h4 : x_126 = (0 : Int32)) : F_m_letter o S a1 a2 a3 = (-1 : Int32) := by
  replace h1 := Eq.symm h1
  subst h1
  replace h3 := Eq.symm h3
  subst h3
  exact (Eq.trans (if_pos h0) (Eq.trans (if_neg h2) (Eq.trans (if_pos h4) rfl)))
set_option maxHeartbeats 8000000 in
set_option maxRecDepth 100000 in
theorem c_m_letter (l : Launch) (g : Nat → ClassId) (D : va_G) (o : Nat) (S : dg_S) (a1 : Int32) (a2 : Int32) (a3 : Int32) (I : CM o S) (sz : Nat) : Met l yX12_letter (bw yX12_letter cX12_letter 10 (some .int)) ({ frames := 2, cells := 0, slots := 0, locals := 54 } : Room) (dk_Pc g D (dg_w g shM o rfM S) sz [.ref (o + 0), .int a1, .int a2, .int a3]) (va_Qi (fun (r : Int32) S' => S' = S ∧ (r = F_m_letter o S a1 a2 a3) ∧ True) (dg_B g D shM o rfM) (dg_A o shM.length sz)) 0 0 (dg_A o shM.length sz) := by
  refine dg_met (cc := cX12_letter) (maxL := 10) (ret := (some .int)) (dk_dq rfl) rfl (Nat.le_of_ble_eq_true rfl) ?_
  intro p e s m args below meth c A hAe harg hx hb hr hml hts hown hlocks hin hP K hS hA1 hA ST hsz ls hl
  rw [← hAe]
  have F : CallFix p m c cX12_letter 10 s args (bw yX12_letter cX12_letter 10 (some .int)) RX12 := ⟨hx, hb, hml, hown, hts⟩
  have hl : lv_has ls 10 [(0, .ref (o + 0)), (1, .int a1), (2, .int a2), (3, .int a3)] := hl
  have M_0 : dg_sm shM [] [] S S := dg_sm.rf
  refine lv_iload_n hx hb dX12_letter_0 rfl (lv_at hl 1 rfl) ?_
  refine lv_if_ne (tgt := 12) hx hb dX12_letter_1 (dk_dq rfl) (fun c_1 => ?_) (fun c_1 => ?_)
  · as_aux_lemma =>
      have jc_1 := dk_neqc (k := 0) (by decide +kernel) c_1
      refine lv_iload_n hx hb dX12_letter_12 rfl (lv_at hl 1 rfl) ?_
      refine lv_iconst (v := 1) hx hb dX12_letter_13 (by decide +kernel) ?_
      refine lv_icmp_ne (tgt := 29) hx hb dX12_letter_14 (dk_dq rfl) (fun c_2 => ?_) (fun c_2 => ?_)
      · have jc_2 := dk_neqc (k := 1) (by decide +kernel) c_2
        refine lv_iconst (v := 0) hx hb dX12_letter_29 (by decide +kernel) ?_
        refine lv_istore (lv' := [(4, .int 0), (0, .ref (o + 0)), (1, .int a1), (2, .int a2), (3, .int a3)]) hx hb dX12_letter_30 hl (dk_dq rfl) rfl (fun ls hl => ?_)
        refine lv_iload hx hb dX12_letter_32 (lv_at hl 0 rfl) ?_
        refine lv_if_eq (tgt := 46) hx hb dX12_letter_34 (dk_dq rfl) (fun _ => ?_) (fun c => absurd (by decide +kernel) c)
        refine lv_iconst (v := (-1)) hx hb dX12_letter_46 (by decide +kernel) ?_
        refine W.widen (k := 0) (n := 0) (Nat.le_of_ble_eq_true rfl) (Nat.le_of_ble_eq_true rfl) ?_
        exact dg_iret hx hb hr hlocks rfl hP hS ⟨rfl, (Eq.symm (F_m_letter_p0 c_1 c_2)), trivial⟩ dX12_letter_47
      · as_aux_lemma =>
          have jc_2 := dk_eqc (k := 1) (by decide +kernel) c_2
          refine lv_aload_n hx hb dX12_letter_17 rfl (lv_at hl 0 rfl) ?_
          refine lv_iload_n hx hb dX12_letter_18 rfl (lv_at hl 2 rfl) ?_
          refine dg_calli hS hA1 hA (va_runV (As := [.int a2]) (rest := []) F (c_m_isOrder l g D o S a2 I s.heap.size) (cwV 1 hts (bw_V wB_1203 wB_1204 wB_1205 wB_297 wB_1202) rfl rfl rfl (by decide +kernel) ⟨Nat.le_of_ble_eq_true rfl, Nat.le_of_ble_eq_true rfl⟩) (dg_preV sM_0 rfl K ST hP hS hA1 hA) rfl rfl hl.1 rfl (lv_room (Nat.le_of_ble_eq_true rfl)) dX12_letter_19 ⟨Nat.le_of_ble_eq_true rfl, Nat.le_of_ble_eq_true rfl⟩) (fun x_3 S_4 hw_4 H locs hP hS => ?_)
          rw [hw_4.1] at hP
          obtain ⟨hq_4, w_4_0, w_4_1, w_4_2, -⟩ := hw_4
          have w_4_0 : 0 ≤ (x_3).toInt ∧ (x_3).toInt ≤ 1 := w_4_0
          have w_4_1 : (x_3).toInt = 1 → (0 ≤ (a2).toInt ∧ (a2).toInt ≤ 4) := w_4_1
          refine lv_if_eq (tgt := 29) hx hb dX12_letter_22 (dk_dq rfl) (fun c_5 => ?_) (fun c_5 => ?_)
          · have jc_5 := dk_eqc (k := 0) (by decide +kernel) c_5
            refine lv_iconst (v := 0) hx hb dX12_letter_29 (by decide +kernel) ?_
            refine lv_istore (lv' := [(4, .int 0), (0, .ref (o + 0)), (1, .int a1), (2, .int a2), (3, .int a3)]) hx hb dX12_letter_30 hl (dk_dq rfl) rfl (fun ls hl => ?_)
            refine lv_iload hx hb dX12_letter_32 (lv_at hl 0 rfl) ?_
            refine lv_if_eq (tgt := 46) hx hb dX12_letter_34 (dk_dq rfl) (fun _ => ?_) (fun c => absurd (by decide +kernel) c)
            refine lv_iconst (v := (-1)) hx hb dX12_letter_46 (by decide +kernel) ?_
            refine W.widen (k := 0) (n := 0) (Nat.le_of_ble_eq_true rfl) (Nat.le_of_ble_eq_true rfl) ?_
            exact dg_iret hx hb hr hlocks rfl hP hS ⟨rfl, (Eq.symm (F_m_letter_p1 c_1 c_2 w_4_2 c_5)), trivial⟩ dX12_letter_47
          · as_aux_lemma =>
              have jc_5 := dk_neqc (k := 0) (by decide +kernel) c_5
              refine lv_iconst (v := 1) hx hb dX12_letter_25 (by decide +kernel) ?_
              refine lv_goto (tgt := 30) hx hb dX12_letter_26 (dk_dq rfl) ?_
              refine lv_istore (lv' := [(4, .int 1), (0, .ref (o + 0)), (1, .int a1), (2, .int a2), (3, .int a3)]) hx hb dX12_letter_30 hl (dk_dq rfl) rfl (fun ls hl => ?_)
              refine lv_iload hx hb dX12_letter_32 (lv_at hl 0 rfl) ?_
              refine lv_if_eq (tgt := 46) hx hb dX12_letter_34 (dk_dq rfl) (fun c => absurd c (by decide +kernel)) (fun _ => ?_)
              refine lv_iload_n hx hb dX12_letter_37 rfl (lv_at hl 4 rfl) ?_
              refine lv_iconst (v := 0) hx hb dX12_letter_38 (by decide +kernel) ?_
              refine lv_iconst (v := 5) hx hb dX12_letter_39 (by decide +kernel) ?_
              refine dg_calli hS hA1 hA (va_runS (As := [.int a3, .int 0, .int 5]) (rest := []) F (c_m_isR l g D o S a3 0 5 I H.size) (va_cwS 3 hts (bw_S wB_362 wB_363 wB_297 wB_361) rfl rfl rfl (by decide +kernel) ⟨Nat.le_of_ble_eq_true rfl, Nat.le_of_ble_eq_true rfl⟩) (dg_preS K ST hP hS hA1 hA) rfl rfl hl.1 rfl (lv_room (Nat.le_of_ble_eq_true rfl)) dX12_letter_40 ⟨Nat.le_of_ble_eq_true rfl, Nat.le_of_ble_eq_true rfl⟩) (fun x_6 S_7 hw_7 H locs hP hS => ?_)
              rw [hw_7.1] at hP
              obtain ⟨hq_7, w_7_0, w_7_1, w_7_2, -⟩ := hw_7
              have hz_8 : (0 : Int32).toInt = 0 := by decide +kernel
              have hz_9 : (5 : Int32).toInt = 5 := by decide +kernel
              have w_7_0 : 0 ≤ (x_6).toInt ∧ (x_6).toInt ≤ 1 := w_7_0
              have w_7_1 : (x_6).toInt = 1 ↔ (((0 : Int32)).toInt ≤ (a3).toInt ∧ (a3).toInt ≤ ((5 : Int32)).toInt) := w_7_1
              refine lv_if_ne (tgt := 48) hx hb dX12_letter_43 (dk_dq rfl) (fun c_10 => ?_) (fun c_10 => ?_)
              · as_aux_lemma =>
                  have jc_10 := dk_neqc (k := 0) (by decide +kernel) c_10
                  refine lv_iload_n hx hb dX12_letter_48 rfl (lv_at hl 2 rfl) ?_
                  refine lv_if_ne (tgt := 69) hx hb dX12_letter_49 (dk_dq rfl) (fun _ => ?_) (fun c => absurd c (fun z => absurd (dk_eqc (k := 0) (by decide +kernel) z) (by omega)))
                  refine lv_aload_n hx hb dX12_letter_69 rfl (lv_at hl 1 rfl) ?_
                  refine dg_get (C := RX12) (T := TX12) (N := 77) hx hb hts (fun w h => bw_mem (wU_X12 w h)) hown K hP sM_0 rfl 33 (dk_dq rfl) (hts _ (bw_mem wB_360)) (fun _ h9 => h9) (v := .ref (o + 21)) (show S.1 0 33 = .ref (o + 21) from dg_I.rel (d := 21) I sM_0 (by decide +kernel)) dX12_letter_70 ?_
                  refine lv_iconst (v := 5) hx hb dX12_letter_73 (by decide +kernel) ?_
                  refine lv_aload_n hx hb dX12_letter_74 rfl (lv_at hl 1 rfl) ?_
                  obtain ⟨x_11, f_x_11, b_x_11⟩ := dg_I.int (i := 0) (k := 13) (lo := 0) (hi := 1) I sM_0 (by decide +kernel)
                  refine dg_get (C := RX12) (T := TX12) (N := 77) hx hb hts (fun w h => bw_mem (wU_X12 w h)) hown K hP sM_0 rfl 13 (dk_dq rfl) (hts _ (bw_mem wB_1085)) (fun _ h9 => h9) (v := .int x_11) f_x_11 dX12_letter_75 ?_
                  refine lv_imul hx hb dX12_letter_78 ?_
                  refine lv_topi (fun x_12 ex_12 => ?_)
                  have jx_12 : (x_12).toInt = 5 * (x_11).toInt := by rw [ex_12]; exact dk_mulT2 (by decide +kernel) rfl (by omega)
                  refine lv_iload_n hx hb dX12_letter_79 rfl (lv_at hl 3 rfl) ?_
                  refine lv_iadd hx hb dX12_letter_80 ?_
                  refine lv_topi (fun x_13 ex_13 => ?_)
                  have jx_13 : (x_13).toInt = (x_12).toInt + (a2).toInt := by rw [ex_13]; exact dk_addT2 rfl rfl (by omega)
                  have hin_14 : vp_in x_13 10 := (dk_inv2 (by omega))
                  refine dg_lald hx hb K hP sM_21 hin_14 dX12_letter_81 (fun x_15 ex_15 => ?_)
                  refine lv_lstore (lv' := [(5, .long x_15), (4, .int 1), (0, .ref (o + 0)), (1, .int a1), (2, .int a2), (3, .int a3)]) hx hb dX12_letter_82 hl (dk_dq rfl) rfl (fun ls hl => ?_)
                  refine lv_iconst (v := 0) hx hb dX12_letter_84 (by decide +kernel) ?_
                  refine lv_istore (lv' := [(7, .int 0), (5, .long x_15), (4, .int 1), (0, .ref (o + 0)), (1, .int a1), (2, .int a2), (3, .int a3)]) hx hb dX12_letter_85 hl (dk_dq rfl) rfl (fun ls hl => ?_)
                  refine lv_lload hx hb dX12_letter_87 (lv_at hl 1 rfl) ?_
                  refine lv_lstore (lv' := [(8, .long x_15), (7, .int 0), (5, .long x_15), (4, .int 1), (0, .ref (o + 0)), (1, .int a1), (2, .int a2), (3, .int a3)]) hx hb dX12_letter_89 hl (dk_dq rfl) rfl (fun ls hl => ?_)
                  have J_69 : ∀ (x_55 : Int64) (x_56 : Int32), (F_m_letter o S a1 a2 a3 = F_m_letter_J1 a3 x_56 x_15) → ∀ (H : Heap) (locs : List Loc), va_P D vwCl (dg_w g shM o rfM S) H → va_S A s.heap H locs → ∀ ls : Array Slot, lv_has ls 10 [(8, .long x_55), (7, .int x_56), (5, .long x_15), (4, .int 1), (0, .ref (o + 0)), (1, .int a1), (2, .int a2), (3, .int a3)] → W p l e ({ frames := 2, cells := 0, slots := 0, locals := 54 } : Room) s m args below meth c H locs 0 0 (MQ below (va_Qi (fun (r : Int32) S' => S' = S ∧ (r = F_m_letter o S a1 a2 a3) ∧ True) (dg_B g D shM o rfM) A) args s 0 0 A) (F0 m 111 ls []) := by
                    as_aux_lemma =>
                      intro x_55 x_56 hF_1 H locs hP hS ls hl
                      refine lv_iload_n hx hb dX12_letter_111 rfl (lv_at hl 7 rfl) ?_
                      refine lv_iload hx hb dX12_letter_112 (lv_at hl 1 rfl) ?_
                      refine lv_icmp_lt (tgt := 121) hx hb dX12_letter_114 (dk_dq rfl) (fun c_70 => ?_) (fun c_70 => ?_)
                      · as_aux_lemma =>
                          have hf_70 := dk_full x_56
                          have jc_70 := dk_ltc (k := (x_56).toInt) rfl c_70
                          refine lv_lload hx hb dX12_letter_121 (lv_at hl 2 rfl) ?_
                          refine lv_bipush (v := 8) hx hb dX12_letter_123 (by decide +kernel) ?_
                          refine lv_iload hx hb dX12_letter_125 (lv_at hl 1 rfl) ?_
                          refine lv_iconst (v := 1) hx hb dX12_letter_127 (by decide +kernel) ?_
                          have hf_71 := dk_full x_56
                          refine lv_isub hx hb dX12_letter_128 ?_
                          refine lv_topi (fun x_73 ex_73 => ?_)
                          have jx_73 : (x_73).toInt = (x_56).toInt - 1 := by rw [ex_73]; exact dk_subT2 rfl (by decide +kernel) (by omega)
                          refine lv_iload_n hx hb dX12_letter_129 rfl (lv_at hl 7 rfl) ?_
                          refine lv_isub hx hb dX12_letter_130 ?_
                          refine lv_topi (fun x_74 ex_74 => ?_)
                          have jx_74 : (x_74).toInt = (x_73).toInt - (a3).toInt := by rw [ex_74]; exact dk_subT2 rfl rfl (by omega)
                          refine lv_imul hx hb dX12_letter_131 ?_
                          refine lv_topi (fun x_75 ex_75 => ?_)
                          refine lv_lshr hx hb dX12_letter_132 rfl ?_
                          refine lv_topl (fun x_76 ex_76 => ?_)
                          refine lv_ldc2 hx hb hown (hts _ (bw_mem wB_1206)) dX12_letter_133 ?_
                          refine lv_land hx hb dX12_letter_136 ?_
                          refine lv_topl (fun x_77 ex_77 => ?_)
                          obtain ⟨x_78, ex_78⟩ : ∃ z, (x_77 : Int64).toInt32 = z := ⟨_, rfl⟩
                          refine lv_l2i (v := x_78) hx hb dX12_letter_137 ex_78 ?_
                          have hli_x_78 := dk_l2i ex_78
                          refine lv_bipush (v := 97) hx hb dX12_letter_138 (by decide +kernel) ?_
                          refine lv_isub hx hb dX12_letter_140 ?_
                          refine lv_topi (fun x_79 ex_79 => ?_)
                          refine lv_iconst (v := 1) hx hb dX12_letter_141 (by decide +kernel) ?_
                          refine lv_iadd hx hb dX12_letter_142 ?_
                          refine lv_topi (fun x_80 ex_80 => ?_)
                          refine W.widen (k := 0) (n := 0) (Nat.le_of_ble_eq_true rfl) (Nat.le_of_ble_eq_true rfl) ?_
                          exact dg_iret hx hb hr hlocks rfl hP hS ⟨rfl, (Eq.symm (Eq.trans hF_1 (F_m_letter_p2 c_70 ex_73 ex_74 ex_75 ex_76 ex_77 (Eq.symm ex_78) ex_79 ex_80))), trivial⟩ dX12_letter_143
                      · have hf_80 := dk_full x_56
                        have jc_70 := dk_nltc (k := (x_56).toInt) rfl c_70
                        refine lv_iconst (v := 0) hx hb dX12_letter_117 (by decide +kernel) ?_
                        refine lv_goto (tgt := 143) hx hb dX12_letter_118 (dk_dq rfl) ?_
                        refine W.widen (k := 0) (n := 0) (Nat.le_of_ble_eq_true rfl) (Nat.le_of_ble_eq_true rfl) ?_
                        exact dg_iret hx hb hr hlocks rfl hP hS ⟨rfl, (Eq.symm (Eq.trans hF_1 (F_m_letter_p3 c_70))), trivial⟩ dX12_letter_143
                  have L_116 : ∀ (n : Nat) (x_114 : Int64) (x_115 : Int32), (((x_114).toInt).toNat < n) → (F_m_letter o S a1 a2 a3 = lp (F_m_letter_B2 a3 x_15) (0 : Int32) n (x_114, x_115)) → ∀ (H : Heap) (locs : List Loc), va_P D vwCl (dg_w g shM o rfM S) H → va_S A s.heap H locs → ∀ ls : Array Slot, lv_has ls 10 [(8, .long x_114), (7, .int x_115), (5, .long x_15), (4, .int 1), (0, .ref (o + 0)), (1, .int a1), (2, .int a2), (3, .int a3)] → W p l e ({ frames := 2, cells := 0, slots := 0, locals := 54 } : Room) s m args below meth c H locs 0 0 (MQ below (va_Qi (fun (r : Int32) S' => S' = S ∧ (r = F_m_letter o S a1 a2 a3) ∧ True) (dg_B g D shM o rfM) A) args s 0 0 A) (F0 m 91 ls []) := by
                    as_aux_lemma =>
                      intro n
                      induction n with
                      | zero =>
                        intro x_114 x_115 hmu hF_2 H locs hP hS ls hl
                        omega
                      | succ n ih =>
                        as_aux_lemma =>
                          intro x_114 x_115 hmu hF_2 H locs hP hS ls hl
                          refine lv_lload hx hb dX12_letter_91 (lv_at hl 0 rfl) ?_
                          refine lv_lconst (v := 0) hx hb dX12_letter_93 (by decide +kernel) ?_
                          refine W.lcmp hx hb dX12_letter_94 ?_
                          refine lv_topi (fun x_117 ex_117 => ?_)
                          have hz_117 : (0 : Int64).toInt = 0 := by decide +kernel
                          have hlc_x_117 := dk_lcmp ex_117
                          refine lv_if_le (tgt := 111) hx hb dX12_letter_95 (dk_dq rfl) (fun c_119 => ?_) (fun c_119 => ?_)
                          · have jc_119 := dk_lec (k := 0) (by decide +kernel) c_119
                            exact J_69 x_114 x_115  (lp_r hF_2 (F_m_letter_p4 ex_117 c_119)) _ _ hP hS _ (lv_sub hl [0, 1, 2, 3, 4, 5, 6, 7] rfl)
                          · have jc_119 := dk_nlec (k := 0) (by decide +kernel) c_119
                            obtain ⟨x_120, ex_120⟩ : ∃ z, z = x_115 + 1 := ⟨_, rfl⟩
                            refine lv_iinc (v := x_120) (lv' := [(7, .int x_120), (8, .long x_114), (5, .long x_15), (4, .int 1), (0, .ref (o + 0)), (1, .int a1), (2, .int a2), (3, .int a3)]) hx hb dX12_letter_98 hl (k := 1) rfl (by rw [ex_120]; rfl) (dk_dq rfl) rfl (fun ls hl => ?_)
                            refine lv_lload hx hb dX12_letter_101 (lv_at hl 1 rfl) ?_
                            refine lv_bipush (v := 8) hx hb dX12_letter_103 (by decide +kernel) ?_
                            refine lv_lshr hx hb dX12_letter_105 rfl ?_
                            refine lv_topl (fun x_121 ex_121 => ?_)
                            have hsh_x_121 : 0 ≤ (x_121).toInt ∧ (x_121).toInt < (x_114).toInt := by rw [ex_121]; exact dk_lshr8 (x := x_114) (by omega)
                            refine lv_lstore (lv' := [(8, .long x_121), (7, .int x_120), (5, .long x_15), (4, .int 1), (0, .ref (o + 0)), (1, .int a1), (2, .int a2), (3, .int a3)]) hx hb dX12_letter_106 hl (dk_dq rfl) rfl (fun ls hl => ?_)
                            refine lv_goto (tgt := 91) hx hb dX12_letter_108 (dk_dq rfl) ?_
                            exact ih x_121 x_120 (by first | exact mu_lt hmu (by omega) (by omega) | omega) (lp_l hF_2 (F_m_letter_p5 ex_117 c_119 ex_120 ex_121)) _ _ hP hS _ (lv_sub hl [0, 1, 2, 3, 4, 5, 6, 7] rfl)
                  have hz_122 : (0 : Int32).toInt = 0 := by decide +kernel
                  exact L_116 ((((x_15 : Int64)).toInt).toNat + 1) x_15 0 (by first | exact mu_lt hmu (by omega) (by omega) | omega) (F_m_letter_p6 c_1 c_2 w_4_2 c_5 w_7_2 c_10 (zI_eq f_x_11) ex_12 ex_13 (Eq.symm ex_15.symm)) _ _ hP hS _ (lv_sub hl [0, 1, 2, 3, 4, 5, 6, 7] rfl)
              · have jc_10 := dk_eqc (k := 0) (by decide +kernel) c_10
                refine lv_iconst (v := (-1)) hx hb dX12_letter_46 (by decide +kernel) ?_
                refine W.widen (k := 0) (n := 0) (Nat.le_of_ble_eq_true rfl) (Nat.le_of_ble_eq_true rfl) ?_
                exact dg_iret hx hb hr hlocks rfl hP hS ⟨rfl, (Eq.symm (F_m_letter_p7 c_1 c_2 w_4_2 c_5 w_7_2 c_10)), trivial⟩ dX12_letter_47
  · as_aux_lemma =>
      have jc_1 := dk_eqc (k := 0) (by decide +kernel) c_1
      refine lv_aload_n hx hb dX12_letter_4 rfl (lv_at hl 0 rfl) ?_
      refine lv_iload_n hx hb dX12_letter_5 rfl (lv_at hl 2 rfl) ?_
      refine dg_calli hS hA1 hA (va_runV (As := [.int a2]) (rest := []) F (c_m_isMiner l g D o S a2 I s.heap.size) (cwV 1 hts (bw_V wB_1208 wB_1209 wB_1210 wB_297 wB_1207) rfl rfl rfl (by decide +kernel) ⟨Nat.le_of_ble_eq_true rfl, Nat.le_of_ble_eq_true rfl⟩) (dg_preV sM_0 rfl K ST hP hS hA1 hA) rfl rfl hl.1 rfl (lv_room (Nat.le_of_ble_eq_true rfl)) dX12_letter_6 ⟨Nat.le_of_ble_eq_true rfl, Nat.le_of_ble_eq_true rfl⟩) (fun x_123 S_124 hw_124 H locs hP hS => ?_)
      rw [hw_124.1] at hP
      obtain ⟨hq_124, w_124_0, w_124_1, w_124_2, -⟩ := hw_124
      have w_124_0 : 0 ≤ (x_123).toInt ∧ (x_123).toInt ≤ 1 := w_124_0
      have w_124_1 : (x_123).toInt = 1 → (0 ≤ (a2).toInt ∧ (a2).toInt ≤ 5) := w_124_1
      refine lv_goto (tgt := 30) hx hb dX12_letter_9 (dk_dq rfl) ?_
      refine lv_istore (lv' := [(4, .int x_123), (0, .ref (o + 0)), (1, .int a1), (2, .int a2), (3, .int a3)]) hx hb dX12_letter_30 hl (dk_dq rfl) rfl (fun ls hl => ?_)
      refine lv_iload hx hb dX12_letter_32 (lv_at hl 0 rfl) ?_
      refine lv_if_eq (tgt := 46) hx hb dX12_letter_34 (dk_dq rfl) (fun c_125 => ?_) (fun c_125 => ?_)
      · have jc_125 := dk_eqc (k := 0) (by decide +kernel) c_125
        refine lv_iconst (v := (-1)) hx hb dX12_letter_46 (by decide +kernel) ?_
        refine W.widen (k := 0) (n := 0) (Nat.le_of_ble_eq_true rfl) (Nat.le_of_ble_eq_true rfl) ?_
        exact dg_iret hx hb hr hlocks rfl hP hS ⟨rfl, (Eq.symm (F_m_letter_p8 c_1 w_124_2 c_125)), trivial⟩ dX12_letter_47
      · as_aux_lemma =>
          have jc_125 := dk_neqc (k := 0) (by decide +kernel) c_125
          refine lv_iload_n hx hb dX12_letter_37 rfl (lv_at hl 4 rfl) ?_
          refine lv_iconst (v := 0) hx hb dX12_letter_38 (by decide +kernel) ?_
          refine lv_iconst (v := 5) hx hb dX12_letter_39 (by decide +kernel) ?_
          refine dg_calli hS hA1 hA (va_runS (As := [.int a3, .int 0, .int 5]) (rest := []) F (c_m_isR l g D o S a3 0 5 I H.size) (va_cwS 3 hts (bw_S wB_362 wB_363 wB_297 wB_361) rfl rfl rfl (by decide +kernel) ⟨Nat.le_of_ble_eq_true rfl, Nat.le_of_ble_eq_true rfl⟩) (dg_preS K ST hP hS hA1 hA) rfl rfl hl.1 rfl (lv_room (Nat.le_of_ble_eq_true rfl)) dX12_letter_40 ⟨Nat.le_of_ble_eq_true rfl, Nat.le_of_ble_eq_true rfl⟩) (fun x_126 S_127 hw_127 H locs hP hS => ?_)
          rw [hw_127.1] at hP
          obtain ⟨hq_127, w_127_0, w_127_1, w_127_2, -⟩ := hw_127
          have hz_128 : (0 : Int32).toInt = 0 := by decide +kernel
          have hz_129 : (5 : Int32).toInt = 5 := by decide +kernel
          have w_127_0 : 0 ≤ (x_126).toInt ∧ (x_126).toInt ≤ 1 := w_127_0
          have w_127_1 : (x_126).toInt = 1 ↔ (((0 : Int32)).toInt ≤ (a3).toInt ∧ (a3).toInt ≤ ((5 : Int32)).toInt) := w_127_1
          refine lv_if_ne (tgt := 48) hx hb dX12_letter_43 (dk_dq rfl) (fun c_130 => ?_) (fun c_130 => ?_)
          · as_aux_lemma =>
              have jc_130 := dk_neqc (k := 0) (by decide +kernel) c_130
              refine lv_iload_n hx hb dX12_letter_48 rfl (lv_at hl 2 rfl) ?_
              refine lv_if_ne (tgt := 69) hx hb dX12_letter_49 (dk_dq rfl) (fun c => absurd (dk_eqp (k := 0) (by decide +kernel) (by omega)) c) (fun _ => ?_)
              refine lv_aload_n hx hb dX12_letter_52 rfl (lv_at hl 1 rfl) ?_
              refine dg_get (C := RX12) (T := TX12) (N := 77) hx hb hts (fun w h => bw_mem (wU_X12 w h)) hown K hP sM_0 rfl 32 (dk_dq rfl) (hts _ (bw_mem wB_354)) (fun _ h9 => h9) (v := .ref (o + 20)) (show S.1 0 32 = .ref (o + 20) from dg_I.rel (d := 20) I sM_0 (by decide +kernel)) dX12_letter_53 ?_
              refine lv_bipush (v := 6) hx hb dX12_letter_56 (by decide +kernel) ?_
              refine lv_aload_n hx hb dX12_letter_58 rfl (lv_at hl 1 rfl) ?_
              obtain ⟨x_131, f_x_131, b_x_131⟩ := dg_I.int (i := 0) (k := 13) (lo := 0) (hi := 1) I sM_0 (by decide +kernel)
              refine dg_get (C := RX12) (T := TX12) (N := 77) hx hb hts (fun w h => bw_mem (wU_X12 w h)) hown K hP sM_0 rfl 13 (dk_dq rfl) (hts _ (bw_mem wB_1085)) (fun _ h9 => h9) (v := .int x_131) f_x_131 dX12_letter_59 ?_
              refine lv_imul hx hb dX12_letter_62 ?_
              refine lv_topi (fun x_132 ex_132 => ?_)
              have jx_132 : (x_132).toInt = 6 * (x_131).toInt := by rw [ex_132]; exact dk_mulT2 (by decide +kernel) rfl (by omega)
              refine lv_iload_n hx hb dX12_letter_63 rfl (lv_at hl 3 rfl) ?_
              refine lv_iadd hx hb dX12_letter_64 ?_
              refine lv_topi (fun x_133 ex_133 => ?_)
              have jx_133 : (x_133).toInt = (x_132).toInt + (a2).toInt := by rw [ex_133]; exact dk_addT2 rfl rfl (by omega)
              have hin_134 : vp_in x_133 12 := (dk_inv2 (by omega))
              refine dg_lald hx hb K hP sM_20 hin_134 dX12_letter_65 (fun x_135 ex_135 => ?_)
              refine lv_goto (tgt := 82) hx hb dX12_letter_66 (dk_dq rfl) ?_
              refine lv_lstore (lv' := [(5, .long x_135), (4, .int x_123), (0, .ref (o + 0)), (1, .int a1), (2, .int a2), (3, .int a3)]) hx hb dX12_letter_82 hl (dk_dq rfl) rfl (fun ls hl => ?_)
              refine lv_iconst (v := 0) hx hb dX12_letter_84 (by decide +kernel) ?_
              refine lv_istore (lv' := [(7, .int 0), (5, .long x_135), (4, .int x_123), (0, .ref (o + 0)), (1, .int a1), (2, .int a2), (3, .int a3)]) hx hb dX12_letter_85 hl (dk_dq rfl) rfl (fun ls hl => ?_)
              refine lv_lload hx hb dX12_letter_87 (lv_at hl 1 rfl) ?_
              refine lv_lstore (lv' := [(8, .long x_135), (7, .int 0), (5, .long x_135), (4, .int x_123), (0, .ref (o + 0)), (1, .int a1), (2, .int a2), (3, .int a3)]) hx hb dX12_letter_89 hl (dk_dq rfl) rfl (fun ls hl => ?_)
              have J_189 : ∀ (x_175 : Int64) (x_176 : Int32), (F_m_letter o S a1 a2 a3 = F_m_letter_J3 a3 x_176 x_135) → ∀ (H : Heap) (locs : List Loc), va_P D vwCl (dg_w g shM o rfM S) H → va_S A s.heap H locs → ∀ ls : Array Slot, lv_has ls 10 [(8, .long x_175), (7, .int x_176), (5, .long x_135), (4, .int x_123), (0, .ref (o + 0)), (1, .int a1), (2, .int a2), (3, .int a3)] → W p l e ({ frames := 2, cells := 0, slots := 0, locals := 54 } : Room) s m args below meth c H locs 0 0 (MQ below (va_Qi (fun (r : Int32) S' => S' = S ∧ (r = F_m_letter o S a1 a2 a3) ∧ True) (dg_B g D shM o rfM) A) args s 0 0 A) (F0 m 111 ls []) := by
                as_aux_lemma =>
                  intro x_175 x_176 hF_3 H locs hP hS ls hl
                  refine lv_iload_n hx hb dX12_letter_111 rfl (lv_at hl 7 rfl) ?_
                  refine lv_iload hx hb dX12_letter_112 (lv_at hl 1 rfl) ?_
                  refine lv_icmp_lt (tgt := 121) hx hb dX12_letter_114 (dk_dq rfl) (fun c_190 => ?_) (fun c_190 => ?_)
                  · as_aux_lemma =>
                      have hf_190 := dk_full x_176
                      have jc_190 := dk_ltc (k := (x_176).toInt) rfl c_190
                      refine lv_lload hx hb dX12_letter_121 (lv_at hl 2 rfl) ?_
                      refine lv_bipush (v := 8) hx hb dX12_letter_123 (by decide +kernel) ?_
                      refine lv_iload hx hb dX12_letter_125 (lv_at hl 1 rfl) ?_
                      refine lv_iconst (v := 1) hx hb dX12_letter_127 (by decide +kernel) ?_
                      have hf_191 := dk_full x_176
                      refine lv_isub hx hb dX12_letter_128 ?_
                      refine lv_topi (fun x_193 ex_193 => ?_)
                      have jx_193 : (x_193).toInt = (x_176).toInt - 1 := by rw [ex_193]; exact dk_subT2 rfl (by decide +kernel) (by omega)
                      refine lv_iload_n hx hb dX12_letter_129 rfl (lv_at hl 7 rfl) ?_
                      refine lv_isub hx hb dX12_letter_130 ?_
                      refine lv_topi (fun x_194 ex_194 => ?_)
                      have jx_194 : (x_194).toInt = (x_193).toInt - (a3).toInt := by rw [ex_194]; exact dk_subT2 rfl rfl (by omega)
                      refine lv_imul hx hb dX12_letter_131 ?_
                      refine lv_topi (fun x_195 ex_195 => ?_)
                      refine lv_lshr hx hb dX12_letter_132 rfl ?_
                      refine lv_topl (fun x_196 ex_196 => ?_)
                      refine lv_ldc2 hx hb hown (hts _ (bw_mem wB_1206)) dX12_letter_133 ?_
                      refine lv_land hx hb dX12_letter_136 ?_
                      refine lv_topl (fun x_197 ex_197 => ?_)
                      obtain ⟨x_198, ex_198⟩ : ∃ z, (x_197 : Int64).toInt32 = z := ⟨_, rfl⟩
                      refine lv_l2i (v := x_198) hx hb dX12_letter_137 ex_198 ?_
                      have hli_x_198 := dk_l2i ex_198
                      refine lv_bipush (v := 97) hx hb dX12_letter_138 (by decide +kernel) ?_
                      refine lv_isub hx hb dX12_letter_140 ?_
                      refine lv_topi (fun x_199 ex_199 => ?_)
                      refine lv_iconst (v := 1) hx hb dX12_letter_141 (by decide +kernel) ?_
                      refine lv_iadd hx hb dX12_letter_142 ?_
                      refine lv_topi (fun x_200 ex_200 => ?_)
                      refine W.widen (k := 0) (n := 0) (Nat.le_of_ble_eq_true rfl) (Nat.le_of_ble_eq_true rfl) ?_
                      exact dg_iret hx hb hr hlocks rfl hP hS ⟨rfl, (Eq.symm (Eq.trans hF_3 (F_m_letter_p9 c_190 ex_193 ex_194 ex_195 ex_196 ex_197 (Eq.symm ex_198) ex_199 ex_200))), trivial⟩ dX12_letter_143
                  · have hf_200 := dk_full x_176
                    have jc_190 := dk_nltc (k := (x_176).toInt) rfl c_190
                    refine lv_iconst (v := 0) hx hb dX12_letter_117 (by decide +kernel) ?_
                    refine lv_goto (tgt := 143) hx hb dX12_letter_118 (dk_dq rfl) ?_
                    refine W.widen (k := 0) (n := 0) (Nat.le_of_ble_eq_true rfl) (Nat.le_of_ble_eq_true rfl) ?_
                    exact dg_iret hx hb hr hlocks rfl hP hS ⟨rfl, (Eq.symm (Eq.trans hF_3 (F_m_letter_p10 c_190))), trivial⟩ dX12_letter_143
              have L_236 : ∀ (n : Nat) (x_234 : Int64) (x_235 : Int32), (((x_234).toInt).toNat < n) → (F_m_letter o S a1 a2 a3 = lp (F_m_letter_B4 a3 x_135) (0 : Int32) n (x_234, x_235)) → ∀ (H : Heap) (locs : List Loc), va_P D vwCl (dg_w g shM o rfM S) H → va_S A s.heap H locs → ∀ ls : Array Slot, lv_has ls 10 [(8, .long x_234), (7, .int x_235), (5, .long x_135), (4, .int x_123), (0, .ref (o + 0)), (1, .int a1), (2, .int a2), (3, .int a3)] → W p l e ({ frames := 2, cells := 0, slots := 0, locals := 54 } : Room) s m args below meth c H locs 0 0 (MQ below (va_Qi (fun (r : Int32) S' => S' = S ∧ (r = F_m_letter o S a1 a2 a3) ∧ True) (dg_B g D shM o rfM) A) args s 0 0 A) (F0 m 91 ls []) := by
                as_aux_lemma =>
                  intro n
                  induction n with
                  | zero =>
                    intro x_234 x_235 hmu hF_4 H locs hP hS ls hl
                    omega
                  | succ n ih =>
                    as_aux_lemma =>
                      intro x_234 x_235 hmu hF_4 H locs hP hS ls hl
                      refine lv_lload hx hb dX12_letter_91 (lv_at hl 0 rfl) ?_
                      refine lv_lconst (v := 0) hx hb dX12_letter_93 (by decide +kernel) ?_
                      refine W.lcmp hx hb dX12_letter_94 ?_
                      refine lv_topi (fun x_237 ex_237 => ?_)
                      have hz_237 : (0 : Int64).toInt = 0 := by decide +kernel
                      have hlc_x_237 := dk_lcmp ex_237
                      refine lv_if_le (tgt := 111) hx hb dX12_letter_95 (dk_dq rfl) (fun c_239 => ?_) (fun c_239 => ?_)
                      · have jc_239 := dk_lec (k := 0) (by decide +kernel) c_239
                        exact J_189 x_234 x_235  (lp_r hF_4 (F_m_letter_p11 ex_237 c_239)) _ _ hP hS _ (lv_sub hl [0, 1, 2, 3, 4, 5, 6, 7] rfl)
                      · have jc_239 := dk_nlec (k := 0) (by decide +kernel) c_239
                        obtain ⟨x_240, ex_240⟩ : ∃ z, z = x_235 + 1 := ⟨_, rfl⟩
                        refine lv_iinc (v := x_240) (lv' := [(7, .int x_240), (8, .long x_234), (5, .long x_135), (4, .int x_123), (0, .ref (o + 0)), (1, .int a1), (2, .int a2), (3, .int a3)]) hx hb dX12_letter_98 hl (k := 1) rfl (by rw [ex_240]; rfl) (dk_dq rfl) rfl (fun ls hl => ?_)
                        refine lv_lload hx hb dX12_letter_101 (lv_at hl 1 rfl) ?_
                        refine lv_bipush (v := 8) hx hb dX12_letter_103 (by decide +kernel) ?_
                        refine lv_lshr hx hb dX12_letter_105 rfl ?_
                        refine lv_topl (fun x_241 ex_241 => ?_)
                        have hsh_x_241 : 0 ≤ (x_241).toInt ∧ (x_241).toInt < (x_234).toInt := by rw [ex_241]; exact dk_lshr8 (x := x_234) (by omega)
                        refine lv_lstore (lv' := [(8, .long x_241), (7, .int x_240), (5, .long x_135), (4, .int x_123), (0, .ref (o + 0)), (1, .int a1), (2, .int a2), (3, .int a3)]) hx hb dX12_letter_106 hl (dk_dq rfl) rfl (fun ls hl => ?_)
                        refine lv_goto (tgt := 91) hx hb dX12_letter_108 (dk_dq rfl) ?_
                        exact ih x_241 x_240 (by first | exact mu_lt hmu (by omega) (by omega) | omega) (lp_l hF_4 (F_m_letter_p12 ex_237 c_239 ex_240 ex_241)) _ _ hP hS _ (lv_sub hl [0, 1, 2, 3, 4, 5, 6, 7] rfl)
              have hz_242 : (0 : Int32).toInt = 0 := by decide +kernel
              exact L_236 ((((x_135 : Int64)).toInt).toNat + 1) x_135 0 (by first | exact mu_lt hmu (by omega) (by omega) | omega) (F_m_letter_p13 c_1 w_124_2 c_125 w_127_2 c_130 (zI_eq f_x_131) ex_132 ex_133 (Eq.symm ex_135.symm)) _ _ hP hS _ (lv_sub hl [0, 1, 2, 3, 4, 5, 6, 7] rfl)
          · have jc_130 := dk_eqc (k := 0) (by decide +kernel) c_130
            refine lv_iconst (v := (-1)) hx hb dX12_letter_46 (by decide +kernel) ?_
            refine W.widen (k := 0) (n := 0) (Nat.le_of_ble_eq_true rfl) (Nat.le_of_ble_eq_true rfl) ?_
            exact dg_iret hx hb hr hlocks rfl hP hS ⟨rfl, (Eq.symm (F_m_letter_p14 c_1 w_124_2 c_125 w_127_2 c_130)), trivial⟩ dX12_letter_47
noncomputable def F_m_cell (o : Nat) (S : dg_S) (a1 : Int32) (a2 : Int32) (a3 : Int32) : dg_S × Int32 := let x_1 : Int32 := zI S 0 13; let x_2 : Int32 := zI S 0 47; let x_3 : Int32 := S.2.1 2 (x_1 : Int32).toNatClampNeg; let x_5 : Int32 := S.2.1 3 (x_1 : Int32).toNatClampNeg; let x_7 : Int32 := F_m_isCell o S a1 a2; (if x_7 = (0 : Int32) then (S, (-1 : Int32)) else let x_10 : Int32 := (8 : Int32) * a2; let x_11 : Int32 := x_10 + a1; let x_13 : Int32 := S.2.1 4 (x_1 : Int32).toNatClampNeg; let S_15 : dg_S := F_m_measures o S (0 : Int32); (if a3 = (0 : Int32) then let x_18 : Int32 := S_15.2.1 31 (x_11 : Int32).toNatClampNeg; (S_15, x_18) else (if a3 = (1 : Int32) then let x_20 : Int32 := F_m_isOpen o S_15 (0 : Int32) x_11; (if x_20 = (0 : Int32) then (S_15, (0 : Int32)) else (S_15, (1 : Int32))) else (if a3 = (2 : Int32) then let x_24 : Int32 := F_m_isLit o S_15 (0 : Int32) x_11; (if x_24 = (0 : Int32) then (S_15, (0 : Int32)) else (S_15, (1 : Int32))) else (if a3 = (3 : Int32) then let x_28 : Int32 := S_15.2.1 32 (x_11 : Int32).toNatClampNeg; (S_15, x_28) else (if a3 = (4 : Int32) then let x_30 : Int32 := F_m_isOpen o S_15 (0 : Int32) x_11; (if x_30 = (0 : Int32) then (S_15, (-1 : Int32)) else let x_34 : Int32 := S_15.2.1 42 (x_11 : Int32).toNatClampNeg; (if (100000000 : Int32) ≤ x_34 then (S_15, (-1 : Int32)) else (S_15, x_34))) else (if a3 = (5 : Int32) then let x_39 : Int32 := F_m_canDig o S_15 (0 : Int32) x_11; (if x_39 = (0 : Int32) then (S_15, (0 : Int32)) else let S_44 : dg_S := (F_m_isFalling o S_15 (0 : Int32) x_11).1; let x_43 : Int32 := (F_m_isFalling o S_15 (0 : Int32) x_11).2; (if x_43 = (0 : Int32) then (S_44, (1 : Int32)) else (S_44, (0 : Int32)))) else (S_15, (-1 : Int32)))))))))
theorem F_m_cell_p0 {o : Nat} {S : dg_S} {a1 : Int32} {a2 : Int32} {a3 : Int32} {S_15 : dg_S} {x_7 : Int32} (h0 : x_7 = F_m_isCell o S a1 a2) (h1 : ¬ (x_7 = (0 : Int32))) (h2 : S_15 = F_m_measures o S (0 : Int32)) (h3 : ¬ (a3 = (0 : Int32))) (h4 : ¬ (a3 = (1 : Int32))) (h5 : ¬ (a3 = (2 : Int32))) (h6 : ¬ (a3 = (3 : Int32))) (h7 : ¬ (a3 = (4 : Int32))) (h8 : ¬ (a3 = (5 : Int32))) : F_m_cell o S a1 a2 a3 = (S_15, (-1 : Int32)) := by
  replace h0 := Eq.symm h0
  subst h0
  replace h2 := Eq.symm h2
  subst h2
  exact (Eq.trans (if_neg h1) (Eq.trans (if_neg h3) (Eq.trans (if_neg h4) (Eq.trans (if_neg h5) (Eq.trans (if_neg h6) (Eq.trans (if_neg h7) (Eq.trans (if_neg h8) rfl)))))))
theorem F_m_cell_p1 {o : Nat} {S : dg_S} {a1 : Int32} {a2 : Int32} {a3 : Int32} {S_15 : dg_S} {x_18 : Int32} {x_7 : Int32} {x_10 : Int32} {x_11 : Int32} (h0 : x_7 = F_m_isCell o S a1 a2) (h1 : ¬ (x_7 = (0 : Int32))) (h2 : x_10 = (8 : Int32) * a2) (h3 : x_11 = x_10 + a1) (h4 : S_15 = F_m_measures o S (0 : Int32)) (h5 : a3 = (0 : Int32)) (h6 : x_18 = S_15.2.1 31 (x_11 : Int32).toNatClampNeg) : F_m_cell o S a1 a2 a3 = (S_15, x_18) := by
  replace h0 := Eq.symm h0
  subst h0
  replace h2 := Eq.symm h2
  subst h2
  replace h3 := Eq.symm h3
  subst h3
  replace h4 := Eq.symm h4
  subst h4
  replace h6 := Eq.symm h6
  subst h6
  exact (Eq.trans (if_neg h1) (Eq.trans (if_pos h5) rfl))
theorem F_m_cell_p2 {o : Nat} {S : dg_S} {a1 : Int32} {a2 : Int32} {a3 : Int32} {S_15 : dg_S} {x_7 : Int32} {x_10 : Int32} {x_11 : Int32} {x_20 : Int32} (h0 : x_7 = F_m_isCell o S a1 a2) (h1 : ¬ (x_7 = (0 : Int32))) (h2 : x_10 = (8 : Int32) * a2) (h3 : x_11 = x_10 + a1) (h4 : S_15 = F_m_measures o S (0 : Int32)) (h5 : ¬ (a3 = (0 : Int32))) (h6 : a3 = (1 : Int32)) (h7 : x_20 = F_m_isOpen o S_15 (0 : Int32) x_11) (h8 : x_20 = (0 : Int32)) : F_m_cell o S a1 a2 a3 = (S_15, (0 : Int32)) := by
  replace h0 := Eq.symm h0
  subst h0
  replace h2 := Eq.symm h2
  subst h2
  replace h3 := Eq.symm h3
  subst h3
  replace h4 := Eq.symm h4
  subst h4
  replace h7 := Eq.symm h7
  subst h7
  exact (Eq.trans (if_neg h1) (Eq.trans (if_neg h5) (Eq.trans (if_pos h6) (Eq.trans (if_pos h8) rfl))))
theorem F_m_cell_p3 {o : Nat} {S : dg_S} {a1 : Int32} {a2 : Int32} {a3 : Int32} {S_15 : dg_S} {x_7 : Int32} {x_10 : Int32} {x_11 : Int32} {x_20 : Int32} (h0 : x_7 = F_m_isCell o S a1 a2) (h1 : ¬ (x_7 = (0 : Int32))) (h2 : x_10 = (8 : Int32) * a2) (h3 : x_11 = x_10 + a1) (h4 : S_15 = F_m_measures o S (0 : Int32)) (h5 : ¬ (a3 = (0 : Int32))) (h6 : a3 = (1 : Int32)) (h7 : x_20 = F_m_isOpen o S_15 (0 : Int32) x_11) (h8 : ¬ (x_20 = (0 : Int32))) : F_m_cell o S a1 a2 a3 = (S_15, (1 : Int32)) := by
  replace h0 := Eq.symm h0
  subst h0
  replace h2 := Eq.symm h2
  subst h2
  replace h3 := Eq.symm h3
  subst h3
  replace h4 := Eq.symm h4
  subst h4
  replace h7 := Eq.symm h7
  subst h7
  exact (Eq.trans (if_neg h1) (Eq.trans (if_neg h5) (Eq.trans (if_pos h6) (Eq.trans (if_neg h8) rfl))))
theorem F_m_cell_p4 {o : Nat} {S : dg_S} {a1 : Int32} {a2 : Int32} {a3 : Int32} {S_15 : dg_S} {x_7 : Int32} {x_10 : Int32} {x_11 : Int32} {x_24 : Int32} (h0 : x_7 = F_m_isCell o S a1 a2) (h1 : ¬ (x_7 = (0 : Int32))) (h2 : x_10 = (8 : Int32) * a2) (h3 : x_11 = x_10 + a1) (h4 : S_15 = F_m_measures o S (0 : Int32)) (h5 : ¬ (a3 = (0 : Int32))) (h6 : ¬ (a3 = (1 : Int32))) (h7 : a3 = (2 : Int32)) (h8 : x_24 = F_m_isLit o S_15 (0 : Int32) x_11) (h9 : x_24 = (0 : Int32)) : F_m_cell o S a1 a2 a3 = (S_15, (0 : Int32)) := by
  replace h0 := Eq.symm h0
  subst h0
  replace h2 := Eq.symm h2
  subst h2
  replace h3 := Eq.symm h3
  subst h3
  replace h4 := Eq.symm h4
  subst h4
  replace h8 := Eq.symm h8
  subst h8
  exact (Eq.trans (if_neg h1) (Eq.trans (if_neg h5) (Eq.trans (if_neg h6) (Eq.trans (if_pos h7) (Eq.trans (if_pos h9) rfl)))))
theorem F_m_cell_p5 {o : Nat} {S : dg_S} {a1 : Int32} {a2 : Int32} {a3 : Int32} {S_15 : dg_S} {x_7 : Int32} {x_10 : Int32} {x_11 : Int32} {x_24 : Int32} (h0 : x_7 = F_m_isCell o S a1 a2) (h1 : ¬ (x_7 = (0 : Int32))) (h2 : x_10 = (8 : Int32) * a2) (h3 : x_11 = x_10 + a1) (h4 : S_15 = F_m_measures o S (0 : Int32)) (h5 : ¬ (a3 = (0 : Int32))) (h6 : ¬ (a3 = (1 : Int32))) (h7 : a3 = (2 : Int32)) (h8 : x_24 = F_m_isLit o S_15 (0 : Int32) x_11) (h9 : ¬ (x_24 = (0 : Int32))) : F_m_cell o S a1 a2 a3 = (S_15, (1 : Int32)) := by
  replace h0 := Eq.symm h0
  subst h0
  replace h2 := Eq.symm h2
  subst h2
  replace h3 := Eq.symm h3
  subst h3
  replace h4 := Eq.symm h4
  subst h4
  replace h8 := Eq.symm h8
  subst h8
  exact (Eq.trans (if_neg h1) (Eq.trans (if_neg h5) (Eq.trans (if_neg h6) (Eq.trans (if_pos h7) (Eq.trans (if_neg h9) rfl)))))
theorem F_m_cell_p6 {o : Nat} {S : dg_S} {a1 : Int32} {a2 : Int32} {a3 : Int32} {S_15 : dg_S} {x_28 : Int32} {x_7 : Int32} {x_10 : Int32} {x_11 : Int32} (h0 : x_7 = F_m_isCell o S a1 a2) (h1 : ¬ (x_7 = (0 : Int32))) (h2 : x_10 = (8 : Int32) * a2) (h3 : x_11 = x_10 + a1) (h4 : S_15 = F_m_measures o S (0 : Int32)) (h5 : ¬ (a3 = (0 : Int32))) (h6 : ¬ (a3 = (1 : Int32))) (h7 : ¬ (a3 = (2 : Int32))) (h8 : a3 = (3 : Int32)) (h9 : x_28 = S_15.2.1 32 (x_11 : Int32).toNatClampNeg) : F_m_cell o S a1 a2 a3 = (S_15, x_28) := by
  replace h0 := Eq.symm h0
  subst h0
  replace h2 := Eq.symm h2
  subst h2
  replace h3 := Eq.symm h3
  subst h3
  replace h4 := Eq.symm h4
  subst h4
  replace h9 := Eq.symm h9
  subst h9
  exact (Eq.trans (if_neg h1) (Eq.trans (if_neg h5) (Eq.trans (if_neg h6) (Eq.trans (if_neg h7) (Eq.trans (if_pos h8) rfl)))))
theorem F_m_cell_p7 {o : Nat} {S : dg_S} {a1 : Int32} {a2 : Int32} {a3 : Int32} {S_15 : dg_S} {x_7 : Int32} {x_10 : Int32} {x_11 : Int32} {x_30 : Int32} (h0 : x_7 = F_m_isCell o S a1 a2) (h1 : ¬ (x_7 = (0 : Int32))) (h2 : x_10 = (8 : Int32) * a2) (h3 : x_11 = x_10 + a1) (h4 : S_15 = F_m_measures o S (0 : Int32)) (h5 : ¬ (a3 = (0 : Int32))) (h6 : ¬ (a3 = (1 : Int32))) (h7 : ¬ (a3 = (2 : Int32))) (h8 : ¬ (a3 = (3 : Int32))) (h9 : a3 = (4 : Int32)) (h10 : x_30 = F_m_isOpen o S_15 (0 : Int32) x_11) (h11 : x_30 = (0 : Int32)) : F_m_cell o S a1 a2 a3 = (S_15, (-1 : Int32)) := by
  replace h0 := Eq.symm h0
  subst h0
  replace h2 := Eq.symm h2
  subst h2
  replace h3 := Eq.symm h3
  subst h3
  replace h4 := Eq.symm h4
  subst h4
  replace h10 := Eq.symm h10
  subst h10
  exact (Eq.trans (if_neg h1) (Eq.trans (if_neg h5) (Eq.trans (if_neg h6) (Eq.trans (if_neg h7) (Eq.trans (if_neg h8) (Eq.trans (if_pos h9) (Eq.trans (if_pos h11) rfl)))))))
theorem F_m_cell_p8 {o : Nat} {S : dg_S} {a1 : Int32} {a2 : Int32} {a3 : Int32} {S_15 : dg_S} {x_7 : Int32} {x_10 : Int32} {x_11 : Int32} {x_30 : Int32} {x_34 : Int32} (h0 : x_7 = F_m_isCell o S a1 a2) (h1 : ¬ (x_7 = (0 : Int32))) (h2 : x_10 = (8 : Int32) * a2) (h3 : x_11 = x_10 + a1) (h4 : S_15 = F_m_measures o S (0 : Int32)) (h5 : ¬ (a3 = (0 : Int32))) (h6 : ¬ (a3 = (1 : Int32))) (h7 : ¬ (a3 = (2 : Int32))) (h8 : ¬ (a3 = (3 : Int32))) (h9 : a3 = (4 : Int32)) (h10 : x_30 = F_m_isOpen o S_15 (0 : Int32) x_11) (h11 : ¬ (x_30 = (0 : Int32))) (h12 : x_34 = S_15.2.1 42 (x_11 : Int32).toNatClampNeg) (h13 : (100000000 : Int32) ≤ x_34) : F_m_cell o S a1 a2 a3 = (S_15, (-1 : Int32)) := by
  replace h0 := Eq.symm h0
  subst h0
  replace h2 := Eq.symm h2
  subst h2
  replace h3 := Eq.symm h3
  subst h3
  replace h4 := Eq.symm h4
  subst h4
  replace h10 := Eq.symm h10
  subst h10
  replace h12 := Eq.symm h12
  subst h12
  exact (Eq.trans (if_neg h1) (Eq.trans (if_neg h5) (Eq.trans (if_neg h6) (Eq.trans (if_neg h7) (Eq.trans (if_neg h8) (Eq.trans (if_pos h9) (Eq.trans (if_neg h11) (Eq.trans (if_pos h13) rfl))))))))
theorem F_m_cell_p9 {o : Nat} {S : dg_S} {a1 : Int32} {a2 : Int32} {a3 : Int32} {S_15 : dg_S} {x_34 : Int32} {x_7 : Int32} {x_10 : Int32} {x_11 : Int32} {x_30 : Int32} (h0 : x_7 = F_m_isCell o S a1 a2) (h1 : ¬ (x_7 = (0 : Int32))) (h2 : x_10 = (8 : Int32) * a2) (h3 : x_11 = x_10 + a1) (h4 : S_15 = F_m_measures o S (0 : Int32)) (h5 : ¬ (a3 = (0 : Int32))) (h6 : ¬ (a3 = (1 : Int32))) (h7 : ¬ (a3 = (2 : Int32))) (h8 : ¬ (a3 = (3 : Int32))) (h9 : a3 = (4 : Int32)) (h10 : x_30 = F_m_isOpen o S_15 (0 : Int32) x_11) (h11 : ¬ (x_30 = (0 : Int32))) (h12 : x_34 = S_15.2.1 42 (x_11 : Int32).toNatClampNeg) (h13 : ¬ ((100000000 : Int32) ≤ x_34)) : F_m_cell o S a1 a2 a3 = (S_15, x_34) := by
  replace h0 := Eq.symm h0
  subst h0
  replace h2 := Eq.symm h2
  subst h2
  replace h3 := Eq.symm h3
  subst h3
  replace h4 := Eq.symm h4
  subst h4
  replace h10 := Eq.symm h10
  subst h10
  replace h12 := Eq.symm h12
  subst h12
  exact (Eq.trans (if_neg h1) (Eq.trans (if_neg h5) (Eq.trans (if_neg h6) (Eq.trans (if_neg h7) (Eq.trans (if_neg h8) (Eq.trans (if_pos h9) (Eq.trans (if_neg h11) (Eq.trans (if_neg h13) rfl))))))))
theorem F_m_cell_p10 {o : Nat} {S : dg_S} {a1 : Int32} {a2 : Int32} {a3 : Int32} {S_15 : dg_S} {x_7 : Int32} {x_10 : Int32} {x_11 : Int32} {x_39 : Int32} (h0 : x_7 = F_m_isCell o S a1 a2) (h1 : ¬ (x_7 = (0 : Int32))) (h2 : x_10 = (8 : Int32) * a2) (h3 : x_11 = x_10 + a1) (h4 : S_15 = F_m_measures o S (0 : Int32)) (h5 : ¬ (a3 = (0 : Int32))) (h6 : ¬ (a3 = (1 : Int32))) (h7 : ¬ (a3 = (2 : Int32))) (h8 : ¬ (a3 = (3 : Int32))) (h9 : ¬ (a3 = (4 : Int32))) (h10 : a3 = (5 : Int32)) (h11 : x_39 = F_m_canDig o S_15 (0 : Int32) x_11) (h12 : x_39 = (0 : Int32)) : F_m_cell o S a1 a2 a3 = (S_15, (0 : Int32)) := by
  replace h0 := Eq.symm h0
  subst h0
  replace h2 := Eq.symm h2
  subst h2
  replace h3 := Eq.symm h3
  subst h3
  replace h4 := Eq.symm h4
  subst h4
  replace h11 := Eq.symm h11
  subst h11
  exact (Eq.trans (if_neg h1) (Eq.trans (if_neg h5) (Eq.trans (if_neg h6) (Eq.trans (if_neg h7) (Eq.trans (if_neg h8) (Eq.trans (if_neg h9) (Eq.trans (if_pos h10) (Eq.trans (if_pos h12) rfl))))))))
theorem F_m_cell_p11 {o : Nat} {S : dg_S} {a1 : Int32} {a2 : Int32} {a3 : Int32} {S_44 : dg_S} {x_7 : Int32} {x_10 : Int32} {x_11 : Int32} {S_15 : dg_S} {x_39 : Int32} {x_43 : Int32} (h0 : x_7 = F_m_isCell o S a1 a2) (h1 : ¬ (x_7 = (0 : Int32))) (h2 : x_10 = (8 : Int32) * a2) (h3 : x_11 = x_10 + a1) (h4 : S_15 = F_m_measures o S (0 : Int32)) (h5 : ¬ (a3 = (0 : Int32))) (h6 : ¬ (a3 = (1 : Int32))) (h7 : ¬ (a3 = (2 : Int32))) (h8 : ¬ (a3 = (3 : Int32))) (h9 : ¬ (a3 = (4 : Int32))) (h10 : a3 = (5 : Int32)) (h11 : x_39 = F_m_canDig o S_15 (0 : Int32) x_11) (h12 : ¬ (x_39 = (0 : Int32))) (h13 : S_44 = (F_m_isFalling o S_15 (0 : Int32) x_11).1) (h14 : x_43 = (F_m_isFalling o S_15 (0 : Int32) x_11).2) (h15 : ¬ (x_43 = (0 : Int32))) : F_m_cell o S a1 a2 a3 = (S_44, (0 : Int32)) := by
  replace h0 := Eq.symm h0
  subst h0
  replace h2 := Eq.symm h2
  subst h2
  replace h3 := Eq.symm h3
  subst h3
  replace h4 := Eq.symm h4
  subst h4
  replace h11 := Eq.symm h11
  subst h11
  replace h13 := Eq.symm h13
  subst h13
  replace h14 := Eq.symm h14
  subst h14
  exact (Eq.trans (if_neg h1) (Eq.trans (if_neg h5) (Eq.trans (if_neg h6) (Eq.trans (if_neg h7) (Eq.trans (if_neg h8) (Eq.trans (if_neg h9) (Eq.trans (if_pos h10) (Eq.trans (if_neg h12) (Eq.trans (if_neg h15) rfl)))))))))
theorem F_m_cell_p12 {o : Nat} {S : dg_S} {a1 : Int32} {a2 : Int32} {a3 : Int32} {S_44 : dg_S} {x_7 : Int32} {x_10 : Int32} {x_11 : Int32} {S_15 : dg_S} {x_39 : Int32} {x_43 : Int32} (h0 : x_7 = F_m_isCell o S a1 a2) (h1 : ¬ (x_7 = (0 : Int32))) (h2 : x_10 = (8 : Int32) * a2) (h3 : x_11 = x_10 + a1) (h4 : S_15 = F_m_measures o S (0 : Int32)) (h5 : ¬ (a3 = (0 : Int32))) (h6 : ¬ (a3 = (1 : Int32))) (h7 : ¬ (a3 = (2 : Int32))) (h8 : ¬ (a3 = (3 : Int32))) (h9 : ¬ (a3 = (4 : Int32))) (h10 : a3 = (5 : Int32)) (h11 : x_39 = F_m_canDig o S_15 (0 : Int32) x_11) (h12 : ¬ (x_39 = (0 : Int32))) (h13 : S_44 = (F_m_isFalling o S_15 (0 : Int32) x_11).1) (h14 : x_43 = (F_m_isFalling o S_15 (0 : Int32) x_11).2) (h15 : x_43 = (0 : Int32)) : F_m_cell o S a1 a2 a3 = (S_44, (1 : Int32)) := by
  replace h0 := Eq.symm h0
  subst h0
  replace h2 := Eq.symm h2
  subst h2
  replace h3 := Eq.symm h3
  subst h3
  replace h4 := Eq.symm h4
  subst h4
  replace h11 := Eq.symm h11
  subst h11
  replace h13 := Eq.symm h13
  subst h13
  replace h14 := Eq.symm h14
  subst h14
  exact (Eq.trans (if_neg h1) (Eq.trans (if_neg h5) (Eq.trans (if_neg h6) (Eq.trans (if_neg h7) (Eq.trans (if_neg h8) (Eq.trans (if_neg h9) (Eq.trans (if_pos h10) (Eq.trans (if_neg h12) (Eq.trans (if_pos h15) rfl)))))))))
theorem F_m_cell_p13 {o : Nat} {S : dg_S} {a1 : Int32} {a2 : Int32} {a3 : Int32} {x_7 : Int32} (h0 : x_7 = F_m_isCell o S a1 a2) (h1 : x_7 = (0 : Int32)) : F_m_cell o S a1 a2 a3 = (S, (-1 : Int32)) := by
  replace h0 := Eq.symm h0
  subst h0
  exact (Eq.trans (if_pos h1) rfl)
set_option maxHeartbeats 8000000 in
set_option maxRecDepth 100000 in
theorem c_m_cell (l : Launch) (g : Nat → ClassId) (D : va_G) (o : Nat) (S : dg_S) (a1 : Int32) (a2 : Int32) (a3 : Int32) (ZB : ZBM S) (ZW : ZWM S) (I : CM o S) (sz : Nat) : Met l yX12_cell (bw yX12_cell cX12_cell 5 (some .int)) ({ frames := 7, cells := 0, slots := 0, locals := 169 } : Room) (dk_Pc g D (dg_w g shM o rfM S) sz [.ref (o + 0), .int a1, .int a2, .int a3]) (va_Qi (fun (r : Int32) S' => CM o S' ∧ dg_sm shM [] [40, 41, 42, 43] S S' ∧ (S' = (F_m_cell o S a1 a2 a3).1 ∧ r = (F_m_cell o S a1 a2 a3).2) ∧ True) (dg_B g D shM o rfM) (dg_A o shM.length sz)) 0 0 (dg_A o shM.length sz) := by
  refine dg_met (cc := cX12_cell) (maxL := 5) (ret := (some .int)) (dk_dq rfl) rfl (Nat.le_of_ble_eq_true rfl) ?_
  intro p e s m args below meth c A hAe harg hx hb hr hml hts hown hlocks hin hP K hS hA1 hA ST hsz ls hl
  rw [← hAe]
  have F : CallFix p m c cX12_cell 5 s args (bw yX12_cell cX12_cell 5 (some .int)) RX12 := ⟨hx, hb, hml, hown, hts⟩
  have hl : lv_has ls 5 [(0, .ref (o + 0)), (1, .int a1), (2, .int a2), (3, .int a3)] := hl
  have M_0 : dg_sm shM [] [40, 41, 42, 43] S S := dg_sm.rf
  refine lv_aload_n hx hb dX12_cell_0 rfl (lv_at hl 0 rfl) ?_
  refine lv_iload_n hx hb dX12_cell_1 rfl (lv_at hl 1 rfl) ?_
  refine lv_iload_n hx hb dX12_cell_2 rfl (lv_at hl 2 rfl) ?_
  obtain ⟨x_1, f_x_1, b_x_1⟩ := dg_I.int (i := 0) (k := 13) (lo := 0) (hi := 1) I sM_0 (by decide +kernel)
  obtain ⟨x_2, f_x_2, b_x_2⟩ := dg_I.int (i := 0) (k := 47) (lo := 0) (hi := 1) I sM_0 (by decide +kernel)
  obtain ⟨x_3, f_x_3⟩ : ∃ x, S.2.1 2 (x_1 : Int32).toNatClampNeg = x := ⟨_, rfl⟩
  have hin_4 : vp_in (x_1 : Int32) 2 := (dk_inv2 (by omega))
  have b_x_3 := dk_all_at (dg_I.row (lo := 0) (hi := 9999) I sM_2 (by decide +kernel)) hin_4 f_x_3.symm
  have ex_3 := f_x_3.symm
  have zb_x_3 : (x_3).toInt ≤ 7 ∧ ((x_2 : Int32).toInt = 1 → 3 ≤ (x_3).toInt) := by rw [ex_3]; exact ⟨(ZB x_1 x_2 f_x_1 f_x_2).1, fun h9 => ((ZB x_1 x_2 f_x_1 f_x_2).2.2.2 h9).1⟩
  obtain ⟨x_5, f_x_5⟩ : ∃ x, S.2.1 3 (x_1 : Int32).toNatClampNeg = x := ⟨_, rfl⟩
  have hin_6 : vp_in (x_1 : Int32) 2 := (dk_inv2 (by omega))
  have b_x_5 := dk_all_at (dg_I.row (lo := 0) (hi := 9999) I sM_3 (by decide +kernel)) hin_6 f_x_5.symm
  have ex_5 := f_x_5.symm
  have zb_x_5 : (x_5).toInt ≤ 7 ∧ ((x_2 : Int32).toInt = 1 → 3 ≤ (x_5).toInt) := by rw [ex_5]; exact ⟨(ZB x_1 x_2 f_x_1 f_x_2).2.1, fun h9 => ((ZB x_1 x_2 f_x_1 f_x_2).2.2.2 h9).2⟩
  refine dg_calli hS hA1 hA (va_runV (As := [.int a1, .int a2]) (rest := []) F (c_m_isCell l g D o S a1 a2 x_1 f_x_1 (by omega) x_2 f_x_2 (by omega) x_3 f_x_3 (by omega) x_5 f_x_5 (by omega) ZB I s.heap.size) (cwV 2 hts (bw_V wB_1087 wB_1088 wB_1089 wB_297 wB_1086) rfl rfl rfl (by decide +kernel) ⟨Nat.le_of_ble_eq_true rfl, Nat.le_of_ble_eq_true rfl⟩) (dg_preV sM_0 rfl K ST hP hS hA1 hA) rfl rfl hl.1 rfl (lv_room (Nat.le_of_ble_eq_true rfl)) dX12_cell_3 ⟨Nat.le_of_ble_eq_true rfl, Nat.le_of_ble_eq_true rfl⟩) (fun x_7 S_8 hw_8 H locs hP hS => ?_)
  rw [hw_8.1] at hP
  obtain ⟨hq_8, w_8_0, w_8_1, w_8_2, w_8_3, -⟩ := hw_8
  have w_8_0 : 0 ≤ (x_7).toInt ∧ (x_7).toInt ≤ 1 := w_8_0
  have w_8_1 : (x_7).toInt = 1 → (0 ≤ (a1).toInt ∧ (a1).toInt ≤ 6 ∧ 0 ≤ (a2).toInt ∧ (a2).toInt ≤ 6) := w_8_1
  have w_8_2 : (x_7).toInt = 1 ↔ ((x_2).toInt = 1 ∧ 0 ≤ (a1).toInt ∧ (a1).toInt < (x_3).toInt ∧ 0 ≤ (a2).toInt ∧ (a2).toInt < (x_5).toInt) := w_8_2
  refine lv_if_ne (tgt := 11) hx hb dX12_cell_6 (dk_dq rfl) (fun c_9 => ?_) (fun c_9 => ?_)
  · as_aux_lemma =>
      have jc_9 := dk_neqc (k := 0) (by decide +kernel) c_9
      refine lv_bipush (v := 8) hx hb dX12_cell_11 (by decide +kernel) ?_
      refine lv_iload_n hx hb dX12_cell_13 rfl (lv_at hl 2 rfl) ?_
      refine lv_imul hx hb dX12_cell_14 ?_
      refine lv_topi (fun x_10 ex_10 => ?_)
      have jx_10 : (x_10).toInt = 8 * (a2).toInt := by rw [ex_10]; exact dk_mulT2 (by decide +kernel) rfl (by omega)
      refine lv_iload_n hx hb dX12_cell_15 rfl (lv_at hl 1 rfl) ?_
      refine lv_iadd hx hb dX12_cell_16 ?_
      refine lv_topi (fun x_11 ex_11 => ?_)
      have jx_11 : (x_11).toInt = (x_10).toInt + (a1).toInt := by rw [ex_11]; exact dk_addT2 rfl rfl (by omega)
      refine lv_istore (lv' := [(4, .int x_11), (0, .ref (o + 0)), (1, .int a1), (2, .int a2), (3, .int a3)]) hx hb dX12_cell_17 hl (dk_dq rfl) rfl (fun ls hl => ?_)
      refine lv_aload_n hx hb dX12_cell_19 rfl (lv_at hl 1 rfl) ?_
      refine lv_iconst (v := 0) hx hb dX12_cell_20 (by decide +kernel) ?_
      have hz_12 : (0 : Int32).toInt = 0 := by decide +kernel
      obtain ⟨x_13, f_x_13⟩ : ∃ x, S.2.1 4 (x_1 : Int32).toNatClampNeg = x := ⟨_, rfl⟩
      have hin_14 : vp_in (x_1 : Int32) 2 := (dk_inv2 (by omega))
      have b_x_13 := dk_all_at (dg_I.row (lo := 0) (hi := 9999) I sM_4 (by decide +kernel)) hin_14 f_x_13.symm
      have ex_13 := f_x_13.symm
      have zb_x_13 : (x_13).toInt ≤ 63 := by rw [ex_13]; exact (ZB x_1 x_2 f_x_1 f_x_2).2.2.1
      refine dg_callv hS hA1 hA (va_runV (As := [.int 0]) (rest := []) F (c_m_measures l g D o S 0 (by decide +kernel) x_1 f_x_1 (by omega) x_13 f_x_13 (by omega) ZB I H.size) (cwV 1 hts (bw_V wB_1161 wB_1162 wB_1163 wB_297 wB_1160) rfl rfl rfl (by decide +kernel) ⟨Nat.le_of_ble_eq_true rfl, Nat.le_of_ble_eq_true rfl⟩) (dg_preV sM_0 rfl K ST hP hS hA1 hA) rfl rfl hl.1 rfl (lv_room (Nat.le_of_ble_eq_true rfl)) dX12_cell_21 ⟨Nat.le_of_ble_eq_true rfl, Nat.le_of_ble_eq_true rfl⟩) (fun S_15 hw_15 H locs hP hS => ?_)
      obtain ⟨I_15, m_15, w_15_0, -⟩ := hw_15
      have M_15 := dg_sm.tr M_0 m_15 (dk_dq rfl) (dk_dq rfl)
      refine lv_iload_n hx hb dX12_cell_24 rfl (lv_at hl 4 rfl) ?_
      rcases (show ((a3).toInt < 0 ∨ 5 < (a3).toInt) ∨ (a3).toInt = 0 ∨ (a3).toInt = 1 ∨ (a3).toInt = 2 ∨ (a3).toInt = 3 ∨ (a3).toInt = 4 ∨ (a3).toInt = 5 by omega) with jc_16 | jc_16 | jc_16 | jc_16 | jc_16 | jc_16 | jc_16
      · refine lv_tableOut (tgt := 173) hx hb dX12_cell_25 jc_16 (dk_dq rfl) ?_
        refine lv_iconst (v := (-1)) hx hb dX12_cell_173 (by decide +kernel) ?_
        refine W.widen (k := 0) (n := 0) (Nat.le_of_ble_eq_true rfl) (Nat.le_of_ble_eq_true rfl) ?_
        exact dg_iret hx hb hr hlocks rfl hP hS ⟨I_15, M_15, ⟨congrArg Prod.fst (Eq.symm (F_m_cell_p0 w_8_3 c_9 w_15_0 (dk_neO jc_16 (k := 0) (b := 0) (by decide +kernel) (dk_dq rfl)) (dk_neO jc_16 (k := 1) (b := 1) (by decide +kernel) (dk_dq rfl)) (dk_neO jc_16 (k := 2) (b := 2) (by decide +kernel) (dk_dq rfl)) (dk_neO jc_16 (k := 3) (b := 3) (by decide +kernel) (dk_dq rfl)) (dk_neO jc_16 (k := 4) (b := 4) (by decide +kernel) (dk_dq rfl)) (dk_neO jc_16 (k := 5) (b := 5) (by decide +kernel) (dk_dq rfl)))), congrArg Prod.snd (Eq.symm (F_m_cell_p0 w_8_3 c_9 w_15_0 (dk_neO jc_16 (k := 0) (b := 0) (by decide +kernel) (dk_dq rfl)) (dk_neO jc_16 (k := 1) (b := 1) (by decide +kernel) (dk_dq rfl)) (dk_neO jc_16 (k := 2) (b := 2) (by decide +kernel) (dk_dq rfl)) (dk_neO jc_16 (k := 3) (b := 3) (by decide +kernel) (dk_dq rfl)) (dk_neO jc_16 (k := 4) (b := 4) (by decide +kernel) (dk_dq rfl)) (dk_neO jc_16 (k := 5) (b := 5) (by decide +kernel) (dk_dq rfl))))⟩, trivial⟩ dX12_cell_174
      · refine lv_tableIn (off := 39) (tgt := 64) hx hb dX12_cell_25 (by rw [jc_16]; decide) (by rw [jc_16]; decide) (by rw [jc_16]; decide +kernel) (dk_dq rfl) ?_
        refine lv_aload_n hx hb dX12_cell_64 rfl (lv_at hl 1 rfl) ?_
        refine dg_get (C := RX12) (T := TX12) (N := 77) hx hb hts (fun w h => bw_mem (wU_X12 w h)) hown K hP sM_0 rfl 51 (dk_dq rfl) (hts _ (bw_mem wB_1090)) (fun _ h9 => h9) (v := .ref (o + 31)) (show S_15.1 0 51 = .ref (o + 31) from dg_I.rel (d := 31) I_15 sM_0 (by decide +kernel)) dX12_cell_65 ?_
        refine lv_iload hx hb dX12_cell_68 (lv_at hl 0 rfl) ?_
        have hin_17 : vp_in x_11 1408 := (dk_inv2 (by omega))
        refine dg_iald hx hb K hP sM_31 hin_17 dX12_cell_70 (fun x_18 ex_18 => ?_)
        have b_x_18 := dk_all_at (dg_I.row (lo := (-1)) (hi := 9) I_15 sM_31 (by decide +kernel)) hin_17 ex_18
        refine W.widen (k := 0) (n := 0) (Nat.le_of_ble_eq_true rfl) (Nat.le_of_ble_eq_true rfl) ?_
        exact dg_iret hx hb hr hlocks rfl hP hS ⟨I_15, M_15, ⟨congrArg Prod.fst (Eq.symm (F_m_cell_p1 w_8_3 c_9 ex_10 ex_11 w_15_0 (dk_eqT jc_16 (k := 0) (by decide +kernel)) (Eq.symm ex_18.symm))), congrArg Prod.snd (Eq.symm (F_m_cell_p1 w_8_3 c_9 ex_10 ex_11 w_15_0 (dk_eqT jc_16 (k := 0) (by decide +kernel)) (Eq.symm ex_18.symm)))⟩, trivial⟩ dX12_cell_71
      · as_aux_lemma =>
          refine lv_tableIn (off := 47) (tgt := 72) hx hb dX12_cell_25 (by rw [jc_16]; decide) (by rw [jc_16]; decide) (by rw [jc_16]; decide +kernel) (dk_dq rfl) ?_
          refine lv_aload_n hx hb dX12_cell_72 rfl (lv_at hl 1 rfl) ?_
          refine lv_iconst (v := 0) hx hb dX12_cell_73 (by decide +kernel) ?_
          refine lv_iload hx hb dX12_cell_74 (lv_at hl 0 rfl) ?_
          have hz_19 : (0 : Int32).toInt = 0 := by decide +kernel
          refine dg_calli hS hA1 hA (va_runV (As := [.int 0, .int x_11]) (rest := []) F (c_m_isOpen l g D o S_15 0 (by decide +kernel) x_11 (by omega) I_15 H.size) (cwV 2 hts (bw_V wB_1092 wB_1093 wB_1094 wB_297 wB_1091) rfl rfl rfl (by decide +kernel) ⟨Nat.le_of_ble_eq_true rfl, Nat.le_of_ble_eq_true rfl⟩) (dg_preV sM_0 rfl K ST hP hS hA1 hA) rfl rfl hl.1 rfl (lv_room (Nat.le_of_ble_eq_true rfl)) dX12_cell_76 ⟨Nat.le_of_ble_eq_true rfl, Nat.le_of_ble_eq_true rfl⟩) (fun x_20 S_21 hw_21 H locs hP hS => ?_)
          rw [hw_21.1] at hP
          obtain ⟨hq_21, w_21_0, w_21_1, -⟩ := hw_21
          have w_21_0 : 0 ≤ (x_20).toInt ∧ (x_20).toInt ≤ 1 := w_21_0
          refine lv_if_eq (tgt := 86) hx hb dX12_cell_79 (dk_dq rfl) (fun c_22 => ?_) (fun c_22 => ?_)
          · have jc_22 := dk_eqc (k := 0) (by decide +kernel) c_22
            refine lv_iconst (v := 0) hx hb dX12_cell_86 (by decide +kernel) ?_
            refine W.widen (k := 0) (n := 0) (Nat.le_of_ble_eq_true rfl) (Nat.le_of_ble_eq_true rfl) ?_
            exact dg_iret hx hb hr hlocks rfl hP hS ⟨I_15, M_15, ⟨congrArg Prod.fst (Eq.symm (F_m_cell_p2 w_8_3 c_9 ex_10 ex_11 w_15_0 (dk_neT jc_16 (k := 0) (b := 0) (by decide +kernel) (dk_dq rfl)) (dk_eqT jc_16 (k := 1) (by decide +kernel)) w_21_1 c_22)), congrArg Prod.snd (Eq.symm (F_m_cell_p2 w_8_3 c_9 ex_10 ex_11 w_15_0 (dk_neT jc_16 (k := 0) (b := 0) (by decide +kernel) (dk_dq rfl)) (dk_eqT jc_16 (k := 1) (by decide +kernel)) w_21_1 c_22))⟩, trivial⟩ dX12_cell_87
          · have jc_22 := dk_neqc (k := 0) (by decide +kernel) c_22
            refine lv_iconst (v := 1) hx hb dX12_cell_82 (by decide +kernel) ?_
            refine lv_goto (tgt := 87) hx hb dX12_cell_83 (dk_dq rfl) ?_
            refine W.widen (k := 0) (n := 0) (Nat.le_of_ble_eq_true rfl) (Nat.le_of_ble_eq_true rfl) ?_
            exact dg_iret hx hb hr hlocks rfl hP hS ⟨I_15, M_15, ⟨congrArg Prod.fst (Eq.symm (F_m_cell_p3 w_8_3 c_9 ex_10 ex_11 w_15_0 (dk_neT jc_16 (k := 0) (b := 0) (by decide +kernel) (dk_dq rfl)) (dk_eqT jc_16 (k := 1) (by decide +kernel)) w_21_1 c_22)), congrArg Prod.snd (Eq.symm (F_m_cell_p3 w_8_3 c_9 ex_10 ex_11 w_15_0 (dk_neT jc_16 (k := 0) (b := 0) (by decide +kernel) (dk_dq rfl)) (dk_eqT jc_16 (k := 1) (by decide +kernel)) w_21_1 c_22))⟩, trivial⟩ dX12_cell_87
      · as_aux_lemma =>
          refine lv_tableIn (off := 63) (tgt := 88) hx hb dX12_cell_25 (by rw [jc_16]; decide) (by rw [jc_16]; decide) (by rw [jc_16]; decide +kernel) (dk_dq rfl) ?_
          refine lv_aload_n hx hb dX12_cell_88 rfl (lv_at hl 1 rfl) ?_
          refine lv_iconst (v := 0) hx hb dX12_cell_89 (by decide +kernel) ?_
          refine lv_iload hx hb dX12_cell_90 (lv_at hl 0 rfl) ?_
          have hz_23 : (0 : Int32).toInt = 0 := by decide +kernel
          refine dg_calli hS hA1 hA (va_runV (As := [.int 0, .int x_11]) (rest := []) F (c_m_isLit l g D o S_15 0 (by decide +kernel) x_11 (by omega) I_15 H.size) (cwV 2 hts (bw_V wB_1104 wB_1105 wB_1106 wB_297 wB_1103) rfl rfl rfl (by decide +kernel) ⟨Nat.le_of_ble_eq_true rfl, Nat.le_of_ble_eq_true rfl⟩) (dg_preV sM_0 rfl K ST hP hS hA1 hA) rfl rfl hl.1 rfl (lv_room (Nat.le_of_ble_eq_true rfl)) dX12_cell_92 ⟨Nat.le_of_ble_eq_true rfl, Nat.le_of_ble_eq_true rfl⟩) (fun x_24 S_25 hw_25 H locs hP hS => ?_)
          rw [hw_25.1] at hP
          obtain ⟨hq_25, w_25_0, w_25_1, -⟩ := hw_25
          have w_25_0 : 0 ≤ (x_24).toInt ∧ (x_24).toInt ≤ 1 := w_25_0
          refine lv_if_eq (tgt := 102) hx hb dX12_cell_95 (dk_dq rfl) (fun c_26 => ?_) (fun c_26 => ?_)
          · have jc_26 := dk_eqc (k := 0) (by decide +kernel) c_26
            refine lv_iconst (v := 0) hx hb dX12_cell_102 (by decide +kernel) ?_
            refine W.widen (k := 0) (n := 0) (Nat.le_of_ble_eq_true rfl) (Nat.le_of_ble_eq_true rfl) ?_
            exact dg_iret hx hb hr hlocks rfl hP hS ⟨I_15, M_15, ⟨congrArg Prod.fst (Eq.symm (F_m_cell_p4 w_8_3 c_9 ex_10 ex_11 w_15_0 (dk_neT jc_16 (k := 0) (b := 0) (by decide +kernel) (dk_dq rfl)) (dk_neT jc_16 (k := 1) (b := 1) (by decide +kernel) (dk_dq rfl)) (dk_eqT jc_16 (k := 2) (by decide +kernel)) w_25_1 c_26)), congrArg Prod.snd (Eq.symm (F_m_cell_p4 w_8_3 c_9 ex_10 ex_11 w_15_0 (dk_neT jc_16 (k := 0) (b := 0) (by decide +kernel) (dk_dq rfl)) (dk_neT jc_16 (k := 1) (b := 1) (by decide +kernel) (dk_dq rfl)) (dk_eqT jc_16 (k := 2) (by decide +kernel)) w_25_1 c_26))⟩, trivial⟩ dX12_cell_103
          · have jc_26 := dk_neqc (k := 0) (by decide +kernel) c_26
            refine lv_iconst (v := 1) hx hb dX12_cell_98 (by decide +kernel) ?_
            refine lv_goto (tgt := 103) hx hb dX12_cell_99 (dk_dq rfl) ?_
            refine W.widen (k := 0) (n := 0) (Nat.le_of_ble_eq_true rfl) (Nat.le_of_ble_eq_true rfl) ?_
            exact dg_iret hx hb hr hlocks rfl hP hS ⟨I_15, M_15, ⟨congrArg Prod.fst (Eq.symm (F_m_cell_p5 w_8_3 c_9 ex_10 ex_11 w_15_0 (dk_neT jc_16 (k := 0) (b := 0) (by decide +kernel) (dk_dq rfl)) (dk_neT jc_16 (k := 1) (b := 1) (by decide +kernel) (dk_dq rfl)) (dk_eqT jc_16 (k := 2) (by decide +kernel)) w_25_1 c_26)), congrArg Prod.snd (Eq.symm (F_m_cell_p5 w_8_3 c_9 ex_10 ex_11 w_15_0 (dk_neT jc_16 (k := 0) (b := 0) (by decide +kernel) (dk_dq rfl)) (dk_neT jc_16 (k := 1) (b := 1) (by decide +kernel) (dk_dq rfl)) (dk_eqT jc_16 (k := 2) (by decide +kernel)) w_25_1 c_26))⟩, trivial⟩ dX12_cell_103
      · refine lv_tableIn (off := 79) (tgt := 104) hx hb dX12_cell_25 (by rw [jc_16]; decide) (by rw [jc_16]; decide) (by rw [jc_16]; decide +kernel) (dk_dq rfl) ?_
        refine lv_aload_n hx hb dX12_cell_104 rfl (lv_at hl 1 rfl) ?_
        refine dg_get (C := RX12) (T := TX12) (N := 77) hx hb hts (fun w h => bw_mem (wU_X12 w h)) hown K hP sM_0 rfl 52 (dk_dq rfl) (hts _ (bw_mem wB_1097)) (fun _ h9 => h9) (v := .ref (o + 32)) (show S_15.1 0 52 = .ref (o + 32) from dg_I.rel (d := 32) I_15 sM_0 (by decide +kernel)) dX12_cell_105 ?_
        refine lv_iload hx hb dX12_cell_108 (lv_at hl 0 rfl) ?_
        have hin_27 : vp_in x_11 1408 := (dk_inv2 (by omega))
        refine dg_iald hx hb K hP sM_32 hin_27 dX12_cell_110 (fun x_28 ex_28 => ?_)
        refine W.widen (k := 0) (n := 0) (Nat.le_of_ble_eq_true rfl) (Nat.le_of_ble_eq_true rfl) ?_
        exact dg_iret hx hb hr hlocks rfl hP hS ⟨I_15, M_15, ⟨congrArg Prod.fst (Eq.symm (F_m_cell_p6 w_8_3 c_9 ex_10 ex_11 w_15_0 (dk_neT jc_16 (k := 0) (b := 0) (by decide +kernel) (dk_dq rfl)) (dk_neT jc_16 (k := 1) (b := 1) (by decide +kernel) (dk_dq rfl)) (dk_neT jc_16 (k := 2) (b := 2) (by decide +kernel) (dk_dq rfl)) (dk_eqT jc_16 (k := 3) (by decide +kernel)) (Eq.symm ex_28.symm))), congrArg Prod.snd (Eq.symm (F_m_cell_p6 w_8_3 c_9 ex_10 ex_11 w_15_0 (dk_neT jc_16 (k := 0) (b := 0) (by decide +kernel) (dk_dq rfl)) (dk_neT jc_16 (k := 1) (b := 1) (by decide +kernel) (dk_dq rfl)) (dk_neT jc_16 (k := 2) (b := 2) (by decide +kernel) (dk_dq rfl)) (dk_eqT jc_16 (k := 3) (by decide +kernel)) (Eq.symm ex_28.symm)))⟩, trivial⟩ dX12_cell_111
      · as_aux_lemma =>
          refine lv_tableIn (off := 87) (tgt := 112) hx hb dX12_cell_25 (by rw [jc_16]; decide) (by rw [jc_16]; decide) (by rw [jc_16]; decide +kernel) (dk_dq rfl) ?_
          refine lv_aload_n hx hb dX12_cell_112 rfl (lv_at hl 1 rfl) ?_
          refine lv_iconst (v := 0) hx hb dX12_cell_113 (by decide +kernel) ?_
          refine lv_iload hx hb dX12_cell_114 (lv_at hl 0 rfl) ?_
          have hz_29 : (0 : Int32).toInt = 0 := by decide +kernel
          refine dg_calli hS hA1 hA (va_runV (As := [.int 0, .int x_11]) (rest := []) F (c_m_isOpen l g D o S_15 0 (by decide +kernel) x_11 (by omega) I_15 H.size) (cwV 2 hts (bw_V wB_1092 wB_1093 wB_1094 wB_297 wB_1091) rfl rfl rfl (by decide +kernel) ⟨Nat.le_of_ble_eq_true rfl, Nat.le_of_ble_eq_true rfl⟩) (dg_preV sM_0 rfl K ST hP hS hA1 hA) rfl rfl hl.1 rfl (lv_room (Nat.le_of_ble_eq_true rfl)) dX12_cell_116 ⟨Nat.le_of_ble_eq_true rfl, Nat.le_of_ble_eq_true rfl⟩) (fun x_30 S_31 hw_31 H locs hP hS => ?_)
          rw [hw_31.1] at hP
          obtain ⟨hq_31, w_31_0, w_31_1, -⟩ := hw_31
          have w_31_0 : 0 ≤ (x_30).toInt ∧ (x_30).toInt ≤ 1 := w_31_0
          refine lv_if_eq (tgt := 145) hx hb dX12_cell_119 (dk_dq rfl) (fun c_32 => ?_) (fun c_32 => ?_)
          · have jc_32 := dk_eqc (k := 0) (by decide +kernel) c_32
            refine lv_iconst (v := (-1)) hx hb dX12_cell_145 (by decide +kernel) ?_
            refine W.widen (k := 0) (n := 0) (Nat.le_of_ble_eq_true rfl) (Nat.le_of_ble_eq_true rfl) ?_
            exact dg_iret hx hb hr hlocks rfl hP hS ⟨I_15, M_15, ⟨congrArg Prod.fst (Eq.symm (F_m_cell_p7 w_8_3 c_9 ex_10 ex_11 w_15_0 (dk_neT jc_16 (k := 0) (b := 0) (by decide +kernel) (dk_dq rfl)) (dk_neT jc_16 (k := 1) (b := 1) (by decide +kernel) (dk_dq rfl)) (dk_neT jc_16 (k := 2) (b := 2) (by decide +kernel) (dk_dq rfl)) (dk_neT jc_16 (k := 3) (b := 3) (by decide +kernel) (dk_dq rfl)) (dk_eqT jc_16 (k := 4) (by decide +kernel)) w_31_1 c_32)), congrArg Prod.snd (Eq.symm (F_m_cell_p7 w_8_3 c_9 ex_10 ex_11 w_15_0 (dk_neT jc_16 (k := 0) (b := 0) (by decide +kernel) (dk_dq rfl)) (dk_neT jc_16 (k := 1) (b := 1) (by decide +kernel) (dk_dq rfl)) (dk_neT jc_16 (k := 2) (b := 2) (by decide +kernel) (dk_dq rfl)) (dk_neT jc_16 (k := 3) (b := 3) (by decide +kernel) (dk_dq rfl)) (dk_eqT jc_16 (k := 4) (by decide +kernel)) w_31_1 c_32))⟩, trivial⟩ dX12_cell_146
          · as_aux_lemma =>
              have jc_32 := dk_neqc (k := 0) (by decide +kernel) c_32
              refine lv_aload_n hx hb dX12_cell_122 rfl (lv_at hl 1 rfl) ?_
              refine dg_get (C := RX12) (T := TX12) (N := 77) hx hb hts (fun w h => bw_mem (wU_X12 w h)) hown K hP sM_0 rfl 66 (dk_dq rfl) (hts _ (bw_mem wB_1095)) (fun _ h9 => h9) (v := .ref (o + 42)) (show S_15.1 0 66 = .ref (o + 42) from dg_I.rel (d := 42) I_15 sM_0 (by decide +kernel)) dX12_cell_123 ?_
              refine lv_iload hx hb dX12_cell_126 (lv_at hl 0 rfl) ?_
              have hin_33 : vp_in x_11 64 := (dk_inv2 (by omega))
              refine dg_iald hx hb K hP sM_42 hin_33 dX12_cell_128 (fun x_34 ex_34 => ?_)
              refine lv_ldcw hx hb hown (hts _ (bw_mem wB_1102)) dX12_cell_129 ?_
              refine lv_icmp_ge (tgt := 145) hx hb dX12_cell_132 (dk_dq rfl) (fun c_35 => ?_) (fun c_35 => ?_)
              · have jc_35 := dk_gec (k := 100000000) (by decide +kernel) c_35
                refine lv_iconst (v := (-1)) hx hb dX12_cell_145 (by decide +kernel) ?_
                refine W.widen (k := 0) (n := 0) (Nat.le_of_ble_eq_true rfl) (Nat.le_of_ble_eq_true rfl) ?_
                exact dg_iret hx hb hr hlocks rfl hP hS ⟨I_15, M_15, ⟨congrArg Prod.fst (Eq.symm (F_m_cell_p8 w_8_3 c_9 ex_10 ex_11 w_15_0 (dk_neT jc_16 (k := 0) (b := 0) (by decide +kernel) (dk_dq rfl)) (dk_neT jc_16 (k := 1) (b := 1) (by decide +kernel) (dk_dq rfl)) (dk_neT jc_16 (k := 2) (b := 2) (by decide +kernel) (dk_dq rfl)) (dk_neT jc_16 (k := 3) (b := 3) (by decide +kernel) (dk_dq rfl)) (dk_eqT jc_16 (k := 4) (by decide +kernel)) w_31_1 c_32 (Eq.symm ex_34.symm) c_35)), congrArg Prod.snd (Eq.symm (F_m_cell_p8 w_8_3 c_9 ex_10 ex_11 w_15_0 (dk_neT jc_16 (k := 0) (b := 0) (by decide +kernel) (dk_dq rfl)) (dk_neT jc_16 (k := 1) (b := 1) (by decide +kernel) (dk_dq rfl)) (dk_neT jc_16 (k := 2) (b := 2) (by decide +kernel) (dk_dq rfl)) (dk_neT jc_16 (k := 3) (b := 3) (by decide +kernel) (dk_dq rfl)) (dk_eqT jc_16 (k := 4) (by decide +kernel)) w_31_1 c_32 (Eq.symm ex_34.symm) c_35))⟩, trivial⟩ dX12_cell_146
              · have jc_35 := dk_ngec (k := 100000000) (by decide +kernel) c_35
                refine lv_aload_n hx hb dX12_cell_135 rfl (lv_at hl 1 rfl) ?_
                refine dg_get (C := RX12) (T := TX12) (N := 77) hx hb hts (fun w h => bw_mem (wU_X12 w h)) hown K hP sM_0 rfl 66 (dk_dq rfl) (hts _ (bw_mem wB_1095)) (fun _ h9 => h9) (v := .ref (o + 42)) (show S_15.1 0 66 = .ref (o + 42) from dg_I.rel (d := 42) I_15 sM_0 (by decide +kernel)) dX12_cell_136 ?_
                refine lv_iload hx hb dX12_cell_139 (lv_at hl 0 rfl) ?_
                have hin_36 : vp_in x_11 64 := (dk_inv2 (by omega))
                refine dg_iald hx hb K hP sM_42 hin_36 dX12_cell_141 (fun y_37 ey_37 => ?_)
                obtain rfl : x_34 = y_37 := (ey_37.trans ex_34.symm).symm
                refine lv_goto (tgt := 146) hx hb dX12_cell_142 (dk_dq rfl) ?_
                refine W.widen (k := 0) (n := 0) (Nat.le_of_ble_eq_true rfl) (Nat.le_of_ble_eq_true rfl) ?_
                exact dg_iret hx hb hr hlocks rfl hP hS ⟨I_15, M_15, ⟨congrArg Prod.fst (Eq.symm (F_m_cell_p9 w_8_3 c_9 ex_10 ex_11 w_15_0 (dk_neT jc_16 (k := 0) (b := 0) (by decide +kernel) (dk_dq rfl)) (dk_neT jc_16 (k := 1) (b := 1) (by decide +kernel) (dk_dq rfl)) (dk_neT jc_16 (k := 2) (b := 2) (by decide +kernel) (dk_dq rfl)) (dk_neT jc_16 (k := 3) (b := 3) (by decide +kernel) (dk_dq rfl)) (dk_eqT jc_16 (k := 4) (by decide +kernel)) w_31_1 c_32 (Eq.symm ex_34.symm) c_35)), congrArg Prod.snd (Eq.symm (F_m_cell_p9 w_8_3 c_9 ex_10 ex_11 w_15_0 (dk_neT jc_16 (k := 0) (b := 0) (by decide +kernel) (dk_dq rfl)) (dk_neT jc_16 (k := 1) (b := 1) (by decide +kernel) (dk_dq rfl)) (dk_neT jc_16 (k := 2) (b := 2) (by decide +kernel) (dk_dq rfl)) (dk_neT jc_16 (k := 3) (b := 3) (by decide +kernel) (dk_dq rfl)) (dk_eqT jc_16 (k := 4) (by decide +kernel)) w_31_1 c_32 (Eq.symm ex_34.symm) c_35))⟩, trivial⟩ dX12_cell_146
      · as_aux_lemma =>
          refine lv_tableIn (off := 122) (tgt := 147) hx hb dX12_cell_25 (by rw [jc_16]; decide) (by rw [jc_16]; decide) (by rw [jc_16]; decide +kernel) (dk_dq rfl) ?_
          refine lv_aload_n hx hb dX12_cell_147 rfl (lv_at hl 1 rfl) ?_
          refine lv_iconst (v := 0) hx hb dX12_cell_148 (by decide +kernel) ?_
          refine lv_iload hx hb dX12_cell_149 (lv_at hl 0 rfl) ?_
          have hz_38 : (0 : Int32).toInt = 0 := by decide +kernel
          refine dg_calli hS hA1 hA (va_runV (As := [.int 0, .int x_11]) (rest := []) F (c_m_canDig l g D o S_15 0 (by decide +kernel) x_11 (by omega) (ZBM.keep ZB m_15 (dk_dq rfl) (dk_dq rfl) (dk_dq rfl) (dk_dq rfl) (dk_dq rfl)) I_15 H.size) (cwV 2 hts (bw_V wB_1168 wB_1169 wB_1170 wB_297 wB_1167) rfl rfl rfl (by decide +kernel) ⟨Nat.le_of_ble_eq_true rfl, Nat.le_of_ble_eq_true rfl⟩) (dg_preV sM_0 rfl K ST hP hS hA1 hA) rfl rfl hl.1 rfl (lv_room (Nat.le_of_ble_eq_true rfl)) dX12_cell_151 ⟨Nat.le_of_ble_eq_true rfl, Nat.le_of_ble_eq_true rfl⟩) (fun x_39 S_40 hw_40 H locs hP hS => ?_)
          rw [hw_40.1] at hP
          obtain ⟨hq_40, w_40_0, w_40_1, -⟩ := hw_40
          have w_40_0 : 0 ≤ (x_39).toInt ∧ (x_39).toInt ≤ 1 := w_40_0
          refine lv_if_eq (tgt := 171) hx hb dX12_cell_154 (dk_dq rfl) (fun c_41 => ?_) (fun c_41 => ?_)
          · have jc_41 := dk_eqc (k := 0) (by decide +kernel) c_41
            refine lv_iconst (v := 0) hx hb dX12_cell_171 (by decide +kernel) ?_
            refine W.widen (k := 0) (n := 0) (Nat.le_of_ble_eq_true rfl) (Nat.le_of_ble_eq_true rfl) ?_
            exact dg_iret hx hb hr hlocks rfl hP hS ⟨I_15, M_15, ⟨congrArg Prod.fst (Eq.symm (F_m_cell_p10 w_8_3 c_9 ex_10 ex_11 w_15_0 (dk_neT jc_16 (k := 0) (b := 0) (by decide +kernel) (dk_dq rfl)) (dk_neT jc_16 (k := 1) (b := 1) (by decide +kernel) (dk_dq rfl)) (dk_neT jc_16 (k := 2) (b := 2) (by decide +kernel) (dk_dq rfl)) (dk_neT jc_16 (k := 3) (b := 3) (by decide +kernel) (dk_dq rfl)) (dk_neT jc_16 (k := 4) (b := 4) (by decide +kernel) (dk_dq rfl)) (dk_eqT jc_16 (k := 5) (by decide +kernel)) w_40_1 c_41)), congrArg Prod.snd (Eq.symm (F_m_cell_p10 w_8_3 c_9 ex_10 ex_11 w_15_0 (dk_neT jc_16 (k := 0) (b := 0) (by decide +kernel) (dk_dq rfl)) (dk_neT jc_16 (k := 1) (b := 1) (by decide +kernel) (dk_dq rfl)) (dk_neT jc_16 (k := 2) (b := 2) (by decide +kernel) (dk_dq rfl)) (dk_neT jc_16 (k := 3) (b := 3) (by decide +kernel) (dk_dq rfl)) (dk_neT jc_16 (k := 4) (b := 4) (by decide +kernel) (dk_dq rfl)) (dk_eqT jc_16 (k := 5) (by decide +kernel)) w_40_1 c_41))⟩, trivial⟩ dX12_cell_172
          · as_aux_lemma =>
              have jc_41 := dk_neqc (k := 0) (by decide +kernel) c_41
              refine lv_aload_n hx hb dX12_cell_157 rfl (lv_at hl 1 rfl) ?_
              refine lv_iconst (v := 0) hx hb dX12_cell_158 (by decide +kernel) ?_
              refine lv_iload hx hb dX12_cell_159 (lv_at hl 0 rfl) ?_
              have hz_42 : (0 : Int32).toInt = 0 := by decide +kernel
              refine dg_calli hS hA1 hA (va_runV (As := [.int 0, .int x_11]) (rest := []) F (c_m_isFalling l g D o S_15 0 (by decide +kernel) x_11 (by omega) (ZBM.keep ZB m_15 (dk_dq rfl) (dk_dq rfl) (dk_dq rfl) (dk_dq rfl) (dk_dq rfl)) (ZWM.keep ZW m_15 (dk_dq rfl) (dk_dq rfl) (dk_dq rfl) (dk_dq rfl)) I_15 H.size) (cwV 2 hts (bw_V wB_1172 wB_1173 wB_1174 wB_297 wB_1171) rfl rfl rfl (by decide +kernel) ⟨Nat.le_of_ble_eq_true rfl, Nat.le_of_ble_eq_true rfl⟩) (dg_preV sM_0 rfl K ST hP hS hA1 hA) rfl rfl hl.1 rfl (lv_room (Nat.le_of_ble_eq_true rfl)) dX12_cell_161 ⟨Nat.le_of_ble_eq_true rfl, Nat.le_of_ble_eq_true rfl⟩) (fun x_43 S_44 hw_44 H locs hP hS => ?_)
              obtain ⟨I_44, m_44, w_44_0, w_44_1, -⟩ := hw_44
              have M_44 := dg_sm.tr M_15 m_44 (dk_dq rfl) (dk_dq rfl)
              have w_44_0 : 0 ≤ (x_43).toInt ∧ (x_43).toInt ≤ 1 := w_44_0
              refine lv_if_ne (tgt := 171) hx hb dX12_cell_164 (dk_dq rfl) (fun c_45 => ?_) (fun c_45 => ?_)
              · have jc_45 := dk_neqc (k := 0) (by decide +kernel) c_45
                refine lv_iconst (v := 0) hx hb dX12_cell_171 (by decide +kernel) ?_
                refine W.widen (k := 0) (n := 0) (Nat.le_of_ble_eq_true rfl) (Nat.le_of_ble_eq_true rfl) ?_
                exact dg_iret hx hb hr hlocks rfl hP hS ⟨I_44, M_44, ⟨congrArg Prod.fst (Eq.symm (F_m_cell_p11 w_8_3 c_9 ex_10 ex_11 w_15_0 (dk_neT jc_16 (k := 0) (b := 0) (by decide +kernel) (dk_dq rfl)) (dk_neT jc_16 (k := 1) (b := 1) (by decide +kernel) (dk_dq rfl)) (dk_neT jc_16 (k := 2) (b := 2) (by decide +kernel) (dk_dq rfl)) (dk_neT jc_16 (k := 3) (b := 3) (by decide +kernel) (dk_dq rfl)) (dk_neT jc_16 (k := 4) (b := 4) (by decide +kernel) (dk_dq rfl)) (dk_eqT jc_16 (k := 5) (by decide +kernel)) w_40_1 c_41 w_44_1.1 w_44_1.2 c_45)), congrArg Prod.snd (Eq.symm (F_m_cell_p11 w_8_3 c_9 ex_10 ex_11 w_15_0 (dk_neT jc_16 (k := 0) (b := 0) (by decide +kernel) (dk_dq rfl)) (dk_neT jc_16 (k := 1) (b := 1) (by decide +kernel) (dk_dq rfl)) (dk_neT jc_16 (k := 2) (b := 2) (by decide +kernel) (dk_dq rfl)) (dk_neT jc_16 (k := 3) (b := 3) (by decide +kernel) (dk_dq rfl)) (dk_neT jc_16 (k := 4) (b := 4) (by decide +kernel) (dk_dq rfl)) (dk_eqT jc_16 (k := 5) (by decide +kernel)) w_40_1 c_41 w_44_1.1 w_44_1.2 c_45))⟩, trivial⟩ dX12_cell_172
              · have jc_45 := dk_eqc (k := 0) (by decide +kernel) c_45
                refine lv_iconst (v := 1) hx hb dX12_cell_167 (by decide +kernel) ?_
                refine lv_goto (tgt := 172) hx hb dX12_cell_168 (dk_dq rfl) ?_
                refine W.widen (k := 0) (n := 0) (Nat.le_of_ble_eq_true rfl) (Nat.le_of_ble_eq_true rfl) ?_
                exact dg_iret hx hb hr hlocks rfl hP hS ⟨I_44, M_44, ⟨congrArg Prod.fst (Eq.symm (F_m_cell_p12 w_8_3 c_9 ex_10 ex_11 w_15_0 (dk_neT jc_16 (k := 0) (b := 0) (by decide +kernel) (dk_dq rfl)) (dk_neT jc_16 (k := 1) (b := 1) (by decide +kernel) (dk_dq rfl)) (dk_neT jc_16 (k := 2) (b := 2) (by decide +kernel) (dk_dq rfl)) (dk_neT jc_16 (k := 3) (b := 3) (by decide +kernel) (dk_dq rfl)) (dk_neT jc_16 (k := 4) (b := 4) (by decide +kernel) (dk_dq rfl)) (dk_eqT jc_16 (k := 5) (by decide +kernel)) w_40_1 c_41 w_44_1.1 w_44_1.2 c_45)), congrArg Prod.snd (Eq.symm (F_m_cell_p12 w_8_3 c_9 ex_10 ex_11 w_15_0 (dk_neT jc_16 (k := 0) (b := 0) (by decide +kernel) (dk_dq rfl)) (dk_neT jc_16 (k := 1) (b := 1) (by decide +kernel) (dk_dq rfl)) (dk_neT jc_16 (k := 2) (b := 2) (by decide +kernel) (dk_dq rfl)) (dk_neT jc_16 (k := 3) (b := 3) (by decide +kernel) (dk_dq rfl)) (dk_neT jc_16 (k := 4) (b := 4) (by decide +kernel) (dk_dq rfl)) (dk_eqT jc_16 (k := 5) (by decide +kernel)) w_40_1 c_41 w_44_1.1 w_44_1.2 c_45))⟩, trivial⟩ dX12_cell_172
  · have jc_9 := dk_eqc (k := 0) (by decide +kernel) c_9
    refine lv_iconst (v := (-1)) hx hb dX12_cell_9 (by decide +kernel) ?_
    refine W.widen (k := 0) (n := 0) (Nat.le_of_ble_eq_true rfl) (Nat.le_of_ble_eq_true rfl) ?_
    exact dg_iret hx hb hr hlocks rfl hP hS ⟨I, M_0, ⟨congrArg Prod.fst (Eq.symm (F_m_cell_p13 w_8_3 c_9)), congrArg Prod.snd (Eq.symm (F_m_cell_p13 w_8_3 c_9))⟩, trivial⟩ dX12_cell_10
noncomputable def F_m_hurt (o : Nat) (S : dg_S) (a1 : Int32) : Int32 := let x_1 : Int32 := F_m_isMiner o S a1; (if x_1 = (0 : Int32) then (-1 : Int32) else let x_6 : Int32 := S.2.1 33 (0 : Int32).toNatClampNeg; let x_7 : Int32 := F_m_has2 o S x_6 a1; (if x_7 = (0 : Int32) then (0 : Int32) else (1 : Int32)))
theorem F_m_hurt_p0 {o : Nat} {S : dg_S} {a1 : Int32} {x_1 : Int32} (h0 : x_1 = F_m_isMiner o S a1) (h1 : x_1 = (0 : Int32)) : F_m_hurt o S a1 = (-1 : Int32) := by
  replace h0 := Eq.symm h0
  subst h0
  exact (Eq.trans (if_pos h1) rfl)
theorem F_m_hurt_p1 {o : Nat} {S : dg_S} {a1 : Int32} {x_1 : Int32} {x_6 : Int32} {x_7 : Int32} (h0 : x_1 = F_m_isMiner o S a1) (h1 : ¬ (x_1 = (0 : Int32))) (h2 : x_6 = S.2.1 33 (0 : Int32).toNatClampNeg) (h3 : x_7 = F_m_has2 o S x_6 a1) (h4 : x_7 = (0 : Int32)) : F_m_hurt o S a1 = (0 : Int32) := by
  replace h0 := Eq.symm h0
  subst h0
  replace h2 := Eq.symm h2
  subst h2
  replace h3 := Eq.symm h3
  subst h3
  exact (Eq.trans (if_neg h1) (Eq.trans (if_pos h4) rfl))
theorem F_m_hurt_p2 {o : Nat} {S : dg_S} {a1 : Int32} {x_1 : Int32} {x_6 : Int32} {x_7 : Int32} (h0 : x_1 = F_m_isMiner o S a1) (h1 : ¬ (x_1 = (0 : Int32))) (h2 : x_6 = S.2.1 33 (0 : Int32).toNatClampNeg) (h3 : x_7 = F_m_has2 o S x_6 a1) (h4 : ¬ (x_7 = (0 : Int32))) : F_m_hurt o S a1 = (1 : Int32) := by
  replace h0 := Eq.symm h0
  subst h0
  replace h2 := Eq.symm h2
  subst h2
  replace h3 := Eq.symm h3
  subst h3
  exact (Eq.trans (if_neg h1) (Eq.trans (if_neg h4) rfl))
set_option maxHeartbeats 8000000 in
set_option maxRecDepth 100000 in
theorem c_m_hurt (l : Launch) (g : Nat → ClassId) (D : va_G) (o : Nat) (S : dg_S) (a1 : Int32) (I : CM o S) (sz : Nat) : Met l yX12_hurt (bw yX12_hurt cX12_hurt 2 (some .int)) ({ frames := 2, cells := 0, slots := 0, locals := 53 } : Room) (dk_Pc g D (dg_w g shM o rfM S) sz [.ref (o + 0), .int a1]) (va_Qi (fun (r : Int32) S' => S' = S ∧ ((-1) ≤ (r).toInt ∧ (r).toInt ≤ 1) ∧ (r = F_m_hurt o S a1) ∧ True) (dg_B g D shM o rfM) (dg_A o shM.length sz)) 0 0 (dg_A o shM.length sz) := by
  refine dg_met (cc := cX12_hurt) (maxL := 2) (ret := (some .int)) (dk_dq rfl) rfl (Nat.le_of_ble_eq_true rfl) ?_
  intro p e s m args below meth c A hAe harg hx hb hr hml hts hown hlocks hin hP K hS hA1 hA ST hsz ls hl
  rw [← hAe]
  have F : CallFix p m c cX12_hurt 2 s args (bw yX12_hurt cX12_hurt 2 (some .int)) RX12 := ⟨hx, hb, hml, hown, hts⟩
  have hl : lv_has ls 2 [(0, .ref (o + 0)), (1, .int a1)] := hl
  have M_0 : dg_sm shM [] [] S S := dg_sm.rf
  refine lv_aload_n hx hb dX12_hurt_0 rfl (lv_at hl 0 rfl) ?_
  refine lv_iload_n hx hb dX12_hurt_1 rfl (lv_at hl 1 rfl) ?_
  refine dg_calli hS hA1 hA (va_runV (As := [.int a1]) (rest := []) F (c_m_isMiner l g D o S a1 I s.heap.size) (cwV 1 hts (bw_V wB_1208 wB_1209 wB_1210 wB_297 wB_1207) rfl rfl rfl (by decide +kernel) ⟨Nat.le_of_ble_eq_true rfl, Nat.le_of_ble_eq_true rfl⟩) (dg_preV sM_0 rfl K ST hP hS hA1 hA) rfl rfl hl.1 rfl (lv_room (Nat.le_of_ble_eq_true rfl)) dX12_hurt_2 ⟨Nat.le_of_ble_eq_true rfl, Nat.le_of_ble_eq_true rfl⟩) (fun x_1 S_2 hw_2 H locs hP hS => ?_)
  rw [hw_2.1] at hP
  obtain ⟨hq_2, w_2_0, w_2_1, w_2_2, -⟩ := hw_2
  have w_2_0 : 0 ≤ (x_1).toInt ∧ (x_1).toInt ≤ 1 := w_2_0
  have w_2_1 : (x_1).toInt = 1 → (0 ≤ (a1).toInt ∧ (a1).toInt ≤ 5) := w_2_1
  refine lv_if_eq (tgt := 29) hx hb dX12_hurt_5 (dk_dq rfl) (fun c_3 => ?_) (fun c_3 => ?_)
  · have jc_3 := dk_eqc (k := 0) (by decide +kernel) c_3
    refine lv_iconst (v := (-1)) hx hb dX12_hurt_29 (by decide +kernel) ?_
    have hz_4 : (-1 : Int32).toInt = (-1) := by decide +kernel
    refine W.widen (k := 0) (n := 0) (Nat.le_of_ble_eq_true rfl) (Nat.le_of_ble_eq_true rfl) ?_
    exact dg_iret hx hb hr hlocks rfl hP hS ⟨rfl, (by decide +kernel), (Eq.symm (F_m_hurt_p0 w_2_2 c_3)), trivial⟩ dX12_hurt_30
  · as_aux_lemma =>
      have jc_3 := dk_neqc (k := 0) (by decide +kernel) c_3
      refine lv_aload_n hx hb dX12_hurt_8 rfl (lv_at hl 0 rfl) ?_
      refine dg_get (C := RX12) (T := TX12) (N := 77) hx hb hts (fun w h => bw_mem (wU_X12 w h)) hown K hP sM_0 rfl 53 (dk_dq rfl) (hts _ (bw_mem wB_1130)) (fun _ h9 => h9) (v := .ref (o + 33)) (show S.1 0 53 = .ref (o + 33) from dg_I.rel (d := 33) I sM_0 (by decide +kernel)) dX12_hurt_9 ?_
      refine lv_iconst (v := 0) hx hb dX12_hurt_12 (by decide +kernel) ?_
      have hin_5 : vp_in (0 : Int32) 22 := (dk_in (by decide +kernel))
      refine dg_iald hx hb K hP sM_33 hin_5 dX12_hurt_13 (fun x_6 ex_6 => ?_)
      refine lv_iload_n hx hb dX12_hurt_14 rfl (lv_at hl 1 rfl) ?_
      refine dg_calli hS hA1 hA (va_runS (As := [.int x_6, .int a1]) (rest := []) F (c_m_has2 l g D o S x_6 a1 I H.size) (va_cwS 2 hts (bw_S wB_1165 wB_1166 wB_297 wB_1164) rfl rfl rfl (by decide +kernel) ⟨Nat.le_of_ble_eq_true rfl, Nat.le_of_ble_eq_true rfl⟩) (dg_preS K ST hP hS hA1 hA) rfl rfl hl.1 rfl (lv_room (Nat.le_of_ble_eq_true rfl)) dX12_hurt_15 ⟨Nat.le_of_ble_eq_true rfl, Nat.le_of_ble_eq_true rfl⟩) (fun x_7 S_8 hw_8 H locs hP hS => ?_)
      rw [hw_8.1] at hP
      obtain ⟨hq_8, w_8_0, w_8_1, -⟩ := hw_8
      have w_8_0 : 0 ≤ (x_7).toInt ∧ (x_7).toInt ≤ 1 := w_8_0
      refine lv_if_eq (tgt := 25) hx hb dX12_hurt_18 (dk_dq rfl) (fun c_9 => ?_) (fun c_9 => ?_)
      · have jc_9 := dk_eqc (k := 0) (by decide +kernel) c_9
        refine lv_iconst (v := 0) hx hb dX12_hurt_25 (by decide +kernel) ?_
        refine lv_goto (tgt := 30) hx hb dX12_hurt_26 (dk_dq rfl) ?_
        have hz_10 : (0 : Int32).toInt = 0 := by decide +kernel
        refine W.widen (k := 0) (n := 0) (Nat.le_of_ble_eq_true rfl) (Nat.le_of_ble_eq_true rfl) ?_
        exact dg_iret hx hb hr hlocks rfl hP hS ⟨rfl, (by decide +kernel), (Eq.symm (F_m_hurt_p1 w_2_2 c_3 (Eq.symm ex_6.symm) w_8_1 c_9)), trivial⟩ dX12_hurt_30
      · have jc_9 := dk_neqc (k := 0) (by decide +kernel) c_9
        refine lv_iconst (v := 1) hx hb dX12_hurt_21 (by decide +kernel) ?_
        refine lv_goto (tgt := 30) hx hb dX12_hurt_22 (dk_dq rfl) ?_
        have hz_11 : (1 : Int32).toInt = 1 := by decide +kernel
        refine W.widen (k := 0) (n := 0) (Nat.le_of_ble_eq_true rfl) (Nat.le_of_ble_eq_true rfl) ?_
        exact dg_iret hx hb hr hlocks rfl hP hS ⟨rfl, (by decide +kernel), (Eq.symm (F_m_hurt_p2 w_2_2 c_3 (Eq.symm ex_6.symm) w_8_1 c_9)), trivial⟩ dX12_hurt_30
noncomputable def F_m_plan (o : Nat) (S : dg_S) (a1 : Int32) (a2 : Int32) : Int32 := let x_1 : Int32 := zI S 0 13; let x_3 : Int32 := S.2.1 9 (x_1 : Int32).toNatClampNeg; let x_4 : Int32 := x_3 - (1 : Int32); let x_5 : Int32 := F_m_is o S a1 (0 : Int32) x_4; (if x_5 = (0 : Int32) then (-1 : Int32) else let x_9 : Int32 := F_m_is o S a2 (0 : Int32) (2 : Int32); (if x_9 = (0 : Int32) then (-1 : Int32) else (if a2 = (0 : Int32) then let x_21 : Int32 := S.2.1 35 (a1 : Int32).toNatClampNeg; x_21 else let x_16 : Int32 := S.2.1 36 (a1 : Int32).toNatClampNeg; let x_17 : Int32 := a2 - (1 : Int32); let x_18 : Int32 := F_m_partOf o S x_16 x_17; x_18)))
theorem F_m_plan_p0 {o : Nat} {S : dg_S} {a1 : Int32} {a2 : Int32} {x_1 : Int32} {x_3 : Int32} {x_4 : Int32} {x_5 : Int32} (h0 : x_1 = zI S 0 13) (h1 : x_3 = S.2.1 9 (x_1 : Int32).toNatClampNeg) (h2 : x_4 = x_3 - (1 : Int32)) (h3 : x_5 = F_m_is o S a1 (0 : Int32) x_4) (h4 : x_5 = (0 : Int32)) : F_m_plan o S a1 a2 = (-1 : Int32) := by
  replace h0 := Eq.symm h0
  subst h0
  replace h1 := Eq.symm h1
  subst h1
  replace h2 := Eq.symm h2
  subst h2
  replace h3 := Eq.symm h3
  subst h3
  exact (Eq.trans (if_pos h4) rfl)
theorem F_m_plan_p1 {o : Nat} {S : dg_S} {a1 : Int32} {a2 : Int32} {x_18 : Int32} {x_1 : Int32} {x_3 : Int32} {x_4 : Int32} {x_5 : Int32} {x_9 : Int32} {x_16 : Int32} {x_17 : Int32} (h0 : x_1 = zI S 0 13) (h1 : x_3 = S.2.1 9 (x_1 : Int32).toNatClampNeg) (h2 : x_4 = x_3 - (1 : Int32)) (h3 : x_5 = F_m_is o S a1 (0 : Int32) x_4) (h4 : ¬ (x_5 = (0 : Int32))) (h5 : x_9 = F_m_is o S a2 (0 : Int32) (2 : Int32)) (h6 : ¬ (x_9 = (0 : Int32))) (h7 : ¬ (a2 = (0 : Int32))) (h8 : x_16 = S.2.1 36 (a1 : Int32).toNatClampNeg) (h9 : x_17 = a2 - (1 : Int32)) (h10 : x_18 = F_m_partOf o S x_16 x_17) : F_m_plan o S a1 a2 = x_18 := by
  replace h0 := Eq.symm h0
  subst h0
  replace h1 := Eq.symm h1
  subst h1
  replace h2 := Eq.symm h2
  subst h2
  replace h3 := Eq.symm h3
  subst h3
  replace h5 := Eq.symm h5
  subst h5
  replace h8 := Eq.symm h8
  subst h8
  replace h9 := Eq.symm h9
  subst h9
  replace h10 := Eq.symm h10
  subst h10
  exact (Eq.trans (if_neg h4) (Eq.trans (if_neg h6) (Eq.trans (if_neg h7) rfl)))
theorem F_m_plan_p2 {o : Nat} {S : dg_S} {a1 : Int32} {a2 : Int32} {x_21 : Int32} {x_1 : Int32} {x_3 : Int32} {x_4 : Int32} {x_5 : Int32} {x_9 : Int32} (h0 : x_1 = zI S 0 13) (h1 : x_3 = S.2.1 9 (x_1 : Int32).toNatClampNeg) (h2 : x_4 = x_3 - (1 : Int32)) (h3 : x_5 = F_m_is o S a1 (0 : Int32) x_4) (h4 : ¬ (x_5 = (0 : Int32))) (h5 : x_9 = F_m_is o S a2 (0 : Int32) (2 : Int32)) (h6 : ¬ (x_9 = (0 : Int32))) (h7 : a2 = (0 : Int32)) (h8 : x_21 = S.2.1 35 (a1 : Int32).toNatClampNeg) : F_m_plan o S a1 a2 = x_21 := by
  replace h0 := Eq.symm h0
  subst h0
  replace h1 := Eq.symm h1
  subst h1
  replace h2 := Eq.symm h2
  subst h2
  replace h3 := Eq.symm h3
  subst h3
  replace h5 := Eq.symm h5
  subst h5
  replace h8 := Eq.symm h8
  subst h8
  exact (Eq.trans (if_neg h4) (Eq.trans (if_neg h6) (Eq.trans (if_pos h7) rfl)))
theorem F_m_plan_p3 {o : Nat} {S : dg_S} {a1 : Int32} {a2 : Int32} {x_1 : Int32} {x_3 : Int32} {x_4 : Int32} {x_5 : Int32} {x_9 : Int32} (h0 : x_1 = zI S 0 13) (h1 : x_3 = S.2.1 9 (x_1 : Int32).toNatClampNeg) (h2 : x_4 = x_3 - (1 : Int32)) (h3 : x_5 = F_m_is o S a1 (0 : Int32) x_4) (h4 : ¬ (x_5 = (0 : Int32))) (h5 : x_9 = F_m_is o S a2 (0 : Int32) (2 : Int32)) (h6 : x_9 = (0 : Int32)) : F_m_plan o S a1 a2 = (-1 : Int32) := by
  replace h0 := Eq.symm h0
  subst h0
  replace h1 := Eq.symm h1
  subst h1
  replace h2 := Eq.symm h2
  subst h2
  replace h3 := Eq.symm h3
  subst h3
  replace h5 := Eq.symm h5
  subst h5
  exact (Eq.trans (if_neg h4) (Eq.trans (if_pos h6) rfl))
set_option maxHeartbeats 8000000 in
set_option maxRecDepth 100000 in
theorem c_m_plan (l : Launch) (g : Nat → ClassId) (D : va_G) (o : Nat) (S : dg_S) (a1 : Int32) (a2 : Int32) (I : CM o S) (sz : Nat) : Met l yX12_plan (bw yX12_plan cX12_plan 3 (some .int)) ({ frames := 2, cells := 0, slots := 0, locals := 54 } : Room) (dk_Pc g D (dg_w g shM o rfM S) sz [.ref (o + 0), .int a1, .int a2]) (va_Qi (fun (r : Int32) S' => S' = S ∧ (r = F_m_plan o S a1 a2) ∧ True) (dg_B g D shM o rfM) (dg_A o shM.length sz)) 0 0 (dg_A o shM.length sz) := by
  refine dg_met (cc := cX12_plan) (maxL := 3) (ret := (some .int)) (dk_dq rfl) rfl (Nat.le_of_ble_eq_true rfl) ?_
  intro p e s m args below meth c A hAe harg hx hb hr hml hts hown hlocks hin hP K hS hA1 hA ST hsz ls hl
  rw [← hAe]
  have F : CallFix p m c cX12_plan 3 s args (bw yX12_plan cX12_plan 3 (some .int)) RX12 := ⟨hx, hb, hml, hown, hts⟩
  have hl : lv_has ls 3 [(0, .ref (o + 0)), (1, .int a1), (2, .int a2)] := hl
  have M_0 : dg_sm shM [] [] S S := dg_sm.rf
  refine lv_iload_n hx hb dX12_plan_0 rfl (lv_at hl 1 rfl) ?_
  refine lv_iconst (v := 0) hx hb dX12_plan_1 (by decide +kernel) ?_
  refine lv_aload_n hx hb dX12_plan_2 rfl (lv_at hl 0 rfl) ?_
  refine dg_get (C := RX12) (T := TX12) (N := 77) hx hb hts (fun w h => bw_mem (wU_X12 w h)) hown K hP sM_0 rfl 21 (dk_dq rfl) (hts _ (bw_mem wB_391)) (fun _ h9 => h9) (v := .ref (o + 9)) (show S.1 0 21 = .ref (o + 9) from dg_I.rel (d := 9) I sM_0 (by decide +kernel)) dX12_plan_3 ?_
  refine lv_aload_n hx hb dX12_plan_6 rfl (lv_at hl 0 rfl) ?_
  obtain ⟨x_1, f_x_1, b_x_1⟩ := dg_I.int (i := 0) (k := 13) (lo := 0) (hi := 1) I sM_0 (by decide +kernel)
  refine dg_get (C := RX12) (T := TX12) (N := 77) hx hb hts (fun w h => bw_mem (wU_X12 w h)) hown K hP sM_0 rfl 13 (dk_dq rfl) (hts _ (bw_mem wB_1085)) (fun _ h9 => h9) (v := .int x_1) f_x_1 dX12_plan_7 ?_
  have hin_2 : vp_in x_1 2 := (dk_inv2 (by omega))
  refine dg_iald hx hb K hP sM_9 hin_2 dX12_plan_10 (fun x_3 ex_3 => ?_)
  have b_x_3 := dk_all_at (dg_I.row (lo := 0) (hi := 16) I sM_9 (by decide +kernel)) hin_2 ex_3
  refine lv_iconst (v := 1) hx hb dX12_plan_11 (by decide +kernel) ?_
  refine lv_isub hx hb dX12_plan_12 ?_
  refine lv_topi (fun x_4 ex_4 => ?_)
  have jx_4 : (x_4).toInt = (x_3).toInt - 1 := by rw [ex_4]; exact dk_subT2 rfl (by decide +kernel) (by omega)
  refine dg_calli hS hA1 hA (va_runS (As := [.int a1, .int 0, .int x_4]) (rest := []) F (c_m_isR l g D o S a1 0 x_4 I s.heap.size) (va_cwS 3 hts (bw_S wB_362 wB_363 wB_297 wB_361) rfl rfl rfl (by decide +kernel) ⟨Nat.le_of_ble_eq_true rfl, Nat.le_of_ble_eq_true rfl⟩) (dg_preS K ST hP hS hA1 hA) rfl rfl hl.1 rfl (lv_room (Nat.le_of_ble_eq_true rfl)) dX12_plan_13 ⟨Nat.le_of_ble_eq_true rfl, Nat.le_of_ble_eq_true rfl⟩) (fun x_5 S_6 hw_6 H locs hP hS => ?_)
  rw [hw_6.1] at hP
  obtain ⟨hq_6, w_6_0, w_6_1, w_6_2, -⟩ := hw_6
  have hz_7 : (0 : Int32).toInt = 0 := by decide +kernel
  have w_6_0 : 0 ≤ (x_5).toInt ∧ (x_5).toInt ≤ 1 := w_6_0
  have w_6_1 : (x_5).toInt = 1 ↔ (((0 : Int32)).toInt ≤ (a1).toInt ∧ (a1).toInt ≤ (x_4).toInt) := w_6_1
  refine lv_if_eq (tgt := 28) hx hb dX12_plan_16 (dk_dq rfl) (fun c_8 => ?_) (fun c_8 => ?_)
  · have jc_8 := dk_eqc (k := 0) (by decide +kernel) c_8
    refine lv_iconst (v := (-1)) hx hb dX12_plan_28 (by decide +kernel) ?_
    refine lv_goto (tgt := 57) hx hb dX12_plan_29 (dk_dq rfl) ?_
    refine W.widen (k := 0) (n := 0) (Nat.le_of_ble_eq_true rfl) (Nat.le_of_ble_eq_true rfl) ?_
    exact dg_iret hx hb hr hlocks rfl hP hS ⟨rfl, (Eq.symm (F_m_plan_p0 (zI_eq f_x_1) (Eq.symm ex_3.symm) ex_4 w_6_2 c_8)), trivial⟩ dX12_plan_57
  · as_aux_lemma =>
      have jc_8 := dk_neqc (k := 0) (by decide +kernel) c_8
      refine lv_iload_n hx hb dX12_plan_19 rfl (lv_at hl 2 rfl) ?_
      refine lv_iconst (v := 0) hx hb dX12_plan_20 (by decide +kernel) ?_
      refine lv_iconst (v := 2) hx hb dX12_plan_21 (by decide +kernel) ?_
      refine dg_calli hS hA1 hA (va_runS (As := [.int a2, .int 0, .int 2]) (rest := []) F (c_m_isR l g D o S a2 0 2 I H.size) (va_cwS 3 hts (bw_S wB_362 wB_363 wB_297 wB_361) rfl rfl rfl (by decide +kernel) ⟨Nat.le_of_ble_eq_true rfl, Nat.le_of_ble_eq_true rfl⟩) (dg_preS K ST hP hS hA1 hA) rfl rfl hl.1 rfl (lv_room (Nat.le_of_ble_eq_true rfl)) dX12_plan_22 ⟨Nat.le_of_ble_eq_true rfl, Nat.le_of_ble_eq_true rfl⟩) (fun x_9 S_10 hw_10 H locs hP hS => ?_)
      rw [hw_10.1] at hP
      obtain ⟨hq_10, w_10_0, w_10_1, w_10_2, -⟩ := hw_10
      have hz_11 : (0 : Int32).toInt = 0 := by decide +kernel
      have hz_12 : (2 : Int32).toInt = 2 := by decide +kernel
      have w_10_0 : 0 ≤ (x_9).toInt ∧ (x_9).toInt ≤ 1 := w_10_0
      have w_10_1 : (x_9).toInt = 1 ↔ (((0 : Int32)).toInt ≤ (a2).toInt ∧ (a2).toInt ≤ ((2 : Int32)).toInt) := w_10_1
      refine lv_if_ne (tgt := 32) hx hb dX12_plan_25 (dk_dq rfl) (fun c_13 => ?_) (fun c_13 => ?_)
      · as_aux_lemma =>
          have jc_13 := dk_neqc (k := 0) (by decide +kernel) c_13
          refine lv_iload_n hx hb dX12_plan_32 rfl (lv_at hl 2 rfl) ?_
          refine lv_if_ne (tgt := 45) hx hb dX12_plan_33 (dk_dq rfl) (fun c_14 => ?_) (fun c_14 => ?_)
          · as_aux_lemma =>
              have jc_14 := dk_neqc (k := 0) (by decide +kernel) c_14
              refine lv_aload_n hx hb dX12_plan_45 rfl (lv_at hl 0 rfl) ?_
              refine dg_get (C := RX12) (T := TX12) (N := 77) hx hb hts (fun w h => bw_mem (wU_X12 w h)) hown K hP sM_0 rfl 56 (dk_dq rfl) (hts _ (bw_mem wB_1133)) (fun _ h9 => h9) (v := .ref (o + 36)) (show S.1 0 56 = .ref (o + 36) from dg_I.rel (d := 36) I sM_0 (by decide +kernel)) dX12_plan_46 ?_
              refine lv_iload_n hx hb dX12_plan_49 rfl (lv_at hl 1 rfl) ?_
              have hin_15 : vp_in a1 352 := (dk_inv2 (by omega))
              refine dg_iald hx hb K hP sM_36 hin_15 dX12_plan_50 (fun x_16 ex_16 => ?_)
              have b_x_16 := dk_all_at (dg_I.row (lo := 0) (hi := 63) I sM_36 (by decide +kernel)) hin_15 ex_16
              refine lv_iload_n hx hb dX12_plan_51 rfl (lv_at hl 2 rfl) ?_
              refine lv_iconst (v := 1) hx hb dX12_plan_52 (by decide +kernel) ?_
              refine lv_isub hx hb dX12_plan_53 ?_
              refine lv_topi (fun x_17 ex_17 => ?_)
              have jx_17 : (x_17).toInt = (a2).toInt - 1 := by rw [ex_17]; exact dk_subT2 rfl (by decide +kernel) (by omega)
              refine dg_calli hS hA1 hA (va_runS (As := [.int x_16, .int x_17]) (rest := []) F (c_m_partOf l g D o S x_16 x_17 I H.size) (va_cwS 2 hts (bw_S wB_1212 wB_1213 wB_297 wB_1211) rfl rfl rfl (by decide +kernel) ⟨Nat.le_of_ble_eq_true rfl, Nat.le_of_ble_eq_true rfl⟩) (dg_preS K ST hP hS hA1 hA) rfl rfl hl.1 rfl (lv_room (Nat.le_of_ble_eq_true rfl)) dX12_plan_54 ⟨Nat.le_of_ble_eq_true rfl, Nat.le_of_ble_eq_true rfl⟩) (fun x_18 S_19 hw_19 H locs hP hS => ?_)
              rw [hw_19.1] at hP
              obtain ⟨hq_19, w_19_0, -⟩ := hw_19
              refine W.widen (k := 0) (n := 0) (Nat.le_of_ble_eq_true rfl) (Nat.le_of_ble_eq_true rfl) ?_
              exact dg_iret hx hb hr hlocks rfl hP hS ⟨rfl, (Eq.symm (F_m_plan_p1 (zI_eq f_x_1) (Eq.symm ex_3.symm) ex_4 w_6_2 c_8 w_10_2 c_13 c_14 (Eq.symm ex_16.symm) ex_17 w_19_0)), trivial⟩ dX12_plan_57
          · have jc_14 := dk_eqc (k := 0) (by decide +kernel) c_14
            refine lv_aload_n hx hb dX12_plan_36 rfl (lv_at hl 0 rfl) ?_
            refine dg_get (C := RX12) (T := TX12) (N := 77) hx hb hts (fun w h => bw_mem (wU_X12 w h)) hown K hP sM_0 rfl 55 (dk_dq rfl) (hts _ (bw_mem wB_1132)) (fun _ h9 => h9) (v := .ref (o + 35)) (show S.1 0 55 = .ref (o + 35) from dg_I.rel (d := 35) I sM_0 (by decide +kernel)) dX12_plan_37 ?_
            refine lv_iload_n hx hb dX12_plan_40 rfl (lv_at hl 1 rfl) ?_
            have hin_20 : vp_in a1 352 := (dk_inv2 (by omega))
            refine dg_iald hx hb K hP sM_35 hin_20 dX12_plan_41 (fun x_21 ex_21 => ?_)
            refine lv_goto (tgt := 57) hx hb dX12_plan_42 (dk_dq rfl) ?_
            refine W.widen (k := 0) (n := 0) (Nat.le_of_ble_eq_true rfl) (Nat.le_of_ble_eq_true rfl) ?_
            exact dg_iret hx hb hr hlocks rfl hP hS ⟨rfl, (Eq.symm (F_m_plan_p2 (zI_eq f_x_1) (Eq.symm ex_3.symm) ex_4 w_6_2 c_8 w_10_2 c_13 c_14 (Eq.symm ex_21.symm))), trivial⟩ dX12_plan_57
      · have jc_13 := dk_eqc (k := 0) (by decide +kernel) c_13
        refine lv_iconst (v := (-1)) hx hb dX12_plan_28 (by decide +kernel) ?_
        refine lv_goto (tgt := 57) hx hb dX12_plan_29 (dk_dq rfl) ?_
        refine W.widen (k := 0) (n := 0) (Nat.le_of_ble_eq_true rfl) (Nat.le_of_ble_eq_true rfl) ?_
        exact dg_iret hx hb hr hlocks rfl hP hS ⟨rfl, (Eq.symm (F_m_plan_p3 (zI_eq f_x_1) (Eq.symm ex_3.symm) ex_4 w_6_2 c_8 w_10_2 c_13)), trivial⟩ dX12_plan_57
noncomputable def F_m_canSell (o : Nat) (S : dg_S) (a1 : Int32) : Int32 := let x_1 : Int32 := F_m_isOrder o S a1; (if x_1 = (0 : Int32) then (0 : Int32) else let x_7 : Int32 := S.2.1 34 (0 : Int32).toNatClampNeg; let x_8 : Int32 := F_m_has2 o S x_7 a1; (if x_8 = (0 : Int32) then let x_13 : Int32 := zI S 0 13; let x_14 : Int32 := (5 : Int32) * x_13; let x_15 : Int32 := x_14 + a1; let x_17 : Int32 := S.2.1 13 (x_15 : Int32).toNatClampNeg; let x_19 : Int32 := F_m_tubsFrom o S (0 : Int32) x_17; let x_21 : Int32 := (5 : Int32) * x_13; let x_22 : Int32 := x_21 + a1; let x_24 : Int32 := S.2.1 14 (x_22 : Int32).toNatClampNeg; (if x_19 < x_24 then (0 : Int32) else (1 : Int32)) else (0 : Int32)))
theorem F_m_canSell_p0 {o : Nat} {S : dg_S} {a1 : Int32} {x_1 : Int32} (h0 : x_1 = F_m_isOrder o S a1) (h1 : x_1 = (0 : Int32)) : F_m_canSell o S a1 = (0 : Int32) := by
  replace h0 := Eq.symm h0
  subst h0
  exact (Eq.trans (if_pos h1) rfl)
theorem F_m_canSell_p1 {o : Nat} {S : dg_S} {a1 : Int32} {x_1 : Int32} {x_7 : Int32} {x_8 : Int32} (h0 : x_1 = F_m_isOrder o S a1) (h1 : ¬ (x_1 = (0 : Int32))) (h2 : x_7 = S.2.1 34 (0 : Int32).toNatClampNeg) (h3 : x_8 = F_m_has2 o S x_7 a1) (h4 : ¬ (x_8 = (0 : Int32))) : F_m_canSell o S a1 = (0 : Int32) := by
  replace h0 := Eq.symm h0
  subst h0
  replace h2 := Eq.symm h2
  subst h2
  replace h3 := Eq.symm h3
  subst h3
  exact (Eq.trans (if_neg h1) (Eq.trans (if_neg h4) rfl))
theorem F_m_canSell_p2 {o : Nat} {S : dg_S} {a1 : Int32} {x_1 : Int32} {x_7 : Int32} {x_8 : Int32} {x_13 : Int32} {x_14 : Int32} {x_15 : Int32} {x_17 : Int32} {x_19 : Int32} {x_21 : Int32} {x_22 : Int32} {x_24 : Int32} (h0 : x_1 = F_m_isOrder o S a1) (h1 : ¬ (x_1 = (0 : Int32))) (h2 : x_7 = S.2.1 34 (0 : Int32).toNatClampNeg) (h3 : x_8 = F_m_has2 o S x_7 a1) (h4 : x_8 = (0 : Int32)) (h5 : x_13 = zI S 0 13) (h6 : x_14 = (5 : Int32) * x_13) (h7 : x_15 = x_14 + a1) (h8 : x_17 = S.2.1 13 (x_15 : Int32).toNatClampNeg) (h9 : x_19 = F_m_tubsFrom o S (0 : Int32) x_17) (h10 : x_21 = (5 : Int32) * x_13) (h11 : x_22 = x_21 + a1) (h12 : x_24 = S.2.1 14 (x_22 : Int32).toNatClampNeg) (h13 : x_19 < x_24) : F_m_canSell o S a1 = (0 : Int32) := by
  replace h0 := Eq.symm h0
  subst h0
  replace h2 := Eq.symm h2
  subst h2
  replace h3 := Eq.symm h3
  subst h3
  replace h5 := Eq.symm h5
  subst h5
  replace h6 := Eq.symm h6
  subst h6
  replace h7 := Eq.symm h7
  subst h7
  replace h8 := Eq.symm h8
  subst h8
  replace h9 := Eq.symm h9
  subst h9
  replace h10 := Eq.symm h10
  subst h10
  replace h11 := Eq.symm h11
  subst h11
  replace h12 := Eq.symm h12
  subst h12
  exact (Eq.trans (if_neg h1) (Eq.trans (if_pos h4) (Eq.trans (if_pos h13) rfl)))
theorem F_m_canSell_p3 {o : Nat} {S : dg_S} {a1 : Int32} {x_1 : Int32} {x_7 : Int32} {x_8 : Int32} {x_13 : Int32} {x_14 : Int32} {x_15 : Int32} {x_17 : Int32} {x_19 : Int32} {x_21 : Int32} {x_22 : Int32} {x_24 : Int32} (h0 : x_1 = F_m_isOrder o S a1) (h1 : ¬ (x_1 = (0 : Int32))) (h2 : x_7 = S.2.1 34 (0 : Int32).toNatClampNeg) (h3 : x_8 = F_m_has2 o S x_7 a1) (h4 : x_8 = (0 : Int32)) (h5 : x_13 = zI S 0 13) (h6 : x_14 = (5 : Int32) * x_13) (h7 : x_15 = x_14 + a1) (h8 : x_17 = S.2.1 13 (x_15 : Int32).toNatClampNeg) (h9 : x_19 = F_m_tubsFrom o S (0 : Int32) x_17) (h10 : x_21 = (5 : Int32) * x_13) (h11 : x_22 = x_21 + a1) (h12 : x_24 = S.2.1 14 (x_22 : Int32).toNatClampNeg) (h13 : ¬ (x_19 < x_24)) : F_m_canSell o S a1 = (1 : Int32) := by
  replace h0 := Eq.symm h0
  subst h0
  replace h2 := Eq.symm h2
  subst h2
  replace h3 := Eq.symm h3
  subst h3
  replace h5 := Eq.symm h5
  subst h5
  replace h6 := Eq.symm h6
  subst h6
  replace h7 := Eq.symm h7
  subst h7
  replace h8 := Eq.symm h8
  subst h8
  replace h9 := Eq.symm h9
  subst h9
  replace h10 := Eq.symm h10
  subst h10
  replace h11 := Eq.symm h11
  subst h11
  replace h12 := Eq.symm h12
  subst h12
  exact (Eq.trans (if_neg h1) (Eq.trans (if_pos h4) (Eq.trans (if_neg h13) rfl)))
set_option maxHeartbeats 8000000 in
set_option maxRecDepth 100000 in
theorem c_m_canSell (l : Launch) (g : Nat → ClassId) (D : va_G) (o : Nat) (S : dg_S) (a1 : Int32) (I : CM o S) (sz : Nat) : Met l yX12_canSell (bw yX12_canSell cX12_canSell 2 (some .boolean)) ({ frames := 2, cells := 0, slots := 0, locals := 56 } : Room) (dk_Pc g D (dg_w g shM o rfM S) sz [.ref (o + 0), .int a1]) (va_Qi (fun (r : Int32) S' => S' = S ∧ (0 ≤ (r).toInt ∧ (r).toInt ≤ 1) ∧ ((r).toInt = 1 → (0 ≤ (a1).toInt ∧ (a1).toInt ≤ 4)) ∧ (r = F_m_canSell o S a1) ∧ True) (dg_B g D shM o rfM) (dg_A o shM.length sz)) 0 0 (dg_A o shM.length sz) := by
  refine dg_met (cc := cX12_canSell) (maxL := 2) (ret := (some .boolean)) (dk_dq rfl) rfl (Nat.le_of_ble_eq_true rfl) ?_
  intro p e s m args below meth c A hAe harg hx hb hr hml hts hown hlocks hin hP K hS hA1 hA ST hsz ls hl
  rw [← hAe]
  have F : CallFix p m c cX12_canSell 2 s args (bw yX12_canSell cX12_canSell 2 (some .boolean)) RX12 := ⟨hx, hb, hml, hown, hts⟩
  have hl : lv_has ls 2 [(0, .ref (o + 0)), (1, .int a1)] := hl
  have M_0 : dg_sm shM [] [] S S := dg_sm.rf
  refine lv_aload_n hx hb dX12_canSell_0 rfl (lv_at hl 0 rfl) ?_
  refine lv_iload_n hx hb dX12_canSell_1 rfl (lv_at hl 1 rfl) ?_
  refine dg_calli hS hA1 hA (va_runV (As := [.int a1]) (rest := []) F (c_m_isOrder l g D o S a1 I s.heap.size) (cwV 1 hts (bw_V wB_1203 wB_1204 wB_1205 wB_297 wB_1202) rfl rfl rfl (by decide +kernel) ⟨Nat.le_of_ble_eq_true rfl, Nat.le_of_ble_eq_true rfl⟩) (dg_preV sM_0 rfl K ST hP hS hA1 hA) rfl rfl hl.1 rfl (lv_room (Nat.le_of_ble_eq_true rfl)) dX12_canSell_2 ⟨Nat.le_of_ble_eq_true rfl, Nat.le_of_ble_eq_true rfl⟩) (fun x_1 S_2 hw_2 H locs hP hS => ?_)
  rw [hw_2.1] at hP
  obtain ⟨hq_2, w_2_0, w_2_1, w_2_2, -⟩ := hw_2
  have w_2_0 : 0 ≤ (x_1).toInt ∧ (x_1).toInt ≤ 1 := w_2_0
  have w_2_1 : (x_1).toInt = 1 → (0 ≤ (a1).toInt ∧ (a1).toInt ≤ 4) := w_2_1
  refine lv_if_eq (tgt := 59) hx hb dX12_canSell_5 (dk_dq rfl) (fun c_3 => ?_) (fun c_3 => ?_)
  · have jc_3 := dk_eqc (k := 0) (by decide +kernel) c_3
    refine lv_iconst (v := 0) hx hb dX12_canSell_59 (by decide +kernel) ?_
    have hz_4 : (0 : Int32).toInt = 0 := by decide +kernel
    have hz_5 : (0 : Int32).toInt = 0 := by decide +kernel
    refine W.widen (k := 0) (n := 0) (Nat.le_of_ble_eq_true rfl) (Nat.le_of_ble_eq_true rfl) ?_
    exact dg_iret hx hb hr hlocks (by decide +kernel) hP hS ⟨rfl, (by decide +kernel), (by omega), (Eq.symm (F_m_canSell_p0 w_2_2 c_3)), trivial⟩ dX12_canSell_60
  · as_aux_lemma =>
      have jc_3 := dk_neqc (k := 0) (by decide +kernel) c_3
      refine lv_aload_n hx hb dX12_canSell_8 rfl (lv_at hl 0 rfl) ?_
      refine dg_get (C := RX12) (T := TX12) (N := 77) hx hb hts (fun w h => bw_mem (wU_X12 w h)) hown K hP sM_0 rfl 54 (dk_dq rfl) (hts _ (bw_mem wB_1131)) (fun _ h9 => h9) (v := .ref (o + 34)) (show S.1 0 54 = .ref (o + 34) from dg_I.rel (d := 34) I sM_0 (by decide +kernel)) dX12_canSell_9 ?_
      refine lv_iconst (v := 0) hx hb dX12_canSell_12 (by decide +kernel) ?_
      have hin_6 : vp_in (0 : Int32) 22 := (dk_in (by decide +kernel))
      refine dg_iald hx hb K hP sM_34 hin_6 dX12_canSell_13 (fun x_7 ex_7 => ?_)
      refine lv_iload_n hx hb dX12_canSell_14 rfl (lv_at hl 1 rfl) ?_
      refine dg_calli hS hA1 hA (va_runS (As := [.int x_7, .int a1]) (rest := []) F (c_m_has2 l g D o S x_7 a1 I H.size) (va_cwS 2 hts (bw_S wB_1165 wB_1166 wB_297 wB_1164) rfl rfl rfl (by decide +kernel) ⟨Nat.le_of_ble_eq_true rfl, Nat.le_of_ble_eq_true rfl⟩) (dg_preS K ST hP hS hA1 hA) rfl rfl hl.1 rfl (lv_room (Nat.le_of_ble_eq_true rfl)) dX12_canSell_15 ⟨Nat.le_of_ble_eq_true rfl, Nat.le_of_ble_eq_true rfl⟩) (fun x_8 S_9 hw_9 H locs hP hS => ?_)
      rw [hw_9.1] at hP
      obtain ⟨hq_9, w_9_0, w_9_1, -⟩ := hw_9
      have w_9_0 : 0 ≤ (x_8).toInt ∧ (x_8).toInt ≤ 1 := w_9_0
      refine lv_if_ne (tgt := 59) hx hb dX12_canSell_18 (dk_dq rfl) (fun c_10 => ?_) (fun c_10 => ?_)
      · have jc_10 := dk_neqc (k := 0) (by decide +kernel) c_10
        refine lv_iconst (v := 0) hx hb dX12_canSell_59 (by decide +kernel) ?_
        have hz_11 : (0 : Int32).toInt = 0 := by decide +kernel
        have hz_12 : (0 : Int32).toInt = 0 := by decide +kernel
        refine W.widen (k := 0) (n := 0) (Nat.le_of_ble_eq_true rfl) (Nat.le_of_ble_eq_true rfl) ?_
        exact dg_iret hx hb hr hlocks (by decide +kernel) hP hS ⟨rfl, (by decide +kernel), (by omega), (Eq.symm (F_m_canSell_p1 w_2_2 c_3 (Eq.symm ex_7.symm) w_9_1 c_10)), trivial⟩ dX12_canSell_60
      · as_aux_lemma =>
          have jc_10 := dk_eqc (k := 0) (by decide +kernel) c_10
          refine lv_aload_n hx hb dX12_canSell_21 rfl (lv_at hl 0 rfl) ?_
          refine lv_iconst (v := 0) hx hb dX12_canSell_22 (by decide +kernel) ?_
          refine lv_aload_n hx hb dX12_canSell_23 rfl (lv_at hl 0 rfl) ?_
          refine dg_get (C := RX12) (T := TX12) (N := 77) hx hb hts (fun w h => bw_mem (wU_X12 w h)) hown K hP sM_0 rfl 25 (dk_dq rfl) (hts _ (bw_mem wB_398)) (fun _ h9 => h9) (v := .ref (o + 13)) (show S.1 0 25 = .ref (o + 13) from dg_I.rel (d := 13) I sM_0 (by decide +kernel)) dX12_canSell_24 ?_
          refine lv_iconst (v := 5) hx hb dX12_canSell_27 (by decide +kernel) ?_
          refine lv_aload_n hx hb dX12_canSell_28 rfl (lv_at hl 0 rfl) ?_
          obtain ⟨x_13, f_x_13, b_x_13⟩ := dg_I.int (i := 0) (k := 13) (lo := 0) (hi := 1) I sM_0 (by decide +kernel)
          refine dg_get (C := RX12) (T := TX12) (N := 77) hx hb hts (fun w h => bw_mem (wU_X12 w h)) hown K hP sM_0 rfl 13 (dk_dq rfl) (hts _ (bw_mem wB_1085)) (fun _ h9 => h9) (v := .int x_13) f_x_13 dX12_canSell_29 ?_
          refine lv_imul hx hb dX12_canSell_32 ?_
          refine lv_topi (fun x_14 ex_14 => ?_)
          have jx_14 : (x_14).toInt = 5 * (x_13).toInt := by rw [ex_14]; exact dk_mulT2 (by decide +kernel) rfl (by omega)
          refine lv_iload_n hx hb dX12_canSell_33 rfl (lv_at hl 1 rfl) ?_
          refine lv_iadd hx hb dX12_canSell_34 ?_
          refine lv_topi (fun x_15 ex_15 => ?_)
          have jx_15 : (x_15).toInt = (x_14).toInt + (a1).toInt := by rw [ex_15]; exact dk_addT2 rfl rfl (by omega)
          have hin_16 : vp_in x_15 10 := (dk_inv2 (by omega))
          refine dg_iald hx hb K hP sM_13 hin_16 dX12_canSell_35 (fun x_17 ex_17 => ?_)
          have b_x_17 := dk_all_at (dg_I.row (lo := 0) (hi := 9999) I sM_13 (by decide +kernel)) hin_16 ex_17
          have hz_18 : (0 : Int32).toInt = 0 := by decide +kernel
          refine dg_calli hS hA1 hA (va_runV (As := [.int 0, .int x_17]) (rest := []) F (c_m_tubsFrom l g D o S 0 (by decide +kernel) x_17 (by omega) I H.size) (cwV 2 hts (bw_V wB_1215 wB_1216 wB_1217 wB_297 wB_1214) rfl rfl rfl (by decide +kernel) ⟨Nat.le_of_ble_eq_true rfl, Nat.le_of_ble_eq_true rfl⟩) (dg_preV sM_0 rfl K ST hP hS hA1 hA) rfl rfl hl.1 rfl (lv_room (Nat.le_of_ble_eq_true rfl)) dX12_canSell_36 ⟨Nat.le_of_ble_eq_true rfl, Nat.le_of_ble_eq_true rfl⟩) (fun x_19 S_20 hw_20 H locs hP hS => ?_)
          rw [hw_20.1] at hP
          obtain ⟨hq_20, w_20_0, -⟩ := hw_20
          refine lv_aload_n hx hb dX12_canSell_39 rfl (lv_at hl 0 rfl) ?_
          refine dg_get (C := RX12) (T := TX12) (N := 77) hx hb hts (fun w h => bw_mem (wU_X12 w h)) hown K hP sM_0 rfl 26 (dk_dq rfl) (hts _ (bw_mem wB_399)) (fun _ h9 => h9) (v := .ref (o + 14)) (show S.1 0 26 = .ref (o + 14) from dg_I.rel (d := 14) I sM_0 (by decide +kernel)) dX12_canSell_40 ?_
          refine lv_iconst (v := 5) hx hb dX12_canSell_43 (by decide +kernel) ?_
          refine lv_aload_n hx hb dX12_canSell_44 rfl (lv_at hl 0 rfl) ?_
          refine dg_get (C := RX12) (T := TX12) (N := 77) hx hb hts (fun w h => bw_mem (wU_X12 w h)) hown K hP sM_0 rfl 13 (dk_dq rfl) (hts _ (bw_mem wB_1085)) (fun _ h9 => h9) (v := .int x_13) f_x_13 dX12_canSell_45 ?_
          refine lv_imul hx hb dX12_canSell_48 ?_
          refine lv_topi (fun x_21 ex_21 => ?_)
          have jx_21 : (x_21).toInt = 5 * (x_13).toInt := by rw [ex_21]; exact dk_mulT2 (by decide +kernel) rfl (by omega)
          refine lv_iload_n hx hb dX12_canSell_49 rfl (lv_at hl 1 rfl) ?_
          refine lv_iadd hx hb dX12_canSell_50 ?_
          refine lv_topi (fun x_22 ex_22 => ?_)
          have jx_22 : (x_22).toInt = (x_21).toInt + (a1).toInt := by rw [ex_22]; exact dk_addT2 rfl rfl (by omega)
          have hin_23 : vp_in x_22 10 := (dk_inv2 (by omega))
          refine dg_iald hx hb K hP sM_14 hin_23 dX12_canSell_51 (fun x_24 ex_24 => ?_)
          refine lv_icmp_lt (tgt := 59) hx hb dX12_canSell_52 (dk_dq rfl) (fun c_25 => ?_) (fun c_25 => ?_)
          · have hf_25 := dk_full x_19
            have hf_26 := dk_full x_24
            have jc_25 := dk_ltc (k := (x_24).toInt) rfl c_25
            refine lv_iconst (v := 0) hx hb dX12_canSell_59 (by decide +kernel) ?_
            have hz_28 : (0 : Int32).toInt = 0 := by decide +kernel
            have hz_29 : (0 : Int32).toInt = 0 := by decide +kernel
            refine W.widen (k := 0) (n := 0) (Nat.le_of_ble_eq_true rfl) (Nat.le_of_ble_eq_true rfl) ?_
            exact dg_iret hx hb hr hlocks (by decide +kernel) hP hS ⟨rfl, (by decide +kernel), (by omega), (Eq.symm (F_m_canSell_p2 w_2_2 c_3 (Eq.symm ex_7.symm) w_9_1 c_10 (zI_eq f_x_13) ex_14 ex_15 (Eq.symm ex_17.symm) w_20_0 ex_21 ex_22 (Eq.symm ex_24.symm) c_25)), trivial⟩ dX12_canSell_60
          · have hf_29 := dk_full x_19
            have hf_30 := dk_full x_24
            have jc_25 := dk_nltc (k := (x_24).toInt) rfl c_25
            refine lv_iconst (v := 1) hx hb dX12_canSell_55 (by decide +kernel) ?_
            refine lv_goto (tgt := 60) hx hb dX12_canSell_56 (dk_dq rfl) ?_
            have hz_32 : (1 : Int32).toInt = 1 := by decide +kernel
            have hz_33 : (1 : Int32).toInt = 1 := by decide +kernel
            refine W.widen (k := 0) (n := 0) (Nat.le_of_ble_eq_true rfl) (Nat.le_of_ble_eq_true rfl) ?_
            exact dg_iret hx hb hr hlocks (by decide +kernel) hP hS ⟨rfl, (by decide +kernel), (by omega), (Eq.symm (F_m_canSell_p3 w_2_2 c_3 (Eq.symm ex_7.symm) w_9_1 c_10 (zI_eq f_x_13) ex_14 ex_15 (Eq.symm ex_17.symm) w_20_0 ex_21 ex_22 (Eq.symm ex_24.symm) c_25)), trivial⟩ dX12_canSell_60
noncomputable def F_m_order (o : Nat) (S : dg_S) (a1 : Int32) (a2 : Int32) : Int32 := let x_1 : Int32 := F_m_isOrder o S a1; (if x_1 = (0 : Int32) then (-1 : Int32) else (if a2 = (0 : Int32) then let x_5 : Int32 := zI S 0 13; let x_6 : Int32 := (5 : Int32) * x_5; let x_7 : Int32 := x_6 + a1; let x_9 : Int32 := S.2.1 13 (x_7 : Int32).toNatClampNeg; x_9 else (if a2 = (1 : Int32) then let x_10 : Int32 := zI S 0 13; let x_11 : Int32 := (5 : Int32) * x_10; let x_12 : Int32 := x_11 + a1; let x_14 : Int32 := S.2.1 14 (x_12 : Int32).toNatClampNeg; x_14 else (if a2 = (2 : Int32) then let x_15 : Int32 := zI S 0 13; let x_16 : Int32 := (5 : Int32) * x_15; let x_17 : Int32 := x_16 + a1; let x_19 : Int32 := S.2.1 15 (x_17 : Int32).toNatClampNeg; x_19 else (if a2 = (3 : Int32) then let x_21 : Int32 := S.2.1 34 (0 : Int32).toNatClampNeg; let x_22 : Int32 := F_m_has2 o S x_21 a1; (if x_22 = (0 : Int32) then (0 : Int32) else (1 : Int32)) else (if a2 = (4 : Int32) then let x_25 : Int32 := F_m_canSell o S a1; (if x_25 = (0 : Int32) then (0 : Int32) else (1 : Int32)) else (-1 : Int32)))))))
theorem F_m_order_p0 {o : Nat} {S : dg_S} {a1 : Int32} {a2 : Int32} {x_1 : Int32} (h0 : x_1 = F_m_isOrder o S a1) (h1 : ¬ (x_1 = (0 : Int32))) (h2 : ¬ (a2 = (0 : Int32))) (h3 : ¬ (a2 = (1 : Int32))) (h4 : ¬ (a2 = (2 : Int32))) (h5 : ¬ (a2 = (3 : Int32))) (h6 : ¬ (a2 = (4 : Int32))) : F_m_order o S a1 a2 = (-1 : Int32) := by
  replace h0 := Eq.symm h0
  subst h0
  exact (Eq.trans (if_neg h1) (Eq.trans (if_neg h2) (Eq.trans (if_neg h3) (Eq.trans (if_neg h4) (Eq.trans (if_neg h5) (Eq.trans (if_neg h6) rfl))))))
theorem F_m_order_p1 {o : Nat} {S : dg_S} {a1 : Int32} {a2 : Int32} {x_9 : Int32} {x_1 : Int32} {x_5 : Int32} {x_6 : Int32} {x_7 : Int32} (h0 : x_1 = F_m_isOrder o S a1) (h1 : ¬ (x_1 = (0 : Int32))) (h2 : a2 = (0 : Int32)) (h3 : x_5 = zI S 0 13) (h4 : x_6 = (5 : Int32) * x_5) (h5 : x_7 = x_6 + a1) (h6 : x_9 = S.2.1 13 (x_7 : Int32).toNatClampNeg) : F_m_order o S a1 a2 = x_9 := by
  replace h0 := Eq.symm h0
  subst h0
  replace h3 := Eq.symm h3
  subst h3
  replace h4 := Eq.symm h4
  subst h4
  replace h5 := Eq.symm h5
  subst h5
  replace h6 := Eq.symm h6
  subst h6
  exact (Eq.trans (if_neg h1) (Eq.trans (if_pos h2) rfl))
theorem F_m_order_p2 {o : Nat} {S : dg_S} {a1 : Int32} {a2 : Int32} {x_14 : Int32} {x_1 : Int32} {x_10 : Int32} {x_11 : Int32} {x_12 : Int32} (h0 : x_1 = F_m_isOrder o S a1) (h1 : ¬ (x_1 = (0 : Int32))) (h2 : ¬ (a2 = (0 : Int32))) (h3 : a2 = (1 : Int32)) (h4 : x_10 = zI S 0 13) (h5 : x_11 = (5 : Int32) * x_10) (h6 : x_12 = x_11 + a1) (h7 : x_14 = S.2.1 14 (x_12 : Int32).toNatClampNeg) : F_m_order o S a1 a2 = x_14 := by
  replace h0 := Eq.symm h0
  subst h0
  replace h4 := Eq.symm h4
  subst h4
  replace h5 := Eq.symm h5
  subst h5
  replace h6 := Eq.symm h6
  subst h6
  replace h7 := Eq.symm h7
  subst h7
  exact (Eq.trans (if_neg h1) (Eq.trans (if_neg h2) (Eq.trans (if_pos h3) rfl)))
theorem F_m_order_p3 {o : Nat} {S : dg_S} {a1 : Int32} {a2 : Int32} {x_19 : Int32} {x_1 : Int32} {x_15 : Int32} {x_16 : Int32} {x_17 : Int32} (h0 : x_1 = F_m_isOrder o S a1) (h1 : ¬ (x_1 = (0 : Int32))) (h2 : ¬ (a2 = (0 : Int32))) (h3 : ¬ (a2 = (1 : Int32))) (h4 : a2 = (2 : Int32)) (h5 : x_15 = zI S 0 13) (h6 : x_16 = (5 : Int32) * x_15) (h7 : x_17 = x_16 + a1) (h8 : x_19 = S.2.1 15 (x_17 : Int32).toNatClampNeg) : F_m_order o S a1 a2 = x_19 := by
  replace h0 := Eq.symm h0
  subst h0
  replace h5 := Eq.symm h5
  subst h5
  replace h6 := Eq.symm h6
  subst h6
  replace h7 := Eq.symm h7
  subst h7
  replace h8 := Eq.symm h8
  subst h8
  exact (Eq.trans (if_neg h1) (Eq.trans (if_neg h2) (Eq.trans (if_neg h3) (Eq.trans (if_pos h4) rfl))))
theorem F_m_order_p4 {o : Nat} {S : dg_S} {a1 : Int32} {a2 : Int32} {x_1 : Int32} {x_21 : Int32} {x_22 : Int32} (h0 : x_1 = F_m_isOrder o S a1) (h1 : ¬ (x_1 = (0 : Int32))) (h2 : ¬ (a2 = (0 : Int32))) (h3 : ¬ (a2 = (1 : Int32))) (h4 : ¬ (a2 = (2 : Int32))) (h5 : a2 = (3 : Int32)) (h6 : x_21 = S.2.1 34 (0 : Int32).toNatClampNeg) (h7 : x_22 = F_m_has2 o S x_21 a1) (h8 : x_22 = (0 : Int32)) : F_m_order o S a1 a2 = (0 : Int32) := by
  replace h0 := Eq.symm h0
  subst h0
  replace h6 := Eq.symm h6
  subst h6
  replace h7 := Eq.symm h7
  subst h7
  exact (Eq.trans (if_neg h1) (Eq.trans (if_neg h2) (Eq.trans (if_neg h3) (Eq.trans (if_neg h4) (Eq.trans (if_pos h5) (Eq.trans (if_pos h8) rfl))))))
theorem F_m_order_p5 {o : Nat} {S : dg_S} {a1 : Int32} {a2 : Int32} {x_1 : Int32} {x_21 : Int32} {x_22 : Int32} (h0 : x_1 = F_m_isOrder o S a1) (h1 : ¬ (x_1 = (0 : Int32))) (h2 : ¬ (a2 = (0 : Int32))) (h3 : ¬ (a2 = (1 : Int32))) (h4 : ¬ (a2 = (2 : Int32))) (h5 : a2 = (3 : Int32)) (h6 : x_21 = S.2.1 34 (0 : Int32).toNatClampNeg) (h7 : x_22 = F_m_has2 o S x_21 a1) (h8 : ¬ (x_22 = (0 : Int32))) : F_m_order o S a1 a2 = (1 : Int32) := by
  replace h0 := Eq.symm h0
  subst h0
  replace h6 := Eq.symm h6
  subst h6
  replace h7 := Eq.symm h7
  subst h7
  exact (Eq.trans (if_neg h1) (Eq.trans (if_neg h2) (Eq.trans (if_neg h3) (Eq.trans (if_neg h4) (Eq.trans (if_pos h5) (Eq.trans (if_neg h8) rfl))))))
theorem F_m_order_p6 {o : Nat} {S : dg_S} {a1 : Int32} {a2 : Int32} {x_1 : Int32} {x_25 : Int32} (h0 : x_1 = F_m_isOrder o S a1) (h1 : ¬ (x_1 = (0 : Int32))) (h2 : ¬ (a2 = (0 : Int32))) (h3 : ¬ (a2 = (1 : Int32))) (h4 : ¬ (a2 = (2 : Int32))) (h5 : ¬ (a2 = (3 : Int32))) (h6 : a2 = (4 : Int32)) (h7 : x_25 = F_m_canSell o S a1) (h8 : x_25 = (0 : Int32)) : F_m_order o S a1 a2 = (0 : Int32) := by
  replace h0 := Eq.symm h0
  subst h0
  replace h7 := Eq.symm h7
  subst h7
  exact (Eq.trans (if_neg h1) (Eq.trans (if_neg h2) (Eq.trans (if_neg h3) (Eq.trans (if_neg h4) (Eq.trans (if_neg h5) (Eq.trans (if_pos h6) (Eq.trans (if_pos h8) rfl)))))))
theorem F_m_order_p7 {o : Nat} {S : dg_S} {a1 : Int32} {a2 : Int32} {x_1 : Int32} {x_25 : Int32} (h0 : x_1 = F_m_isOrder o S a1) (h1 : ¬ (x_1 = (0 : Int32))) (h2 : ¬ (a2 = (0 : Int32))) (h3 : ¬ (a2 = (1 : Int32))) (h4 : ¬ (a2 = (2 : Int32))) (h5 : ¬ (a2 = (3 : Int32))) (h6 : a2 = (4 : Int32)) (h7 : x_25 = F_m_canSell o S a1) (h8 : ¬ (x_25 = (0 : Int32))) : F_m_order o S a1 a2 = (1 : Int32) := by
  replace h0 := Eq.symm h0
  subst h0
  replace h7 := Eq.symm h7
  subst h7
  exact (Eq.trans (if_neg h1) (Eq.trans (if_neg h2) (Eq.trans (if_neg h3) (Eq.trans (if_neg h4) (Eq.trans (if_neg h5) (Eq.trans (if_pos h6) (Eq.trans (if_neg h8) rfl)))))))
theorem F_m_order_p8 {o : Nat} {S : dg_S} {a1 : Int32} {a2 : Int32} {x_1 : Int32} (h0 : x_1 = F_m_isOrder o S a1) (h1 : x_1 = (0 : Int32)) : F_m_order o S a1 a2 = (-1 : Int32) := by
  replace h0 := Eq.symm h0
  subst h0
  exact (Eq.trans (if_pos h1) rfl)
set_option maxHeartbeats 8000000 in
set_option maxRecDepth 100000 in
theorem c_m_order (l : Launch) (g : Nat → ClassId) (D : va_G) (o : Nat) (S : dg_S) (a1 : Int32) (a2 : Int32) (I : CM o S) (sz : Nat) : Met l yX12_order (bw yX12_order cX12_order 3 (some .int)) ({ frames := 3, cells := 0, slots := 0, locals := 77 } : Room) (dk_Pc g D (dg_w g shM o rfM S) sz [.ref (o + 0), .int a1, .int a2]) (va_Qi (fun (r : Int32) S' => S' = S ∧ (r = F_m_order o S a1 a2) ∧ True) (dg_B g D shM o rfM) (dg_A o shM.length sz)) 0 0 (dg_A o shM.length sz) := by
  refine dg_met (cc := cX12_order) (maxL := 3) (ret := (some .int)) (dk_dq rfl) rfl (Nat.le_of_ble_eq_true rfl) ?_
  intro p e s m args below meth c A hAe harg hx hb hr hml hts hown hlocks hin hP K hS hA1 hA ST hsz ls hl
  rw [← hAe]
  have F : CallFix p m c cX12_order 3 s args (bw yX12_order cX12_order 3 (some .int)) RX12 := ⟨hx, hb, hml, hown, hts⟩
  have hl : lv_has ls 3 [(0, .ref (o + 0)), (1, .int a1), (2, .int a2)] := hl
  have M_0 : dg_sm shM [] [] S S := dg_sm.rf
  refine lv_aload_n hx hb dX12_order_0 rfl (lv_at hl 0 rfl) ?_
  refine lv_iload_n hx hb dX12_order_1 rfl (lv_at hl 1 rfl) ?_
  refine dg_calli hS hA1 hA (va_runV (As := [.int a1]) (rest := []) F (c_m_isOrder l g D o S a1 I s.heap.size) (cwV 1 hts (bw_V wB_1203 wB_1204 wB_1205 wB_297 wB_1202) rfl rfl rfl (by decide +kernel) ⟨Nat.le_of_ble_eq_true rfl, Nat.le_of_ble_eq_true rfl⟩) (dg_preV sM_0 rfl K ST hP hS hA1 hA) rfl rfl hl.1 rfl (lv_room (Nat.le_of_ble_eq_true rfl)) dX12_order_2 ⟨Nat.le_of_ble_eq_true rfl, Nat.le_of_ble_eq_true rfl⟩) (fun x_1 S_2 hw_2 H locs hP hS => ?_)
  rw [hw_2.1] at hP
  obtain ⟨hq_2, w_2_0, w_2_1, w_2_2, -⟩ := hw_2
  have w_2_0 : 0 ≤ (x_1).toInt ∧ (x_1).toInt ≤ 1 := w_2_0
  have w_2_1 : (x_1).toInt = 1 → (0 ≤ (a1).toInt ∧ (a1).toInt ≤ 4) := w_2_1
  refine lv_if_ne (tgt := 10) hx hb dX12_order_5 (dk_dq rfl) (fun c_3 => ?_) (fun c_3 => ?_)
  · as_aux_lemma =>
      have jc_3 := dk_neqc (k := 0) (by decide +kernel) c_3
      refine lv_iload_n hx hb dX12_order_10 rfl (lv_at hl 2 rfl) ?_
      rcases (show ((a2).toInt < 0 ∨ 4 < (a2).toInt) ∨ (a2).toInt = 0 ∨ (a2).toInt = 1 ∨ (a2).toInt = 2 ∨ (a2).toInt = 3 ∨ (a2).toInt = 4 by omega) with jc_4 | jc_4 | jc_4 | jc_4 | jc_4 | jc_4
      · refine lv_tableOut (tgt := 119) hx hb dX12_order_11 jc_4 (dk_dq rfl) ?_
        refine lv_iconst (v := (-1)) hx hb dX12_order_119 (by decide +kernel) ?_
        refine W.widen (k := 0) (n := 0) (Nat.le_of_ble_eq_true rfl) (Nat.le_of_ble_eq_true rfl) ?_
        exact dg_iret hx hb hr hlocks rfl hP hS ⟨rfl, (Eq.symm (F_m_order_p0 w_2_2 c_3 (dk_neO jc_4 (k := 0) (b := 0) (by decide +kernel) (dk_dq rfl)) (dk_neO jc_4 (k := 1) (b := 1) (by decide +kernel) (dk_dq rfl)) (dk_neO jc_4 (k := 2) (b := 2) (by decide +kernel) (dk_dq rfl)) (dk_neO jc_4 (k := 3) (b := 3) (by decide +kernel) (dk_dq rfl)) (dk_neO jc_4 (k := 4) (b := 4) (by decide +kernel) (dk_dq rfl)))), trivial⟩ dX12_order_120
      · as_aux_lemma =>
          refine lv_tableIn (off := 33) (tgt := 44) hx hb dX12_order_11 (by rw [jc_4]; decide) (by rw [jc_4]; decide) (by rw [jc_4]; decide +kernel) (dk_dq rfl) ?_
          refine lv_aload_n hx hb dX12_order_44 rfl (lv_at hl 0 rfl) ?_
          refine dg_get (C := RX12) (T := TX12) (N := 77) hx hb hts (fun w h => bw_mem (wU_X12 w h)) hown K hP sM_0 rfl 25 (dk_dq rfl) (hts _ (bw_mem wB_398)) (fun _ h9 => h9) (v := .ref (o + 13)) (show S.1 0 25 = .ref (o + 13) from dg_I.rel (d := 13) I sM_0 (by decide +kernel)) dX12_order_45 ?_
          refine lv_iconst (v := 5) hx hb dX12_order_48 (by decide +kernel) ?_
          refine lv_aload_n hx hb dX12_order_49 rfl (lv_at hl 0 rfl) ?_
          obtain ⟨x_5, f_x_5, b_x_5⟩ := dg_I.int (i := 0) (k := 13) (lo := 0) (hi := 1) I sM_0 (by decide +kernel)
          refine dg_get (C := RX12) (T := TX12) (N := 77) hx hb hts (fun w h => bw_mem (wU_X12 w h)) hown K hP sM_0 rfl 13 (dk_dq rfl) (hts _ (bw_mem wB_1085)) (fun _ h9 => h9) (v := .int x_5) f_x_5 dX12_order_50 ?_
          refine lv_imul hx hb dX12_order_53 ?_
          refine lv_topi (fun x_6 ex_6 => ?_)
          have jx_6 : (x_6).toInt = 5 * (x_5).toInt := by rw [ex_6]; exact dk_mulT2 (by decide +kernel) rfl (by omega)
          refine lv_iload_n hx hb dX12_order_54 rfl (lv_at hl 1 rfl) ?_
          refine lv_iadd hx hb dX12_order_55 ?_
          refine lv_topi (fun x_7 ex_7 => ?_)
          have jx_7 : (x_7).toInt = (x_6).toInt + (a1).toInt := by rw [ex_7]; exact dk_addT2 rfl rfl (by omega)
          have hin_8 : vp_in x_7 10 := (dk_inv2 (by omega))
          refine dg_iald hx hb K hP sM_13 hin_8 dX12_order_56 (fun x_9 ex_9 => ?_)
          have b_x_9 := dk_all_at (dg_I.row (lo := 0) (hi := 9999) I sM_13 (by decide +kernel)) hin_8 ex_9
          refine W.widen (k := 0) (n := 0) (Nat.le_of_ble_eq_true rfl) (Nat.le_of_ble_eq_true rfl) ?_
          exact dg_iret hx hb hr hlocks rfl hP hS ⟨rfl, (Eq.symm (F_m_order_p1 w_2_2 c_3 (dk_eqT jc_4 (k := 0) (by decide +kernel)) (zI_eq f_x_5) ex_6 ex_7 (Eq.symm ex_9.symm))), trivial⟩ dX12_order_57
      · as_aux_lemma =>
          refine lv_tableIn (off := 47) (tgt := 58) hx hb dX12_order_11 (by rw [jc_4]; decide) (by rw [jc_4]; decide) (by rw [jc_4]; decide +kernel) (dk_dq rfl) ?_
          refine lv_aload_n hx hb dX12_order_58 rfl (lv_at hl 0 rfl) ?_
          refine dg_get (C := RX12) (T := TX12) (N := 77) hx hb hts (fun w h => bw_mem (wU_X12 w h)) hown K hP sM_0 rfl 26 (dk_dq rfl) (hts _ (bw_mem wB_399)) (fun _ h9 => h9) (v := .ref (o + 14)) (show S.1 0 26 = .ref (o + 14) from dg_I.rel (d := 14) I sM_0 (by decide +kernel)) dX12_order_59 ?_
          refine lv_iconst (v := 5) hx hb dX12_order_62 (by decide +kernel) ?_
          refine lv_aload_n hx hb dX12_order_63 rfl (lv_at hl 0 rfl) ?_
          obtain ⟨x_10, f_x_10, b_x_10⟩ := dg_I.int (i := 0) (k := 13) (lo := 0) (hi := 1) I sM_0 (by decide +kernel)
          refine dg_get (C := RX12) (T := TX12) (N := 77) hx hb hts (fun w h => bw_mem (wU_X12 w h)) hown K hP sM_0 rfl 13 (dk_dq rfl) (hts _ (bw_mem wB_1085)) (fun _ h9 => h9) (v := .int x_10) f_x_10 dX12_order_64 ?_
          refine lv_imul hx hb dX12_order_67 ?_
          refine lv_topi (fun x_11 ex_11 => ?_)
          have jx_11 : (x_11).toInt = 5 * (x_10).toInt := by rw [ex_11]; exact dk_mulT2 (by decide +kernel) rfl (by omega)
          refine lv_iload_n hx hb dX12_order_68 rfl (lv_at hl 1 rfl) ?_
          refine lv_iadd hx hb dX12_order_69 ?_
          refine lv_topi (fun x_12 ex_12 => ?_)
          have jx_12 : (x_12).toInt = (x_11).toInt + (a1).toInt := by rw [ex_12]; exact dk_addT2 rfl rfl (by omega)
          have hin_13 : vp_in x_12 10 := (dk_inv2 (by omega))
          refine dg_iald hx hb K hP sM_14 hin_13 dX12_order_70 (fun x_14 ex_14 => ?_)
          refine W.widen (k := 0) (n := 0) (Nat.le_of_ble_eq_true rfl) (Nat.le_of_ble_eq_true rfl) ?_
          exact dg_iret hx hb hr hlocks rfl hP hS ⟨rfl, (Eq.symm (F_m_order_p2 w_2_2 c_3 (dk_neT jc_4 (k := 0) (b := 0) (by decide +kernel) (dk_dq rfl)) (dk_eqT jc_4 (k := 1) (by decide +kernel)) (zI_eq f_x_10) ex_11 ex_12 (Eq.symm ex_14.symm))), trivial⟩ dX12_order_71
      · as_aux_lemma =>
          refine lv_tableIn (off := 61) (tgt := 72) hx hb dX12_order_11 (by rw [jc_4]; decide) (by rw [jc_4]; decide) (by rw [jc_4]; decide +kernel) (dk_dq rfl) ?_
          refine lv_aload_n hx hb dX12_order_72 rfl (lv_at hl 0 rfl) ?_
          refine dg_get (C := RX12) (T := TX12) (N := 77) hx hb hts (fun w h => bw_mem (wU_X12 w h)) hown K hP sM_0 rfl 27 (dk_dq rfl) (hts _ (bw_mem wB_400)) (fun _ h9 => h9) (v := .ref (o + 15)) (show S.1 0 27 = .ref (o + 15) from dg_I.rel (d := 15) I sM_0 (by decide +kernel)) dX12_order_73 ?_
          refine lv_iconst (v := 5) hx hb dX12_order_76 (by decide +kernel) ?_
          refine lv_aload_n hx hb dX12_order_77 rfl (lv_at hl 0 rfl) ?_
          obtain ⟨x_15, f_x_15, b_x_15⟩ := dg_I.int (i := 0) (k := 13) (lo := 0) (hi := 1) I sM_0 (by decide +kernel)
          refine dg_get (C := RX12) (T := TX12) (N := 77) hx hb hts (fun w h => bw_mem (wU_X12 w h)) hown K hP sM_0 rfl 13 (dk_dq rfl) (hts _ (bw_mem wB_1085)) (fun _ h9 => h9) (v := .int x_15) f_x_15 dX12_order_78 ?_
          refine lv_imul hx hb dX12_order_81 ?_
          refine lv_topi (fun x_16 ex_16 => ?_)
          have jx_16 : (x_16).toInt = 5 * (x_15).toInt := by rw [ex_16]; exact dk_mulT2 (by decide +kernel) rfl (by omega)
          refine lv_iload_n hx hb dX12_order_82 rfl (lv_at hl 1 rfl) ?_
          refine lv_iadd hx hb dX12_order_83 ?_
          refine lv_topi (fun x_17 ex_17 => ?_)
          have jx_17 : (x_17).toInt = (x_16).toInt + (a1).toInt := by rw [ex_17]; exact dk_addT2 rfl rfl (by omega)
          have hin_18 : vp_in x_17 10 := (dk_inv2 (by omega))
          refine dg_iald hx hb K hP sM_15 hin_18 dX12_order_84 (fun x_19 ex_19 => ?_)
          refine W.widen (k := 0) (n := 0) (Nat.le_of_ble_eq_true rfl) (Nat.le_of_ble_eq_true rfl) ?_
          exact dg_iret hx hb hr hlocks rfl hP hS ⟨rfl, (Eq.symm (F_m_order_p3 w_2_2 c_3 (dk_neT jc_4 (k := 0) (b := 0) (by decide +kernel) (dk_dq rfl)) (dk_neT jc_4 (k := 1) (b := 1) (by decide +kernel) (dk_dq rfl)) (dk_eqT jc_4 (k := 2) (by decide +kernel)) (zI_eq f_x_15) ex_16 ex_17 (Eq.symm ex_19.symm))), trivial⟩ dX12_order_85
      · as_aux_lemma =>
          refine lv_tableIn (off := 75) (tgt := 86) hx hb dX12_order_11 (by rw [jc_4]; decide) (by rw [jc_4]; decide) (by rw [jc_4]; decide +kernel) (dk_dq rfl) ?_
          refine lv_aload_n hx hb dX12_order_86 rfl (lv_at hl 0 rfl) ?_
          refine dg_get (C := RX12) (T := TX12) (N := 77) hx hb hts (fun w h => bw_mem (wU_X12 w h)) hown K hP sM_0 rfl 54 (dk_dq rfl) (hts _ (bw_mem wB_1131)) (fun _ h9 => h9) (v := .ref (o + 34)) (show S.1 0 54 = .ref (o + 34) from dg_I.rel (d := 34) I sM_0 (by decide +kernel)) dX12_order_87 ?_
          refine lv_iconst (v := 0) hx hb dX12_order_90 (by decide +kernel) ?_
          have hin_20 : vp_in (0 : Int32) 22 := (dk_in (by decide +kernel))
          refine dg_iald hx hb K hP sM_34 hin_20 dX12_order_91 (fun x_21 ex_21 => ?_)
          refine lv_iload_n hx hb dX12_order_92 rfl (lv_at hl 1 rfl) ?_
          refine dg_calli hS hA1 hA (va_runS (As := [.int x_21, .int a1]) (rest := []) F (c_m_has2 l g D o S x_21 a1 I H.size) (va_cwS 2 hts (bw_S wB_1165 wB_1166 wB_297 wB_1164) rfl rfl rfl (by decide +kernel) ⟨Nat.le_of_ble_eq_true rfl, Nat.le_of_ble_eq_true rfl⟩) (dg_preS K ST hP hS hA1 hA) rfl rfl hl.1 rfl (lv_room (Nat.le_of_ble_eq_true rfl)) dX12_order_93 ⟨Nat.le_of_ble_eq_true rfl, Nat.le_of_ble_eq_true rfl⟩) (fun x_22 S_23 hw_23 H locs hP hS => ?_)
          rw [hw_23.1] at hP
          obtain ⟨hq_23, w_23_0, w_23_1, -⟩ := hw_23
          have w_23_0 : 0 ≤ (x_22).toInt ∧ (x_22).toInt ≤ 1 := w_23_0
          refine lv_if_eq (tgt := 103) hx hb dX12_order_96 (dk_dq rfl) (fun c_24 => ?_) (fun c_24 => ?_)
          · have jc_24 := dk_eqc (k := 0) (by decide +kernel) c_24
            refine lv_iconst (v := 0) hx hb dX12_order_103 (by decide +kernel) ?_
            refine W.widen (k := 0) (n := 0) (Nat.le_of_ble_eq_true rfl) (Nat.le_of_ble_eq_true rfl) ?_
            exact dg_iret hx hb hr hlocks rfl hP hS ⟨rfl, (Eq.symm (F_m_order_p4 w_2_2 c_3 (dk_neT jc_4 (k := 0) (b := 0) (by decide +kernel) (dk_dq rfl)) (dk_neT jc_4 (k := 1) (b := 1) (by decide +kernel) (dk_dq rfl)) (dk_neT jc_4 (k := 2) (b := 2) (by decide +kernel) (dk_dq rfl)) (dk_eqT jc_4 (k := 3) (by decide +kernel)) (Eq.symm ex_21.symm) w_23_1 c_24)), trivial⟩ dX12_order_104
          · have jc_24 := dk_neqc (k := 0) (by decide +kernel) c_24
            refine lv_iconst (v := 1) hx hb dX12_order_99 (by decide +kernel) ?_
            refine lv_goto (tgt := 104) hx hb dX12_order_100 (dk_dq rfl) ?_
            refine W.widen (k := 0) (n := 0) (Nat.le_of_ble_eq_true rfl) (Nat.le_of_ble_eq_true rfl) ?_
            exact dg_iret hx hb hr hlocks rfl hP hS ⟨rfl, (Eq.symm (F_m_order_p5 w_2_2 c_3 (dk_neT jc_4 (k := 0) (b := 0) (by decide +kernel) (dk_dq rfl)) (dk_neT jc_4 (k := 1) (b := 1) (by decide +kernel) (dk_dq rfl)) (dk_neT jc_4 (k := 2) (b := 2) (by decide +kernel) (dk_dq rfl)) (dk_eqT jc_4 (k := 3) (by decide +kernel)) (Eq.symm ex_21.symm) w_23_1 c_24)), trivial⟩ dX12_order_104
      · as_aux_lemma =>
          refine lv_tableIn (off := 94) (tgt := 105) hx hb dX12_order_11 (by rw [jc_4]; decide) (by rw [jc_4]; decide) (by rw [jc_4]; decide +kernel) (dk_dq rfl) ?_
          refine lv_aload_n hx hb dX12_order_105 rfl (lv_at hl 0 rfl) ?_
          refine lv_iload_n hx hb dX12_order_106 rfl (lv_at hl 1 rfl) ?_
          refine dg_calli hS hA1 hA (va_runV (As := [.int a1]) (rest := []) F (c_m_canSell l g D o S a1 I H.size) (cwV 1 hts (bw_V wB_1219 wB_1220 wB_1221 wB_297 wB_1218) rfl rfl rfl (by decide +kernel) ⟨Nat.le_of_ble_eq_true rfl, Nat.le_of_ble_eq_true rfl⟩) (dg_preV sM_0 rfl K ST hP hS hA1 hA) rfl rfl hl.1 rfl (lv_room (Nat.le_of_ble_eq_true rfl)) dX12_order_107 ⟨Nat.le_of_ble_eq_true rfl, Nat.le_of_ble_eq_true rfl⟩) (fun x_25 S_26 hw_26 H locs hP hS => ?_)
          rw [hw_26.1] at hP
          obtain ⟨hq_26, w_26_0, w_26_1, w_26_2, -⟩ := hw_26
          have w_26_0 : 0 ≤ (x_25).toInt ∧ (x_25).toInt ≤ 1 := w_26_0
          have w_26_1 : (x_25).toInt = 1 → (0 ≤ (a1).toInt ∧ (a1).toInt ≤ 4) := w_26_1
          refine lv_if_eq (tgt := 117) hx hb dX12_order_110 (dk_dq rfl) (fun c_27 => ?_) (fun c_27 => ?_)
          · have jc_27 := dk_eqc (k := 0) (by decide +kernel) c_27
            refine lv_iconst (v := 0) hx hb dX12_order_117 (by decide +kernel) ?_
            refine W.widen (k := 0) (n := 0) (Nat.le_of_ble_eq_true rfl) (Nat.le_of_ble_eq_true rfl) ?_
            exact dg_iret hx hb hr hlocks rfl hP hS ⟨rfl, (Eq.symm (F_m_order_p6 w_2_2 c_3 (dk_neT jc_4 (k := 0) (b := 0) (by decide +kernel) (dk_dq rfl)) (dk_neT jc_4 (k := 1) (b := 1) (by decide +kernel) (dk_dq rfl)) (dk_neT jc_4 (k := 2) (b := 2) (by decide +kernel) (dk_dq rfl)) (dk_neT jc_4 (k := 3) (b := 3) (by decide +kernel) (dk_dq rfl)) (dk_eqT jc_4 (k := 4) (by decide +kernel)) w_26_2 c_27)), trivial⟩ dX12_order_118
          · have jc_27 := dk_neqc (k := 0) (by decide +kernel) c_27
            refine lv_iconst (v := 1) hx hb dX12_order_113 (by decide +kernel) ?_
            refine lv_goto (tgt := 118) hx hb dX12_order_114 (dk_dq rfl) ?_
            refine W.widen (k := 0) (n := 0) (Nat.le_of_ble_eq_true rfl) (Nat.le_of_ble_eq_true rfl) ?_
            exact dg_iret hx hb hr hlocks rfl hP hS ⟨rfl, (Eq.symm (F_m_order_p7 w_2_2 c_3 (dk_neT jc_4 (k := 0) (b := 0) (by decide +kernel) (dk_dq rfl)) (dk_neT jc_4 (k := 1) (b := 1) (by decide +kernel) (dk_dq rfl)) (dk_neT jc_4 (k := 2) (b := 2) (by decide +kernel) (dk_dq rfl)) (dk_neT jc_4 (k := 3) (b := 3) (by decide +kernel) (dk_dq rfl)) (dk_eqT jc_4 (k := 4) (by decide +kernel)) w_26_2 c_27)), trivial⟩ dX12_order_118
  · have jc_3 := dk_eqc (k := 0) (by decide +kernel) c_3
    refine lv_iconst (v := (-1)) hx hb dX12_order_8 (by decide +kernel) ?_
    refine W.widen (k := 0) (n := 0) (Nat.le_of_ble_eq_true rfl) (Nat.le_of_ble_eq_true rfl) ?_
    exact dg_iret hx hb hr hlocks rfl hP hS ⟨rfl, (Eq.symm (F_m_order_p8 w_2_2 c_3)), trivial⟩ dX12_order_9
noncomputable def F_m_tubs (o : Nat) (S : dg_S) (a1 : Int32) : Int32 := let x_1 : Int32 := F_m_is o S a1 (0 : Int32) (9 : Int32); (if x_1 = (0 : Int32) then (-1 : Int32) else let x_7 : Int32 := S.2.1 37 (a1 : Int32).toNatClampNeg; x_7)
theorem F_m_tubs_p0 {o : Nat} {S : dg_S} {a1 : Int32} {x_1 : Int32} (h0 : x_1 = F_m_is o S a1 (0 : Int32) (9 : Int32)) (h1 : x_1 = (0 : Int32)) : F_m_tubs o S a1 = (-1 : Int32) := by
  replace h0 := Eq.symm h0
  subst h0
  exact (Eq.trans (if_pos h1) rfl)
theorem F_m_tubs_p1 {o : Nat} {S : dg_S} {a1 : Int32} {x_7 : Int32} {x_1 : Int32} (h0 : x_1 = F_m_is o S a1 (0 : Int32) (9 : Int32)) (h1 : ¬ (x_1 = (0 : Int32))) (h2 : x_7 = S.2.1 37 (a1 : Int32).toNatClampNeg) : F_m_tubs o S a1 = x_7 := by
  replace h0 := Eq.symm h0
  subst h0
  replace h2 := Eq.symm h2
  subst h2
  exact (Eq.trans (if_neg h1) rfl)
set_option maxHeartbeats 8000000 in
set_option maxRecDepth 100000 in
theorem c_m_tubs (l : Launch) (g : Nat → ClassId) (D : va_G) (o : Nat) (S : dg_S) (a1 : Int32) (I : CM o S) (sz : Nat) : Met l yX12_tubs (bw yX12_tubs cX12_tubs 2 (some .int)) ({ frames := 2, cells := 0, slots := 0, locals := 54 } : Room) (dk_Pc g D (dg_w g shM o rfM S) sz [.ref (o + 0), .int a1]) (va_Qi (fun (r : Int32) S' => S' = S ∧ (r = F_m_tubs o S a1) ∧ True) (dg_B g D shM o rfM) (dg_A o shM.length sz)) 0 0 (dg_A o shM.length sz) := by
  refine dg_met (cc := cX12_tubs) (maxL := 2) (ret := (some .int)) (dk_dq rfl) rfl (Nat.le_of_ble_eq_true rfl) ?_
  intro p e s m args below meth c A hAe harg hx hb hr hml hts hown hlocks hin hP K hS hA1 hA ST hsz ls hl
  rw [← hAe]
  have F : CallFix p m c cX12_tubs 2 s args (bw yX12_tubs cX12_tubs 2 (some .int)) RX12 := ⟨hx, hb, hml, hown, hts⟩
  have hl : lv_has ls 2 [(0, .ref (o + 0)), (1, .int a1)] := hl
  have M_0 : dg_sm shM [] [] S S := dg_sm.rf
  refine lv_iload_n hx hb dX12_tubs_0 rfl (lv_at hl 1 rfl) ?_
  refine lv_iconst (v := 0) hx hb dX12_tubs_1 (by decide +kernel) ?_
  refine lv_bipush (v := 9) hx hb dX12_tubs_2 (by decide +kernel) ?_
  refine dg_calli hS hA1 hA (va_runS (As := [.int a1, .int 0, .int 9]) (rest := []) F (c_m_isR l g D o S a1 0 9 I s.heap.size) (va_cwS 3 hts (bw_S wB_362 wB_363 wB_297 wB_361) rfl rfl rfl (by decide +kernel) ⟨Nat.le_of_ble_eq_true rfl, Nat.le_of_ble_eq_true rfl⟩) (dg_preS K ST hP hS hA1 hA) rfl rfl hl.1 rfl (lv_room (Nat.le_of_ble_eq_true rfl)) dX12_tubs_4 ⟨Nat.le_of_ble_eq_true rfl, Nat.le_of_ble_eq_true rfl⟩) (fun x_1 S_2 hw_2 H locs hP hS => ?_)
  rw [hw_2.1] at hP
  obtain ⟨hq_2, w_2_0, w_2_1, w_2_2, -⟩ := hw_2
  have hz_3 : (0 : Int32).toInt = 0 := by decide +kernel
  have hz_4 : (9 : Int32).toInt = 9 := by decide +kernel
  have w_2_0 : 0 ≤ (x_1).toInt ∧ (x_1).toInt ≤ 1 := w_2_0
  have w_2_1 : (x_1).toInt = 1 ↔ (((0 : Int32)).toInt ≤ (a1).toInt ∧ (a1).toInt ≤ ((9 : Int32)).toInt) := w_2_1
  refine lv_if_eq (tgt := 19) hx hb dX12_tubs_7 (dk_dq rfl) (fun c_5 => ?_) (fun c_5 => ?_)
  · have jc_5 := dk_eqc (k := 0) (by decide +kernel) c_5
    refine lv_iconst (v := (-1)) hx hb dX12_tubs_19 (by decide +kernel) ?_
    refine W.widen (k := 0) (n := 0) (Nat.le_of_ble_eq_true rfl) (Nat.le_of_ble_eq_true rfl) ?_
    exact dg_iret hx hb hr hlocks rfl hP hS ⟨rfl, (Eq.symm (F_m_tubs_p0 w_2_2 c_5)), trivial⟩ dX12_tubs_20
  · have jc_5 := dk_neqc (k := 0) (by decide +kernel) c_5
    refine lv_aload_n hx hb dX12_tubs_10 rfl (lv_at hl 0 rfl) ?_
    refine dg_get (C := RX12) (T := TX12) (N := 77) hx hb hts (fun w h => bw_mem (wU_X12 w h)) hown K hP sM_0 rfl 57 (dk_dq rfl) (hts _ (bw_mem wB_1117)) (fun _ h9 => h9) (v := .ref (o + 37)) (show S.1 0 57 = .ref (o + 37) from dg_I.rel (d := 37) I sM_0 (by decide +kernel)) dX12_tubs_11 ?_
    refine lv_iload_n hx hb dX12_tubs_14 rfl (lv_at hl 1 rfl) ?_
    have hin_6 : vp_in a1 220 := (dk_inv2 (by omega))
    refine dg_iald hx hb K hP sM_37 hin_6 dX12_tubs_15 (fun x_7 ex_7 => ?_)
    refine lv_goto (tgt := 20) hx hb dX12_tubs_16 (dk_dq rfl) ?_
    refine W.widen (k := 0) (n := 0) (Nat.le_of_ble_eq_true rfl) (Nat.le_of_ble_eq_true rfl) ?_
    exact dg_iret hx hb hr hlocks rfl hP hS ⟨rfl, (Eq.symm (F_m_tubs_p1 w_2_2 c_5 (Eq.symm ex_7.symm))), trivial⟩ dX12_tubs_20
