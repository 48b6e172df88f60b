/-! 35.m4.lean.txt -/
theorem dX12_digs_0 : decode cX12_digs 0 = .ok (.aload_n 0, 1) := dk_o42 (by decide +kernel)
theorem dX12_digs_1 : decode cX12_digs 1 = .ok (.getfield 75, 3) := dk_o180 (by decide +kernel)
theorem dX12_digs_4 : decode cX12_digs 4 = .ok (.aload_n 0, 1) := dk_o42 (by decide +kernel)
theorem dX12_digs_5 : decode cX12_digs 5 = .ok (.getfield 51, 3) := dk_o180 (by decide +kernel)
theorem dX12_digs_8 : decode cX12_digs 8 = .ok (.iaload, 1) := dk_o46 (by decide +kernel)
theorem dX12_digs_9 : decode cX12_digs 9 = .ok (.ifCond .ne 5, 3) := dk_o154 (by decide +kernel)
theorem dX12_digs_12 : decode cX12_digs 12 = .ok (.iconst 0, 1) := dk_o3 (by decide +kernel)
theorem dX12_digs_13 : decode cX12_digs 13 = .ok (.ireturn, 1) := dk_o172 (by decide +kernel)
theorem dX12_digs_14 : decode cX12_digs 14 = .ok (.bipush 16, 2) := dk_o16 (by decide +kernel)
theorem dX12_digs_16 : decode cX12_digs 16 = .ok (.iload_n 1, 1) := dk_o27 (by decide +kernel)
theorem dX12_digs_17 : decode cX12_digs 17 = .ok (.imul, 1) := dk_o104 (by decide +kernel)
theorem dX12_digs_18 : decode cX12_digs 18 = .ok (.aload_n 0, 1) := dk_o42 (by decide +kernel)
theorem dX12_digs_19 : decode cX12_digs 19 = .ok (.getfield 162, 3) := dk_o180 (by decide +kernel)
theorem dX12_digs_22 : decode cX12_digs 22 = .ok (.iload_n 1, 1) := dk_o27 (by decide +kernel)
theorem dX12_digs_23 : decode cX12_digs 23 = .ok (.iaload, 1) := dk_o46 (by decide +kernel)
theorem dX12_digs_24 : decode cX12_digs 24 = .ok (.aload_n 0, 1) := dk_o42 (by decide +kernel)
theorem dX12_digs_25 : decode cX12_digs 25 = .ok (.getfield 75, 3) := dk_o180 (by decide +kernel)
theorem dX12_digs_28 : decode cX12_digs 28 = .ok (.aload_n 0, 1) := dk_o42 (by decide +kernel)
theorem dX12_digs_29 : decode cX12_digs 29 = .ok (.getfield 51, 3) := dk_o180 (by decide +kernel)
theorem dX12_digs_32 : decode cX12_digs 32 = .ok (.iaload, 1) := dk_o46 (by decide +kernel)
theorem dX12_digs_33 : decode cX12_digs 33 = .ok (.irem, 1) := dk_o112 (by decide +kernel)
theorem dX12_digs_34 : decode cX12_digs 34 = .ok (.iadd, 1) := dk_o96 (by decide +kernel)
theorem dX12_digs_35 : decode cX12_digs 35 = .ok (.istore_n 2, 1) := dk_o61 (by decide +kernel)
theorem dX12_digs_36 : decode cX12_digs 36 = .ok (.aload_n 0, 1) := dk_o42 (by decide +kernel)
theorem dX12_digs_37 : decode cX12_digs 37 = .ok (.getfield 183, 3) := dk_o180 (by decide +kernel)
theorem dX12_digs_40 : decode cX12_digs 40 = .ok (.iload_n 2, 1) := dk_o28 (by decide +kernel)
theorem dX12_digs_41 : decode cX12_digs 41 = .ok (.iaload, 1) := dk_o46 (by decide +kernel)
theorem dX12_digs_42 : decode cX12_digs 42 = .ok (.istore_n 3, 1) := dk_o62 (by decide +kernel)
theorem dX12_digs_43 : decode cX12_digs 43 = .ok (.aload_n 0, 1) := dk_o42 (by decide +kernel)
theorem dX12_digs_44 : decode cX12_digs 44 = .ok (.iload_n 1, 1) := dk_o27 (by decide +kernel)
theorem dX12_digs_45 : decode cX12_digs 45 = .ok (.invokevirtual 484, 3) := dk_o182 (by decide +kernel)
theorem dX12_digs_48 : decode cX12_digs 48 = .ok (.aload_n 0, 1) := dk_o42 (by decide +kernel)
theorem dX12_digs_49 : decode cX12_digs 49 = .ok (.getfield 174, 3) := dk_o180 (by decide +kernel)
theorem dX12_digs_52 : decode cX12_digs 52 = .ok (.iload_n 1, 1) := dk_o27 (by decide +kernel)
theorem dX12_digs_53 : decode cX12_digs 53 = .ok (.iaload, 1) := dk_o46 (by decide +kernel)
theorem dX12_digs_54 : decode cX12_digs 54 = .ok (.aload_n 0, 1) := dk_o42 (by decide +kernel)
theorem dX12_digs_55 : decode cX12_digs 55 = .ok (.getfield 180, 3) := dk_o180 (by decide +kernel)
theorem dX12_digs_58 : decode cX12_digs 58 = .ok (.iload_n 2, 1) := dk_o28 (by decide +kernel)
theorem dX12_digs_59 : decode cX12_digs 59 = .ok (.iaload, 1) := dk_o46 (by decide +kernel)
theorem dX12_digs_60 : decode cX12_digs 60 = .ok (.invokestatic 487, 3) := dk_o184 (by decide +kernel)
theorem dX12_digs_63 : decode cX12_digs 63 = .ok (.ifCond .ne 12, 3) := dk_o154 (by decide +kernel)
theorem dX12_digs_66 : decode cX12_digs 66 = .ok (.aload_n 0, 1) := dk_o42 (by decide +kernel)
theorem dX12_digs_67 : decode cX12_digs 67 = .ok (.iload_n 1, 1) := dk_o27 (by decide +kernel)
theorem dX12_digs_68 : decode cX12_digs 68 = .ok (.iload_n 3, 1) := dk_o29 (by decide +kernel)
theorem dX12_digs_69 : decode cX12_digs 69 = .ok (.invokevirtual 490, 3) := dk_o182 (by decide +kernel)
theorem dX12_digs_72 : decode cX12_digs 72 = .ok (.ifCond .ne 5, 3) := dk_o154 (by decide +kernel)
theorem dX12_digs_75 : decode cX12_digs 75 = .ok (.iconst 0, 1) := dk_o3 (by decide +kernel)
theorem dX12_digs_76 : decode cX12_digs 76 = .ok (.ireturn, 1) := dk_o172 (by decide +kernel)
theorem dX12_digs_77 : decode cX12_digs 77 = .ok (.aload_n 0, 1) := dk_o42 (by decide +kernel)
theorem dX12_digs_78 : decode cX12_digs 78 = .ok (.iload_n 1, 1) := dk_o27 (by decide +kernel)
theorem dX12_digs_79 : decode cX12_digs 79 = .ok (.iload_n 3, 1) := dk_o29 (by decide +kernel)
theorem dX12_digs_80 : decode cX12_digs 80 = .ok (.invokevirtual 493, 3) := dk_o182 (by decide +kernel)
theorem dX12_digs_83 : decode cX12_digs 83 = .ok (.ifCond .eq 47, 3) := dk_o153 (by decide +kernel)
theorem dX12_digs_86 : decode cX12_digs 86 = .ok (.aload_n 0, 1) := dk_o42 (by decide +kernel)
theorem dX12_digs_87 : decode cX12_digs 87 = .ok (.getfield 168, 3) := dk_o180 (by decide +kernel)
theorem dX12_digs_90 : decode cX12_digs 90 = .ok (.bipush 64, 2) := dk_o16 (by decide +kernel)
theorem dX12_digs_92 : decode cX12_digs 92 = .ok (.iload_n 1, 1) := dk_o27 (by decide +kernel)
theorem dX12_digs_93 : decode cX12_digs 93 = .ok (.imul, 1) := dk_o104 (by decide +kernel)
theorem dX12_digs_94 : decode cX12_digs 94 = .ok (.iload_n 3, 1) := dk_o29 (by decide +kernel)
theorem dX12_digs_95 : decode cX12_digs 95 = .ok (.iadd, 1) := dk_o96 (by decide +kernel)
theorem dX12_digs_96 : decode cX12_digs 96 = .ok (.iconst 0, 1) := dk_o3 (by decide +kernel)
theorem dX12_digs_97 : decode cX12_digs 97 = .ok (.iastore, 1) := dk_o79 (by decide +kernel)
theorem dX12_digs_98 : decode cX12_digs 98 = .ok (.aload_n 0, 1) := dk_o42 (by decide +kernel)
theorem dX12_digs_99 : decode cX12_digs 99 = .ok (.getfield 174, 3) := dk_o180 (by decide +kernel)
theorem dX12_digs_102 : decode cX12_digs 102 = .ok (.iload_n 1, 1) := dk_o27 (by decide +kernel)
theorem dX12_digs_103 : decode cX12_digs 103 = .ok (.dup2, 1) := dk_o92 (by decide +kernel)
theorem dX12_digs_104 : decode cX12_digs 104 = .ok (.iaload, 1) := dk_o46 (by decide +kernel)
theorem dX12_digs_105 : decode cX12_digs 105 = .ok (.iconst 1, 1) := dk_o4 (by decide +kernel)
theorem dX12_digs_106 : decode cX12_digs 106 = .ok (.aload_n 0, 1) := dk_o42 (by decide +kernel)
theorem dX12_digs_107 : decode cX12_digs 107 = .ok (.getfield 180, 3) := dk_o180 (by decide +kernel)
theorem dX12_digs_110 : decode cX12_digs 110 = .ok (.iload_n 2, 1) := dk_o28 (by decide +kernel)
theorem dX12_digs_111 : decode cX12_digs 111 = .ok (.iaload, 1) := dk_o46 (by decide +kernel)
theorem dX12_digs_112 : decode cX12_digs 112 = .ok (.ishl, 1) := dk_o120 (by decide +kernel)
theorem dX12_digs_113 : decode cX12_digs 113 = .ok (.ior, 1) := dk_o128 (by decide +kernel)
theorem dX12_digs_114 : decode cX12_digs 114 = .ok (.iastore, 1) := dk_o79 (by decide +kernel)
theorem dX12_digs_115 : decode cX12_digs 115 = .ok (.aload_n 0, 1) := dk_o42 (by decide +kernel)
theorem dX12_digs_116 : decode cX12_digs 116 = .ok (.iload_n 1, 1) := dk_o27 (by decide +kernel)
theorem dX12_digs_117 : decode cX12_digs 117 = .ok (.aload_n 0, 1) := dk_o42 (by decide +kernel)
theorem dX12_digs_118 : decode cX12_digs 118 = .ok (.getfield 180, 3) := dk_o180 (by decide +kernel)
theorem dX12_digs_121 : decode cX12_digs 121 = .ok (.iload_n 2, 1) := dk_o28 (by decide +kernel)
theorem dX12_digs_122 : decode cX12_digs 122 = .ok (.iaload, 1) := dk_o46 (by decide +kernel)
theorem dX12_digs_123 : decode cX12_digs 123 = .ok (.iload_n 3, 1) := dk_o29 (by decide +kernel)
theorem dX12_digs_124 : decode cX12_digs 124 = .ok (.iconst (-1), 1) := dk_o2 (by decide +kernel)
theorem dX12_digs_125 : decode cX12_digs 125 = .ok (.invokevirtual 496, 3) := dk_o182 (by decide +kernel)
theorem dX12_digs_128 : decode cX12_digs 128 = .ok (.iconst 0, 1) := dk_o3 (by decide +kernel)
theorem dX12_digs_129 : decode cX12_digs 129 = .ok (.ireturn, 1) := dk_o172 (by decide +kernel)
theorem dX12_digs_130 : decode cX12_digs 130 = .ok (.aload_n 0, 1) := dk_o42 (by decide +kernel)
theorem dX12_digs_131 : decode cX12_digs 131 = .ok (.iload_n 1, 1) := dk_o27 (by decide +kernel)
theorem dX12_digs_132 : decode cX12_digs 132 = .ok (.iload_n 3, 1) := dk_o29 (by decide +kernel)
theorem dX12_digs_133 : decode cX12_digs 133 = .ok (.invokevirtual 500, 3) := dk_o182 (by decide +kernel)
theorem dX12_digs_136 : decode cX12_digs 136 = .ok (.istore 4, 2) := dk_o54 (by decide +kernel)
theorem dX12_digs_138 : decode cX12_digs 138 = .ok (.aload_n 0, 1) := dk_o42 (by decide +kernel)
theorem dX12_digs_139 : decode cX12_digs 139 = .ok (.getfield 168, 3) := dk_o180 (by decide +kernel)
theorem dX12_digs_142 : decode cX12_digs 142 = .ok (.bipush 64, 2) := dk_o16 (by decide +kernel)
theorem dX12_digs_144 : decode cX12_digs 144 = .ok (.iload_n 1, 1) := dk_o27 (by decide +kernel)
theorem dX12_digs_145 : decode cX12_digs 145 = .ok (.imul, 1) := dk_o104 (by decide +kernel)
theorem dX12_digs_146 : decode cX12_digs 146 = .ok (.iload_n 3, 1) := dk_o29 (by decide +kernel)
theorem dX12_digs_147 : decode cX12_digs 147 = .ok (.iadd, 1) := dk_o96 (by decide +kernel)
theorem dX12_digs_148 : decode cX12_digs 148 = .ok (.iconst (-1), 1) := dk_o2 (by decide +kernel)
theorem dX12_digs_149 : decode cX12_digs 149 = .ok (.iastore, 1) := dk_o79 (by decide +kernel)
theorem dX12_digs_150 : decode cX12_digs 150 = .ok (.aload_n 0, 1) := dk_o42 (by decide +kernel)
theorem dX12_digs_151 : decode cX12_digs 151 = .ok (.iload_n 1, 1) := dk_o27 (by decide +kernel)
theorem dX12_digs_152 : decode cX12_digs 152 = .ok (.aload_n 0, 1) := dk_o42 (by decide +kernel)
theorem dX12_digs_153 : decode cX12_digs 153 = .ok (.getfield 180, 3) := dk_o180 (by decide +kernel)
theorem dX12_digs_156 : decode cX12_digs 156 = .ok (.iload_n 2, 1) := dk_o28 (by decide +kernel)
theorem dX12_digs_157 : decode cX12_digs 157 = .ok (.iaload, 1) := dk_o46 (by decide +kernel)
theorem dX12_digs_158 : decode cX12_digs 158 = .ok (.iload_n 3, 1) := dk_o29 (by decide +kernel)
theorem dX12_digs_159 : decode cX12_digs 159 = .ok (.iload 4, 2) := dk_o21 (by decide +kernel)
theorem dX12_digs_161 : decode cX12_digs 161 = .ok (.invokevirtual 496, 3) := dk_o182 (by decide +kernel)
theorem dX12_digs_164 : decode cX12_digs 164 = .ok (.aload_n 0, 1) := dk_o42 (by decide +kernel)
theorem dX12_digs_165 : decode cX12_digs 165 = .ok (.getfield 186, 3) := dk_o180 (by decide +kernel)
theorem dX12_digs_168 : decode cX12_digs 168 = .ok (.bipush 10, 2) := dk_o16 (by decide +kernel)
theorem dX12_digs_170 : decode cX12_digs 170 = .ok (.iload_n 1, 1) := dk_o27 (by decide +kernel)
theorem dX12_digs_171 : decode cX12_digs 171 = .ok (.imul, 1) := dk_o104 (by decide +kernel)
theorem dX12_digs_172 : decode cX12_digs 172 = .ok (.iload 4, 2) := dk_o21 (by decide +kernel)
theorem dX12_digs_174 : decode cX12_digs 174 = .ok (.iadd, 1) := dk_o96 (by decide +kernel)
theorem dX12_digs_175 : decode cX12_digs 175 = .ok (.iaload, 1) := dk_o46 (by decide +kernel)
theorem dX12_digs_176 : decode cX12_digs 176 = .ok (.bipush 99, 2) := dk_o16 (by decide +kernel)
theorem dX12_digs_178 : decode cX12_digs 178 = .ok (.if_icmp .ge 19, 3) := dk_o162 (by decide +kernel)
theorem dX12_digs_181 : decode cX12_digs 181 = .ok (.aload_n 0, 1) := dk_o42 (by decide +kernel)
theorem dX12_digs_182 : decode cX12_digs 182 = .ok (.getfield 186, 3) := dk_o180 (by decide +kernel)
theorem dX12_digs_185 : decode cX12_digs 185 = .ok (.bipush 10, 2) := dk_o16 (by decide +kernel)
theorem dX12_digs_187 : decode cX12_digs 187 = .ok (.iload_n 1, 1) := dk_o27 (by decide +kernel)
theorem dX12_digs_188 : decode cX12_digs 188 = .ok (.imul, 1) := dk_o104 (by decide +kernel)
theorem dX12_digs_189 : decode cX12_digs 189 = .ok (.iload 4, 2) := dk_o21 (by decide +kernel)
theorem dX12_digs_191 : decode cX12_digs 191 = .ok (.iadd, 1) := dk_o96 (by decide +kernel)
theorem dX12_digs_192 : decode cX12_digs 192 = .ok (.dup2, 1) := dk_o92 (by decide +kernel)
theorem dX12_digs_193 : decode cX12_digs 193 = .ok (.iaload, 1) := dk_o46 (by decide +kernel)
theorem dX12_digs_194 : decode cX12_digs 194 = .ok (.iconst 1, 1) := dk_o4 (by decide +kernel)
theorem dX12_digs_195 : decode cX12_digs 195 = .ok (.iadd, 1) := dk_o96 (by decide +kernel)
theorem dX12_digs_196 : decode cX12_digs 196 = .ok (.iastore, 1) := dk_o79 (by decide +kernel)
theorem dX12_digs_197 : decode cX12_digs 197 = .ok (.iconst 1, 1) := dk_o4 (by decide +kernel)
theorem dX12_digs_198 : decode cX12_digs 198 = .ok (.ireturn, 1) := dk_o172 (by decide +kernel)
theorem dX12_lightens_0 : decode cX12_lightens 0 = .ok (.aload_n 0, 1) := dk_o42 (by decide +kernel)
theorem dX12_lightens_1 : decode cX12_lightens 1 = .ok (.iload_n 1, 1) := dk_o27 (by decide +kernel)
theorem dX12_lightens_2 : decode cX12_lightens 2 = .ok (.invokevirtual 484, 3) := dk_o182 (by decide +kernel)
theorem dX12_lightens_5 : decode cX12_lightens 5 = .ok (.iconst 0, 1) := dk_o3 (by decide +kernel)
theorem dX12_lightens_6 : decode cX12_lightens 6 = .ok (.istore_n 2, 1) := dk_o61 (by decide +kernel)
theorem dX12_lightens_7 : decode cX12_lightens 7 = .ok (.iload_n 2, 1) := dk_o28 (by decide +kernel)
theorem dX12_lightens_8 : decode cX12_lightens 8 = .ok (.bipush 64, 2) := dk_o16 (by decide +kernel)
theorem dX12_lightens_10 : decode cX12_lightens 10 = .ok (.if_icmp .ge 103, 3) := dk_o162 (by decide +kernel)
theorem dX12_lightens_13 : decode cX12_lightens 13 = .ok (.aload_n 0, 1) := dk_o42 (by decide +kernel)
theorem dX12_lightens_14 : decode cX12_lightens 14 = .ok (.getfield 219, 3) := dk_o180 (by decide +kernel)
theorem dX12_lightens_17 : decode cX12_lightens 17 = .ok (.iload_n 2, 1) := dk_o28 (by decide +kernel)
theorem dX12_lightens_18 : decode cX12_lightens 18 = .ok (.iconst 0, 1) := dk_o3 (by decide +kernel)
theorem dX12_lightens_19 : decode cX12_lightens 19 = .ok (.iastore, 1) := dk_o79 (by decide +kernel)
theorem dX12_lightens_20 : decode cX12_lightens 20 = .ok (.aload_n 0, 1) := dk_o42 (by decide +kernel)
theorem dX12_lightens_21 : decode cX12_lightens 21 = .ok (.iload_n 2, 1) := dk_o28 (by decide +kernel)
theorem dX12_lightens_22 : decode cX12_lightens 22 = .ok (.invokevirtual 503, 3) := dk_o182 (by decide +kernel)
theorem dX12_lightens_25 : decode cX12_lightens 25 = .ok (.ifCond .eq 82, 3) := dk_o153 (by decide +kernel)
theorem dX12_lightens_28 : decode cX12_lightens 28 = .ok (.aload_n 0, 1) := dk_o42 (by decide +kernel)
theorem dX12_lightens_29 : decode cX12_lightens 29 = .ok (.iload_n 1, 1) := dk_o27 (by decide +kernel)
theorem dX12_lightens_30 : decode cX12_lightens 30 = .ok (.iload_n 2, 1) := dk_o28 (by decide +kernel)
theorem dX12_lightens_31 : decode cX12_lightens 31 = .ok (.invokevirtual 460, 3) := dk_o182 (by decide +kernel)
theorem dX12_lightens_34 : decode cX12_lightens 34 = .ok (.ifCond .ne 73, 3) := dk_o154 (by decide +kernel)
theorem dX12_lightens_37 : decode cX12_lightens 37 = .ok (.aload_n 0, 1) := dk_o42 (by decide +kernel)
theorem dX12_lightens_38 : decode cX12_lightens 38 = .ok (.iload_n 1, 1) := dk_o27 (by decide +kernel)
theorem dX12_lightens_39 : decode cX12_lightens 39 = .ok (.iload_n 2, 1) := dk_o28 (by decide +kernel)
theorem dX12_lightens_40 : decode cX12_lightens 40 = .ok (.invokevirtual 466, 3) := dk_o182 (by decide +kernel)
theorem dX12_lightens_43 : decode cX12_lightens 43 = .ok (.ldc_w 456, 3) := dk_o19 (by decide +kernel)
theorem dX12_lightens_46 : decode cX12_lightens 46 = .ok (.if_icmp .ne 6, 3) := dk_o160 (by decide +kernel)
theorem dX12_lightens_49 : decode cX12_lightens 49 = .ok (.goto 58, 3) := dk_o167 (by decide +kernel)
theorem dX12_lightens_52 : decode cX12_lightens 52 = .ok (.aload_n 0, 1) := dk_o42 (by decide +kernel)
theorem dX12_lightens_53 : decode cX12_lightens 53 = .ok (.iload_n 1, 1) := dk_o27 (by decide +kernel)
theorem dX12_lightens_54 : decode cX12_lightens 54 = .ok (.iload_n 2, 1) := dk_o28 (by decide +kernel)
theorem dX12_lightens_55 : decode cX12_lightens 55 = .ok (.invokevirtual 475, 3) := dk_o182 (by decide +kernel)
theorem dX12_lightens_58 : decode cX12_lightens 58 = .ok (.aload_n 0, 1) := dk_o42 (by decide +kernel)
theorem dX12_lightens_59 : decode cX12_lightens 59 = .ok (.iconst 0, 1) := dk_o3 (by decide +kernel)
theorem dX12_lightens_60 : decode cX12_lightens 60 = .ok (.invokevirtual 472, 3) := dk_o182 (by decide +kernel)
theorem dX12_lightens_63 : decode cX12_lightens 63 = .ok (.ifCond .eq 11, 3) := dk_o153 (by decide +kernel)
theorem dX12_lightens_66 : decode cX12_lightens 66 = .ok (.aload_n 0, 1) := dk_o42 (by decide +kernel)
theorem dX12_lightens_67 : decode cX12_lightens 67 = .ok (.iconst 0, 1) := dk_o3 (by decide +kernel)
theorem dX12_lightens_68 : decode cX12_lightens 68 = .ok (.invokevirtual 478, 3) := dk_o182 (by decide +kernel)
theorem dX12_lightens_71 : decode cX12_lightens 71 = .ok (.goto 4, 3) := dk_o167 (by decide +kernel)
theorem dX12_lightens_74 : decode cX12_lightens 74 = .ok (.lconst 1, 1) := dk_o10 (by decide +kernel)
theorem dX12_lightens_75 : decode cX12_lightens 75 = .ok (.lstore_n 3, 1) := dk_o66 (by decide +kernel)
theorem dX12_lightens_76 : decode cX12_lightens 76 = .ok (.aload_n 0, 1) := dk_o42 (by decide +kernel)
theorem dX12_lightens_77 : decode cX12_lightens 77 = .ok (.getfield 219, 3) := dk_o180 (by decide +kernel)
theorem dX12_lightens_80 : decode cX12_lightens 80 = .ok (.iload_n 2, 1) := dk_o28 (by decide +kernel)
theorem dX12_lightens_81 : decode cX12_lightens 81 = .ok (.lload_n 3, 1) := dk_o33 (by decide +kernel)
theorem dX12_lightens_82 : decode cX12_lightens 82 = .ok (.lconst 0, 1) := dk_o9 (by decide +kernel)
theorem dX12_lightens_83 : decode cX12_lightens 83 = .ok (.lcmp, 1) := dk_o148 (by decide +kernel)
theorem dX12_lightens_84 : decode cX12_lightens 84 = .ok (.ifCond .ge 7, 3) := dk_o156 (by decide +kernel)
theorem dX12_lightens_87 : decode cX12_lightens 87 = .ok (.iconst 0, 1) := dk_o3 (by decide +kernel)
theorem dX12_lightens_88 : decode cX12_lightens 88 = .ok (.goto 18, 3) := dk_o167 (by decide +kernel)
theorem dX12_lightens_91 : decode cX12_lightens 91 = .ok (.lload_n 3, 1) := dk_o33 (by decide +kernel)
theorem dX12_lightens_92 : decode cX12_lightens 92 = .ok (.ldc2_w 482, 3) := dk_o20 (by decide +kernel)
theorem dX12_lightens_95 : decode cX12_lightens 95 = .ok (.lcmp, 1) := dk_o148 (by decide +kernel)
theorem dX12_lightens_96 : decode cX12_lightens 96 = .ok (.ifCond .le 8, 3) := dk_o158 (by decide +kernel)
theorem dX12_lightens_99 : decode cX12_lightens 99 = .ok (.bipush 9, 2) := dk_o16 (by decide +kernel)
theorem dX12_lightens_101 : decode cX12_lightens 101 = .ok (.goto 5, 3) := dk_o167 (by decide +kernel)
theorem dX12_lightens_104 : decode cX12_lightens 104 = .ok (.lload_n 3, 1) := dk_o33 (by decide +kernel)
theorem dX12_lightens_105 : decode cX12_lightens 105 = .ok (.l2i, 1) := dk_o136 (by decide +kernel)
theorem dX12_lightens_106 : decode cX12_lightens 106 = .ok (.iastore, 1) := dk_o79 (by decide +kernel)
theorem dX12_lightens_107 : decode cX12_lightens 107 = .ok (.iinc 2 1, 3) := dk_o132 (by decide +kernel)
theorem dX12_lightens_110 : decode cX12_lightens 110 = .ok (.goto (-103), 3) := dk_o167 (by decide +kernel)
theorem dX12_lightens_113 : decode cX12_lightens 113 = .ok (.iconst 0, 1) := dk_o3 (by decide +kernel)
theorem dX12_lightens_114 : decode cX12_lightens 114 = .ok (.istore_n 2, 1) := dk_o61 (by decide +kernel)
theorem dX12_lightens_115 : decode cX12_lightens 115 = .ok (.iload_n 2, 1) := dk_o28 (by decide +kernel)
theorem dX12_lightens_116 : decode cX12_lightens 116 = .ok (.bipush 64, 2) := dk_o16 (by decide +kernel)
theorem dX12_lightens_118 : decode cX12_lightens 118 = .ok (.if_icmp .ge 67, 3) := dk_o162 (by decide +kernel)
theorem dX12_lightens_121 : decode cX12_lightens 121 = .ok (.aload_n 0, 1) := dk_o42 (by decide +kernel)
theorem dX12_lightens_122 : decode cX12_lightens 122 = .ok (.getfield 168, 3) := dk_o180 (by decide +kernel)
theorem dX12_lightens_125 : decode cX12_lightens 125 = .ok (.bipush 64, 2) := dk_o16 (by decide +kernel)
theorem dX12_lightens_127 : decode cX12_lightens 127 = .ok (.iload_n 1, 1) := dk_o27 (by decide +kernel)
theorem dX12_lightens_128 : decode cX12_lightens 128 = .ok (.imul, 1) := dk_o104 (by decide +kernel)
theorem dX12_lightens_129 : decode cX12_lightens 129 = .ok (.iload_n 2, 1) := dk_o28 (by decide +kernel)
theorem dX12_lightens_130 : decode cX12_lightens 130 = .ok (.iadd, 1) := dk_o96 (by decide +kernel)
theorem dX12_lightens_131 : decode cX12_lightens 131 = .ok (.iaload, 1) := dk_o46 (by decide +kernel)
theorem dX12_lightens_132 : decode cX12_lightens 132 = .ok (.istore_n 3, 1) := dk_o62 (by decide +kernel)
theorem dX12_lightens_133 : decode cX12_lightens 133 = .ok (.aload_n 0, 1) := dk_o42 (by decide +kernel)
theorem dX12_lightens_134 : decode cX12_lightens 134 = .ok (.iload_n 2, 1) := dk_o28 (by decide +kernel)
theorem dX12_lightens_135 : decode cX12_lightens 135 = .ok (.invokevirtual 503, 3) := dk_o182 (by decide +kernel)
theorem dX12_lightens_138 : decode cX12_lightens 138 = .ok (.ifCond .eq 41, 3) := dk_o153 (by decide +kernel)
theorem dX12_lightens_141 : decode cX12_lightens 141 = .ok (.iload_n 3, 1) := dk_o29 (by decide +kernel)
theorem dX12_lightens_142 : decode cX12_lightens 142 = .ok (.iconst (-1), 1) := dk_o2 (by decide +kernel)
theorem dX12_lightens_143 : decode cX12_lightens 143 = .ok (.if_icmp .eq 36, 3) := dk_o159 (by decide +kernel)
theorem dX12_lightens_146 : decode cX12_lightens 146 = .ok (.aload_n 0, 1) := dk_o42 (by decide +kernel)
theorem dX12_lightens_147 : decode cX12_lightens 147 = .ok (.getfield 168, 3) := dk_o180 (by decide +kernel)
theorem dX12_lightens_150 : decode cX12_lightens 150 = .ok (.bipush 64, 2) := dk_o16 (by decide +kernel)
theorem dX12_lightens_152 : decode cX12_lightens 152 = .ok (.iload_n 1, 1) := dk_o27 (by decide +kernel)
theorem dX12_lightens_153 : decode cX12_lightens 153 = .ok (.imul, 1) := dk_o104 (by decide +kernel)
theorem dX12_lightens_154 : decode cX12_lightens 154 = .ok (.iload_n 2, 1) := dk_o28 (by decide +kernel)
theorem dX12_lightens_155 : decode cX12_lightens 155 = .ok (.iadd, 1) := dk_o96 (by decide +kernel)
theorem dX12_lightens_156 : decode cX12_lightens 156 = .ok (.iload_n 3, 1) := dk_o29 (by decide +kernel)
theorem dX12_lightens_157 : decode cX12_lightens 157 = .ok (.aload_n 0, 1) := dk_o42 (by decide +kernel)
theorem dX12_lightens_158 : decode cX12_lightens 158 = .ok (.getfield 219, 3) := dk_o180 (by decide +kernel)
theorem dX12_lightens_161 : decode cX12_lightens 161 = .ok (.iload_n 2, 1) := dk_o28 (by decide +kernel)
theorem dX12_lightens_162 : decode cX12_lightens 162 = .ok (.iaload, 1) := dk_o46 (by decide +kernel)
theorem dX12_lightens_163 : decode cX12_lightens 163 = .ok (.if_icmp .le 14, 3) := dk_o164 (by decide +kernel)
theorem dX12_lightens_166 : decode cX12_lightens 166 = .ok (.iload_n 3, 1) := dk_o29 (by decide +kernel)
theorem dX12_lightens_167 : decode cX12_lightens 167 = .ok (.aload_n 0, 1) := dk_o42 (by decide +kernel)
theorem dX12_lightens_168 : decode cX12_lightens 168 = .ok (.getfield 219, 3) := dk_o180 (by decide +kernel)
theorem dX12_lightens_171 : decode cX12_lightens 171 = .ok (.iload_n 2, 1) := dk_o28 (by decide +kernel)
theorem dX12_lightens_172 : decode cX12_lightens 172 = .ok (.iaload, 1) := dk_o46 (by decide +kernel)
theorem dX12_lightens_173 : decode cX12_lightens 173 = .ok (.isub, 1) := dk_o100 (by decide +kernel)
theorem dX12_lightens_174 : decode cX12_lightens 174 = .ok (.goto 4, 3) := dk_o167 (by decide +kernel)
theorem dX12_lightens_177 : decode cX12_lightens 177 = .ok (.iconst 0, 1) := dk_o3 (by decide +kernel)
theorem dX12_lightens_178 : decode cX12_lightens 178 = .ok (.iastore, 1) := dk_o79 (by decide +kernel)
theorem dX12_lightens_179 : decode cX12_lightens 179 = .ok (.iinc 2 1, 3) := dk_o132 (by decide +kernel)
theorem dX12_lightens_182 : decode cX12_lightens 182 = .ok (.goto (-67), 3) := dk_o167 (by decide +kernel)
theorem dX12_lightens_185 : decode cX12_lightens 185 = .ok (.return_, 1) := dk_o177 (by decide +kernel)
theorem dX12_ticks_0 : decode cX12_ticks 0 = .ok (.aload_n 0, 1) := dk_o42 (by decide +kernel)
theorem dX12_ticks_1 : decode cX12_ticks 1 = .ok (.iload_n 1, 1) := dk_o27 (by decide +kernel)
theorem dX12_ticks_2 : decode cX12_ticks 2 = .ok (.invokevirtual 506, 3) := dk_o182 (by decide +kernel)
theorem dX12_ticks_5 : decode cX12_ticks 5 = .ok (.ifCond .eq 7, 3) := dk_o153 (by decide +kernel)
theorem dX12_ticks_8 : decode cX12_ticks 8 = .ok (.iconst 1, 1) := dk_o4 (by decide +kernel)
theorem dX12_ticks_9 : decode cX12_ticks 9 = .ok (.goto 4, 3) := dk_o167 (by decide +kernel)
theorem dX12_ticks_12 : decode cX12_ticks 12 = .ok (.iconst 0, 1) := dk_o3 (by decide +kernel)
theorem dX12_ticks_13 : decode cX12_ticks 13 = .ok (.istore_n 2, 1) := dk_o61 (by decide +kernel)
theorem dX12_ticks_14 : decode cX12_ticks 14 = .ok (.aload_n 0, 1) := dk_o42 (by decide +kernel)
theorem dX12_ticks_15 : decode cX12_ticks 15 = .ok (.iload_n 1, 1) := dk_o27 (by decide +kernel)
theorem dX12_ticks_16 : decode cX12_ticks 16 = .ok (.invokevirtual 509, 3) := dk_o182 (by decide +kernel)
theorem dX12_ticks_19 : decode cX12_ticks 19 = .ok (.aload_n 0, 1) := dk_o42 (by decide +kernel)
theorem dX12_ticks_20 : decode cX12_ticks 20 = .ok (.getfield 162, 3) := dk_o180 (by decide +kernel)
theorem dX12_ticks_23 : decode cX12_ticks 23 = .ok (.iload_n 1, 1) := dk_o27 (by decide +kernel)
theorem dX12_ticks_24 : decode cX12_ticks 24 = .ok (.dup2, 1) := dk_o92 (by decide +kernel)
theorem dX12_ticks_25 : decode cX12_ticks 25 = .ok (.iaload, 1) := dk_o46 (by decide +kernel)
theorem dX12_ticks_26 : decode cX12_ticks 26 = .ok (.iconst 1, 1) := dk_o4 (by decide +kernel)
theorem dX12_ticks_27 : decode cX12_ticks 27 = .ok (.iadd, 1) := dk_o96 (by decide +kernel)
theorem dX12_ticks_28 : decode cX12_ticks 28 = .ok (.iastore, 1) := dk_o79 (by decide +kernel)
theorem dX12_ticks_29 : decode cX12_ticks 29 = .ok (.iload_n 2, 1) := dk_o28 (by decide +kernel)
theorem dX12_ticks_30 : decode cX12_ticks 30 = .ok (.ireturn, 1) := dk_o172 (by decide +kernel)
theorem wB_1160 : Cond.code yX12_measures cX12_measures 7 none ∈ dgB := List.mem_filter.mpr ⟨tbl_8 _ (List.mem_of_getElem? (i := 146) rfl), rfl⟩
theorem wB_1161 : Cond.methodLink RX12 484 yX12_measures ∈ dgB := List.mem_filter.mpr ⟨tbl_8 _ (List.mem_of_getElem? (i := 143) (by decide +kernel)), by decide +kernel⟩
theorem wB_1162 : Cond.instanceMethod yX12_measures ∈ dgB := List.mem_filter.mpr ⟨tbl_8 _ (List.mem_of_getElem? (i := 145) (by decide +kernel)), by decide +kernel⟩
theorem wB_1163 : Cond.selects RX12 yX12_measures yX12_measures ∈ dgB := List.mem_filter.mpr ⟨List.mem_of_getElem? (i := 120) (by decide +kernel), by decide +kernel⟩
theorem wB_1164 : Cond.code yX12_has2 cX12_has2 2 (some .boolean) ∈ dgB := List.mem_filter.mpr ⟨tbl_8 _ (List.mem_of_getElem? (i := 229) rfl), rfl⟩
theorem wB_1165 : Cond.methodLink RX12 487 yX12_has2 ∈ dgB := List.mem_filter.mpr ⟨tbl_8 _ (List.mem_of_getElem? (i := 227) (by decide +kernel)), by decide +kernel⟩
theorem wB_1166 : Cond.static yX12_has2 ∈ dgB := List.mem_filter.mpr ⟨tbl_8 _ (List.mem_of_getElem? (i := 228) (by decide +kernel)), by decide +kernel⟩
theorem wB_1167 : Cond.code yX12_canDig cX12_canDig 3 (some .boolean) ∈ dgB := List.mem_filter.mpr ⟨tbl_8 _ (List.mem_of_getElem? (i := 187) rfl), rfl⟩
theorem wB_1168 : Cond.methodLink RX12 490 yX12_canDig ∈ dgB := List.mem_filter.mpr ⟨tbl_8 _ (List.mem_of_getElem? (i := 184) (by decide +kernel)), by decide +kernel⟩
theorem wB_1169 : Cond.instanceMethod yX12_canDig ∈ dgB := List.mem_filter.mpr ⟨tbl_8 _ (List.mem_of_getElem? (i := 186) (by decide +kernel)), by decide +kernel⟩
theorem wB_1170 : Cond.selects RX12 yX12_canDig yX12_canDig ∈ dgB := List.mem_filter.mpr ⟨List.mem_of_getElem? (i := 127) (by decide +kernel), by decide +kernel⟩
theorem wB_1171 : Cond.code yX12_isFalling cX12_isFalling 3 (some .boolean) ∈ dgB := List.mem_filter.mpr ⟨tbl_8 _ (List.mem_of_getElem? (i := 195) rfl), rfl⟩
theorem wB_1172 : Cond.methodLink RX12 493 yX12_isFalling ∈ dgB := List.mem_filter.mpr ⟨tbl_8 _ (List.mem_of_getElem? (i := 192) (by decide +kernel)), by decide +kernel⟩
theorem wB_1173 : Cond.instanceMethod yX12_isFalling ∈ dgB := List.mem_filter.mpr ⟨tbl_8 _ (List.mem_of_getElem? (i := 194) (by decide +kernel)), by decide +kernel⟩
theorem wB_1174 : Cond.selects RX12 yX12_isFalling yX12_isFalling ∈ dgB := List.mem_filter.mpr ⟨List.mem_of_getElem? (i := 129) (by decide +kernel), by decide +kernel⟩
theorem wB_1175 : Cond.code yX12_got cX12_got 5 (some .int) ∈ dgB := List.mem_filter.mpr ⟨tbl_9 _ (List.mem_of_getElem? (i := 40) rfl), rfl⟩
theorem wB_1176 : Cond.methodLink RX12 500 yX12_got ∈ dgB := List.mem_filter.mpr ⟨tbl_9 _ (List.mem_of_getElem? (i := 37) (by decide +kernel)), by decide +kernel⟩
theorem wB_1177 : Cond.instanceMethod yX12_got ∈ dgB := List.mem_filter.mpr ⟨tbl_9 _ (List.mem_of_getElem? (i := 39) (by decide +kernel)), by decide +kernel⟩
theorem wB_1178 : Cond.selects RX12 yX12_got yX12_got ∈ dgB := List.mem_filter.mpr ⟨List.mem_of_getElem? (i := 141) (by decide +kernel), by decide +kernel⟩
theorem wB_1179 : Cond.code yX12_writesDown cX12_writesDown 6 none ∈ dgB := List.mem_filter.mpr ⟨tbl_9 _ (List.mem_of_getElem? (i := 36) rfl), rfl⟩
theorem wB_1180 : Cond.methodLink RX12 496 yX12_writesDown ∈ dgB := List.mem_filter.mpr ⟨tbl_9 _ (List.mem_of_getElem? (i := 33) (by decide +kernel)), by decide +kernel⟩
theorem wB_1181 : Cond.instanceMethod yX12_writesDown ∈ dgB := List.mem_filter.mpr ⟨tbl_9 _ (List.mem_of_getElem? (i := 35) (by decide +kernel)), by decide +kernel⟩
theorem wB_1182 : Cond.selects RX12 yX12_writesDown yX12_writesDown ∈ dgB := List.mem_filter.mpr ⟨List.mem_of_getElem? (i := 140) (by decide +kernel), by decide +kernel⟩
theorem wB_1183 : Cond.fieldLink RX12 219 "DarkMineModel" "lessBy" "[I" ∈ dgB := List.mem_filter.mpr ⟨tbl_6 _ (List.mem_of_getElem? (i := 231) (by decide +kernel)), by decide +kernel⟩
theorem wB_1184 : Cond.code yX12_digs cX12_digs 5 (some .boolean) ∈ dgB := List.mem_filter.mpr ⟨tbl_9 _ (List.mem_of_getElem? (i := 32) rfl), rfl⟩
theorem wB_1185 : Cond.methodLink RX12 506 yX12_digs ∈ dgB := List.mem_filter.mpr ⟨tbl_9 _ (List.mem_of_getElem? (i := 29) (by decide +kernel)), by decide +kernel⟩
theorem wB_1186 : Cond.instanceMethod yX12_digs ∈ dgB := List.mem_filter.mpr ⟨tbl_9 _ (List.mem_of_getElem? (i := 31) (by decide +kernel)), by decide +kernel⟩
theorem wB_1187 : Cond.selects RX12 yX12_digs yX12_digs ∈ dgB := List.mem_filter.mpr ⟨List.mem_of_getElem? (i := 139) (by decide +kernel), by decide +kernel⟩
theorem wB_1188 : Cond.code yX12_lightens cX12_lightens 5 none ∈ dgB := List.mem_filter.mpr ⟨tbl_9 _ (List.mem_of_getElem? (i := 45) rfl), rfl⟩
theorem wB_1189 : Cond.methodLink RX12 509 yX12_lightens ∈ dgB := List.mem_filter.mpr ⟨tbl_9 _ (List.mem_of_getElem? (i := 42) (by decide +kernel)), by decide +kernel⟩
theorem wB_1190 : Cond.instanceMethod yX12_lightens ∈ dgB := List.mem_filter.mpr ⟨tbl_9 _ (List.mem_of_getElem? (i := 44) (by decide +kernel)), by decide +kernel⟩
theorem wB_1191 : Cond.selects RX12 yX12_lightens yX12_lightens ∈ dgB := List.mem_filter.mpr ⟨List.mem_of_getElem? (i := 142) (by decide +kernel), by decide +kernel⟩
noncomputable def F_m_digs_J1 (o : Nat) (S_41 : dg_S) (a1 : Int32) (x_21 : Int32) (x_13 : Int32) (x_36 : Int32) : dg_S × Int32 := let S_45 : dg_S := F_m_writesDown o S_41 a1 x_21 x_13 x_36; let x_46 : Int32 := (10 : Int32) * a1; let x_47 : Int32 := x_46 + x_36; let x_49 : Int32 := S_45.2.1 37 (x_47 : Int32).toNatClampNeg; (if (99 : Int32) ≤ x_49 then (S_45, (1 : Int32)) else let x_52 : Int32 := (10 : Int32) * a1; let x_53 : Int32 := x_52 + x_36; let x_55 : Int32 := S_45.2.1 37 (x_53 : Int32).toNatClampNeg; let x_57 : Int32 := x_55 + (1 : Int32); let S_59 : dg_S := dg_uf S_45 37 (upd (S_45.2.1 37) (x_53 : Int32).toNatClampNeg x_57); (S_59, (1 : Int32)))
noncomputable def F_m_digs_J2 (o : Nat) (S_73 : dg_S) (a1 : Int32) (x_21 : Int32) (x_13 : Int32) : dg_S × Int32 := let S_76 : dg_S := F_m_writesDown o S_73 a1 x_21 x_13 (-1 : Int32); (S_76, (0 : Int32))
noncomputable def F_m_digs (o : Nat) (S : dg_S) (a1 : Int32) : dg_S × Int32 := let x_1 : Int32 := zI S 0 13; let x_3 : Int32 := S.2.1 9 (x_1 : Int32).toNatClampNeg; (if x_3 = (0 : Int32) then (S, (0 : Int32)) else let x_5 : Int32 := (16 : Int32) * a1; let x_7 : Int32 := S.2.1 29 (a1 : Int32).toNatClampNeg; let x_10 : Int32 := x_7 - x_7 / x_3 * x_3; let x_11 : Int32 := x_5 + x_10; let x_13 : Int32 := S.2.1 36 (x_11 : Int32).toNatClampNeg; let x_16 : Int32 := zI S 0 47; let x_14 : Int32 := S.2.1 4 (x_1 : Int32).toNatClampNeg; let S_17 : dg_S := F_m_measures o S a1; let x_19 : Int32 := S_17.2.1 33 (a1 : Int32).toNatClampNeg; let x_21 : Int32 := S_17.2.1 35 (x_11 : Int32).toNatClampNeg; let x_22 : Int32 := F_m_has2 o S_17 x_19 x_21; (if x_22 = (0 : Int32) then let x_30 : Int32 := F_m_canDigG o S_17 a1 x_13; (if x_30 = (0 : Int32) then (S_17, (0 : Int32)) else let S_34 : dg_S := (F_m_isFalling o S_17 a1 x_13).1; let x_33 : Int32 := (F_m_isFalling o S_17 a1 x_13).2; (if x_33 = (0 : Int32) then let S_37 : dg_S := (F_m_gotG o S_34 a1 x_13).1; let x_36 : Int32 := (F_m_gotG o S_34 a1 x_13).2; let x_38 : Int32 := (64 : Int32) * a1; let x_39 : Int32 := x_38 + x_13; let S_41 : dg_S := dg_uf S_37 31 (upd (S_37.2.1 31) (x_39 : Int32).toNatClampNeg (-1 : Int32)); (F_m_digs_J1 o S_41 a1 x_21 x_13 x_36) else let x_61 : Int32 := (64 : Int32) * a1; let x_62 : Int32 := x_61 + x_13; let S_64 : dg_S := dg_uf S_34 31 (upd (S_34.2.1 31) (x_62 : Int32).toNatClampNeg (0 : Int32)); let x_70 : Int32 := (1 : Int32) <<< (x_21 &&& 31); let x_71 : Int32 := x_19 ||| x_70; let S_73 : dg_S := dg_uf S_64 33 (upd (S_64.2.1 33) (a1 : Int32).toNatClampNeg x_71); (F_m_digs_J2 o S_73 a1 x_21 x_13))) else (S_17, (0 : Int32))))
theorem F_m_digs_p0 {o : Nat} {S : dg_S} {a1 : Int32} {S_17 : dg_S} {x_1 : Int32} {x_3 : Int32} {x_5 : Int32} {x_7 : Int32} {x_10 : Int32} {x_11 : Int32} {x_19 : Int32} {x_21 : Int32} {x_22 : Int32} (h0 : x_1 = zI S 0 13) (h1 : x_3 = S.2.1 9 (x_1 : Int32).toNatClampNeg) (h2 : ¬ (x_3 = (0 : Int32))) (h3 : x_5 = (16 : Int32) * a1) (h4 : x_7 = S.2.1 29 (a1 : Int32).toNatClampNeg) (h5 : x_10 = x_7 - x_7 / x_3 * x_3) (h6 : x_11 = x_5 + x_10) (h7 : S_17 = F_m_measures o S a1) (h8 : x_19 = S_17.2.1 33 (a1 : Int32).toNatClampNeg) (h9 : x_21 = S_17.2.1 35 (x_11 : Int32).toNatClampNeg) (h10 : x_22 = F_m_has2 o S_17 x_19 x_21) (h11 : ¬ (x_22 = (0 : Int32))) : F_m_digs o S a1 = (S_17, (0 : Int32)) := by
  replace h0 := Eq.symm h0
  subst h0
  replace h1 := Eq.symm h1
  subst h1
  replace h3 := Eq.symm h3
  subst h3
  replace h4 := Eq.symm h4
  subst h4
  replace h5 := Eq.symm h5
  subst h5
  replace h6 := Eq.symm h6
  subst h6
  replace h7 := Eq.symm h7
  subst h7
  replace h8 := Eq.symm h8
  subst h8
  replace h9 := Eq.symm h9
  subst h9
  replace h10 := Eq.symm h10
  subst h10
  exact (Eq.trans (if_neg h2) (Eq.trans (if_neg h11) rfl))
theorem F_m_digs_p1 {o : Nat} {S_41 : dg_S} {a1 : Int32} {x_21 : Int32} {x_13 : Int32} {x_36 : Int32} {S_45 : dg_S} {x_46 : Int32} {x_47 : Int32} {x_49 : Int32} (h0 : S_45 = F_m_writesDown o S_41 a1 x_21 x_13 x_36) (h1 : x_46 = (10 : Int32) * a1) (h2 : x_47 = x_46 + x_36) (h3 : x_49 = S_45.2.1 37 (x_47 : Int32).toNatClampNeg) (h4 : (99 : Int32) ≤ x_49) : F_m_digs_J1 o S_41 a1 x_21 x_13 x_36 = (S_45, (1 : Int32)) := by
  replace h0 := Eq.symm h0
  subst h0
  replace h1 := Eq.symm h1
  subst h1
  replace h2 := Eq.symm h2
  subst h2
  replace h3 := Eq.symm h3
  subst h3
  exact (Eq.trans (if_pos h4) rfl)
theorem F_m_digs_p2 {o : Nat} {S_41 : dg_S} {a1 : Int32} {x_21 : Int32} {x_13 : Int32} {x_36 : Int32} {S_59 : dg_S} {S_45 : dg_S} {x_46 : Int32} {x_47 : Int32} {x_49 : Int32} {x_52 : Int32} {x_53 : Int32} {x_55 : Int32} {x_57 : Int32} (h0 : S_45 = F_m_writesDown o S_41 a1 x_21 x_13 x_36) (h1 : x_46 = (10 : Int32) * a1) (h2 : x_47 = x_46 + x_36) (h3 : x_49 = S_45.2.1 37 (x_47 : Int32).toNatClampNeg) (h4 : ¬ ((99 : Int32) ≤ x_49)) (h5 : x_52 = (10 : Int32) * a1) (h6 : x_53 = x_52 + x_36) (h7 : x_55 = S_45.2.1 37 (x_53 : Int32).toNatClampNeg) (h8 : x_57 = x_55 + (1 : Int32)) (h9 : S_59 = dg_uf S_45 37 (upd (S_45.2.1 37) (x_53 : Int32).toNatClampNeg x_57)) : F_m_digs_J1 o S_41 a1 x_21 x_13 x_36 = (S_59, (1 : Int32)) := by
  replace h0 := Eq.symm h0
  subst h0
  replace h1 := Eq.symm h1
  subst h1
  replace h2 := Eq.symm h2
  subst h2
  replace h3 := Eq.symm h3
  subst h3
  replace h5 := Eq.symm h5
  subst h5
  replace h6 := Eq.symm h6
  subst h6
  replace h7 := Eq.symm h7
  subst h7
  replace h8 := Eq.symm h8
  subst h8
  replace h9 := Eq.symm h9
  subst h9
  exact (Eq.trans (if_neg h4) rfl)
theorem F_m_digs_p3 {o : Nat} {S : dg_S} {a1 : Int32} {S_41 : dg_S} {x_21 : Int32} {x_13 : Int32} {x_36 : Int32} {x_1 : Int32} {x_3 : Int32} {x_5 : Int32} {x_7 : Int32} {x_10 : Int32} {x_11 : Int32} {S_17 : dg_S} {x_19 : Int32} {x_22 : Int32} {x_30 : Int32} {S_34 : dg_S} {x_33 : Int32} {S_37 : dg_S} {x_38 : Int32} {x_39 : Int32} (h0 : x_1 = zI S 0 13) (h1 : x_3 = S.2.1 9 (x_1 : Int32).toNatClampNeg) (h2 : ¬ (x_3 = (0 : Int32))) (h3 : x_5 = (16 : Int32) * a1) (h4 : x_7 = S.2.1 29 (a1 : Int32).toNatClampNeg) (h5 : x_10 = x_7 - x_7 / x_3 * x_3) (h6 : x_11 = x_5 + x_10) (h7 : x_13 = S.2.1 36 (x_11 : Int32).toNatClampNeg) (h8 : S_17 = F_m_measures o S a1) (h9 : x_19 = S_17.2.1 33 (a1 : Int32).toNatClampNeg) (h10 : x_21 = S_17.2.1 35 (x_11 : Int32).toNatClampNeg) (h11 : x_22 = F_m_has2 o S_17 x_19 x_21) (h12 : x_22 = (0 : Int32)) (h13 : x_30 = F_m_canDigG o S_17 a1 x_13) (h14 : ¬ (x_30 = (0 : Int32))) (h15 : S_34 = (F_m_isFalling o S_17 a1 x_13).1) (h16 : x_33 = (F_m_isFalling o S_17 a1 x_13).2) (h17 : x_33 = (0 : Int32)) (h18 : S_37 = (F_m_gotG o S_34 a1 x_13).1) (h19 : x_36 = (F_m_gotG o S_34 a1 x_13).2) (h20 : x_38 = (64 : Int32) * a1) (h21 : x_39 = x_38 + x_13) (h22 : S_41 = dg_uf S_37 31 (upd (S_37.2.1 31) (x_39 : Int32).toNatClampNeg (-1 : Int32))) : F_m_digs o S a1 = F_m_digs_J1 o S_41 a1 x_21 x_13 x_36 := by
  replace h0 := Eq.symm h0
  subst h0
  replace h1 := Eq.symm h1
  subst h1
  replace h3 := Eq.symm h3
  subst h3
  replace h4 := Eq.symm h4
  subst h4
  replace h5 := Eq.symm h5
  subst h5
  replace h6 := Eq.symm h6
  subst h6
  replace h7 := Eq.symm h7
  subst h7
  replace h8 := Eq.symm h8
  subst h8
  replace h9 := Eq.symm h9
  subst h9
  replace h10 := Eq.symm h10
  subst h10
  replace h11 := Eq.symm h11
  subst h11
  replace h13 := Eq.symm h13
  subst h13
  replace h15 := Eq.symm h15
  subst h15
  replace h16 := Eq.symm h16
  subst h16
  replace h18 := Eq.symm h18
  subst h18
  replace h19 := Eq.symm h19
  subst h19
  replace h20 := Eq.symm h20
  subst h20
  replace h21 := Eq.symm h21
  subst h21
  replace h22 := Eq.symm h22
  subst h22
  exact (Eq.trans (if_neg h2) (Eq.trans (if_pos h12) (Eq.trans (if_neg h14) (Eq.trans (if_pos h17) rfl))))
theorem F_m_digs_p4 {o : Nat} {S_73 : dg_S} {a1 : Int32} {x_21 : Int32} {x_13 : Int32} {S_76 : dg_S} (h0 : S_76 = F_m_writesDown o S_73 a1 x_21 x_13 (-1 : Int32)) : F_m_digs_J2 o S_73 a1 x_21 x_13 = (S_76, (0 : Int32)) := by
  replace h0 := Eq.symm h0
  subst h0
  exact rfl
theorem F_m_digs_p5 {o : Nat} {S : dg_S} {a1 : Int32} {S_73 : dg_S} {x_21 : Int32} {x_13 : Int32} {x_1 : Int32} {x_3 : Int32} {x_5 : Int32} {x_7 : Int32} {x_10 : Int32} {x_11 : Int32} {S_17 : dg_S} {x_19 : Int32} {x_22 : Int32} {x_30 : Int32} {S_34 : dg_S} {x_33 : Int32} {x_61 : Int32} {x_62 : Int32} {S_64 : dg_S} {x_70 : Int32} {x_71 : Int32} (h0 : x_1 = zI S 0 13) (h1 : x_3 = S.2.1 9 (x_1 : Int32).toNatClampNeg) (h2 : ¬ (x_3 = (0 : Int32))) (h3 : x_5 = (16 : Int32) * a1) (h4 : x_7 = S.2.1 29 (a1 : Int32).toNatClampNeg) (h5 : x_10 = x_7 - x_7 / x_3 * x_3) (h6 : x_11 = x_5 + x_10) (h7 : x_13 = S.2.1 36 (x_11 : Int32).toNatClampNeg) (h8 : S_17 = F_m_measures o S a1) (h9 : x_19 = S_17.2.1 33 (a1 : Int32).toNatClampNeg) (h10 : x_21 = S_17.2.1 35 (x_11 : Int32).toNatClampNeg) (h11 : x_22 = F_m_has2 o S_17 x_19 x_21) (h12 : x_22 = (0 : Int32)) (h13 : x_30 = F_m_canDigG o S_17 a1 x_13) (h14 : ¬ (x_30 = (0 : Int32))) (h15 : S_34 = (F_m_isFalling o S_17 a1 x_13).1) (h16 : x_33 = (F_m_isFalling o S_17 a1 x_13).2) (h17 : ¬ (x_33 = (0 : Int32))) (h18 : x_61 = (64 : Int32) * a1) (h19 : x_62 = x_61 + x_13) (h20 : S_64 = dg_uf S_34 31 (upd (S_34.2.1 31) (x_62 : Int32).toNatClampNeg (0 : Int32))) (h21 : x_70 = (1 : Int32) <<< (x_21 &&& 31)) (h22 : x_71 = x_19 ||| x_70) (h23 : S_73 = dg_uf S_64 33 (upd (S_64.2.1 33) (a1 : Int32).toNatClampNeg x_71)) : F_m_digs o S a1 = F_m_digs_J2 o S_73 a1 x_21 x_13 := by
  replace h0 := Eq.symm h0
  subst h0
  replace h1 := Eq.symm h1
  subst h1
  replace h3 := Eq.symm h3
  subst h3
  replace h4 := Eq.symm h4
  subst h4
  replace h5 := Eq.symm h5
  subst h5
  replace h6 := Eq.symm h6
  subst h6
  replace h7 := Eq.symm h7
  subst h7
  replace h8 := Eq.symm h8
  subst h8
  replace h9 := Eq.symm h9
  subst h9
  replace h10 := Eq.symm h10
  subst h10
  replace h11 := Eq.symm h11
  subst h11
  replace h13 := Eq.symm h13
  subst h13
  replace h15 := Eq.symm h15
  subst h15
  replace h16 := Eq.symm h16
  subst h16
  replace h18 := Eq.symm h18
  subst h18
  replace h19 := Eq.symm h19
  subst h19
  replace h20 := Eq.symm h20
  subst h20
  replace h21 := Eq.symm h21
  subst h21
  replace h22 := Eq.symm h22
  subst h22
  replace h23 := Eq.symm h23
  subst h23
  exact (Eq.trans (if_neg h2) (Eq.trans (if_pos h12) (Eq.trans (if_neg h14) (Eq.trans (if_neg h17) rfl))))
theorem F_m_digs_p6 {o : Nat} {S : dg_S} {a1 : Int32} {S_17 : dg_S} {x_1 : Int32} {x_3 : Int32} {x_5 : Int32} {x_7 : Int32} {x_10 : Int32} {x_11 : Int32} {x_13 : Int32} {x_19 : Int32} {x_21 : Int32} {x_22 : Int32} {x_30 : Int32} (h0 : x_1 = zI S 0 13) (h1 : x_3 = S.2.1 9 (x_1 : Int32).toNatClampNeg) (h2 : ¬ (x_3 = (0 : Int32))) (h3 : x_5 = (16 : Int32) * a1) (h4 : x_7 = S.2.1 29 (a1 : Int32).toNatClampNeg) (h5 : x_10 = x_7 - x_7 / x_3 * x_3) (h6 : x_11 = x_5 + x_10) (h7 : x_13 = S.2.1 36 (x_11 : Int32).toNatClampNeg) (h8 : S_17 = F_m_measures o S a1) (h9 : x_19 = S_17.2.1 33 (a1 : Int32).toNatClampNeg) (h10 : x_21 = S_17.2.1 35 (x_11 : Int32).toNatClampNeg) (h11 : x_22 = F_m_has2 o S_17 x_19 x_21) (h12 : x_22 = (0 : Int32)) (h13 : x_30 = F_m_canDigG o S_17 a1 x_13) (h14 : x_30 = (0 : Int32)) : F_m_digs o S a1 = (S_17, (0 : Int32)) := by
  replace h0 := Eq.symm h0
  subst h0
  replace h1 := Eq.symm h1
  subst h1
  replace h3 := Eq.symm h3
  subst h3
  replace h4 := Eq.symm h4
  subst h4
  replace h5 := Eq.symm h5
  subst h5
  replace h6 := Eq.symm h6
  subst h6
  replace h7 := Eq.symm h7
  subst h7
  replace h8 := Eq.symm h8
  subst h8
  replace h9 := Eq.symm h9
  subst h9
  replace h10 := Eq.symm h10
  subst h10
  replace h11 := Eq.symm h11
  subst h11
  replace h13 := Eq.symm h13
  subst h13
  exact (Eq.trans (if_neg h2) (Eq.trans (if_pos h12) (Eq.trans (if_pos h14) rfl)))
theorem F_m_digs_p7 {o : Nat} {S : dg_S} {a1 : Int32} {x_1 : Int32} {x_3 : Int32} (h0 : x_1 = zI S 0 13) (h1 : x_3 = S.2.1 9 (x_1 : Int32).toNatClampNeg) (h2 : x_3 = (0 : Int32)) : F_m_digs o S a1 = (S, (0 : Int32)) := by
  replace h0 := Eq.symm h0
  subst h0
  replace h1 := Eq.symm h1
  subst h1
  exact (Eq.trans (if_pos h2) rfl)
set_option maxHeartbeats 8000000 in
set_option maxRecDepth 100000 in
theorem c_m_digs (l : Launch) (g : Nat → ClassId) (D : va_G) (o : Nat) (S : dg_S) (a1 : Int32) (b_a1 : 0 ≤ (a1).toInt ∧ (a1).toInt ≤ 21) (ZB : ZBM S) (ZW : ZWM S) (I : CM o S) (sz : Nat) : Met l yX12_digs (bw yX12_digs cX12_digs 5 (some .boolean)) ({ frames := 7, cells := 0, slots := 0, locals := 171 } : Room) (dk_Pc g D (dg_w g shM o rfM S) sz [.ref (o + 0), .int a1]) (va_Qi (fun (r : Int32) S' => CM o S' ∧ dg_sm shM [] [31, 33, 37, 38, 39, 40, 41, 42, 43] S S' ∧ (0 ≤ (r).toInt ∧ (r).toInt ≤ 1) ∧ (S' = (F_m_digs o S a1).1 ∧ r = (F_m_digs o S a1).2) ∧ True) (dg_B g D shM o rfM) (dg_A o shM.length sz)) 0 0 (dg_A o shM.length sz) := by
  refine dg_met (cc := cX12_digs) (maxL := 5) (ret := (some .boolean)) (dk_dq rfl) rfl (Nat.le_of_ble_eq_true rfl) ?_
  intro p e s m args below meth c A hAe harg hx hb hr hml hts hown hlocks hin hP K hS hA1 hA ST hsz ls hl
  rw [← hAe]
  have F : CallFix p m c cX12_digs 5 s args (bw yX12_digs cX12_digs 5 (some .boolean)) RX12 := ⟨hx, hb, hml, hown, hts⟩
  have hl : lv_has ls 5 [(0, .ref (o + 0)), (1, .int a1)] := hl
  have M_0 : dg_sm shM [] [31, 33, 37, 38, 39, 40, 41, 42, 43] S S := dg_sm.rf
  refine lv_aload_n hx hb dX12_digs_0 rfl (lv_at hl 0 rfl) ?_
  refine dg_get (C := RX12) (T := TX12) (N := 77) hx hb hts (fun w h => bw_mem (wU_X12 w h)) hown K hP sM_0 rfl 21 (dk_dq rfl) (hts _ (bw_mem wB_391)) (fun _ h9 => h9) (v := .ref (o + 9)) (show S.1 0 21 = .ref (o + 9) from dg_I.rel (d := 9) I sM_0 (by decide +kernel)) dX12_digs_1 ?_
  refine lv_aload_n hx hb dX12_digs_4 rfl (lv_at hl 0 rfl) ?_
  obtain ⟨x_1, f_x_1, b_x_1⟩ := dg_I.int (i := 0) (k := 13) (lo := 0) (hi := 1) I sM_0 (by decide +kernel)
  refine dg_get (C := RX12) (T := TX12) (N := 77) hx hb hts (fun w h => bw_mem (wU_X12 w h)) hown K hP sM_0 rfl 13 (dk_dq rfl) (hts _ (bw_mem wB_1085)) (fun _ h9 => h9) (v := .int x_1) f_x_1 dX12_digs_5 ?_
  have hin_2 : vp_in x_1 2 := (dk_inv2 (by omega))
  refine dg_iald hx hb K hP sM_9 hin_2 dX12_digs_8 (fun x_3 ex_3 => ?_)
  have b_x_3 := dk_all_at (dg_I.row (lo := 0) (hi := 16) I sM_9 (by decide +kernel)) hin_2 ex_3
  refine lv_if_ne (tgt := 14) hx hb dX12_digs_9 (dk_dq rfl) (fun c_4 => ?_) (fun c_4 => ?_)
  · as_aux_lemma =>
      have jc_4 := dk_neqc (k := 0) (by decide +kernel) c_4
      refine lv_bipush (v := 16) hx hb dX12_digs_14 (by decide +kernel) ?_
      refine lv_iload_n hx hb dX12_digs_16 rfl (lv_at hl 1 rfl) ?_
      refine lv_imul hx hb dX12_digs_17 ?_
      refine lv_topi (fun x_5 ex_5 => ?_)
      have jx_5 : (x_5).toInt = 16 * (a1).toInt := by rw [ex_5]; exact dk_mulT2 (by decide +kernel) rfl (by omega)
      refine lv_aload_n hx hb dX12_digs_18 rfl (lv_at hl 0 rfl) ?_
      refine dg_get (C := RX12) (T := TX12) (N := 77) hx hb hts (fun w h => bw_mem (wU_X12 w h)) hown K hP sM_0 rfl 49 (dk_dq rfl) (hts _ (bw_mem wB_1108)) (fun _ h9 => h9) (v := .ref (o + 29)) (show S.1 0 49 = .ref (o + 29) from dg_I.rel (d := 29) I sM_0 (by decide +kernel)) dX12_digs_19 ?_
      refine lv_iload_n hx hb dX12_digs_22 rfl (lv_at hl 1 rfl) ?_
      have hin_6 : vp_in a1 22 := (dk_inv2 (by omega))
      refine dg_iald hx hb K hP sM_29 hin_6 dX12_digs_23 (fun x_7 ex_7 => ?_)
      have b_x_7 := dk_all_at (dg_I.row (lo := 0) (hi := 2000) I sM_29 (by decide +kernel)) hin_6 ex_7
      refine lv_aload_n hx hb dX12_digs_24 rfl (lv_at hl 0 rfl) ?_
      refine dg_get (C := RX12) (T := TX12) (N := 77) hx hb hts (fun w h => bw_mem (wU_X12 w h)) hown K hP sM_0 rfl 21 (dk_dq rfl) (hts _ (bw_mem wB_391)) (fun _ h9 => h9) (v := .ref (o + 9)) (show S.1 0 21 = .ref (o + 9) from dg_I.rel (d := 9) I sM_0 (by decide +kernel)) dX12_digs_25 ?_
      refine lv_aload_n hx hb dX12_digs_28 rfl (lv_at hl 0 rfl) ?_
      refine dg_get (C := RX12) (T := TX12) (N := 77) hx hb hts (fun w h => bw_mem (wU_X12 w h)) hown K hP sM_0 rfl 13 (dk_dq rfl) (hts _ (bw_mem wB_1085)) (fun _ h9 => h9) (v := .int x_1) f_x_1 dX12_digs_29 ?_
      have hin_8 : vp_in x_1 2 := (dk_inv2 (by omega))
      refine dg_iald hx hb K hP sM_9 hin_8 dX12_digs_32 (fun y_9 ey_9 => ?_)
      obtain rfl : x_3 = y_9 := (ey_9.trans ex_3.symm).symm
      refine lv_irem hx hb dX12_digs_33 (fun z => absurd (dk_eqc (k := 0) (by decide +kernel) z) (by omega)) ?_
      refine lv_topi (fun x_10 ex_10 => ?_)
      have jx_10 := dk_remT (x := x_7) (y := x_3) (a := (x_7).toInt) (b := (x_3).toInt) rfl rfl (by omega) (by omega)
      rw [← ex_10] at jx_10
      refine lv_iadd hx hb dX12_digs_34 ?_
      refine lv_topi (fun x_11 ex_11 => ?_)
      have jx_11 : (x_11).toInt = (x_5).toInt + (x_10).toInt := by rw [ex_11]; exact dk_addT2 rfl rfl (by omega)
      refine lv_istore_n (lv' := [(2, .int x_11), (0, .ref (o + 0)), (1, .int a1)]) hx hb dX12_digs_35 rfl hl (dk_dq rfl) rfl (fun ls hl => ?_)
      refine lv_aload_n hx hb dX12_digs_36 rfl (lv_at hl 1 rfl) ?_
      refine dg_get (C := RX12) (T := TX12) (N := 77) hx hb hts (fun w h => bw_mem (wU_X12 w h)) hown K hP sM_0 rfl 56 (dk_dq rfl) (hts _ (bw_mem wB_1133)) (fun _ h9 => h9) (v := .ref (o + 36)) (show S.1 0 56 = .ref (o + 36) from dg_I.rel (d := 36) I sM_0 (by decide +kernel)) dX12_digs_37 ?_
      refine lv_iload_n hx hb dX12_digs_40 rfl (lv_at hl 0 rfl) ?_
      have hin_12 : vp_in x_11 352 := (dk_inv2 (by omega))
      refine dg_iald hx hb K hP sM_36 hin_12 dX12_digs_41 (fun x_13 ex_13 => ?_)
      have b_x_13 := dk_all_at (dg_I.row (lo := 0) (hi := 63) I sM_36 (by decide +kernel)) hin_12 ex_13
      refine lv_istore_n (lv' := [(3, .int x_13), (2, .int x_11), (0, .ref (o + 0)), (1, .int a1)]) hx hb dX12_digs_42 rfl hl (dk_dq rfl) rfl (fun ls hl => ?_)
      refine lv_aload_n hx hb dX12_digs_43 rfl (lv_at hl 2 rfl) ?_
      refine lv_iload_n hx hb dX12_digs_44 rfl (lv_at hl 3 rfl) ?_
      obtain ⟨x_14, f_x_14⟩ : ∃ x, S.2.1 4 (x_1 : Int32).toNatClampNeg = x := ⟨_, rfl⟩
      have hin_15 : vp_in (x_1 : Int32) 2 := (dk_inv2 (by omega))
      have b_x_14 := dk_all_at (dg_I.row (lo := 0) (hi := 9999) I sM_4 (by decide +kernel)) hin_15 f_x_14.symm
      have ex_14 := f_x_14.symm
      obtain ⟨x_16, f_x_16, b_x_16⟩ := dg_I.int (i := 0) (k := 47) (lo := 0) (hi := 1) I sM_0 (by decide +kernel)
      have zb_x_14 : (x_14).toInt ≤ 63 := by rw [ex_14]; exact (ZB x_1 x_16 f_x_1 f_x_16).2.2.1
      as_aux_lemma =>
        refine dg_callv hS hA1 hA (va_runV (As := [.int a1]) (rest := []) F (c_m_measures l g D o S a1 (by omega) x_1 f_x_1 (by omega) x_14 f_x_14 (by omega) ZB I s.heap.size) (cwV 1 hts (bw_V wB_1161 wB_1162 wB_1163 wB_297 wB_1160) rfl rfl rfl (by decide +kernel) ⟨Nat.le_of_ble_eq_true rfl, Nat.le_of_ble_eq_true rfl⟩) (dg_preV sM_0 rfl K ST hP hS hA1 hA) rfl rfl hl.1 rfl (lv_room (Nat.le_of_ble_eq_true rfl)) dX12_digs_45 ⟨Nat.le_of_ble_eq_true rfl, Nat.le_of_ble_eq_true rfl⟩) (fun S_17 hw_17 H locs hP hS => ?_)
        obtain ⟨I_17, m_17, w_17_0, -⟩ := hw_17
        have M_17 := dg_sm.tr M_0 m_17 (dk_dq rfl) (dk_dq rfl)
        refine lv_aload_n hx hb dX12_digs_48 rfl (lv_at hl 2 rfl) ?_
        refine dg_get (C := RX12) (T := TX12) (N := 77) hx hb hts (fun w h => bw_mem (wU_X12 w h)) hown K hP sM_0 rfl 53 (dk_dq rfl) (hts _ (bw_mem wB_1130)) (fun _ h9 => h9) (v := .ref (o + 33)) (show S_17.1 0 53 = .ref (o + 33) from dg_I.rel (d := 33) I_17 sM_0 (by decide +kernel)) dX12_digs_49 ?_
        refine lv_iload_n hx hb dX12_digs_52 rfl (lv_at hl 3 rfl) ?_
        have hin_18 : vp_in a1 22 := (dk_inv2 (by omega))
        refine dg_iald hx hb K hP sM_33 hin_18 dX12_digs_53 (fun x_19 ex_19 => ?_)
        refine lv_aload_n hx hb dX12_digs_54 rfl (lv_at hl 2 rfl) ?_
        refine dg_get (C := RX12) (T := TX12) (N := 77) hx hb hts (fun w h => bw_mem (wU_X12 w h)) hown K hP sM_0 rfl 55 (dk_dq rfl) (hts _ (bw_mem wB_1132)) (fun _ h9 => h9) (v := .ref (o + 35)) (show S_17.1 0 55 = .ref (o + 35) from dg_I.rel (d := 35) I_17 sM_0 (by decide +kernel)) dX12_digs_55 ?_
        refine lv_iload_n hx hb dX12_digs_58 rfl (lv_at hl 1 rfl) ?_
        have hin_20 : vp_in x_11 352 := (dk_inv2 (by omega))
        refine dg_iald hx hb K hP sM_35 hin_20 dX12_digs_59 (fun x_21 ex_21 => ?_)
        refine dg_calli hS hA1 hA (va_runS (As := [.int x_19, .int x_21]) (rest := []) F (c_m_has2 l g D o S_17 x_19 x_21 I_17 H.size) (va_cwS 2 hts (bw_S wB_1165 wB_1166 wB_297 wB_1164) rfl rfl rfl (by decide +kernel) ⟨Nat.le_of_ble_eq_true rfl, Nat.le_of_ble_eq_true rfl⟩) (dg_preS K ST hP hS hA1 hA) rfl rfl hl.1 rfl (lv_room (Nat.le_of_ble_eq_true rfl)) dX12_digs_60 ⟨Nat.le_of_ble_eq_true rfl, Nat.le_of_ble_eq_true rfl⟩) (fun x_22 S_23 hw_23 H locs hP hS => ?_)
        rw [hw_23.1] at hP
        obtain ⟨hq_23, w_23_0, w_23_1, -⟩ := hw_23
        have w_23_0 : 0 ≤ (x_22).toInt ∧ (x_22).toInt ≤ 1 := w_23_0
        refine lv_if_ne (tgt := 75) hx hb dX12_digs_63 (dk_dq rfl) (fun c_24 => ?_) (fun c_24 => ?_)
        · have jc_24 := dk_neqc (k := 0) (by decide +kernel) c_24
          refine lv_iconst (v := 0) hx hb dX12_digs_75 (by decide +kernel) ?_
          have hz_25 : (0 : Int32).toInt = 0 := by decide +kernel
          refine W.widen (k := 0) (n := 0) (Nat.le_of_ble_eq_true rfl) (Nat.le_of_ble_eq_true rfl) ?_
          exact dg_iret hx hb hr hlocks (by decide +kernel) hP hS ⟨I_17, M_17, (by decide +kernel), ⟨congrArg Prod.fst (Eq.symm (F_m_digs_p0 (zI_eq f_x_1) (Eq.symm ex_3.symm) c_4 ex_5 (Eq.symm ex_7.symm) ex_10 ex_11 w_17_0 (Eq.symm ex_19.symm) (Eq.symm ex_21.symm) w_23_1 c_24)), congrArg Prod.snd (Eq.symm (F_m_digs_p0 (zI_eq f_x_1) (Eq.symm ex_3.symm) c_4 ex_5 (Eq.symm ex_7.symm) ex_10 ex_11 w_17_0 (Eq.symm ex_19.symm) (Eq.symm ex_21.symm) w_23_1 c_24))⟩, trivial⟩ dX12_digs_76
        · as_aux_lemma =>
            have jc_24 := dk_eqc (k := 0) (by decide +kernel) c_24
            refine lv_aload_n hx hb dX12_digs_66 rfl (lv_at hl 2 rfl) ?_
            refine lv_iload_n hx hb dX12_digs_67 rfl (lv_at hl 3 rfl) ?_
            refine lv_iload_n hx hb dX12_digs_68 rfl (lv_at hl 0 rfl) ?_
            obtain ⟨x_27, ex_27⟩ : ∃ z : Int32, z = 64 * (a1 : Int32) := ⟨_, rfl⟩
            have jx_27 : (x_27).toInt = 64 * (a1 : Int32).toInt := by rw [ex_27]; exact dk_mulT2 (by decide +kernel) rfl (by omega)
            obtain ⟨ci_26, eci_26⟩ : ∃ z : Int32, z = x_27 + (x_13 : Int32) := ⟨_, rfl⟩
            have jci_26 : (ci_26).toInt = (x_27).toInt + (x_13 : Int32).toInt := by rw [eci_26]; exact dk_addT2 rfl rfl (by omega)
            obtain ⟨x_28, f_x_28⟩ : ∃ x, S_17.2.1 31 (ci_26 : Int32).toNatClampNeg = x := ⟨_, rfl⟩
            have hin_29 : vp_in (ci_26 : Int32) 1408 := (dk_inv2 (by omega))
            have b_x_28 := dk_all_at (dg_I.row (lo := (-1)) (hi := 9) I_17 sM_31 (by decide +kernel)) hin_29 f_x_28.symm
            refine dg_calli hS hA1 hA (va_runV (As := [.int a1, .int x_13]) (rest := []) F (c_m_canDigG l g D o S_17 a1 (by omega) x_13 (by omega) ci_26 x_28 f_x_28 (by omega) (by omega) (ZBM.keep ZB m_17 (dk_dq rfl) (dk_dq rfl) (dk_dq rfl) (dk_dq rfl) (dk_dq rfl)) I_17 H.size) (cwV 2 hts (bw_V wB_1168 wB_1169 wB_1170 wB_297 wB_1167) rfl rfl rfl (by decide +kernel) ⟨Nat.le_of_ble_eq_true rfl, Nat.le_of_ble_eq_true rfl⟩) (dg_preV sM_0 rfl K ST hP hS hA1 hA) rfl rfl hl.1 rfl (lv_room (Nat.le_of_ble_eq_true rfl)) dX12_digs_69 ⟨Nat.le_of_ble_eq_true rfl, Nat.le_of_ble_eq_true rfl⟩) (fun x_30 S_31 hw_31 H locs hP hS => ?_)
            rw [hw_31.1] at hP
            obtain ⟨hq_31, w_31_0, w_31_1, w_31_2, -⟩ := hw_31
            have w_31_0 : 0 ≤ (x_30).toInt ∧ (x_30).toInt ≤ 1 := w_31_0
            have w_31_1 : (x_30).toInt = 1 → 0 ≤ (x_28).toInt := w_31_1
            refine lv_if_ne (tgt := 77) hx hb dX12_digs_72 (dk_dq rfl) (fun c_32 => ?_) (fun c_32 => ?_)
            · as_aux_lemma =>
                have jc_32 := dk_neqc (k := 0) (by decide +kernel) c_32
                refine lv_aload_n hx hb dX12_digs_77 rfl (lv_at hl 2 rfl) ?_
                refine lv_iload_n hx hb dX12_digs_78 rfl (lv_at hl 3 rfl) ?_
                refine lv_iload_n hx hb dX12_digs_79 rfl (lv_at hl 0 rfl) ?_
                refine dg_calli hS hA1 hA (va_runV (As := [.int a1, .int x_13]) (rest := []) F (c_m_isFalling l g D o S_17 a1 (by omega) x_13 (by omega) (ZBM.keep ZB m_17 (dk_dq rfl) (dk_dq rfl) (dk_dq rfl) (dk_dq rfl) (dk_dq rfl)) (ZWM.keep ZW m_17 (dk_dq rfl) (dk_dq rfl) (dk_dq rfl) (dk_dq rfl)) I_17 H.size) (cwV 2 hts (bw_V wB_1172 wB_1173 wB_1174 wB_297 wB_1171) rfl rfl rfl (by decide +kernel) ⟨Nat.le_of_ble_eq_true rfl, Nat.le_of_ble_eq_true rfl⟩) (dg_preV sM_0 rfl K ST hP hS hA1 hA) rfl rfl hl.1 rfl (lv_room (Nat.le_of_ble_eq_true rfl)) dX12_digs_80 ⟨Nat.le_of_ble_eq_true rfl, Nat.le_of_ble_eq_true rfl⟩) (fun x_33 S_34 hw_34 H locs hP hS => ?_)
                obtain ⟨I_34, m_34, w_34_0, w_34_1, -⟩ := hw_34
                have M_34 := dg_sm.tr M_17 m_34 (dk_dq rfl) (dk_dq rfl)
                have w_34_0 : 0 ≤ (x_33).toInt ∧ (x_33).toInt ≤ 1 := w_34_0
                refine lv_if_eq (tgt := 130) hx hb dX12_digs_83 (dk_dq rfl) (fun c_35 => ?_) (fun c_35 => ?_)
                · as_aux_lemma =>
                    have jc_35 := dk_eqc (k := 0) (by decide +kernel) c_35
                    refine lv_aload_n hx hb dX12_digs_130 rfl (lv_at hl 2 rfl) ?_
                    refine lv_iload_n hx hb dX12_digs_131 rfl (lv_at hl 3 rfl) ?_
                    refine lv_iload_n hx hb dX12_digs_132 rfl (lv_at hl 0 rfl) ?_
                    refine dg_calli hS hA1 hA (va_runV (As := [.int a1, .int x_13]) (rest := []) F (c_m_gotG l g D o S_34 a1 (by omega) x_13 (by omega) ci_26 x_28 ((congrFun (m_34.2 31 _ sM_31 (dk_dq rfl)).1 _).trans f_x_28) (by omega) (by omega) (ZBM.keep (ZBM.keep ZB m_17 (dk_dq rfl) (dk_dq rfl) (dk_dq rfl) (dk_dq rfl) (dk_dq rfl)) m_34 (dk_dq rfl) (dk_dq rfl) (dk_dq rfl) (dk_dq rfl) (dk_dq rfl)) (ZWM.keep (ZWM.keep ZW m_17 (dk_dq rfl) (dk_dq rfl) (dk_dq rfl) (dk_dq rfl)) m_34 (dk_dq rfl) (dk_dq rfl) (dk_dq rfl) (dk_dq rfl)) I_34 H.size) (cwV 2 hts (bw_V wB_1176 wB_1177 wB_1178 wB_297 wB_1175) rfl rfl rfl (by decide +kernel) ⟨Nat.le_of_ble_eq_true rfl, Nat.le_of_ble_eq_true rfl⟩) (dg_preV sM_0 rfl K ST hP hS hA1 hA) rfl rfl hl.1 rfl (lv_room (Nat.le_of_ble_eq_true rfl)) dX12_digs_133 ⟨Nat.le_of_ble_eq_true rfl, Nat.le_of_ble_eq_true rfl⟩) (fun x_36 S_37 hw_37 H locs hP hS => ?_)
                    obtain ⟨I_37, m_37, w_37_0, w_37_1, w_37_2, -⟩ := hw_37
                    have M_37 := dg_sm.tr M_34 m_37 (dk_dq rfl) (dk_dq rfl)
                    have w_37_0 : (-1) ≤ (x_36).toInt ∧ (x_36).toInt ≤ 9 := w_37_0
                    have w_37_1 : 0 ≤ (x_28).toInt → 0 ≤ (x_36).toInt := w_37_1
                    refine lv_istore (lv' := [(4, .int x_36), (3, .int x_13), (2, .int x_11), (0, .ref (o + 0)), (1, .int a1)]) hx hb dX12_digs_136 hl (dk_dq rfl) rfl (fun ls hl => ?_)
                    refine lv_aload_n hx hb dX12_digs_138 rfl (lv_at hl 3 rfl) ?_
                    refine dg_get (C := RX12) (T := TX12) (N := 77) hx hb hts (fun w h => bw_mem (wU_X12 w h)) hown K hP sM_0 rfl 51 (dk_dq rfl) (hts _ (bw_mem wB_1090)) (fun _ h9 => h9) (v := .ref (o + 31)) (show S_37.1 0 51 = .ref (o + 31) from dg_I.rel (d := 31) I_37 sM_0 (by decide +kernel)) dX12_digs_139 ?_
                    refine lv_bipush (v := 64) hx hb dX12_digs_142 (by decide +kernel) ?_
                    refine lv_iload_n hx hb dX12_digs_144 rfl (lv_at hl 4 rfl) ?_
                    refine lv_imul hx hb dX12_digs_145 ?_
                    refine lv_topi (fun x_38 ex_38 => ?_)
                    have jx_38 : (x_38).toInt = 64 * (a1).toInt := by rw [ex_38]; exact dk_mulT2 (by decide +kernel) rfl (by omega)
                    refine lv_iload_n hx hb dX12_digs_146 rfl (lv_at hl 1 rfl) ?_
                    refine lv_iadd hx hb dX12_digs_147 ?_
                    refine lv_topi (fun x_39 ex_39 => ?_)
                    have jx_39 : (x_39).toInt = (x_38).toInt + (x_13).toInt := by rw [ex_39]; exact dk_addT2 rfl rfl (by omega)
                    refine lv_iconst (v := (-1)) hx hb dX12_digs_148 (by decide +kernel) ?_
                    have hin_40 : vp_in x_39 1408 := (dk_inv2 (by omega))
                    have hz_42 : (-1 : Int32).toInt = (-1) := by decide +kernel
                    refine dg_iast hx hb K hP hS hA1 sM_31 hin_40 dX12_digs_149 (fun S_41 e_41 H locs hP hS => ?_)
                    have I_41 := dg_I.ufu (lo := (-1)) (hi := 9) I_37 e_41 sM_31 (by decide +kernel) (show (-1) ≤ ((-1 : Int32)).toInt ∧ ((-1 : Int32)).toInt ≤ 9 from (by decide +kernel))
                    have M_41 := dg_sm.uf M_37 e_41 sM_31 (dk_dq rfl)
                    have hF_1 : F_m_digs o S a1 = F_m_digs_J1 o S_41 a1 x_21 x_13 x_36 := (F_m_digs_p3 (zI_eq f_x_1) (Eq.symm ex_3.symm) c_4 ex_5 (Eq.symm ex_7.symm) ex_10 ex_11 (Eq.symm ex_13.symm) w_17_0 (Eq.symm ex_19.symm) (Eq.symm ex_21.symm) w_23_1 c_24 w_31_2 c_32 w_34_1.1 w_34_1.2 c_35 w_37_2.1 w_37_2.2 ex_38 ex_39 e_41)
                    refine lv_aload_n hx hb dX12_digs_150 rfl (lv_at hl 3 rfl) ?_
                    refine lv_iload_n hx hb dX12_digs_151 rfl (lv_at hl 4 rfl) ?_
                    refine lv_aload_n hx hb dX12_digs_152 rfl (lv_at hl 3 rfl) ?_
                    refine dg_get (C := RX12) (T := TX12) (N := 77) hx hb hts (fun w h => bw_mem (wU_X12 w h)) hown K hP sM_0 rfl 55 (dk_dq rfl) (hts _ (bw_mem wB_1132)) (fun _ h9 => h9) (v := .ref (o + 35)) (show S_41.1 0 55 = .ref (o + 35) from dg_I.rel (d := 35) I_41 sM_0 (by decide +kernel)) dX12_digs_153 ?_
                    refine lv_iload_n hx hb dX12_digs_156 rfl (lv_at hl 2 rfl) ?_
                    have hin_43 : vp_in x_11 352 := (dk_inv2 (by omega))
                    refine dg_iald hx hb K hP sM_35 hin_43 dX12_digs_157 (fun y_44 ey_44 => ?_)
                    obtain rfl : x_21 = y_44 := ((ey_44.trans (congrFun ((dg_uf_ne e_41 (dk_dq rfl)).trans ((m_37.2 35 _ sM_35 (dk_dq rfl)).1.trans (m_34.2 35 _ sM_35 (dk_dq rfl)).1)) _)).trans ex_21.symm).symm
                    refine lv_iload_n hx hb dX12_digs_158 rfl (lv_at hl 1 rfl) ?_
                    refine lv_iload hx hb dX12_digs_159 (lv_at hl 0 rfl) ?_
                    refine dg_callv hS hA1 hA (va_runV (As := [.int a1, .int x_21, .int x_13, .int x_36]) (rest := []) F (c_m_writesDown l g D o S_41 a1 (by omega) x_21 x_13 x_36 I_41 H.size) (cwV 4 hts (bw_V wB_1180 wB_1181 wB_1182 wB_297 wB_1179) rfl rfl rfl (by decide +kernel) ⟨Nat.le_of_ble_eq_true rfl, Nat.le_of_ble_eq_true rfl⟩) (dg_preV sM_0 rfl K ST hP hS hA1 hA) rfl rfl hl.1 rfl (lv_room (Nat.le_of_ble_eq_true rfl)) dX12_digs_161 ⟨Nat.le_of_ble_eq_true rfl, Nat.le_of_ble_eq_true rfl⟩) (fun S_45 hw_45 H locs hP hS => ?_)
                    obtain ⟨I_45, m_45, w_45_0, -⟩ := hw_45
                    have M_45 := dg_sm.tr M_41 m_45 (dk_dq rfl) (dk_dq rfl)
                    as_aux_lemma =>
                      refine lv_aload_n hx hb dX12_digs_164 rfl (lv_at hl 3 rfl) ?_
                      refine dg_get (C := RX12) (T := TX12) (N := 77) hx hb hts (fun w h => bw_mem (wU_X12 w h)) hown K hP sM_0 rfl 57 (dk_dq rfl) (hts _ (bw_mem wB_1117)) (fun _ h9 => h9) (v := .ref (o + 37)) (show S_45.1 0 57 = .ref (o + 37) from dg_I.rel (d := 37) I_45 sM_0 (by decide +kernel)) dX12_digs_165 ?_
                      refine lv_bipush (v := 10) hx hb dX12_digs_168 (by decide +kernel) ?_
                      refine lv_iload_n hx hb dX12_digs_170 rfl (lv_at hl 4 rfl) ?_
                      refine lv_imul hx hb dX12_digs_171 ?_
                      refine lv_topi (fun x_46 ex_46 => ?_)
                      have jx_46 : (x_46).toInt = 10 * (a1).toInt := by rw [ex_46]; exact dk_mulT2 (by decide +kernel) rfl (by omega)
                      refine lv_iload hx hb dX12_digs_172 (lv_at hl 0 rfl) ?_
                      refine lv_iadd hx hb dX12_digs_174 ?_
                      refine lv_topi (fun x_47 ex_47 => ?_)
                      have jx_47 : (x_47).toInt = (x_46).toInt + (x_36).toInt := by rw [ex_47]; exact dk_addT2 rfl rfl (by omega)
                      have hin_48 : vp_in x_47 220 := (dk_inv2 (by omega))
                      refine dg_iald hx hb K hP sM_37 hin_48 dX12_digs_175 (fun x_49 ex_49 => ?_)
                      refine lv_bipush (v := 99) hx hb dX12_digs_176 (by decide +kernel) ?_
                      refine lv_icmp_ge (tgt := 197) hx hb dX12_digs_178 (dk_dq rfl) (fun c_50 => ?_) (fun c_50 => ?_)
                      · have jc_50 := dk_gec (k := 99) (by decide +kernel) c_50
                        refine lv_iconst (v := 1) hx hb dX12_digs_197 (by decide +kernel) ?_
                        have hz_51 : (1 : Int32).toInt = 1 := by decide +kernel
                        refine W.widen (k := 0) (n := 0) (Nat.le_of_ble_eq_true rfl) (Nat.le_of_ble_eq_true rfl) ?_
                        exact dg_iret hx hb hr hlocks (by decide +kernel) hP hS ⟨I_45, M_45, (by decide +kernel), ⟨congrArg Prod.fst (Eq.symm (Eq.trans hF_1 (F_m_digs_p1 w_45_0 ex_46 ex_47 (Eq.symm ex_49.symm) c_50))), congrArg Prod.snd (Eq.symm (Eq.trans hF_1 (F_m_digs_p1 w_45_0 ex_46 ex_47 (Eq.symm ex_49.symm) c_50)))⟩, trivial⟩ dX12_digs_198
                      · as_aux_lemma =>
                          have jc_50 := dk_ngec (k := 99) (by decide +kernel) c_50
                          refine lv_aload_n hx hb dX12_digs_181 rfl (lv_at hl 3 rfl) ?_
                          refine dg_get (C := RX12) (T := TX12) (N := 77) hx hb hts (fun w h => bw_mem (wU_X12 w h)) hown K hP sM_0 rfl 57 (dk_dq rfl) (hts _ (bw_mem wB_1117)) (fun _ h9 => h9) (v := .ref (o + 37)) (show S_45.1 0 57 = .ref (o + 37) from dg_I.rel (d := 37) I_45 sM_0 (by decide +kernel)) dX12_digs_182 ?_
                          refine lv_bipush (v := 10) hx hb dX12_digs_185 (by decide +kernel) ?_
                          refine lv_iload_n hx hb dX12_digs_187 rfl (lv_at hl 4 rfl) ?_
                          refine lv_imul hx hb dX12_digs_188 ?_
                          refine lv_topi (fun x_52 ex_52 => ?_)
                          have jx_52 : (x_52).toInt = 10 * (a1).toInt := by rw [ex_52]; exact dk_mulT2 (by decide +kernel) rfl (by omega)
                          refine lv_iload hx hb dX12_digs_189 (lv_at hl 0 rfl) ?_
                          refine lv_iadd hx hb dX12_digs_191 ?_
                          refine lv_topi (fun x_53 ex_53 => ?_)
                          have jx_53 : (x_53).toInt = (x_52).toInt + (x_36).toInt := by rw [ex_53]; exact dk_addT2 rfl rfl (by omega)
                          refine lv_dup2_11 hx hb dX12_digs_192 rfl rfl ?_
                          have hin_54 : vp_in x_53 220 := (dk_inv2 (by omega))
                          refine dg_iald hx hb K hP sM_37 hin_54 dX12_digs_193 (fun x_55 ex_55 => ?_)
                          have htw_55 : (x_53 : Int32).toInt = (x_47 : Int32).toInt → (x_55).toInt = (x_49 : Int32).toInt := fun h => by have h9 := Int32.toInt_inj.mp h; rw [ex_55, h9]; exact congrArg Int32.toInt ex_49.symm
                          refine lv_iconst (v := 1) hx hb dX12_digs_194 (by decide +kernel) ?_
                          refine lv_iadd hx hb dX12_digs_195 ?_
                          refine lv_topi (fun x_57 ex_57 => ?_)
                          have hin_58 : vp_in x_53 220 := (dk_inv2 (by omega))
                          refine dg_iast hx hb K hP hS hA1 sM_37 hin_58 dX12_digs_196 (fun S_59 e_59 H locs hP hS => ?_)
                          have I_59 := dg_I.uf0 I_45 e_59 sM_37 (by decide +kernel)
                          have M_59 := dg_sm.uf M_45 e_59 sM_37 (dk_dq rfl)
                          refine lv_iconst (v := 1) hx hb dX12_digs_197 (by decide +kernel) ?_
                          have hz_60 : (1 : Int32).toInt = 1 := by decide +kernel
                          refine W.widen (k := 0) (n := 0) (Nat.le_of_ble_eq_true rfl) (Nat.le_of_ble_eq_true rfl) ?_
                          exact dg_iret hx hb hr hlocks (by decide +kernel) hP hS ⟨I_59, M_59, (by decide +kernel), ⟨congrArg Prod.fst (Eq.symm (Eq.trans hF_1 (F_m_digs_p2 w_45_0 ex_46 ex_47 (Eq.symm ex_49.symm) c_50 ex_52 ex_53 (Eq.symm ex_55.symm) ex_57 e_59))), congrArg Prod.snd (Eq.symm (Eq.trans hF_1 (F_m_digs_p2 w_45_0 ex_46 ex_47 (Eq.symm ex_49.symm) c_50 ex_52 ex_53 (Eq.symm ex_55.symm) ex_57 e_59)))⟩, trivial⟩ dX12_digs_198
                · as_aux_lemma =>
                    have jc_35 := dk_neqc (k := 0) (by decide +kernel) c_35
                    refine lv_aload_n hx hb dX12_digs_86 rfl (lv_at hl 2 rfl) ?_
                    refine dg_get (C := RX12) (T := TX12) (N := 77) hx hb hts (fun w h => bw_mem (wU_X12 w h)) hown K hP sM_0 rfl 51 (dk_dq rfl) (hts _ (bw_mem wB_1090)) (fun _ h9 => h9) (v := .ref (o + 31)) (show S_34.1 0 51 = .ref (o + 31) from dg_I.rel (d := 31) I_34 sM_0 (by decide +kernel)) dX12_digs_87 ?_
                    refine lv_bipush (v := 64) hx hb dX12_digs_90 (by decide +kernel) ?_
                    refine lv_iload_n hx hb dX12_digs_92 rfl (lv_at hl 3 rfl) ?_
                    refine lv_imul hx hb dX12_digs_93 ?_
                    refine lv_topi (fun x_61 ex_61 => ?_)
                    have jx_61 : (x_61).toInt = 64 * (a1).toInt := by rw [ex_61]; exact dk_mulT2 (by decide +kernel) rfl (by omega)
                    refine lv_iload_n hx hb dX12_digs_94 rfl (lv_at hl 0 rfl) ?_
                    refine lv_iadd hx hb dX12_digs_95 ?_
                    refine lv_topi (fun x_62 ex_62 => ?_)
                    have jx_62 : (x_62).toInt = (x_61).toInt + (x_13).toInt := by rw [ex_62]; exact dk_addT2 rfl rfl (by omega)
                    refine lv_iconst (v := 0) hx hb dX12_digs_96 (by decide +kernel) ?_
                    have hin_63 : vp_in x_62 1408 := (dk_inv2 (by omega))
                    have hz_65 : (0 : Int32).toInt = 0 := by decide +kernel
                    refine dg_iast hx hb K hP hS hA1 sM_31 hin_63 dX12_digs_97 (fun S_64 e_64 H locs hP hS => ?_)
                    have I_64 := dg_I.ufu (lo := (-1)) (hi := 9) I_34 e_64 sM_31 (by decide +kernel) (show (-1) ≤ ((0 : Int32)).toInt ∧ ((0 : Int32)).toInt ≤ 9 from (by decide +kernel))
                    have M_64 := dg_sm.uf M_34 e_64 sM_31 (dk_dq rfl)
                    refine lv_aload_n hx hb dX12_digs_98 rfl (lv_at hl 2 rfl) ?_
                    refine dg_get (C := RX12) (T := TX12) (N := 77) hx hb hts (fun w h => bw_mem (wU_X12 w h)) hown K hP sM_0 rfl 53 (dk_dq rfl) (hts _ (bw_mem wB_1130)) (fun _ h9 => h9) (v := .ref (o + 33)) (show S_64.1 0 53 = .ref (o + 33) from dg_I.rel (d := 33) I_64 sM_0 (by decide +kernel)) dX12_digs_99 ?_
                    refine lv_iload_n hx hb dX12_digs_102 rfl (lv_at hl 3 rfl) ?_
                    refine lv_dup2_11 hx hb dX12_digs_103 rfl rfl ?_
                    have hin_66 : vp_in a1 22 := (dk_inv2 (by omega))
                    refine dg_iald hx hb K hP sM_33 hin_66 dX12_digs_104 (fun y_67 ey_67 => ?_)
                    obtain rfl : x_19 = y_67 := ((ey_67.trans (congrFun ((dg_uf_ne e_64 (dk_dq rfl)).trans (m_34.2 33 _ sM_33 (dk_dq rfl)).1) _)).trans ex_19.symm).symm
                    refine lv_iconst (v := 1) hx hb dX12_digs_105 (by decide +kernel) ?_
                    refine lv_aload_n hx hb dX12_digs_106 rfl (lv_at hl 2 rfl) ?_
                    refine dg_get (C := RX12) (T := TX12) (N := 77) hx hb hts (fun w h => bw_mem (wU_X12 w h)) hown K hP sM_0 rfl 55 (dk_dq rfl) (hts _ (bw_mem wB_1132)) (fun _ h9 => h9) (v := .ref (o + 35)) (show S_64.1 0 55 = .ref (o + 35) from dg_I.rel (d := 35) I_64 sM_0 (by decide +kernel)) dX12_digs_107 ?_
                    refine lv_iload_n hx hb dX12_digs_110 rfl (lv_at hl 1 rfl) ?_
                    have hin_68 : vp_in x_11 352 := (dk_inv2 (by omega))
                    refine dg_iald hx hb K hP sM_35 hin_68 dX12_digs_111 (fun y_69 ey_69 => ?_)
                    obtain rfl : x_21 = y_69 := ((ey_69.trans (congrFun ((dg_uf_ne e_64 (dk_dq rfl)).trans (m_34.2 35 _ sM_35 (dk_dq rfl)).1) _)).trans ex_21.symm).symm
                    refine lv_ishl hx hb dX12_digs_112 ?_
                    refine lv_topi (fun x_70 ex_70 => ?_)
                    refine lv_ior hx hb dX12_digs_113 ?_
                    refine lv_topi (fun x_71 ex_71 => ?_)
                    have hin_72 : vp_in a1 22 := (dk_inv2 (by omega))
                    refine dg_iast hx hb K hP hS hA1 sM_33 hin_72 dX12_digs_114 (fun S_73 e_73 H locs hP hS => ?_)
                    have I_73 := dg_I.uf0 I_64 e_73 sM_33 (by decide +kernel)
                    have M_73 := dg_sm.uf M_64 e_73 sM_33 (dk_dq rfl)
                    have hF_2 : F_m_digs o S a1 = F_m_digs_J2 o S_73 a1 x_21 x_13 := (F_m_digs_p5 (zI_eq f_x_1) (Eq.symm ex_3.symm) c_4 ex_5 (Eq.symm ex_7.symm) ex_10 ex_11 (Eq.symm ex_13.symm) w_17_0 (Eq.symm ex_19.symm) (Eq.symm ex_21.symm) w_23_1 c_24 w_31_2 c_32 w_34_1.1 w_34_1.2 c_35 ex_61 ex_62 e_64 ex_70 ex_71 e_73)
                    as_aux_lemma =>
                      refine lv_aload_n hx hb dX12_digs_115 rfl (lv_at hl 2 rfl) ?_
                      refine lv_iload_n hx hb dX12_digs_116 rfl (lv_at hl 3 rfl) ?_
                      refine lv_aload_n hx hb dX12_digs_117 rfl (lv_at hl 2 rfl) ?_
                      refine dg_get (C := RX12) (T := TX12) (N := 77) hx hb hts (fun w h => bw_mem (wU_X12 w h)) hown K hP sM_0 rfl 55 (dk_dq rfl) (hts _ (bw_mem wB_1132)) (fun _ h9 => h9) (v := .ref (o + 35)) (show S_73.1 0 55 = .ref (o + 35) from dg_I.rel (d := 35) I_73 sM_0 (by decide +kernel)) dX12_digs_118 ?_
                      refine lv_iload_n hx hb dX12_digs_121 rfl (lv_at hl 1 rfl) ?_
                      have hin_74 : vp_in x_11 352 := (dk_inv2 (by omega))
                      refine dg_iald hx hb K hP sM_35 hin_74 dX12_digs_122 (fun y_75 ey_75 => ?_)
                      obtain rfl : x_21 = y_75 := ((ey_75.trans (congrFun ((dg_uf_ne e_73 (dk_dq rfl)).trans ((dg_uf_ne e_64 (dk_dq rfl)).trans (m_34.2 35 _ sM_35 (dk_dq rfl)).1)) _)).trans ex_21.symm).symm
                      refine lv_iload_n hx hb dX12_digs_123 rfl (lv_at hl 0 rfl) ?_
                      refine lv_iconst (v := (-1)) hx hb dX12_digs_124 (by decide +kernel) ?_
                      refine dg_callv hS hA1 hA (va_runV (As := [.int a1, .int x_21, .int x_13, .int (-1)]) (rest := []) F (c_m_writesDown l g D o S_73 a1 (by omega) x_21 x_13 (-1) I_73 H.size) (cwV 4 hts (bw_V wB_1180 wB_1181 wB_1182 wB_297 wB_1179) rfl rfl rfl (by decide +kernel) ⟨Nat.le_of_ble_eq_true rfl, Nat.le_of_ble_eq_true rfl⟩) (dg_preV sM_0 rfl K ST hP hS hA1 hA) rfl rfl hl.1 rfl (lv_room (Nat.le_of_ble_eq_true rfl)) dX12_digs_125 ⟨Nat.le_of_ble_eq_true rfl, Nat.le_of_ble_eq_true rfl⟩) (fun S_76 hw_76 H locs hP hS => ?_)
                      obtain ⟨I_76, m_76, w_76_0, -⟩ := hw_76
                      have M_76 := dg_sm.tr M_73 m_76 (dk_dq rfl) (dk_dq rfl)
                      refine lv_iconst (v := 0) hx hb dX12_digs_128 (by decide +kernel) ?_
                      have hz_77 : (0 : Int32).toInt = 0 := by decide +kernel
                      refine W.widen (k := 0) (n := 0) (Nat.le_of_ble_eq_true rfl) (Nat.le_of_ble_eq_true rfl) ?_
                      exact dg_iret hx hb hr hlocks (by decide +kernel) hP hS ⟨I_76, M_76, (by decide +kernel), ⟨congrArg Prod.fst (Eq.symm (Eq.trans hF_2 (F_m_digs_p4 w_76_0))), congrArg Prod.snd (Eq.symm (Eq.trans hF_2 (F_m_digs_p4 w_76_0)))⟩, trivial⟩ dX12_digs_129
            · have jc_32 := dk_eqc (k := 0) (by decide +kernel) c_32
              refine lv_iconst (v := 0) hx hb dX12_digs_75 (by decide +kernel) ?_
              have hz_78 : (0 : Int32).toInt = 0 := by decide +kernel
              refine W.widen (k := 0) (n := 0) (Nat.le_of_ble_eq_true rfl) (Nat.le_of_ble_eq_true rfl) ?_
              exact dg_iret hx hb hr hlocks (by decide +kernel) hP hS ⟨I_17, M_17, (by decide +kernel), ⟨congrArg Prod.fst (Eq.symm (F_m_digs_p6 (zI_eq f_x_1) (Eq.symm ex_3.symm) c_4 ex_5 (Eq.symm ex_7.symm) ex_10 ex_11 (Eq.symm ex_13.symm) w_17_0 (Eq.symm ex_19.symm) (Eq.symm ex_21.symm) w_23_1 c_24 w_31_2 c_32)), congrArg Prod.snd (Eq.symm (F_m_digs_p6 (zI_eq f_x_1) (Eq.symm ex_3.symm) c_4 ex_5 (Eq.symm ex_7.symm) ex_10 ex_11 (Eq.symm ex_13.symm) w_17_0 (Eq.symm ex_19.symm) (Eq.symm ex_21.symm) w_23_1 c_24 w_31_2 c_32))⟩, trivial⟩ dX12_digs_76
  · have jc_4 := dk_eqc (k := 0) (by decide +kernel) c_4
    refine lv_iconst (v := 0) hx hb dX12_digs_12 (by decide +kernel) ?_
    have hz_79 : (0 : Int32).toInt = 0 := by decide +kernel
    refine W.widen (k := 0) (n := 0) (Nat.le_of_ble_eq_true rfl) (Nat.le_of_ble_eq_true rfl) ?_
    exact dg_iret hx hb hr hlocks (by decide +kernel) hP hS ⟨I, M_0, (by decide +kernel), ⟨congrArg Prod.fst (Eq.symm (F_m_digs_p7 (zI_eq f_x_1) (Eq.symm ex_3.symm) c_4)), congrArg Prod.snd (Eq.symm (F_m_digs_p7 (zI_eq f_x_1) (Eq.symm ex_3.symm) c_4))⟩, trivial⟩ dX12_digs_13
noncomputable def F_m_lightens_J3 (x_479 : Int32) (S_504 : dg_S) : (Int32 × dg_S) ⊕ (dg_S) := let x_506 : Int32 := x_479 + 1; (Sum.inl (x_506, S_504))
noncomputable def F_m_lightens_J4 (S_480 : dg_S) (x_510 : Int32) (x_517 : Int32) (x_479 : Int32) : (Int32 × dg_S) ⊕ (dg_S) := let S_522 : dg_S := dg_uf S_480 31 (upd (S_480.2.1 31) (x_510 : Int32).toNatClampNeg x_517); (F_m_lightens_J3 x_479 S_522)
noncomputable def F_m_lightens_B2 (a1 : Int32) (o : Nat) : (Int32 × dg_S) → (Int32 × dg_S) ⊕ (dg_S) := fun w9 => match w9 with | (x_479, S_480) => (if (64 : Int32) ≤ x_479 then (Sum.inr ((S_480))) else let x_483 : Int32 := (64 : Int32) * a1; let x_484 : Int32 := x_483 + x_479; let x_486 : Int32 := S_480.2.1 31 (x_484 : Int32).toNatClampNeg; let x_487 : Int32 := F_m_isCellOf o S_480 x_479; (if x_487 = (0 : Int32) then (F_m_lightens_J3 x_479 S_480) else (if x_486 = (-1 : Int32) then (F_m_lightens_J3 x_479 S_480) else let x_509 : Int32 := (64 : Int32) * a1; let x_510 : Int32 := x_509 + x_479; let x_512 : Int32 := S_480.2.1 44 (x_479 : Int32).toNatClampNeg; (if x_486 ≤ x_512 then (F_m_lightens_J4 S_480 x_510 (0 : Int32) x_479) else let x_527 : Int32 := x_486 - x_512; (F_m_lightens_J4 S_480 x_510 x_527 x_479)))))
noncomputable def F_m_lightens_J1 (a1 : Int32) (o : Nat) (S : dg_S) (S_363 : dg_S) : dg_S := (lp (F_m_lightens_B2 a1 o) S ((65 - ((0 : Int32)).toInt).toNat + 1) ((0 : Int32), S_363))
noncomputable def F_m_lightens_J6 (x_713 : Int32) (S_751 : dg_S) : (Int32 × dg_S) ⊕ (dg_S) := let x_753 : Int32 := x_713 + 1; (Sum.inl (x_753, S_751))
noncomputable def F_m_lightens_J8 (S_780 : dg_S) (x_713 : Int32) (x_789 : Int32) : (Int32 × dg_S) ⊕ (dg_S) := let S_794 : dg_S := dg_uf S_780 44 (upd (S_780.2.1 44) (x_713 : Int32).toNatClampNeg x_789); (F_m_lightens_J6 x_713 S_794)
noncomputable def F_m_lightens_J7 (x_768 : Int64) (S_780 : dg_S) (x_713 : Int32) : (Int32 × dg_S) ⊕ (dg_S) := let x_782 : Int32 := lg_cmp x_768 (0 : Int64); (if (0 : Int32) ≤ x_782 then let x_796 : Int32 := lg_cmp x_768 (9 : Int64); (if x_796 ≤ (0 : Int32) then let x_799 : Int32 := Int64.toInt32 x_768; (F_m_lightens_J8 S_780 x_713 x_799) else (F_m_lightens_J8 S_780 x_713 (9 : Int32))) else (F_m_lightens_J8 S_780 x_713 (0 : Int32)))
noncomputable def F_m_lightens_B5 (a1 : Int32) (o : Nat) (S : dg_S) : (Int32 × dg_S) → (Int32 × dg_S) ⊕ (dg_S) := fun w9 => match w9 with | (x_713, S_714) => (if (64 : Int32) ≤ x_713 then (Sum.inr ((F_m_lightens_J1 a1 o S S_714))) else let S_719 : dg_S := dg_uf S_714 44 (upd (S_714.2.1 44) (x_713 : Int32).toNatClampNeg (0 : Int32)); let x_721 : Int32 := F_m_isCellOf o S_719 x_713; (if x_721 = (0 : Int32) then (F_m_lightens_J6 x_713 S_719) else let x_755 : Int32 := F_m_isOpen o S_719 a1 x_713; (if x_755 = (0 : Int32) then let x_758 : Int32 := F_m_litBeside o S_719 a1 x_713; (if x_758 = (100000000 : Int32) then (F_m_lightens_J6 x_713 S_719) else let S_761 : dg_S := F_m_lays o S_719 a1 x_713; let x_762 : Int32 := F_m_isTold_0 o S_761; (if x_762 = (0 : Int32) then (F_m_lightens_J7 (1 : Int64) S_761 x_713) else let S_805 : dg_S := (F_m_reckons_0 o S_761).1; let x_804 : Int64 := (F_m_reckons_0 o S_761).2; (F_m_lightens_J7 x_804 S_805 x_713))) else (F_m_lightens_J6 x_713 S_719))))
noncomputable def F_m_lightens (o : Nat) (S : dg_S) (a1 : Int32) : dg_S := let x_1 : Int32 := zI S 0 13; let x_4 : Int32 := zI S 0 47; let x_2 : Int32 := S.2.1 4 (x_1 : Int32).toNatClampNeg; let S_5 : dg_S := F_m_measures o S a1; (lp (F_m_lightens_B5 a1 o S) S ((65 - ((0 : Int32)).toInt).toNat + 1) ((0 : Int32), S_5))
theorem F_m_lightens_p0 {a1 : Int32} {o : Nat} {x_479 : Int32} {S_480 : dg_S} (h0 : (64 : Int32) ≤ x_479) : (F_m_lightens_B2 a1 o) (x_479, S_480) = Sum.inr (S_480) := (Eq.trans (if_pos h0) rfl)
theorem F_m_lightens_p1 {x_479 : Int32} {S_504 : dg_S} {x_506 : Int32} (h0 : x_506 = x_479 + 1) : F_m_lightens_J3 x_479 S_504 = Sum.inl (x_506, S_504) := by
  replace h0 := Eq.symm h0
  subst h0
  exact rfl
theorem F_m_lightens_p2 {a1 : Int32} {o : Nat} {x_479 : Int32} {S_480 : dg_S} {x_487 : Int32} (h0 : ¬ ((64 : Int32) ≤ x_479)) (h1 : x_487 = F_m_isCellOf o S_480 x_479) (h2 : x_487 = (0 : Int32)) : (F_m_lightens_B2 a1 o) (x_479, S_480) = F_m_lightens_J3 x_479 S_480 := by
  replace h1 := Eq.symm h1
  subst h1
  exact (Eq.trans (if_neg h0) (Eq.trans (if_pos h2) rfl))
theorem F_m_lightens_p3 {a1 : Int32} {o : Nat} {x_479 : Int32} {S_480 : dg_S} {x_483 : Int32} {x_484 : Int32} {x_486 : Int32} {x_487 : Int32} (h0 : ¬ ((64 : Int32) ≤ x_479)) (h1 : x_483 = (64 : Int32) * a1) (h2 : x_484 = x_483 + x_479) (h3 : x_486 = S_480.2.1 31 (x_484 : Int32).toNatClampNeg) (h4 : x_487 = F_m_isCellOf o S_480 x_479) (h5 : ¬ (x_487 = (0 : Int32))) (h6 : x_486 = (-1 : Int32)) : (F_m_lightens_B2 a1 o) (x_479, S_480) = F_m_lightens_J3 x_479 S_480 := by
  replace h1 := Eq.symm h1
  subst h1
  replace h2 := Eq.symm h2
  subst h2
  replace h3 := Eq.symm h3
  subst h3
  replace h4 := Eq.symm h4
  subst h4
  exact (Eq.trans (if_neg h0) (Eq.trans (if_neg h5) (Eq.trans (if_pos h6) rfl)))
theorem F_m_lightens_p4 {S_480 : dg_S} {x_510 : Int32} {x_517 : Int32} {x_479 : Int32} {S_522 : dg_S} (h0 : S_522 = dg_uf S_480 31 (upd (S_480.2.1 31) (x_510 : Int32).toNatClampNeg x_517)) : F_m_lightens_J4 S_480 x_510 x_517 x_479 = F_m_lightens_J3 x_479 S_522 := by
  replace h0 := Eq.symm h0
  subst h0
  exact rfl
theorem F_m_lightens_p5 {a1 : Int32} {o : Nat} {x_479 : Int32} {S_480 : dg_S} {x_510 : Int32} {x_483 : Int32} {x_484 : Int32} {x_486 : Int32} {x_487 : Int32} {x_509 : Int32} {x_512 : Int32} (h0 : ¬ ((64 : Int32) ≤ x_479)) (h1 : x_483 = (64 : Int32) * a1) (h2 : x_484 = x_483 + x_479) (h3 : x_486 = S_480.2.1 31 (x_484 : Int32).toNatClampNeg) (h4 : x_487 = F_m_isCellOf o S_480 x_479) (h5 : ¬ (x_487 = (0 : Int32))) (h6 : ¬ (x_486 = (-1 : Int32))) (h7 : x_509 = (64 : Int32) * a1) (h8 : x_510 = x_509 + x_479) (h9 : x_512 = S_480.2.1 44 (x_479 : Int32).toNatClampNeg) (h10 : x_486 ≤ x_512) : (F_m_lightens_B2 a1 o) (x_479, S_480) = F_m_lightens_J4 S_480 x_510 (0 : Int32) x_479 := by
  replace h1 := Eq.symm h1
  subst h1
  replace h2 := Eq.symm h2
  subst h2
  replace h3 := Eq.symm h3
  subst h3
  replace h4 := Eq.symm h4
  subst h4
  replace h7 := Eq.symm h7
  subst h7
  replace h8 := Eq.symm h8
  subst h8
  replace h9 := Eq.symm h9
  subst h9
  exact (Eq.trans (if_neg h0) (Eq.trans (if_neg h5) (Eq.trans (if_neg h6) (Eq.trans (if_pos h10) rfl))))
theorem F_m_lightens_p6 {a1 : Int32} {o : Nat} {x_479 : Int32} {S_480 : dg_S} {x_510 : Int32} {x_527 : Int32} {x_483 : Int32} {x_484 : Int32} {x_486 : Int32} {x_487 : Int32} {x_509 : Int32} {x_512 : Int32} (h0 : ¬ ((64 : Int32) ≤ x_479)) (h1 : x_483 = (64 : Int32) * a1) (h2 : x_484 = x_483 + x_479) (h3 : x_486 = S_480.2.1 31 (x_484 : Int32).toNatClampNeg) (h4 : x_487 = F_m_isCellOf o S_480 x_479) (h5 : ¬ (x_487 = (0 : Int32))) (h6 : ¬ (x_486 = (-1 : Int32))) (h7 : x_509 = (64 : Int32) * a1) (h8 : x_510 = x_509 + x_479) (h9 : x_512 = S_480.2.1 44 (x_479 : Int32).toNatClampNeg) (h10 : ¬ (x_486 ≤ x_512)) (h11 : x_527 = x_486 - x_512) : (F_m_lightens_B2 a1 o) (x_479, S_480) = F_m_lightens_J4 S_480 x_510 x_527 x_479 := by
  replace h1 := Eq.symm h1
  subst h1
  replace h2 := Eq.symm h2
  subst h2
  replace h3 := Eq.symm h3
  subst h3
  replace h4 := Eq.symm h4
  subst h4
  replace h7 := Eq.symm h7
  subst h7
  replace h8 := Eq.symm h8
  subst h8
  replace h9 := Eq.symm h9
  subst h9
  replace h11 := Eq.symm h11
  subst h11
  exact (Eq.trans (if_neg h0) (Eq.trans (if_neg h5) (Eq.trans (if_neg h6) (Eq.trans (if_neg h10) rfl))))
theorem F_m_lightens_p7 {a1 : Int32} {o : Nat} {S : dg_S} {S_363 : dg_S}  : F_m_lightens_J1 a1 o S S_363 = lp (F_m_lightens_B2 a1 o) S ((65 - ((0 : Int32)).toInt).toNat + 1) ((0 : Int32), S_363) := rfl
theorem F_m_lightens_p8 {a1 : Int32} {o : Nat} {S : dg_S} {x_713 : Int32} {S_714 : dg_S} (h0 : (64 : Int32) ≤ x_713) : (F_m_lightens_B5 a1 o S) (x_713, S_714) = Sum.inr (F_m_lightens_J1 a1 o S S_714) := (Eq.trans (if_pos h0) rfl)
theorem F_m_lightens_p9 {x_713 : Int32} {S_751 : dg_S} {x_753 : Int32} (h0 : x_753 = x_713 + 1) : F_m_lightens_J6 x_713 S_751 = Sum.inl (x_753, S_751) := by
  replace h0 := Eq.symm h0
  subst h0
  exact rfl
theorem F_m_lightens_p10 {a1 : Int32} {o : Nat} {S : dg_S} {x_713 : Int32} {S_714 : dg_S} {S_719 : dg_S} {x_721 : Int32} (h0 : ¬ ((64 : Int32) ≤ x_713)) (h1 : S_719 = dg_uf S_714 44 (upd (S_714.2.1 44) (x_713 : Int32).toNatClampNeg (0 : Int32))) (h2 : x_721 = F_m_isCellOf o S_719 x_713) (h3 : x_721 = (0 : Int32)) : (F_m_lightens_B5 a1 o S) (x_713, S_714) = F_m_lightens_J6 x_713 S_719 := by
  replace h1 := Eq.symm h1
  subst h1
  replace h2 := Eq.symm h2
  subst h2
  exact (Eq.trans (if_neg h0) (Eq.trans (if_pos h3) rfl))
theorem F_m_lightens_p11 {a1 : Int32} {o : Nat} {S : dg_S} {x_713 : Int32} {S_714 : dg_S} {S_719 : dg_S} {x_721 : Int32} {x_755 : Int32} (h0 : ¬ ((64 : Int32) ≤ x_713)) (h1 : S_719 = dg_uf S_714 44 (upd (S_714.2.1 44) (x_713 : Int32).toNatClampNeg (0 : Int32))) (h2 : x_721 = F_m_isCellOf o S_719 x_713) (h3 : ¬ (x_721 = (0 : Int32))) (h4 : x_755 = F_m_isOpen o S_719 a1 x_713) (h5 : ¬ (x_755 = (0 : Int32))) : (F_m_lightens_B5 a1 o S) (x_713, S_714) = F_m_lightens_J6 x_713 S_719 := by
  replace h1 := Eq.symm h1
  subst h1
  replace h2 := Eq.symm h2
  subst h2
  replace h4 := Eq.symm h4
  subst h4
  exact (Eq.trans (if_neg h0) (Eq.trans (if_neg h3) (Eq.trans (if_neg h5) rfl)))
theorem F_m_lightens_p12 {S_780 : dg_S} {x_713 : Int32} {x_789 : Int32} {S_794 : dg_S} (h0 : S_794 = dg_uf S_780 44 (upd (S_780.2.1 44) (x_713 : Int32).toNatClampNeg x_789)) : F_m_lightens_J8 S_780 x_713 x_789 = F_m_lightens_J6 x_713 S_794 := by
  replace h0 := Eq.symm h0
  subst h0
  exact rfl
theorem F_m_lightens_p13 {x_768 : Int64} {S_780 : dg_S} {x_713 : Int32} {x_799 : Int32} {x_782 : Int32} {x_796 : Int32} (h0 : x_782 = lg_cmp x_768 (0 : Int64)) (h1 : (0 : Int32) ≤ x_782) (h2 : x_796 = lg_cmp x_768 (9 : Int64)) (h3 : x_796 ≤ (0 : Int32)) (h4 : x_799 = Int64.toInt32 x_768) : F_m_lightens_J7 x_768 S_780 x_713 = F_m_lightens_J8 S_780 x_713 x_799 := by
  replace h0 := Eq.symm h0
  subst h0
  replace h2 := Eq.symm h2
  subst h2
  replace h4 := Eq.symm h4
  subst h4
  exact (Eq.trans (if_pos h1) (Eq.trans (if_pos h3) rfl))
theorem F_m_lightens_p14 {x_768 : Int64} {S_780 : dg_S} {x_713 : Int32} {x_782 : Int32} {x_796 : Int32} (h0 : x_782 = lg_cmp x_768 (0 : Int64)) (h1 : (0 : Int32) ≤ x_782) (h2 : x_796 = lg_cmp x_768 (9 : Int64)) (h3 : ¬ (x_796 ≤ (0 : Int32))) : F_m_lightens_J7 x_768 S_780 x_713 = F_m_lightens_J8 S_780 x_713 (9 : Int32) := by
  replace h0 := Eq.symm h0
  subst h0
  replace h2 := Eq.symm h2
  subst h2
  exact (Eq.trans (if_pos h1) (Eq.trans (if_neg h3) rfl))
theorem F_m_lightens_p15 {x_768 : Int64} {S_780 : dg_S} {x_713 : Int32} {x_782 : Int32} (h0 : x_782 = lg_cmp x_768 (0 : Int64)) (h1 : ¬ ((0 : Int32) ≤ x_782)) : F_m_lightens_J7 x_768 S_780 x_713 = F_m_lightens_J8 S_780 x_713 (0 : Int32) := by
  replace h0 := Eq.symm h0
  subst h0
  exact (Eq.trans (if_neg h1) rfl)
theorem F_m_lightens_p16 {a1 : Int32} {o : Nat} {S : dg_S} {x_713 : Int32} {S_714 : dg_S} {S_761 : dg_S} {S_719 : dg_S} {x_721 : Int32} {x_755 : Int32} {x_758 : Int32} {x_762 : Int32} (h0 : ¬ ((64 : Int32) ≤ x_713)) (h1 : S_719 = dg_uf S_714 44 (upd (S_714.2.1 44) (x_713 : Int32).toNatClampNeg (0 : Int32))) (h2 : x_721 = F_m_isCellOf o S_719 x_713) (h3 : ¬ (x_721 = (0 : Int32))) (h4 : x_755 = F_m_isOpen o S_719 a1 x_713) (h5 : x_755 = (0 : Int32)) (h6 : x_758 = F_m_litBeside o S_719 a1 x_713) (h7 : ¬ (x_758 = (100000000 : Int32))) (h8 : S_761 = F_m_lays o S_719 a1 x_713) (h9 : x_762 = F_m_isTold_0 o S_761) (h10 : x_762 = (0 : Int32)) : (F_m_lightens_B5 a1 o S) (x_713, S_714) = F_m_lightens_J7 (1 : Int64) S_761 x_713 := by
  replace h1 := Eq.symm h1
  subst h1
  replace h2 := Eq.symm h2
  subst h2
  replace h4 := Eq.symm h4
  subst h4
  replace h6 := Eq.symm h6
  subst h6
  replace h8 := Eq.symm h8
  subst h8
  replace h9 := Eq.symm h9
  subst h9
  exact (Eq.trans (if_neg h0) (Eq.trans (if_neg h3) (Eq.trans (if_pos h5) (Eq.trans (if_neg h7) (Eq.trans (if_pos h10) rfl)))))
theorem F_m_lightens_p17 {a1 : Int32} {o : Nat} {S : dg_S} {x_713 : Int32} {S_714 : dg_S} {x_804 : Int64} {S_805 : dg_S} {S_719 : dg_S} {x_721 : Int32} {x_755 : Int32} {x_758 : Int32} {S_761 : dg_S} {x_762 : Int32} (h0 : ¬ ((64 : Int32) ≤ x_713)) (h1 : S_719 = dg_uf S_714 44 (upd (S_714.2.1 44) (x_713 : Int32).toNatClampNeg (0 : Int32))) (h2 : x_721 = F_m_isCellOf o S_719 x_713) (h3 : ¬ (x_721 = (0 : Int32))) (h4 : x_755 = F_m_isOpen o S_719 a1 x_713) (h5 : x_755 = (0 : Int32)) (h6 : x_758 = F_m_litBeside o S_719 a1 x_713) (h7 : ¬ (x_758 = (100000000 : Int32))) (h8 : S_761 = F_m_lays o S_719 a1 x_713) (h9 : x_762 = F_m_isTold_0 o S_761) (h10 : ¬ (x_762 = (0 : Int32))) (h11 : S_805 = (F_m_reckons_0 o S_761).1) (h12 : x_804 = (F_m_reckons_0 o S_761).2) : (F_m_lightens_B5 a1 o S) (x_713, S_714) = F_m_lightens_J7 x_804 S_805 x_713 := by
  replace h1 := Eq.symm h1
  subst h1
  replace h2 := Eq.symm h2
  subst h2
  replace h4 := Eq.symm h4
  subst h4
  replace h6 := Eq.symm h6
  subst h6
  replace h8 := Eq.symm h8
  subst h8
  replace h9 := Eq.symm h9
  subst h9
  replace h11 := Eq.symm h11
  subst h11
  replace h12 := Eq.symm h12
  subst h12
  exact (Eq.trans (if_neg h0) (Eq.trans (if_neg h3) (Eq.trans (if_pos h5) (Eq.trans (if_neg h7) (Eq.trans (if_neg h10) rfl)))))
theorem F_m_lightens_p18 {a1 : Int32} {o : Nat} {S : dg_S} {x_713 : Int32} {S_714 : dg_S} {S_719 : dg_S} {x_721 : Int32} {x_755 : Int32} {x_758 : Int32} (h0 : ¬ ((64 : Int32) ≤ x_713)) (h1 : S_719 = dg_uf S_714 44 (upd (S_714.2.1 44) (x_713 : Int32).toNatClampNeg (0 : Int32))) (h2 : x_721 = F_m_isCellOf o S_719 x_713) (h3 : ¬ (x_721 = (0 : Int32))) (h4 : x_755 = F_m_isOpen o S_719 a1 x_713) (h5 : x_755 = (0 : Int32)) (h6 : x_758 = F_m_litBeside o S_719 a1 x_713) (h7 : x_758 = (100000000 : Int32)) : (F_m_lightens_B5 a1 o S) (x_713, S_714) = F_m_lightens_J6 x_713 S_719 := by
  replace h1 := Eq.symm h1
  subst h1
  replace h2 := Eq.symm h2
  subst h2
  replace h4 := Eq.symm h4
  subst h4
  replace h6 := Eq.symm h6
  subst h6
  exact (Eq.trans (if_neg h0) (Eq.trans (if_neg h3) (Eq.trans (if_pos h5) (Eq.trans (if_pos h7) rfl))))
theorem F_m_lightens_p19 {o : Nat} {S : dg_S} {a1 : Int32} {S_5 : dg_S} (h0 : S_5 = F_m_measures o S a1) : F_m_lightens o S a1 = lp (F_m_lightens_B5 a1 o S) S ((65 - ((0 : Int32)).toInt).toNat + 1) ((0 : Int32), S_5) := by
  replace h0 := Eq.symm h0
  subst h0
  exact rfl
set_option maxHeartbeats 8000000 in
set_option maxRecDepth 100000 in
theorem c_m_lightens (l : Launch) (g : Nat → ClassId) (D : va_G) (o : Nat) (S : dg_S) (a1 : Int32) (b_a1 : 0 ≤ (a1).toInt ∧ (a1).toInt ≤ 21) (ZB : ZBM S) (ZW : ZWM S) (I : CM o S) (sz : Nat) : Met l yX12_lightens (bw yX12_lightens cX12_lightens 5 none) ({ frames := 6, cells := 0, slots := 0, locals := 147 } : Room) (dk_Pc g D (dg_w g shM o rfM S) sz [.ref (o + 0), .int a1]) (va_Qv (fun S' => CM o S' ∧ dg_sm shM [] [31, 40, 41, 42, 43, 44] S S' ∧ (S' = F_m_lightens o S a1) ∧ True) (dg_B g D shM o rfM) (dg_A o shM.length sz)) 0 0 (dg_A o shM.length sz) := by
  refine dg_met (cc := cX12_lightens) (maxL := 5) (ret := none) (dk_dq rfl) rfl (Nat.le_of_ble_eq_true rfl) ?_
  intro p e s m args below meth c A hAe harg hx hb hr hml hts hown hlocks hin hP K hS hA1 hA ST hsz ls hl
  rw [← hAe]
  have F : CallFix p m c cX12_lightens 5 s args (bw yX12_lightens cX12_lightens 5 none) RX12 := ⟨hx, hb, hml, hown, hts⟩
  have hl : lv_has ls 5 [(0, .ref (o + 0)), (1, .int a1)] := hl
  have M_0 : dg_sm shM [] [31, 40, 41, 42, 43, 44] S S := dg_sm.rf
  refine lv_aload_n hx hb dX12_lightens_0 rfl (lv_at hl 0 rfl) ?_
  refine lv_iload_n hx hb dX12_lightens_1 rfl (lv_at hl 1 rfl) ?_
  obtain ⟨x_1, f_x_1, b_x_1⟩ := dg_I.int (i := 0) (k := 13) (lo := 0) (hi := 1) I sM_0 (by decide +kernel)
  obtain ⟨x_2, f_x_2⟩ : ∃ x, S.2.1 4 (x_1 : Int32).toNatClampNeg = x := ⟨_, rfl⟩
  have hin_3 : vp_in (x_1 : Int32) 2 := (dk_inv2 (by omega))
  have b_x_2 := dk_all_at (dg_I.row (lo := 0) (hi := 9999) I sM_4 (by decide +kernel)) hin_3 f_x_2.symm
  have ex_2 := f_x_2.symm
  obtain ⟨x_4, f_x_4, b_x_4⟩ := dg_I.int (i := 0) (k := 47) (lo := 0) (hi := 1) I sM_0 (by decide +kernel)
  have zb_x_2 : (x_2).toInt ≤ 63 := by rw [ex_2]; exact (ZB x_1 x_4 f_x_1 f_x_4).2.2.1
  refine dg_callv hS hA1 hA (va_runV (As := [.int a1]) (rest := []) F (c_m_measures l g D o S a1 (by omega) x_1 f_x_1 (by omega) x_2 f_x_2 (by omega) ZB I s.heap.size) (cwV 1 hts (bw_V wB_1161 wB_1162 wB_1163 wB_297 wB_1160) rfl rfl rfl (by decide +kernel) ⟨Nat.le_of_ble_eq_true rfl, Nat.le_of_ble_eq_true rfl⟩) (dg_preV sM_0 rfl K ST hP hS hA1 hA) rfl rfl hl.1 rfl (lv_room (Nat.le_of_ble_eq_true rfl)) dX12_lightens_2 ⟨Nat.le_of_ble_eq_true rfl, Nat.le_of_ble_eq_true rfl⟩) (fun S_5 hw_5 H locs hP hS => ?_)
  obtain ⟨I_5, m_5, w_5_0, -⟩ := hw_5
  have M_5 := dg_sm.tr M_0 m_5 (dk_dq rfl) (dk_dq rfl)
  refine lv_iconst (v := 0) hx hb dX12_lightens_5 (by decide +kernel) ?_
  refine lv_istore_n (lv' := [(2, .int 0), (0, .ref (o + 0)), (1, .int a1)]) hx hb dX12_lightens_6 rfl hl (dk_dq rfl) rfl (fun ls hl => ?_)
  have J_364 : ∀ (x_223 : Int32), (64 ≤ (x_223).toInt ∧ (x_223).toInt ≤ 2147483647) → ∀ S_363 : dg_S, CM o S_363 → dg_sm shM [] [31, 40, 41, 42, 43, 44] S S_363 → (F_m_lightens o S a1 = F_m_lightens_J1 a1 o S S_363) → ∀ (H : Heap) (locs : List Loc), va_P D vwCl (dg_w g shM o rfM S_363) H → va_S A s.heap H locs → ∀ ls : Array Slot, lv_has ls 5 [(2, .int x_223), (0, .ref (o + 0)), (1, .int a1)] → W p l e ({ frames := 6, cells := 0, slots := 0, locals := 147 } : Room) s m args below meth c H locs 0 0 (MQ below (va_Qv (fun S' => CM o S' ∧ dg_sm shM [] [31, 40, 41, 42, 43, 44] S S' ∧ (S' = F_m_lightens o S a1) ∧ True) (dg_B g D shM o rfM) A) args s 0 0 A) (F0 m 113 ls []) := by
    as_aux_lemma =>
      intro x_223 b_x_223 S_363 I_363 M_363 hF_1 H locs hP hS ls hl
      refine lv_iconst (v := 0) hx hb dX12_lightens_113 (by decide +kernel) ?_
      refine lv_istore_n (lv' := [(2, .int 0), (0, .ref (o + 0)), (1, .int a1)]) hx hb dX12_lightens_114 rfl hl (dk_dq rfl) rfl (fun ls hl => ?_)
      have L_481 : ∀ (n : Nat) (x_479 : Int32), (0 ≤ (x_479).toInt ∧ (x_479).toInt ≤ 64) → ((65 - (x_479).toInt).toNat < n) → ∀ S_480 : dg_S, CM o S_480 → dg_sm shM [] [31, 40, 41, 42, 43, 44] S S_480 → (F_m_lightens o S a1 = lp (F_m_lightens_B2 a1 o) S n (x_479, S_480)) → ∀ (H : Heap) (locs : List Loc), va_P D vwCl (dg_w g shM o rfM S_480) H → va_S A s.heap H locs → ∀ ls : Array Slot, lv_has ls 5 [(2, .int x_479), (0, .ref (o + 0)), (1, .int a1)] → W p l e ({ frames := 6, cells := 0, slots := 0, locals := 147 } : Room) s m args below meth c H locs 0 0 (MQ below (va_Qv (fun S' => CM o S' ∧ dg_sm shM [] [31, 40, 41, 42, 43, 44] S S' ∧ (S' = F_m_lightens o S a1) ∧ True) (dg_B g D shM o rfM) A) args s 0 0 A) (F0 m 115 ls []) := by
        as_aux_lemma =>
          intro n
          induction n with
          | zero =>
            intro x_479 b_x_479 hmu S_480 I_480 M_480 hF_2 H locs hP hS ls hl
            omega
          | succ n ih =>
            as_aux_lemma =>
              intro x_479 b_x_479 hmu S_480 I_480 M_480 hF_2 H locs hP hS ls hl
              refine lv_iload_n hx hb dX12_lightens_115 rfl (lv_at hl 0 rfl) ?_
              refine lv_bipush (v := 64) hx hb dX12_lightens_116 (by decide +kernel) ?_
              refine lv_icmp_ge (tgt := 185) hx hb dX12_lightens_118 (dk_dq rfl) (fun c_482 => ?_) (fun c_482 => ?_)
              · have jc_482 := dk_gec (k := 64) (by decide +kernel) c_482
                refine W.widen (k := 0) (n := 0) (Nat.le_of_ble_eq_true rfl) (Nat.le_of_ble_eq_true rfl) ?_
                exact dg_vret hx hb hr hlocks hP hS ⟨I_480, M_480, (Eq.symm (lp_r hF_2 (F_m_lightens_p0 c_482))), trivial⟩ dX12_lightens_185
              · as_aux_lemma =>
                  have jc_482 := dk_ngec (k := 64) (by decide +kernel) c_482
                  refine lv_aload_n hx hb dX12_lightens_121 rfl (lv_at hl 1 rfl) ?_
                  refine dg_get (C := RX12) (T := TX12) (N := 77) hx hb hts (fun w h => bw_mem (wU_X12 w h)) hown K hP sM_0 rfl 51 (dk_dq rfl) (hts _ (bw_mem wB_1090)) (fun _ h9 => h9) (v := .ref (o + 31)) (show S_480.1 0 51 = .ref (o + 31) from dg_I.rel (d := 31) I_480 sM_0 (by decide +kernel)) dX12_lightens_122 ?_
                  refine lv_bipush (v := 64) hx hb dX12_lightens_125 (by decide +kernel) ?_
                  refine lv_iload_n hx hb dX12_lightens_127 rfl (lv_at hl 2 rfl) ?_
                  refine lv_imul hx hb dX12_lightens_128 ?_
                  refine lv_topi (fun x_483 ex_483 => ?_)
                  have jx_483 : (x_483).toInt = 64 * (a1).toInt := by rw [ex_483]; exact dk_mulT2 (by decide +kernel) rfl (by omega)
                  refine lv_iload_n hx hb dX12_lightens_129 rfl (lv_at hl 0 rfl) ?_
                  refine lv_iadd hx hb dX12_lightens_130 ?_
                  refine lv_topi (fun x_484 ex_484 => ?_)
                  have jx_484 : (x_484).toInt = (x_483).toInt + (x_479).toInt := by rw [ex_484]; exact dk_addT2 rfl rfl (by omega)
                  have hin_485 : vp_in x_484 1408 := (dk_inv2 (by omega))
                  refine dg_iald hx hb K hP sM_31 hin_485 dX12_lightens_131 (fun x_486 ex_486 => ?_)
                  have b_x_486 := dk_all_at (dg_I.row (lo := (-1)) (hi := 9) I_480 sM_31 (by decide +kernel)) hin_485 ex_486
                  refine lv_istore_n (lv' := [(3, .int x_486), (2, .int x_479), (0, .ref (o + 0)), (1, .int a1)]) hx hb dX12_lightens_132 rfl hl (dk_dq rfl) rfl (fun ls hl => ?_)
                  refine lv_aload_n hx hb dX12_lightens_133 rfl (lv_at hl 2 rfl) ?_
                  refine lv_iload_n hx hb dX12_lightens_134 rfl (lv_at hl 1 rfl) ?_
                  refine dg_calli hS hA1 hA (va_runV (As := [.int x_479]) (rest := []) F (c_m_isCellOf l g D o S_480 x_479 (by omega) (ZBM.keep ZB M_480 (dk_dq rfl) (dk_dq rfl) (dk_dq rfl) (dk_dq rfl) (dk_dq rfl)) I_480 H.size) (cwV 1 hts (bw_V wB_1123 wB_1124 wB_1125 wB_297 wB_1122) rfl rfl rfl (by decide +kernel) ⟨Nat.le_of_ble_eq_true rfl, Nat.le_of_ble_eq_true rfl⟩) (dg_preV sM_0 rfl K ST hP hS hA1 hA) rfl rfl hl.1 rfl (lv_room (Nat.le_of_ble_eq_true rfl)) dX12_lightens_135 ⟨Nat.le_of_ble_eq_true rfl, Nat.le_of_ble_eq_true rfl⟩) (fun x_487 S_488 hw_488 H locs hP hS => ?_)
                  rw [hw_488.1] at hP
                  obtain ⟨hq_488, w_488_0, w_488_1, w_488_2, -⟩ := hw_488
                  have w_488_0 : 0 ≤ (x_487).toInt ∧ (x_487).toInt ≤ 1 := w_488_0
                  have w_488_1 : (x_487).toInt = 1 → 0 ≤ (x_479).toInt := w_488_1
                  have J_505 : ∀ S_504 : dg_S, CM o S_504 → dg_sm shM [] [31, 40, 41, 42, 43, 44] S S_504 → ((F_m_lightens_B2 a1 o) (x_479, S_480) = F_m_lightens_J3 x_479 S_504) → ∀ (H : Heap) (locs : List Loc), va_P D vwCl (dg_w g shM o rfM S_504) H → va_S A s.heap H locs → ∀ ls : Array Slot, lv_has ls 5 [(3, .int x_486), (2, .int x_479), (0, .ref (o + 0)), (1, .int a1)] → W p l e ({ frames := 6, cells := 0, slots := 0, locals := 147 } : Room) s m args below meth c H locs 0 0 (MQ below (va_Qv (fun S' => CM o S' ∧ dg_sm shM [] [31, 40, 41, 42, 43, 44] S S' ∧ (S' = F_m_lightens o S a1) ∧ True) (dg_B g D shM o rfM) A) args s 0 0 A) (F0 m 179 ls []) := by
                    intro S_504 I_504 M_504 hF_3 H locs hP hS ls hl
                    obtain ⟨x_506, ex_506⟩ : ∃ z, z = x_479 + 1 := ⟨_, rfl⟩
                    have jx_506 : (x_506).toInt = (x_479).toInt + 1 := by rw [ex_506]; exact dk_addT2 rfl (by decide +kernel) (by omega)
                    refine lv_iinc (v := x_506) (lv' := [(2, .int x_506), (3, .int x_486), (0, .ref (o + 0)), (1, .int a1)]) hx hb dX12_lightens_179 hl (k := 1) rfl (by rw [ex_506]; rfl) (dk_dq rfl) rfl (fun ls hl => ?_)
                    refine lv_goto (tgt := 115) hx hb dX12_lightens_182 (dk_dq rfl) ?_
                    exact ih x_506 (by omega) (by first | exact mu_lt hmu (by omega) (by omega) | omega) S_504 I_504 M_504  (lp_l hF_2 (Eq.trans hF_3 (F_m_lightens_p1 ex_506))) _ _ hP hS _ (lv_sub hl [0, 2, 3] rfl)
                  refine lv_if_eq (tgt := 179) hx hb dX12_lightens_138 (dk_dq rfl) (fun c_507 => ?_) (fun c_507 => ?_)
                  · have jc_507 := dk_eqc (k := 0) (by decide +kernel) c_507
                    exact J_505   S_480 I_480 M_480  (F_m_lightens_p2 c_482 w_488_2 c_507) _ _ hP hS _ (lv_sub hl [0, 1, 2, 3] rfl)
                  · as_aux_lemma =>
                      have jc_507 := dk_neqc (k := 0) (by decide +kernel) c_507
                      refine lv_iload_n hx hb dX12_lightens_141 rfl (lv_at hl 0 rfl) ?_
                      refine lv_iconst (v := (-1)) hx hb dX12_lightens_142 (by decide +kernel) ?_
                      refine lv_icmp_eq (tgt := 179) hx hb dX12_lightens_143 (dk_dq rfl) (fun c_508 => ?_) (fun c_508 => ?_)
                      · have jc_508 := dk_eqc (k := (-1)) (by decide +kernel) c_508
                        exact J_505   S_480 I_480 M_480  (F_m_lightens_p3 c_482 ex_483 ex_484 (Eq.symm ex_486.symm) w_488_2 c_507 c_508) _ _ hP hS _ (lv_sub hl [0, 1, 2, 3] rfl)
                      · as_aux_lemma =>
                          have jc_508 := dk_neqc (k := (-1)) (by decide +kernel) c_508
                          refine lv_aload_n hx hb dX12_lightens_146 rfl (lv_at hl 2 rfl) ?_
                          refine dg_get (C := RX12) (T := TX12) (N := 77) hx hb hts (fun w h => bw_mem (wU_X12 w h)) hown K hP sM_0 rfl 51 (dk_dq rfl) (hts _ (bw_mem wB_1090)) (fun _ h9 => h9) (v := .ref (o + 31)) (show S_480.1 0 51 = .ref (o + 31) from dg_I.rel (d := 31) I_480 sM_0 (by decide +kernel)) dX12_lightens_147 ?_
                          refine lv_bipush (v := 64) hx hb dX12_lightens_150 (by decide +kernel) ?_
                          refine lv_iload_n hx hb dX12_lightens_152 rfl (lv_at hl 3 rfl) ?_
                          refine lv_imul hx hb dX12_lightens_153 ?_
                          refine lv_topi (fun x_509 ex_509 => ?_)
                          have jx_509 : (x_509).toInt = 64 * (a1).toInt := by rw [ex_509]; exact dk_mulT2 (by decide +kernel) rfl (by omega)
                          refine lv_iload_n hx hb dX12_lightens_154 rfl (lv_at hl 1 rfl) ?_
                          refine lv_iadd hx hb dX12_lightens_155 ?_
                          refine lv_topi (fun x_510 ex_510 => ?_)
                          have jx_510 : (x_510).toInt = (x_509).toInt + (x_479).toInt := by rw [ex_510]; exact dk_addT2 rfl rfl (by omega)
                          refine lv_iload_n hx hb dX12_lightens_156 rfl (lv_at hl 0 rfl) ?_
                          refine lv_aload_n hx hb dX12_lightens_157 rfl (lv_at hl 2 rfl) ?_
                          refine dg_get (C := RX12) (T := TX12) (N := 77) hx hb hts (fun w h => bw_mem (wU_X12 w h)) hown K hP sM_0 rfl 68 (dk_dq rfl) (hts _ (bw_mem wB_1183)) (fun _ h9 => h9) (v := .ref (o + 44)) (show S_480.1 0 68 = .ref (o + 44) from dg_I.rel (d := 44) I_480 sM_0 (by decide +kernel)) dX12_lightens_158 ?_
                          refine lv_iload_n hx hb dX12_lightens_161 rfl (lv_at hl 1 rfl) ?_
                          have hin_511 : vp_in x_479 64 := (dk_inv2 (by omega))
                          refine dg_iald hx hb K hP sM_44 hin_511 dX12_lightens_162 (fun x_512 ex_512 => ?_)
                          have b_x_512 := dk_all_at (dg_I.row (lo := 0) (hi := 9) I_480 sM_44 (by decide +kernel)) hin_511 ex_512
                          have J_520 : ∀ (x_517 : Int32), ((-1) ≤ (x_517).toInt ∧ (x_517).toInt ≤ 9) → ((F_m_lightens_B2 a1 o) (x_479, S_480) = F_m_lightens_J4 S_480 x_510 x_517 x_479) → ∀ (H : Heap) (locs : List Loc), va_P D vwCl (dg_w g shM o rfM S_480) H → va_S A s.heap H locs → ∀ ls : Array Slot, lv_has ls 5 [(3, .int x_486), (2, .int x_479), (0, .ref (o + 0)), (1, .int a1)] → W p l e ({ frames := 6, cells := 0, slots := 0, locals := 147 } : Room) s m args below meth c H locs 0 0 (MQ below (va_Qv (fun S' => CM o S' ∧ dg_sm shM [] [31, 40, 41, 42, 43, 44] S S' ∧ (S' = F_m_lightens o S a1) ∧ True) (dg_B g D shM o rfM) A) args s 0 0 A) (F0 m 178 ls [.int x_517, .int x_510, .ref (o + 31)]) := by
                            intro x_517 b_x_517 hF_4 H locs hP hS ls hl
                            have hin_521 : vp_in x_510 1408 := (dk_inv2 (by omega))
                            refine dg_iast hx hb K hP hS hA1 sM_31 hin_521 dX12_lightens_178 (fun S_522 e_522 H locs hP hS => ?_)
                            have I_522 := dg_I.ufu (lo := (-1)) (hi := 9) I_480 e_522 sM_31 (by decide +kernel) (show (-1) ≤ (x_517).toInt ∧ (x_517).toInt ≤ 9 from (by omega))
                            have M_522 := dg_sm.uf M_480 e_522 sM_31 (dk_dq rfl)
                            exact J_505   S_522 I_522 M_522  (Eq.trans hF_4 (F_m_lightens_p4 e_522)) _ _ hP hS _ (lv_sub hl [0, 1, 2, 3] rfl)
                          refine lv_icmp_le (tgt := 177) hx hb dX12_lightens_163 (dk_dq rfl) (fun c_523 => ?_) (fun c_523 => ?_)
                          · have jc_523 := dk_lec (k := (x_512).toInt) rfl c_523
                            refine lv_iconst (v := 0) hx hb dX12_lightens_177 (by decide +kernel) ?_
                            have hz_524 : (0 : Int32).toInt = 0 := by decide +kernel
                            exact J_520 0 (by decide +kernel) (F_m_lightens_p5 c_482 ex_483 ex_484 (Eq.symm ex_486.symm) w_488_2 c_507 c_508 ex_509 ex_510 (Eq.symm ex_512.symm) c_523) _ _ hP hS _ (lv_sub hl [0, 1, 2, 3] rfl)
                          · have jc_523 := dk_nlec (k := (x_512).toInt) rfl c_523
                            refine lv_iload_n hx hb dX12_lightens_166 rfl (lv_at hl 0 rfl) ?_
                            refine lv_aload_n hx hb dX12_lightens_167 rfl (lv_at hl 2 rfl) ?_
                            refine dg_get (C := RX12) (T := TX12) (N := 77) hx hb hts (fun w h => bw_mem (wU_X12 w h)) hown K hP sM_0 rfl 68 (dk_dq rfl) (hts _ (bw_mem wB_1183)) (fun _ h9 => h9) (v := .ref (o + 44)) (show S_480.1 0 68 = .ref (o + 44) from dg_I.rel (d := 44) I_480 sM_0 (by decide +kernel)) dX12_lightens_168 ?_
                            refine lv_iload_n hx hb dX12_lightens_171 rfl (lv_at hl 1 rfl) ?_
                            have hin_525 : vp_in x_479 64 := (dk_inv2 (by omega))
                            refine dg_iald hx hb K hP sM_44 hin_525 dX12_lightens_172 (fun y_526 ey_526 => ?_)
                            obtain rfl : x_512 = y_526 := (ey_526.trans ex_512.symm).symm
                            refine lv_isub hx hb dX12_lightens_173 ?_
                            refine lv_topi (fun x_527 ex_527 => ?_)
                            have jx_527 : (x_527).toInt = (x_486).toInt - (x_512).toInt := by rw [ex_527]; exact dk_subT2 rfl rfl (by omega)
                            refine lv_goto (tgt := 178) hx hb dX12_lightens_174 (dk_dq rfl) ?_
                            exact J_520 x_527 (by omega) (F_m_lightens_p6 c_482 ex_483 ex_484 (Eq.symm ex_486.symm) w_488_2 c_507 c_508 ex_509 ex_510 (Eq.symm ex_512.symm) c_523 ex_527) _ _ hP hS _ (lv_sub hl [0, 1, 2, 3] rfl)
      have hz_528 : (0 : Int32).toInt = 0 := by decide +kernel
      have hz_529 : (0 : Int32).toInt = 0 := by decide +kernel
      exact L_481 ((65 - ((0 : Int32)).toInt).toNat + 1) 0 (by decide +kernel) (by first | exact mu_lt hmu (by omega) (by omega) | omega) S_363 I_363 M_363  (Eq.trans hF_1 (F_m_lightens_p7)) _ _ hP hS _ (lv_sub hl [0, 1, 2] rfl)
  have L_715 : ∀ (n : Nat) (x_713 : Int32), (0 ≤ (x_713).toInt ∧ (x_713).toInt ≤ 64) → ((65 - (x_713).toInt).toNat < n) → ∀ S_714 : dg_S, CM o S_714 → dg_sm shM [] [31, 40, 41, 42, 43, 44] S S_714 → (F_m_lightens o S a1 = lp (F_m_lightens_B5 a1 o S) S n (x_713, S_714)) → ∀ (H : Heap) (locs : List Loc), va_P D vwCl (dg_w g shM o rfM S_714) H → va_S A s.heap H locs → ∀ ls : Array Slot, lv_has ls 5 [(2, .int x_713), (0, .ref (o + 0)), (1, .int a1)] → W p l e ({ frames := 6, cells := 0, slots := 0, locals := 147 } : Room) s m args below meth c H locs 0 0 (MQ below (va_Qv (fun S' => CM o S' ∧ dg_sm shM [] [31, 40, 41, 42, 43, 44] S S' ∧ (S' = F_m_lightens o S a1) ∧ True) (dg_B g D shM o rfM) A) args s 0 0 A) (F0 m 7 ls []) := by
    as_aux_lemma =>
      intro n
      induction n with
      | zero =>
        intro x_713 b_x_713 hmu S_714 I_714 M_714 hF_5 H locs hP hS ls hl
        omega
      | succ n ih =>
        as_aux_lemma =>
          intro x_713 b_x_713 hmu S_714 I_714 M_714 hF_5 H locs hP hS ls hl
          refine lv_iload_n hx hb dX12_lightens_7 rfl (lv_at hl 0 rfl) ?_
          refine lv_bipush (v := 64) hx hb dX12_lightens_8 (by decide +kernel) ?_
          refine lv_icmp_ge (tgt := 113) hx hb dX12_lightens_10 (dk_dq rfl) (fun c_716 => ?_) (fun c_716 => ?_)
          · have jc_716 := dk_gec (k := 64) (by decide +kernel) c_716
            have hf_716 := dk_full x_713
            exact J_364 x_713 (by omega) S_714 I_714 M_714  (lp_r hF_5 (F_m_lightens_p8 c_716)) _ _ hP hS _ (lv_sub hl [0, 1, 2] rfl)
          · as_aux_lemma =>
              have jc_716 := dk_ngec (k := 64) (by decide +kernel) c_716
              refine lv_aload_n hx hb dX12_lightens_13 rfl (lv_at hl 1 rfl) ?_
              refine dg_get (C := RX12) (T := TX12) (N := 77) hx hb hts (fun w h => bw_mem (wU_X12 w h)) hown K hP sM_0 rfl 68 (dk_dq rfl) (hts _ (bw_mem wB_1183)) (fun _ h9 => h9) (v := .ref (o + 44)) (show S_714.1 0 68 = .ref (o + 44) from dg_I.rel (d := 44) I_714 sM_0 (by decide +kernel)) dX12_lightens_14 ?_
              refine lv_iload_n hx hb dX12_lightens_17 rfl (lv_at hl 0 rfl) ?_
              refine lv_iconst (v := 0) hx hb dX12_lightens_18 (by decide +kernel) ?_
              have hin_718 : vp_in x_713 64 := (dk_inv2 (by omega))
              have hz_720 : (0 : Int32).toInt = 0 := by decide +kernel
              refine dg_iast hx hb K hP hS hA1 sM_44 hin_718 dX12_lightens_19 (fun S_719 e_719 H locs hP hS => ?_)
              have I_719 := dg_I.ufu (lo := 0) (hi := 9) I_714 e_719 sM_44 (by decide +kernel) (show 0 ≤ ((0 : Int32)).toInt ∧ ((0 : Int32)).toInt ≤ 9 from (by decide +kernel))
              have M_719 := dg_sm.uf M_714 e_719 sM_44 (dk_dq rfl)
              refine lv_aload_n hx hb dX12_lightens_20 rfl (lv_at hl 1 rfl) ?_
              refine lv_iload_n hx hb dX12_lightens_21 rfl (lv_at hl 0 rfl) ?_
              refine dg_calli hS hA1 hA (va_runV (As := [.int x_713]) (rest := []) F (c_m_isCellOf l g D o S_719 x_713 (by omega) (ZBM.keep (ZBM.keep ZB M_714 (dk_dq rfl) (dk_dq rfl) (dk_dq rfl) (dk_dq rfl) (dk_dq rfl)) (dg_sm.uf (WF := []) (WA := [44]) dg_sm.rf e_719 sM_44 (dk_dq rfl)) (dk_dq rfl) (dk_dq rfl) (dk_dq rfl) (dk_dq rfl) (dk_dq rfl)) I_719 H.size) (cwV 1 hts (bw_V wB_1123 wB_1124 wB_1125 wB_297 wB_1122) rfl rfl rfl (by decide +kernel) ⟨Nat.le_of_ble_eq_true rfl, Nat.le_of_ble_eq_true rfl⟩) (dg_preV sM_0 rfl K ST hP hS hA1 hA) rfl rfl hl.1 rfl (lv_room (Nat.le_of_ble_eq_true rfl)) dX12_lightens_22 ⟨Nat.le_of_ble_eq_true rfl, Nat.le_of_ble_eq_true rfl⟩) (fun x_721 S_722 hw_722 H locs hP hS => ?_)
              rw [hw_722.1] at hP
              obtain ⟨hq_722, w_722_0, w_722_1, w_722_2, -⟩ := hw_722
              have w_722_0 : 0 ≤ (x_721).toInt ∧ (x_721).toInt ≤ 1 := w_722_0
              have w_722_1 : (x_721).toInt = 1 → 0 ≤ (x_713).toInt := w_722_1
              have J_752 : ∀ S_751 : dg_S, CM o S_751 → dg_sm shM [] [31, 40, 41, 42, 43, 44] S S_751 → ((F_m_lightens_B5 a1 o S) (x_713, S_714) = F_m_lightens_J6 x_713 S_751) → ∀ (H : Heap) (locs : List Loc), va_P D vwCl (dg_w g shM o rfM S_751) H → va_S A s.heap H locs → ∀ ls : Array Slot, lv_has ls 5 [(2, .int x_713), (0, .ref (o + 0)), (1, .int a1)] → W p l e ({ frames := 6, cells := 0, slots := 0, locals := 147 } : Room) s m args below meth c H locs 0 0 (MQ below (va_Qv (fun S' => CM o S' ∧ dg_sm shM [] [31, 40, 41, 42, 43, 44] S S' ∧ (S' = F_m_lightens o S a1) ∧ True) (dg_B g D shM o rfM) A) args s 0 0 A) (F0 m 107 ls []) := by
                intro S_751 I_751 M_751 hF_6 H locs hP hS ls hl
                obtain ⟨x_753, ex_753⟩ : ∃ z, z = x_713 + 1 := ⟨_, rfl⟩
                have jx_753 : (x_753).toInt = (x_713).toInt + 1 := by rw [ex_753]; exact dk_addT2 rfl (by decide +kernel) (by omega)
                refine lv_iinc (v := x_753) (lv' := [(2, .int x_753), (0, .ref (o + 0)), (1, .int a1)]) hx hb dX12_lightens_107 hl (k := 0) rfl (by rw [ex_753]; rfl) (dk_dq rfl) rfl (fun ls hl => ?_)
                refine lv_goto (tgt := 7) hx hb dX12_lightens_110 (dk_dq rfl) ?_
                exact ih x_753 (by omega) (by first | exact mu_lt hmu (by omega) (by omega) | omega) S_751 I_751 M_751  (lp_l hF_5 (Eq.trans hF_6 (F_m_lightens_p9 ex_753))) _ _ hP hS _ (lv_sub hl [0, 1, 2] rfl)
              refine lv_if_eq (tgt := 107) hx hb dX12_lightens_25 (dk_dq rfl) (fun c_754 => ?_) (fun c_754 => ?_)
              · have jc_754 := dk_eqc (k := 0) (by decide +kernel) c_754
                exact J_752   S_719 I_719 M_719  (F_m_lightens_p10 c_716 e_719 w_722_2 c_754) _ _ hP hS _ (lv_sub hl [0, 1, 2] rfl)
              · as_aux_lemma =>
                  have jc_754 := dk_neqc (k := 0) (by decide +kernel) c_754
                  refine lv_aload_n hx hb dX12_lightens_28 rfl (lv_at hl 1 rfl) ?_
                  refine lv_iload_n hx hb dX12_lightens_29 rfl (lv_at hl 2 rfl) ?_
                  refine lv_iload_n hx hb dX12_lightens_30 rfl (lv_at hl 0 rfl) ?_
                  refine dg_calli hS hA1 hA (va_runV (As := [.int a1, .int x_713]) (rest := []) F (c_m_isOpen l g D o S_719 a1 (by omega) x_713 (by omega) I_719 H.size) (cwV 2 hts (bw_V wB_1092 wB_1093 wB_1094 wB_297 wB_1091) rfl rfl rfl (by decide +kernel) ⟨Nat.le_of_ble_eq_true rfl, Nat.le_of_ble_eq_true rfl⟩) (dg_preV sM_0 rfl K ST hP hS hA1 hA) rfl rfl hl.1 rfl (lv_room (Nat.le_of_ble_eq_true rfl)) dX12_lightens_31 ⟨Nat.le_of_ble_eq_true rfl, Nat.le_of_ble_eq_true rfl⟩) (fun x_755 S_756 hw_756 H locs hP hS => ?_)
                  rw [hw_756.1] at hP
                  obtain ⟨hq_756, w_756_0, w_756_1, -⟩ := hw_756
                  have w_756_0 : 0 ≤ (x_755).toInt ∧ (x_755).toInt ≤ 1 := w_756_0
                  refine lv_if_ne (tgt := 107) hx hb dX12_lightens_34 (dk_dq rfl) (fun c_757 => ?_) (fun c_757 => ?_)
                  · have jc_757 := dk_neqc (k := 0) (by decide +kernel) c_757
                    exact J_752   S_719 I_719 M_719  (F_m_lightens_p11 c_716 e_719 w_722_2 c_754 w_756_1 c_757) _ _ hP hS _ (lv_sub hl [0, 1, 2] rfl)
                  · as_aux_lemma =>
                      have jc_757 := dk_eqc (k := 0) (by decide +kernel) c_757
                      refine lv_aload_n hx hb dX12_lightens_37 rfl (lv_at hl 1 rfl) ?_
                      refine lv_iload_n hx hb dX12_lightens_38 rfl (lv_at hl 2 rfl) ?_
                      refine lv_iload_n hx hb dX12_lightens_39 rfl (lv_at hl 0 rfl) ?_
                      refine dg_calli hS hA1 hA (va_runV (As := [.int a1, .int x_713]) (rest := []) F (c_m_litBeside l g D o S_719 a1 (by omega) x_713 (by omega) (ZBM.keep (ZBM.keep ZB M_714 (dk_dq rfl) (dk_dq rfl) (dk_dq rfl) (dk_dq rfl) (dk_dq rfl)) (dg_sm.uf (WF := []) (WA := [44]) dg_sm.rf e_719 sM_44 (dk_dq rfl)) (dk_dq rfl) (dk_dq rfl) (dk_dq rfl) (dk_dq rfl) (dk_dq rfl)) I_719 H.size) (cwV 2 hts (bw_V wB_1110 wB_1111 wB_1112 wB_297 wB_1109) rfl rfl rfl (by decide +kernel) ⟨Nat.le_of_ble_eq_true rfl, Nat.le_of_ble_eq_true rfl⟩) (dg_preV sM_0 rfl K ST hP hS hA1 hA) rfl rfl hl.1 rfl (lv_room (Nat.le_of_ble_eq_true rfl)) dX12_lightens_40 ⟨Nat.le_of_ble_eq_true rfl, Nat.le_of_ble_eq_true rfl⟩) (fun x_758 S_759 hw_759 H locs hP hS => ?_)
                      rw [hw_759.1] at hP
                      obtain ⟨hq_759, w_759_0, w_759_1, -⟩ := hw_759
                      have w_759_0 : (-2147483648) ≤ (x_758).toInt ∧ (x_758).toInt ≤ 100000000 := w_759_0
                      refine lv_ldcw hx hb hown (hts _ (bw_mem wB_1102)) dX12_lightens_43 ?_
                      refine lv_icmp_ne (tgt := 52) hx hb dX12_lightens_46 (dk_dq rfl) (fun c_760 => ?_) (fun c_760 => ?_)
                      · as_aux_lemma =>
                          have jc_760 := dk_neqc (k := 100000000) (by decide +kernel) c_760
                          refine lv_aload_n hx hb dX12_lightens_52 rfl (lv_at hl 1 rfl) ?_
                          refine lv_iload_n hx hb dX12_lightens_53 rfl (lv_at hl 2 rfl) ?_
                          refine lv_iload_n hx hb dX12_lightens_54 rfl (lv_at hl 0 rfl) ?_
                          refine dg_callv hS hA1 hA (va_runV (As := [.int a1, .int x_713]) (rest := []) F (c_m_lays l g D o S_719 a1 (by omega) x_713 (by omega) (ZBM.keep (ZBM.keep ZB M_714 (dk_dq rfl) (dk_dq rfl) (dk_dq rfl) (dk_dq rfl) (dk_dq rfl)) (dg_sm.uf (WF := []) (WA := [44]) dg_sm.rf e_719 sM_44 (dk_dq rfl)) (dk_dq rfl) (dk_dq rfl) (dk_dq rfl) (dk_dq rfl) (dk_dq rfl)) I_719 H.size) (cwV 2 hts (bw_V wB_1152 wB_1153 wB_1154 wB_297 wB_1151) rfl rfl rfl (by decide +kernel) ⟨Nat.le_of_ble_eq_true rfl, Nat.le_of_ble_eq_true rfl⟩) (dg_preV sM_0 rfl K ST hP hS hA1 hA) rfl rfl hl.1 rfl (lv_room (Nat.le_of_ble_eq_true rfl)) dX12_lightens_55 ⟨Nat.le_of_ble_eq_true rfl, Nat.le_of_ble_eq_true rfl⟩) (fun S_761 hw_761 H locs hP hS => ?_)
                          obtain ⟨I_761, m_761, w_761_0, -⟩ := hw_761
                          have M_761 := dg_sm.tr M_719 m_761 (dk_dq rfl) (dk_dq rfl)
                          refine lv_aload_n hx hb dX12_lightens_58 rfl (lv_at hl 1 rfl) ?_
                          refine lv_iconst (v := 0) hx hb dX12_lightens_59 (by decide +kernel) ?_
                          refine dg_calli hS hA1 hA (va_runV (As := [.int 0]) (rest := []) F (c_m_isTold_0 l g D o S_761 I_761 H.size) (cwV 1 hts (bw_V wB_1148 wB_1149 wB_1150 wB_297 wB_1147) rfl rfl rfl (by decide +kernel) ⟨Nat.le_of_ble_eq_true rfl, Nat.le_of_ble_eq_true rfl⟩) (dg_preV sM_0 rfl K ST hP hS hA1 hA) rfl rfl hl.1 rfl (lv_room (Nat.le_of_ble_eq_true rfl)) dX12_lightens_60 ⟨Nat.le_of_ble_eq_true rfl, Nat.le_of_ble_eq_true rfl⟩) (fun x_762 S_763 hw_763 H locs hP hS => ?_)
                          rw [hw_763.1] at hP
                          obtain ⟨hq_763, w_763_0, w_763_1, w_763_2, -⟩ := hw_763
                          try rw [hq_763] at w_763_1
                          have w_763_0 : 0 ≤ (x_762).toInt ∧ (x_762).toInt ≤ 1 := w_763_0
                          replace w_763_1 : (x_762).toInt = 1 → ZT0M S_761 := w_763_1
                          have J_781 : ∀ (x_768 : Int64), ∀ S_780 : dg_S, CM o S_780 → dg_sm shM [] [31, 40, 41, 42, 43, 44] S S_780 → S_780.2.1 44 (x_713 : Int32).toNatClampNeg = 0 → ((F_m_lightens_B5 a1 o S) (x_713, S_714) = F_m_lightens_J7 x_768 S_780 x_713) → ∀ (H : Heap) (locs : List Loc), va_P D vwCl (dg_w g shM o rfM S_780) H → va_S A s.heap H locs → ∀ ls : Array Slot, lv_has ls 5 [(2, .int x_713), (0, .ref (o + 0)), (1, .int a1)] → W p l e ({ frames := 6, cells := 0, slots := 0, locals := 147 } : Room) s m args below meth c H locs 0 0 (MQ below (va_Qv (fun S' => CM o S' ∧ dg_sm shM [] [31, 40, 41, 42, 43, 44] S S' ∧ (S' = F_m_lightens o S a1) ∧ True) (dg_B g D shM o rfM) A) args s 0 0 A) (F0 m 75 ls [.long x_768]) := by
                            as_aux_lemma =>
                              intro x_768 S_780 I_780 M_780 frw_780_0 hF_7 H locs hP hS ls hl
                              refine lv_lstore_n (lv' := [(3, .long x_768), (2, .int x_713), (0, .ref (o + 0)), (1, .int a1)]) hx hb dX12_lightens_75 rfl hl (dk_dq rfl) rfl (fun ls hl => ?_)
                              refine lv_aload_n hx hb dX12_lightens_76 rfl (lv_at hl 2 rfl) ?_
                              refine dg_get (C := RX12) (T := TX12) (N := 77) hx hb hts (fun w h => bw_mem (wU_X12 w h)) hown K hP sM_0 rfl 68 (dk_dq rfl) (hts _ (bw_mem wB_1183)) (fun _ h9 => h9) (v := .ref (o + 44)) (show S_780.1 0 68 = .ref (o + 44) from dg_I.rel (d := 44) I_780 sM_0 (by decide +kernel)) dX12_lightens_77 ?_
                              refine lv_iload_n hx hb dX12_lightens_80 rfl (lv_at hl 1 rfl) ?_
                              refine lv_lload_n hx hb dX12_lightens_81 rfl (lv_at hl 0 rfl) ?_
                              refine lv_lconst (v := 0) hx hb dX12_lightens_82 (by decide +kernel) ?_
                              refine W.lcmp hx hb dX12_lightens_83 ?_
                              refine lv_topi (fun x_782 ex_782 => ?_)
                              have hz_782 : (0 : Int64).toInt = 0 := by decide +kernel
                              have hlc_x_782 := dk_lcmp ex_782
                              have J_792 : ∀ (x_789 : Int32), (0 ≤ (x_789).toInt ∧ (x_789).toInt ≤ 9) → ((F_m_lightens_B5 a1 o S) (x_713, S_714) = F_m_lightens_J8 S_780 x_713 x_789) → ∀ (H : Heap) (locs : List Loc), va_P D vwCl (dg_w g shM o rfM S_780) H → va_S A s.heap H locs → ∀ ls : Array Slot, lv_has ls 5 [(3, .long x_768), (2, .int x_713), (0, .ref (o + 0)), (1, .int a1)] → W p l e ({ frames := 6, cells := 0, slots := 0, locals := 147 } : Room) s m args below meth c H locs 0 0 (MQ below (va_Qv (fun S' => CM o S' ∧ dg_sm shM [] [31, 40, 41, 42, 43, 44] S S' ∧ (S' = F_m_lightens o S a1) ∧ True) (dg_B g D shM o rfM) A) args s 0 0 A) (F0 m 106 ls [.int x_789, .int x_713, .ref (o + 44)]) := by
                                intro x_789 b_x_789 hF_8 H locs hP hS ls hl
                                have hin_793 : vp_in x_713 64 := (dk_inv2 (by omega))
                                refine dg_iast hx hb K hP hS hA1 sM_44 hin_793 dX12_lightens_106 (fun S_794 e_794 H locs hP hS => ?_)
                                have I_794 := dg_I.ufu (lo := 0) (hi := 9) I_780 e_794 sM_44 (by decide +kernel) (show 0 ≤ (x_789).toInt ∧ (x_789).toInt ≤ 9 from (by omega))
                                have M_794 := dg_sm.uf M_780 e_794 sM_44 (dk_dq rfl)
                                exact J_752   S_794 I_794 M_794  (Eq.trans hF_8 (F_m_lightens_p12 e_794)) _ _ hP hS _ (lv_sub hl [1, 2, 3] rfl)
                              refine lv_if_ge (tgt := 91) hx hb dX12_lightens_84 (dk_dq rfl) (fun c_795 => ?_) (fun c_795 => ?_)
                              · as_aux_lemma =>
                                  have jc_795 := dk_gec (k := 0) (by decide +kernel) c_795
                                  refine lv_lload_n hx hb dX12_lightens_91 rfl (lv_at hl 0 rfl) ?_
                                  refine lv_ldc2 hx hb hown (hts _ (bw_mem wB_1159)) dX12_lightens_92 ?_
                                  refine W.lcmp hx hb dX12_lightens_95 ?_
                                  refine lv_topi (fun x_796 ex_796 => ?_)
                                  have hz_796 : (9 : Int64).toInt = 9 := by decide +kernel
                                  have hlc_x_796 := dk_lcmp ex_796
                                  refine lv_if_le (tgt := 104) hx hb dX12_lightens_96 (dk_dq rfl) (fun c_798 => ?_) (fun c_798 => ?_)
                                  · have jc_798 := dk_lec (k := 0) (by decide +kernel) c_798
                                    refine lv_lload_n hx hb dX12_lightens_104 rfl (lv_at hl 0 rfl) ?_
                                    obtain ⟨x_799, ex_799⟩ : ∃ z, (x_768 : Int64).toInt32 = z := ⟨_, rfl⟩
                                    refine lv_l2i (v := x_799) hx hb dX12_lightens_105 ex_799 ?_
                                    have hli_x_799 := dk_l2i ex_799
                                    exact J_792 x_799 (by omega) (Eq.trans hF_7 (F_m_lightens_p13 ex_782 c_795 ex_796 c_798 (Eq.symm ex_799))) _ _ hP hS _ (lv_sub hl [0, 1, 2, 3] rfl)
                                  · have jc_798 := dk_nlec (k := 0) (by decide +kernel) c_798
                                    refine lv_bipush (v := 9) hx hb dX12_lightens_99 (by decide +kernel) ?_
                                    refine lv_goto (tgt := 106) hx hb dX12_lightens_101 (dk_dq rfl) ?_
                                    have hz_800 : (9 : Int32).toInt = 9 := by decide +kernel
                                    exact J_792 9 (by decide +kernel) (Eq.trans hF_7 (F_m_lightens_p14 ex_782 c_795 ex_796 c_798)) _ _ hP hS _ (lv_sub hl [0, 1, 2, 3] rfl)
                              · have jc_795 := dk_ngec (k := 0) (by decide +kernel) c_795
                                refine lv_iconst (v := 0) hx hb dX12_lightens_87 (by decide +kernel) ?_
                                refine lv_goto (tgt := 106) hx hb dX12_lightens_88 (dk_dq rfl) ?_
                                have hz_801 : (0 : Int32).toInt = 0 := by decide +kernel
                                exact J_792 0 (by decide +kernel) (Eq.trans hF_7 (F_m_lightens_p15 ex_782 c_795)) _ _ hP hS _ (lv_sub hl [0, 1, 2, 3] rfl)
                          refine lv_if_eq (tgt := 74) hx hb dX12_lightens_63 (dk_dq rfl) (fun c_802 => ?_) (fun c_802 => ?_)
                          · have jc_802 := dk_eqc (k := 0) (by decide +kernel) c_802
                            refine lv_lconst (v := 1) hx hb dX12_lightens_74 (by decide +kernel) ?_
                            exact J_781 1  S_761 I_761 M_761 ((congrFun (m_761.2 44 _ sM_44 (dk_dq rfl)).1 _).trans ((congrFun (dg_uf_at e_719) _).trans (dg_upd_at rfl))) (F_m_lightens_p16 c_716 e_719 w_722_2 c_754 w_756_1 c_757 w_759_1 c_760 w_761_0 w_763_2 c_802) _ _ hP hS _ (lv_sub hl [0, 1, 2] rfl)
                          · have jc_802 := dk_neqc (k := 0) (by decide +kernel) c_802
                            have T0_h802 : ZT0M S_761 := w_763_1 (by omega)
                            refine lv_aload_n hx hb dX12_lightens_66 rfl (lv_at hl 1 rfl) ?_
                            refine lv_iconst (v := 0) hx hb dX12_lightens_67 (by decide +kernel) ?_
                            refine dg_calll hS hA1 hA (va_runV (As := [.int 0]) (rest := []) F (c_m_reckons_0 l g D o S_761 (ZWM.keep (ZWM.keep (ZWM.keep ZW M_714 (dk_dq rfl) (dk_dq rfl) (dk_dq rfl) (dk_dq rfl)) (dg_sm.uf (WF := []) (WA := [44]) dg_sm.rf e_719 sM_44 (dk_dq rfl)) (dk_dq rfl) (dk_dq rfl) (dk_dq rfl) (dk_dq rfl)) m_761 (dk_dq rfl) (dk_dq rfl) (dk_dq rfl) (dk_dq rfl)) T0_h802 I_761 H.size) (cwV 1 hts (bw_V wB_1156 wB_1157 wB_1158 wB_297 wB_1155) rfl rfl rfl (by decide +kernel) ⟨Nat.le_of_ble_eq_true rfl, Nat.le_of_ble_eq_true rfl⟩) (dg_preV sM_0 rfl K ST hP hS hA1 hA) rfl rfl hl.1 rfl (lv_room (Nat.le_of_ble_eq_true rfl)) dX12_lightens_68 ⟨Nat.le_of_ble_eq_true rfl, Nat.le_of_ble_eq_true rfl⟩) (fun x_804 S_805 hw_805 H locs hP hS => ?_)
                            obtain ⟨I_805, m_805, w_805_0, -⟩ := hw_805
                            have M_805 := dg_sm.tr M_761 m_805 (dk_dq rfl) (dk_dq rfl)
                            refine lv_goto (tgt := 75) hx hb dX12_lightens_71 (dk_dq rfl) ?_
                            exact J_781 x_804  S_805 I_805 M_805 ((congrFun ((m_805.2 44 _ sM_44 (dk_dq rfl)).1.trans (m_761.2 44 _ sM_44 (dk_dq rfl)).1) _).trans ((congrFun (dg_uf_at e_719) _).trans (dg_upd_at rfl))) (F_m_lightens_p17 c_716 e_719 w_722_2 c_754 w_756_1 c_757 w_759_1 c_760 w_761_0 w_763_2 c_802 w_805_0.1 w_805_0.2) _ _ hP hS _ (lv_sub hl [0, 1, 2] rfl)
                      · have jc_760 := dk_eqc (k := 100000000) (by decide +kernel) c_760
                        refine lv_goto (tgt := 107) hx hb dX12_lightens_49 (dk_dq rfl) ?_
                        exact J_752   S_719 I_719 M_719  (F_m_lightens_p18 c_716 e_719 w_722_2 c_754 w_756_1 c_757 w_759_1 c_760) _ _ hP hS _ (lv_sub hl [0, 1, 2] rfl)
  have hz_806 : (0 : Int32).toInt = 0 := by decide +kernel
  have hz_807 : (0 : Int32).toInt = 0 := by decide +kernel
  exact L_715 ((65 - ((0 : Int32)).toInt).toNat + 1) 0 (by decide +kernel) (by first | exact mu_lt hmu (by omega) (by omega) | omega) S_5 I_5 M_5  (F_m_lightens_p19 w_5_0) _ _ hP hS _ (lv_sub hl [0, 1, 2] rfl)
noncomputable def F_m_ticks_J1 (o : Nat) (S_2 : dg_S) (a1 : Int32) (s0 : Int32) (x_4 : Int32) : dg_S × Int32 := let S_12 : dg_S := F_m_lightens o S_2 a1; let x_15 : Int32 := s0 + (1 : Int32); let S_17 : dg_S := dg_uf S_12 29 (upd (S_12.2.1 29) (a1 : Int32).toNatClampNeg x_15); (S_17, x_4)
noncomputable def F_m_ticks (o : Nat) (S : dg_S) (a1 : Int32) : dg_S × Int32 := let s0 : Int32 := S.2.1 29 (a1 : Int32).toNatClampNeg; let S_2 : dg_S := (F_m_digs o S a1).1; let x_1 : Int32 := (F_m_digs o S a1).2; (if x_1 = (0 : Int32) then (F_m_ticks_J1 o S_2 a1 s0 (0 : Int32)) else (F_m_ticks_J1 o S_2 a1 s0 (1 : Int32)))
theorem F_m_ticks_p0 {o : Nat} {S_2 : dg_S} {a1 : Int32} {s0 : Int32} {x_4 : Int32} {S_17 : dg_S} {S_12 : dg_S} {x_15 : Int32} (h0 : S_12 = F_m_lightens o S_2 a1) (h1 : x_15 = s0 + (1 : Int32)) (h2 : S_17 = dg_uf S_12 29 (upd (S_12.2.1 29) (a1 : Int32).toNatClampNeg x_15)) : F_m_ticks_J1 o S_2 a1 s0 x_4 = (S_17, x_4) := by
  replace h0 := Eq.symm h0
  subst h0
  replace h1 := Eq.symm h1
  subst h1
  replace h2 := Eq.symm h2
  subst h2
  exact rfl
theorem F_m_ticks_p1 {o : Nat} {S : dg_S} {a1 : Int32} {S_2 : dg_S} {s0 : Int32} {x_1 : Int32} (h0 : s0 = S.2.1 29 (a1 : Int32).toNatClampNeg) (h1 : S_2 = (F_m_digs o S a1).1) (h2 : x_1 = (F_m_digs o S a1).2) (h3 : x_1 = (0 : Int32)) : F_m_ticks o S a1 = F_m_ticks_J1 o S_2 a1 s0 (0 : Int32) := by
  replace h0 := Eq.symm h0
  subst h0
  replace h1 := Eq.symm h1
  subst h1
  replace h2 := Eq.symm h2
  subst h2
  exact (Eq.trans (if_pos h3) rfl)
theorem F_m_ticks_p2 {o : Nat} {S : dg_S} {a1 : Int32} {S_2 : dg_S} {s0 : Int32} {x_1 : Int32} (h0 : s0 = S.2.1 29 (a1 : Int32).toNatClampNeg) (h1 : S_2 = (F_m_digs o S a1).1) (h2 : x_1 = (F_m_digs o S a1).2) (h3 : ¬ (x_1 = (0 : Int32))) : F_m_ticks o S a1 = F_m_ticks_J1 o S_2 a1 s0 (1 : Int32) := by
  replace h0 := Eq.symm h0
  subst h0
  replace h1 := Eq.symm h1
  subst h1
  replace h2 := Eq.symm h2
  subst h2
  exact (Eq.trans (if_neg h3) rfl)
set_option maxHeartbeats 8000000 in
set_option maxRecDepth 100000 in
theorem c_m_ticks (l : Launch) (g : Nat → ClassId) (D : va_G) (o : Nat) (S : dg_S) (a1 : Int32) (b_a1 : 0 ≤ (a1).toInt ∧ (a1).toInt ≤ 21) (s0 : Int32) (f_s0 : S.2.1 29 (a1 : Int32).toNatClampNeg = s0) (b_s0 : 0 ≤ (s0).toInt ∧ (s0).toInt ≤ 1999) (hs0 : (a1).toInt ≠ 1 → (s0).toInt ≤ 998) (ZB : ZBM S) (ZS : ZSM S) (ZW : ZWM S) (I : CM o S) (sz : Nat) : Met l yX12_ticks (bw yX12_ticks cX12_ticks 3 (some .int)) ({ frames := 8, cells := 0, slots := 0, locals := 195 } : Room) (dk_Pc g D (dg_w g shM o rfM S) sz [.ref (o + 0), .int a1]) (va_Qi (fun (r : Int32) S' => CM o S' ∧ dg_sm shM [] [29, 31, 33, 37, 38, 39, 40, 41, 42, 43, 44] S S' ∧ (0 ≤ (r).toInt ∧ (r).toInt ≤ 1) ∧ (∀ x9 : Int32, S'.2.1 29 (a1 : Int32).toNatClampNeg = x9 → ((x9).toInt = (s0).toInt + 1)) ∧ ZSM S' ∧ (S' = (F_m_ticks o S a1).1 ∧ r = (F_m_ticks o S a1).2) ∧ True) (dg_B g D shM o rfM) (dg_A o shM.length sz)) 0 0 (dg_A o shM.length sz) := by
  refine dg_met (cc := cX12_ticks) (maxL := 3) (ret := (some .int)) (dk_dq rfl) rfl (Nat.le_of_ble_eq_true rfl) ?_
  intro p e s m args below meth c A hAe harg hx hb hr hml hts hown hlocks hin hP K hS hA1 hA ST hsz ls hl
  rw [← hAe]
  have F : CallFix p m c cX12_ticks 3 s args (bw yX12_ticks cX12_ticks 3 (some .int)) RX12 := ⟨hx, hb, hml, hown, hts⟩
  have hl : lv_has ls 3 [(0, .ref (o + 0)), (1, .int a1)] := hl
  have M_0 : dg_sm shM [] [29, 31, 33, 37, 38, 39, 40, 41, 42, 43, 44] S S := dg_sm.rf
  refine lv_aload_n hx hb dX12_ticks_0 rfl (lv_at hl 0 rfl) ?_
  refine lv_iload_n hx hb dX12_ticks_1 rfl (lv_at hl 1 rfl) ?_
  refine dg_calli hS hA1 hA (va_runV (As := [.int a1]) (rest := []) F (c_m_digs l g D o S a1 (by omega) ZB ZW I s.heap.size) (cwV 1 hts (bw_V wB_1185 wB_1186 wB_1187 wB_297 wB_1184) rfl rfl rfl (by decide +kernel) ⟨Nat.le_of_ble_eq_true rfl, Nat.le_of_ble_eq_true rfl⟩) (dg_preV sM_0 rfl K ST hP hS hA1 hA) rfl rfl hl.1 rfl (lv_room (Nat.le_of_ble_eq_true rfl)) dX12_ticks_2 ⟨Nat.le_of_ble_eq_true rfl, Nat.le_of_ble_eq_true rfl⟩) (fun x_1 S_2 hw_2 H locs hP hS => ?_)
  obtain ⟨I_2, m_2, w_2_0, w_2_1, -⟩ := hw_2
  have M_2 := dg_sm.tr M_0 m_2 (dk_dq rfl) (dk_dq rfl)
  have w_2_0 : 0 ≤ (x_1).toInt ∧ (x_1).toInt ≤ 1 := w_2_0
  have J_11 : ∀ (x_4 : Int32), (0 ≤ (x_4).toInt ∧ (x_4).toInt ≤ 1) → (F_m_ticks o S a1 = F_m_ticks_J1 o S_2 a1 s0 x_4) → ∀ (H : Heap) (locs : List Loc), va_P D vwCl (dg_w g shM o rfM S_2) H → va_S A s.heap H locs → ∀ ls : Array Slot, lv_has ls 3 [(0, .ref (o + 0)), (1, .int a1)] → W p l e ({ frames := 8, cells := 0, slots := 0, locals := 195 } : Room) s m args below meth c H locs 0 0 (MQ below (va_Qi (fun (r : Int32) S' => CM o S' ∧ dg_sm shM [] [29, 31, 33, 37, 38, 39, 40, 41, 42, 43, 44] S S' ∧ (0 ≤ (r).toInt ∧ (r).toInt ≤ 1) ∧ (∀ x9 : Int32, S'.2.1 29 (a1 : Int32).toNatClampNeg = x9 → ((x9).toInt = (s0).toInt + 1)) ∧ ZSM S' ∧ (S' = (F_m_ticks o S a1).1 ∧ r = (F_m_ticks o S a1).2) ∧ True) (dg_B g D shM o rfM) A) args s 0 0 A) (F0 m 13 ls [.int x_4]) := by
    as_aux_lemma =>
      intro x_4 b_x_4 hF_1 H locs hP hS ls hl
      refine lv_istore_n (lv' := [(2, .int x_4), (0, .ref (o + 0)), (1, .int a1)]) hx hb dX12_ticks_13 rfl hl (dk_dq rfl) rfl (fun ls hl => ?_)
      refine lv_aload_n hx hb dX12_ticks_14 rfl (lv_at hl 1 rfl) ?_
      refine lv_iload_n hx hb dX12_ticks_15 rfl (lv_at hl 2 rfl) ?_
      refine dg_callv hS hA1 hA (va_runV (As := [.int a1]) (rest := []) F (c_m_lightens l g D o S_2 a1 (by omega) (ZBM.keep ZB m_2 (dk_dq rfl) (dk_dq rfl) (dk_dq rfl) (dk_dq rfl) (dk_dq rfl)) (ZWM.keep ZW m_2 (dk_dq rfl) (dk_dq rfl) (dk_dq rfl) (dk_dq rfl)) I_2 H.size) (cwV 1 hts (bw_V wB_1189 wB_1190 wB_1191 wB_297 wB_1188) rfl rfl rfl (by decide +kernel) ⟨Nat.le_of_ble_eq_true rfl, Nat.le_of_ble_eq_true rfl⟩) (dg_preV sM_0 rfl K ST hP hS hA1 hA) rfl rfl hl.1 rfl (lv_room (Nat.le_of_ble_eq_true rfl)) dX12_ticks_16 ⟨Nat.le_of_ble_eq_true rfl, Nat.le_of_ble_eq_true rfl⟩) (fun S_12 hw_12 H locs hP hS => ?_)
      obtain ⟨I_12, m_12, w_12_0, -⟩ := hw_12
      have M_12 := dg_sm.tr M_2 m_12 (dk_dq rfl) (dk_dq rfl)
      refine lv_aload_n hx hb dX12_ticks_19 rfl (lv_at hl 1 rfl) ?_
      refine dg_get (C := RX12) (T := TX12) (N := 77) hx hb hts (fun w h => bw_mem (wU_X12 w h)) hown K hP sM_0 rfl 49 (dk_dq rfl) (hts _ (bw_mem wB_1108)) (fun _ h9 => h9) (v := .ref (o + 29)) (show S_12.1 0 49 = .ref (o + 29) from dg_I.rel (d := 29) I_12 sM_0 (by decide +kernel)) dX12_ticks_20 ?_
      refine lv_iload_n hx hb dX12_ticks_23 rfl (lv_at hl 2 rfl) ?_
      refine lv_dup2_11 hx hb dX12_ticks_24 rfl rfl ?_
      have hin_13 : vp_in a1 22 := (dk_inv2 (by omega))
      refine dg_iald hx hb K hP sM_29 hin_13 dX12_ticks_25 (fun y_14 ey_14 => ?_)
      obtain rfl : s0 = y_14 := ((ey_14.trans (congrFun ((m_12.2 29 _ sM_29 (dk_dq rfl)).1.trans (m_2.2 29 _ sM_29 (dk_dq rfl)).1) _)).trans f_s0).symm
      refine lv_iconst (v := 1) hx hb dX12_ticks_26 (by decide +kernel) ?_
      refine lv_iadd hx hb dX12_ticks_27 ?_
      refine lv_topi (fun x_15 ex_15 => ?_)
      have jx_15 : (x_15).toInt = (s0).toInt + 1 := by rw [ex_15]; exact dk_addT2 rfl (by decide +kernel) (by omega)
      have hin_16 : vp_in a1 22 := (dk_inv2 (by omega))
      refine dg_iast hx hb K hP hS hA1 sM_29 hin_16 dX12_ticks_28 (fun S_17 e_17 H locs hP hS => ?_)
      have I_17 := dg_I.ufu (lo := 0) (hi := 2000) I_12 e_17 sM_29 (by decide +kernel) (show 0 ≤ (x_15).toInt ∧ (x_15).toInt ≤ 2000 from (by omega))
      have M_17 := dg_sm.uf M_12 e_17 sM_29 (dk_dq rfl)
      have ZS_17 := ZSM.up (ZSM.keep (ZSM.keep ZS m_2 (dk_dq rfl)) m_12 (dk_dq rfl)) hin_16 e_17 (by omega)
      refine lv_iload_n hx hb dX12_ticks_29 rfl (lv_at hl 0 rfl) ?_
      refine W.widen (k := 0) (n := 0) (Nat.le_of_ble_eq_true rfl) (Nat.le_of_ble_eq_true rfl) ?_
      exact dg_iret hx hb hr hlocks rfl hP hS ⟨I_17, M_17, (by omega), (fun x9 h9 => by obtain rfl := (((congrFun (dg_uf_at e_17) _).trans (dg_upd_at rfl))).symm.trans h9; omega), ZS_17, ⟨congrArg Prod.fst (Eq.symm (Eq.trans hF_1 (F_m_ticks_p0 w_12_0 ex_15 e_17))), congrArg Prod.snd (Eq.symm (Eq.trans hF_1 (F_m_ticks_p0 w_12_0 ex_15 e_17)))⟩, trivial⟩ dX12_ticks_30
  refine lv_if_eq (tgt := 12) hx hb dX12_ticks_5 (dk_dq rfl) (fun c_18 => ?_) (fun c_18 => ?_)
  · have jc_18 := dk_eqc (k := 0) (by decide +kernel) c_18
    refine lv_iconst (v := 0) hx hb dX12_ticks_12 (by decide +kernel) ?_
    have hz_19 : (0 : Int32).toInt = 0 := by decide +kernel
    exact J_11 0 (by decide +kernel) (F_m_ticks_p1 (Eq.symm f_s0) w_2_1.1 w_2_1.2 c_18) _ _ hP hS _ (lv_sub hl [0, 1] rfl)
  · have jc_18 := dk_neqc (k := 0) (by decide +kernel) c_18
    refine lv_iconst (v := 1) hx hb dX12_ticks_8 (by decide +kernel) ?_
    refine lv_goto (tgt := 13) hx hb dX12_ticks_9 (dk_dq rfl) ?_
    have hz_20 : (1 : Int32).toInt = 1 := by decide +kernel
    exact J_11 1 (by decide +kernel) (F_m_ticks_p2 (Eq.symm f_s0) w_2_1.1 w_2_1.2 c_18) _ _ hP hS _ (lv_sub hl [0, 1] rfl)
