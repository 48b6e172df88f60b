/-! 35.m4.lean.txt -/
theorem dX12_digs_0 : decode cX12_digs 0 = .ok (.aload_n 0, 1) := by decide +kernel
theorem dX12_digs_1 : decode cX12_digs 1 = .ok (.getfield 75, 3) := by decide +kernel
theorem dX12_digs_4 : decode cX12_digs 4 = .ok (.aload_n 0, 1) := by decide +kernel
theorem dX12_digs_5 : decode cX12_digs 5 = .ok (.getfield 51, 3) := by decide +kernel
theorem dX12_digs_8 : decode cX12_digs 8 = .ok (.iaload, 1) := by decide +kernel
theorem dX12_digs_9 : decode cX12_digs 9 = .ok (.ifCond .ne 5, 3) := by decide +kernel
theorem dX12_digs_12 : decode cX12_digs 12 = .ok (.iconst 0, 1) := by decide +kernel
theorem dX12_digs_13 : decode cX12_digs 13 = .ok (.ireturn, 1) := by decide +kernel
theorem dX12_digs_14 : decode cX12_digs 14 = .ok (.bipush 16, 2) := by decide +kernel
theorem dX12_digs_16 : decode cX12_digs 16 = .ok (.iload_n 1, 1) := by decide +kernel
theorem dX12_digs_17 : decode cX12_digs 17 = .ok (.imul, 1) := by decide +kernel
theorem dX12_digs_18 : decode cX12_digs 18 = .ok (.aload_n 0, 1) := by decide +kernel
theorem dX12_digs_19 : decode cX12_digs 19 = .ok (.getfield 162, 3) := by decide +kernel
theorem dX12_digs_22 : decode cX12_digs 22 = .ok (.iload_n 1, 1) := by decide +kernel
theorem dX12_digs_23 : decode cX12_digs 23 = .ok (.iaload, 1) := by decide +kernel
theorem dX12_digs_24 : decode cX12_digs 24 = .ok (.aload_n 0, 1) := by decide +kernel
theorem dX12_digs_25 : decode cX12_digs 25 = .ok (.getfield 75, 3) := by decide +kernel
theorem dX12_digs_28 : decode cX12_digs 28 = .ok (.aload_n 0, 1) := by decide +kernel
theorem dX12_digs_29 : decode cX12_digs 29 = .ok (.getfield 51, 3) := by decide +kernel
theorem dX12_digs_32 : decode cX12_digs 32 = .ok (.iaload, 1) := by decide +kernel
theorem dX12_digs_33 : decode cX12_digs 33 = .ok (.irem, 1) := by decide +kernel
theorem dX12_digs_34 : decode cX12_digs 34 = .ok (.iadd, 1) := by decide +kernel
theorem dX12_digs_35 : decode cX12_digs 35 = .ok (.istore_n 2, 1) := by decide +kernel
theorem dX12_digs_36 : decode cX12_digs 36 = .ok (.aload_n 0, 1) := by decide +kernel
theorem dX12_digs_37 : decode cX12_digs 37 = .ok (.getfield 183, 3) := by decide +kernel
theorem dX12_digs_40 : decode cX12_digs 40 = .ok (.iload_n 2, 1) := by decide +kernel
theorem dX12_digs_41 : decode cX12_digs 41 = .ok (.iaload, 1) := by decide +kernel
theorem dX12_digs_42 : decode cX12_digs 42 = .ok (.istore_n 3, 1) := by decide +kernel
theorem dX12_digs_43 : decode cX12_digs 43 = .ok (.aload_n 0, 1) := by decide +kernel
theorem dX12_digs_44 : decode cX12_digs 44 = .ok (.iload_n 1, 1) := by decide +kernel
theorem dX12_digs_45 : decode cX12_digs 45 = .ok (.invokevirtual 484, 3) := by decide +kernel
theorem dX12_digs_48 : decode cX12_digs 48 = .ok (.aload_n 0, 1) := by decide +kernel
theorem dX12_digs_49 : decode cX12_digs 49 = .ok (.getfield 174, 3) := by decide +kernel
theorem dX12_digs_52 : decode cX12_digs 52 = .ok (.iload_n 1, 1) := by decide +kernel
theorem dX12_digs_53 : decode cX12_digs 53 = .ok (.iaload, 1) := by decide +kernel
theorem dX12_digs_54 : decode cX12_digs 54 = .ok (.aload_n 0, 1) := by decide +kernel
theorem dX12_digs_55 : decode cX12_digs 55 = .ok (.getfield 180, 3) := by decide +kernel
theorem dX12_digs_58 : decode cX12_digs 58 = .ok (.iload_n 2, 1) := by decide +kernel
theorem dX12_digs_59 : decode cX12_digs 59 = .ok (.iaload, 1) := by decide +kernel
theorem dX12_digs_60 : decode cX12_digs 60 = .ok (.invokestatic 487, 3) := by decide +kernel
theorem dX12_digs_63 : decode cX12_digs 63 = .ok (.ifCond .ne 12, 3) := by decide +kernel
theorem dX12_digs_66 : decode cX12_digs 66 = .ok (.aload_n 0, 1) := by decide +kernel
theorem dX12_digs_67 : decode cX12_digs 67 = .ok (.iload_n 1, 1) := by decide +kernel
theorem dX12_digs_68 : decode cX12_digs 68 = .ok (.iload_n 3, 1) := by decide +kernel
theorem dX12_digs_69 : decode cX12_digs 69 = .ok (.invokevirtual 490, 3) := by decide +kernel
theorem dX12_digs_72 : decode cX12_digs 72 = .ok (.ifCond .ne 5, 3) := by decide +kernel
theorem dX12_digs_75 : decode cX12_digs 75 = .ok (.iconst 0, 1) := by decide +kernel
theorem dX12_digs_76 : decode cX12_digs 76 = .ok (.ireturn, 1) := by decide +kernel
theorem dX12_digs_77 : decode cX12_digs 77 = .ok (.aload_n 0, 1) := by decide +kernel
theorem dX12_digs_78 : decode cX12_digs 78 = .ok (.iload_n 1, 1) := by decide +kernel
theorem dX12_digs_79 : decode cX12_digs 79 = .ok (.iload_n 3, 1) := by decide +kernel
theorem dX12_digs_80 : decode cX12_digs 80 = .ok (.invokevirtual 493, 3) := by decide +kernel
theorem dX12_digs_83 : decode cX12_digs 83 = .ok (.ifCond .eq 47, 3) := by decide +kernel
theorem dX12_digs_86 : decode cX12_digs 86 = .ok (.aload_n 0, 1) := by decide +kernel
theorem dX12_digs_87 : decode cX12_digs 87 = .ok (.getfield 168, 3) := by decide +kernel
theorem dX12_digs_90 : decode cX12_digs 90 = .ok (.bipush 64, 2) := by decide +kernel
theorem dX12_digs_92 : decode cX12_digs 92 = .ok (.iload_n 1, 1) := by decide +kernel
theorem dX12_digs_93 : decode cX12_digs 93 = .ok (.imul, 1) := by decide +kernel
theorem dX12_digs_94 : decode cX12_digs 94 = .ok (.iload_n 3, 1) := by decide +kernel
theorem dX12_digs_95 : decode cX12_digs 95 = .ok (.iadd, 1) := by decide +kernel
theorem dX12_digs_96 : decode cX12_digs 96 = .ok (.iconst 0, 1) := by decide +kernel
theorem dX12_digs_97 : decode cX12_digs 97 = .ok (.iastore, 1) := by decide +kernel
theorem dX12_digs_98 : decode cX12_digs 98 = .ok (.aload_n 0, 1) := by decide +kernel
theorem dX12_digs_99 : decode cX12_digs 99 = .ok (.getfield 174, 3) := by decide +kernel
theorem dX12_digs_102 : decode cX12_digs 102 = .ok (.iload_n 1, 1) := by decide +kernel
theorem dX12_digs_103 : decode cX12_digs 103 = .ok (.dup2, 1) := by decide +kernel
theorem dX12_digs_104 : decode cX12_digs 104 = .ok (.iaload, 1) := by decide +kernel
theorem dX12_digs_105 : decode cX12_digs 105 = .ok (.iconst 1, 1) := by decide +kernel
theorem dX12_digs_106 : decode cX12_digs 106 = .ok (.aload_n 0, 1) := by decide +kernel
theorem dX12_digs_107 : decode cX12_digs 107 = .ok (.getfield 180, 3) := by decide +kernel
theorem dX12_digs_110 : decode cX12_digs 110 = .ok (.iload_n 2, 1) := by decide +kernel
theorem dX12_digs_111 : decode cX12_digs 111 = .ok (.iaload, 1) := by decide +kernel
theorem dX12_digs_112 : decode cX12_digs 112 = .ok (.ishl, 1) := by decide +kernel
theorem dX12_digs_113 : decode cX12_digs 113 = .ok (.ior, 1) := by decide +kernel
theorem dX12_digs_114 : decode cX12_digs 114 = .ok (.iastore, 1) := by decide +kernel
theorem dX12_digs_115 : decode cX12_digs 115 = .ok (.aload_n 0, 1) := by decide +kernel
theorem dX12_digs_116 : decode cX12_digs 116 = .ok (.iload_n 1, 1) := by decide +kernel
theorem dX12_digs_117 : decode cX12_digs 117 = .ok (.aload_n 0, 1) := by decide +kernel
theorem dX12_digs_118 : decode cX12_digs 118 = .ok (.getfield 180, 3) := by decide +kernel
theorem dX12_digs_121 : decode cX12_digs 121 = .ok (.iload_n 2, 1) := by decide +kernel
theorem dX12_digs_122 : decode cX12_digs 122 = .ok (.iaload, 1) := by decide +kernel
theorem dX12_digs_123 : decode cX12_digs 123 = .ok (.iload_n 3, 1) := by decide +kernel
theorem dX12_digs_124 : decode cX12_digs 124 = .ok (.iconst (-1), 1) := by decide +kernel
theorem dX12_digs_125 : decode cX12_digs 125 = .ok (.invokevirtual 496, 3) := by decide +kernel
theorem dX12_digs_128 : decode cX12_digs 128 = .ok (.iconst 0, 1) := by decide +kernel
theorem dX12_digs_129 : decode cX12_digs 129 = .ok (.ireturn, 1) := by decide +kernel
theorem dX12_digs_130 : decode cX12_digs 130 = .ok (.aload_n 0, 1) := by decide +kernel
theorem dX12_digs_131 : decode cX12_digs 131 = .ok (.iload_n 1, 1) := by decide +kernel
theorem dX12_digs_132 : decode cX12_digs 132 = .ok (.iload_n 3, 1) := by decide +kernel
theorem dX12_digs_133 : decode cX12_digs 133 = .ok (.invokevirtual 500, 3) := by decide +kernel
theorem dX12_digs_136 : decode cX12_digs 136 = .ok (.istore 4, 2) := by decide +kernel
theorem dX12_digs_138 : decode cX12_digs 138 = .ok (.aload_n 0, 1) := by decide +kernel
theorem dX12_digs_139 : decode cX12_digs 139 = .ok (.getfield 168, 3) := by decide +kernel
theorem dX12_digs_142 : decode cX12_digs 142 = .ok (.bipush 64, 2) := by decide +kernel
theorem dX12_digs_144 : decode cX12_digs 144 = .ok (.iload_n 1, 1) := by decide +kernel
theorem dX12_digs_145 : decode cX12_digs 145 = .ok (.imul, 1) := by decide +kernel
theorem dX12_digs_146 : decode cX12_digs 146 = .ok (.iload_n 3, 1) := by decide +kernel
theorem dX12_digs_147 : decode cX12_digs 147 = .ok (.iadd, 1) := by decide +kernel
theorem dX12_digs_148 : decode cX12_digs 148 = .ok (.iconst (-1), 1) := by decide +kernel
theorem dX12_digs_149 : decode cX12_digs 149 = .ok (.iastore, 1) := by decide +kernel
theorem dX12_digs_150 : decode cX12_digs 150 = .ok (.aload_n 0, 1) := by decide +kernel
theorem dX12_digs_151 : decode cX12_digs 151 = .ok (.iload_n 1, 1) := by decide +kernel
theorem dX12_digs_152 : decode cX12_digs 152 = .ok (.aload_n 0, 1) := by decide +kernel
theorem dX12_digs_153 : decode cX12_digs 153 = .ok (.getfield 180, 3) := by decide +kernel
theorem dX12_digs_156 : decode cX12_digs 156 = .ok (.iload_n 2, 1) := by decide +kernel
theorem dX12_digs_157 : decode cX12_digs 157 = .ok (.iaload, 1) := by decide +kernel
theorem dX12_digs_158 : decode cX12_digs 158 = .ok (.iload_n 3, 1) := by decide +kernel
theorem dX12_digs_159 : decode cX12_digs 159 = .ok (.iload 4, 2) := by decide +kernel
theorem dX12_digs_161 : decode cX12_digs 161 = .ok (.invokevirtual 496, 3) := by decide +kernel
theorem dX12_digs_164 : decode cX12_digs 164 = .ok (.aload_n 0, 1) := by decide +kernel
theorem dX12_digs_165 : decode cX12_digs 165 = .ok (.getfield 186, 3) := by decide +kernel
theorem dX12_digs_168 : decode cX12_digs 168 = .ok (.bipush 10, 2) := by decide +kernel
theorem dX12_digs_170 : decode cX12_digs 170 = .ok (.iload_n 1, 1) := by decide +kernel
theorem dX12_digs_171 : decode cX12_digs 171 = .ok (.imul, 1) := by decide +kernel
theorem dX12_digs_172 : decode cX12_digs 172 = .ok (.iload 4, 2) := by decide +kernel
theorem dX12_digs_174 : decode cX12_digs 174 = .ok (.iadd, 1) := by decide +kernel
theorem dX12_digs_175 : decode cX12_digs 175 = .ok (.iaload, 1) := by decide +kernel
theorem dX12_digs_176 : decode cX12_digs 176 = .ok (.bipush 99, 2) := by decide +kernel
theorem dX12_digs_178 : decode cX12_digs 178 = .ok (.if_icmp .ge 19, 3) := by decide +kernel
theorem dX12_digs_181 : decode cX12_digs 181 = .ok (.aload_n 0, 1) := by decide +kernel
theorem dX12_digs_182 : decode cX12_digs 182 = .ok (.getfield 186, 3) := by decide +kernel
theorem dX12_digs_185 : decode cX12_digs 185 = .ok (.bipush 10, 2) := by decide +kernel
theorem dX12_digs_187 : decode cX12_digs 187 = .ok (.iload_n 1, 1) := by decide +kernel
theorem dX12_digs_188 : decode cX12_digs 188 = .ok (.imul, 1) := by decide +kernel
theorem dX12_digs_189 : decode cX12_digs 189 = .ok (.iload 4, 2) := by decide +kernel
theorem dX12_digs_191 : decode cX12_digs 191 = .ok (.iadd, 1) := by decide +kernel
theorem dX12_digs_192 : decode cX12_digs 192 = .ok (.dup2, 1) := by decide +kernel
theorem dX12_digs_193 : decode cX12_digs 193 = .ok (.iaload, 1) := by decide +kernel
theorem dX12_digs_194 : decode cX12_digs 194 = .ok (.iconst 1, 1) := by decide +kernel
theorem dX12_digs_195 : decode cX12_digs 195 = .ok (.iadd, 1) := by decide +kernel
theorem dX12_digs_196 : decode cX12_digs 196 = .ok (.iastore, 1) := by decide +kernel
theorem dX12_digs_197 : decode cX12_digs 197 = .ok (.iconst 1, 1) := by decide +kernel
theorem dX12_digs_198 : decode cX12_digs 198 = .ok (.ireturn, 1) := by decide +kernel
theorem dX12_lightens_0 : decode cX12_lightens 0 = .ok (.aload_n 0, 1) := by decide +kernel
theorem dX12_lightens_1 : decode cX12_lightens 1 = .ok (.iload_n 1, 1) := by decide +kernel
theorem dX12_lightens_2 : decode cX12_lightens 2 = .ok (.invokevirtual 484, 3) := by decide +kernel
theorem dX12_lightens_5 : decode cX12_lightens 5 = .ok (.iconst 0, 1) := by decide +kernel
theorem dX12_lightens_6 : decode cX12_lightens 6 = .ok (.istore_n 2, 1) := by decide +kernel
theorem dX12_lightens_7 : decode cX12_lightens 7 = .ok (.iload_n 2, 1) := by decide +kernel
theorem dX12_lightens_8 : decode cX12_lightens 8 = .ok (.bipush 64, 2) := by decide +kernel
theorem dX12_lightens_10 : decode cX12_lightens 10 = .ok (.if_icmp .ge 103, 3) := by decide +kernel
theorem dX12_lightens_13 : decode cX12_lightens 13 = .ok (.aload_n 0, 1) := by decide +kernel
theorem dX12_lightens_14 : decode cX12_lightens 14 = .ok (.getfield 219, 3) := by decide +kernel
theorem dX12_lightens_17 : decode cX12_lightens 17 = .ok (.iload_n 2, 1) := by decide +kernel
theorem dX12_lightens_18 : decode cX12_lightens 18 = .ok (.iconst 0, 1) := by decide +kernel
theorem dX12_lightens_19 : decode cX12_lightens 19 = .ok (.iastore, 1) := by decide +kernel
theorem dX12_lightens_20 : decode cX12_lightens 20 = .ok (.aload_n 0, 1) := by decide +kernel
theorem dX12_lightens_21 : decode cX12_lightens 21 = .ok (.iload_n 2, 1) := by decide +kernel
theorem dX12_lightens_22 : decode cX12_lightens 22 = .ok (.invokevirtual 503, 3) := by decide +kernel
theorem dX12_lightens_25 : decode cX12_lightens 25 = .ok (.ifCond .eq 82, 3) := by decide +kernel
theorem dX12_lightens_28 : decode cX12_lightens 28 = .ok (.aload_n 0, 1) := by decide +kernel
theorem dX12_lightens_29 : decode cX12_lightens 29 = .ok (.iload_n 1, 1) := by decide +kernel
theorem dX12_lightens_30 : decode cX12_lightens 30 = .ok (.iload_n 2, 1) := by decide +kernel
theorem dX12_lightens_31 : decode cX12_lightens 31 = .ok (.invokevirtual 460, 3) := by decide +kernel
theorem dX12_lightens_34 : decode cX12_lightens 34 = .ok (.ifCond .ne 73, 3) := by decide +kernel
theorem dX12_lightens_37 : decode cX12_lightens 37 = .ok (.aload_n 0, 1) := by decide +kernel
theorem dX12_lightens_38 : decode cX12_lightens 38 = .ok (.iload_n 1, 1) := by decide +kernel
theorem dX12_lightens_39 : decode cX12_lightens 39 = .ok (.iload_n 2, 1) := by decide +kernel
theorem dX12_lightens_40 : decode cX12_lightens 40 = .ok (.invokevirtual 466, 3) := by decide +kernel
theorem dX12_lightens_43 : decode cX12_lightens 43 = .ok (.ldc_w 456, 3) := by decide +kernel
theorem dX12_lightens_46 : decode cX12_lightens 46 = .ok (.if_icmp .ne 6, 3) := by decide +kernel
theorem dX12_lightens_49 : decode cX12_lightens 49 = .ok (.goto 58, 3) := by decide +kernel
theorem dX12_lightens_52 : decode cX12_lightens 52 = .ok (.aload_n 0, 1) := by decide +kernel
theorem dX12_lightens_53 : decode cX12_lightens 53 = .ok (.iload_n 1, 1) := by decide +kernel
theorem dX12_lightens_54 : decode cX12_lightens 54 = .ok (.iload_n 2, 1) := by decide +kernel
theorem dX12_lightens_55 : decode cX12_lightens 55 = .ok (.invokevirtual 475, 3) := by decide +kernel
theorem dX12_lightens_58 : decode cX12_lightens 58 = .ok (.aload_n 0, 1) := by decide +kernel
theorem dX12_lightens_59 : decode cX12_lightens 59 = .ok (.iconst 0, 1) := by decide +kernel
theorem dX12_lightens_60 : decode cX12_lightens 60 = .ok (.invokevirtual 472, 3) := by decide +kernel
theorem dX12_lightens_63 : decode cX12_lightens 63 = .ok (.ifCond .eq 11, 3) := by decide +kernel
theorem dX12_lightens_66 : decode cX12_lightens 66 = .ok (.aload_n 0, 1) := by decide +kernel
theorem dX12_lightens_67 : decode cX12_lightens 67 = .ok (.iconst 0, 1) := by decide +kernel
theorem dX12_lightens_68 : decode cX12_lightens 68 = .ok (.invokevirtual 478, 3) := by decide +kernel
theorem dX12_lightens_71 : decode cX12_lightens 71 = .ok (.goto 4, 3) := by decide +kernel
theorem dX12_lightens_74 : decode cX12_lightens 74 = .ok (.lconst 1, 1) := by decide +kernel
theorem dX12_lightens_75 : decode cX12_lightens 75 = .ok (.lstore_n 3, 1) := by decide +kernel
theorem dX12_lightens_76 : decode cX12_lightens 76 = .ok (.aload_n 0, 1) := by decide +kernel
theorem dX12_lightens_77 : decode cX12_lightens 77 = .ok (.getfield 219, 3) := by decide +kernel
theorem dX12_lightens_80 : decode cX12_lightens 80 = .ok (.iload_n 2, 1) := by decide +kernel
theorem dX12_lightens_81 : decode cX12_lightens 81 = .ok (.lload_n 3, 1) := by decide +kernel
theorem dX12_lightens_82 : decode cX12_lightens 82 = .ok (.lconst 0, 1) := by decide +kernel
theorem dX12_lightens_83 : decode cX12_lightens 83 = .ok (.lcmp, 1) := by decide +kernel
theorem dX12_lightens_84 : decode cX12_lightens 84 = .ok (.ifCond .ge 7, 3) := by decide +kernel
theorem dX12_lightens_87 : decode cX12_lightens 87 = .ok (.iconst 0, 1) := by decide +kernel
theorem dX12_lightens_88 : decode cX12_lightens 88 = .ok (.goto 18, 3) := by decide +kernel
theorem dX12_lightens_91 : decode cX12_lightens 91 = .ok (.lload_n 3, 1) := by decide +kernel
theorem dX12_lightens_92 : decode cX12_lightens 92 = .ok (.ldc2_w 482, 3) := by decide +kernel
theorem dX12_lightens_95 : decode cX12_lightens 95 = .ok (.lcmp, 1) := by decide +kernel
theorem dX12_lightens_96 : decode cX12_lightens 96 = .ok (.ifCond .le 8, 3) := by decide +kernel
theorem dX12_lightens_99 : decode cX12_lightens 99 = .ok (.bipush 9, 2) := by decide +kernel
theorem dX12_lightens_101 : decode cX12_lightens 101 = .ok (.goto 5, 3) := by decide +kernel
theorem dX12_lightens_104 : decode cX12_lightens 104 = .ok (.lload_n 3, 1) := by decide +kernel
theorem dX12_lightens_105 : decode cX12_lightens 105 = .ok (.l2i, 1) := by decide +kernel
theorem dX12_lightens_106 : decode cX12_lightens 106 = .ok (.iastore, 1) := by decide +kernel
theorem dX12_lightens_107 : decode cX12_lightens 107 = .ok (.iinc 2 1, 3) := by decide +kernel
theorem dX12_lightens_110 : decode cX12_lightens 110 = .ok (.goto (-103), 3) := by decide +kernel
theorem dX12_lightens_113 : decode cX12_lightens 113 = .ok (.iconst 0, 1) := by decide +kernel
theorem dX12_lightens_114 : decode cX12_lightens 114 = .ok (.istore_n 2, 1) := by decide +kernel
theorem dX12_lightens_115 : decode cX12_lightens 115 = .ok (.iload_n 2, 1) := by decide +kernel
theorem dX12_lightens_116 : decode cX12_lightens 116 = .ok (.bipush 64, 2) := by decide +kernel
theorem dX12_lightens_118 : decode cX12_lightens 118 = .ok (.if_icmp .ge 67, 3) := by decide +kernel
theorem dX12_lightens_121 : decode cX12_lightens 121 = .ok (.aload_n 0, 1) := by decide +kernel
theorem dX12_lightens_122 : decode cX12_lightens 122 = .ok (.getfield 168, 3) := by decide +kernel
theorem dX12_lightens_125 : decode cX12_lightens 125 = .ok (.bipush 64, 2) := by decide +kernel
theorem dX12_lightens_127 : decode cX12_lightens 127 = .ok (.iload_n 1, 1) := by decide +kernel
theorem dX12_lightens_128 : decode cX12_lightens 128 = .ok (.imul, 1) := by decide +kernel
theorem dX12_lightens_129 : decode cX12_lightens 129 = .ok (.iload_n 2, 1) := by decide +kernel
theorem dX12_lightens_130 : decode cX12_lightens 130 = .ok (.iadd, 1) := by decide +kernel
theorem dX12_lightens_131 : decode cX12_lightens 131 = .ok (.iaload, 1) := by decide +kernel
theorem dX12_lightens_132 : decode cX12_lightens 132 = .ok (.istore_n 3, 1) := by decide +kernel
theorem dX12_lightens_133 : decode cX12_lightens 133 = .ok (.aload_n 0, 1) := by decide +kernel
theorem dX12_lightens_134 : decode cX12_lightens 134 = .ok (.iload_n 2, 1) := by decide +kernel
theorem dX12_lightens_135 : decode cX12_lightens 135 = .ok (.invokevirtual 503, 3) := by decide +kernel
theorem dX12_lightens_138 : decode cX12_lightens 138 = .ok (.ifCond .eq 41, 3) := by decide +kernel
theorem dX12_lightens_141 : decode cX12_lightens 141 = .ok (.iload_n 3, 1) := by decide +kernel
theorem dX12_lightens_142 : decode cX12_lightens 142 = .ok (.iconst (-1), 1) := by decide +kernel
theorem dX12_lightens_143 : decode cX12_lightens 143 = .ok (.if_icmp .eq 36, 3) := by decide +kernel
theorem dX12_lightens_146 : decode cX12_lightens 146 = .ok (.aload_n 0, 1) := by decide +kernel
theorem dX12_lightens_147 : decode cX12_lightens 147 = .ok (.getfield 168, 3) := by decide +kernel
theorem dX12_lightens_150 : decode cX12_lightens 150 = .ok (.bipush 64, 2) := by decide +kernel
theorem dX12_lightens_152 : decode cX12_lightens 152 = .ok (.iload_n 1, 1) := by decide +kernel
theorem dX12_lightens_153 : decode cX12_lightens 153 = .ok (.imul, 1) := by decide +kernel
theorem dX12_lightens_154 : decode cX12_lightens 154 = .ok (.iload_n 2, 1) := by decide +kernel
theorem dX12_lightens_155 : decode cX12_lightens 155 = .ok (.iadd, 1) := by decide +kernel
theorem dX12_lightens_156 : decode cX12_lightens 156 = .ok (.iload_n 3, 1) := by decide +kernel
theorem dX12_lightens_157 : decode cX12_lightens 157 = .ok (.aload_n 0, 1) := by decide +kernel
theorem dX12_lightens_158 : decode cX12_lightens 158 = .ok (.getfield 219, 3) := by decide +kernel
theorem dX12_lightens_161 : decode cX12_lightens 161 = .ok (.iload_n 2, 1) := by decide +kernel
theorem dX12_lightens_162 : decode cX12_lightens 162 = .ok (.iaload, 1) := by decide +kernel
theorem dX12_lightens_163 : decode cX12_lightens 163 = .ok (.if_icmp .le 14, 3) := by decide +kernel
theorem dX12_lightens_166 : decode cX12_lightens 166 = .ok (.iload_n 3, 1) := by decide +kernel
theorem dX12_lightens_167 : decode cX12_lightens 167 = .ok (.aload_n 0, 1) := by decide +kernel
theorem dX12_lightens_168 : decode cX12_lightens 168 = .ok (.getfield 219, 3) := by decide +kernel
theorem dX12_lightens_171 : decode cX12_lightens 171 = .ok (.iload_n 2, 1) := by decide +kernel
theorem dX12_lightens_172 : decode cX12_lightens 172 = .ok (.iaload, 1) := by decide +kernel
theorem dX12_lightens_173 : decode cX12_lightens 173 = .ok (.isub, 1) := by decide +kernel
theorem dX12_lightens_174 : decode cX12_lightens 174 = .ok (.goto 4, 3) := by decide +kernel
theorem dX12_lightens_177 : decode cX12_lightens 177 = .ok (.iconst 0, 1) := by decide +kernel
theorem dX12_lightens_178 : decode cX12_lightens 178 = .ok (.iastore, 1) := by decide +kernel
theorem dX12_lightens_179 : decode cX12_lightens 179 = .ok (.iinc 2 1, 3) := by decide +kernel
theorem dX12_lightens_182 : decode cX12_lightens 182 = .ok (.goto (-67), 3) := by decide +kernel
theorem dX12_lightens_185 : decode cX12_lightens 185 = .ok (.return_, 1) := by decide +kernel
theorem dX12_ticks_0 : decode cX12_ticks 0 = .ok (.aload_n 0, 1) := by decide +kernel
theorem dX12_ticks_1 : decode cX12_ticks 1 = .ok (.iload_n 1, 1) := by decide +kernel
theorem dX12_ticks_2 : decode cX12_ticks 2 = .ok (.invokevirtual 506, 3) := by decide +kernel
theorem dX12_ticks_5 : decode cX12_ticks 5 = .ok (.ifCond .eq 7, 3) := by decide +kernel
theorem dX12_ticks_8 : decode cX12_ticks 8 = .ok (.iconst 1, 1) := by decide +kernel
theorem dX12_ticks_9 : decode cX12_ticks 9 = .ok (.goto 4, 3) := by decide +kernel
theorem dX12_ticks_12 : decode cX12_ticks 12 = .ok (.iconst 0, 1) := by decide +kernel
theorem dX12_ticks_13 : decode cX12_ticks 13 = .ok (.istore_n 2, 1) := by decide +kernel
theorem dX12_ticks_14 : decode cX12_ticks 14 = .ok (.aload_n 0, 1) := by decide +kernel
theorem dX12_ticks_15 : decode cX12_ticks 15 = .ok (.iload_n 1, 1) := by decide +kernel
theorem dX12_ticks_16 : decode cX12_ticks 16 = .ok (.invokevirtual 509, 3) := by decide +kernel
theorem dX12_ticks_19 : decode cX12_ticks 19 = .ok (.aload_n 0, 1) := by decide +kernel
theorem dX12_ticks_20 : decode cX12_ticks 20 = .ok (.getfield 162, 3) := by decide +kernel
theorem dX12_ticks_23 : decode cX12_ticks 23 = .ok (.iload_n 1, 1) := by decide +kernel
theorem dX12_ticks_24 : decode cX12_ticks 24 = .ok (.dup2, 1) := by decide +kernel
theorem dX12_ticks_25 : decode cX12_ticks 25 = .ok (.iaload, 1) := by decide +kernel
theorem dX12_ticks_26 : decode cX12_ticks 26 = .ok (.iconst 1, 1) := by decide +kernel
theorem dX12_ticks_27 : decode cX12_ticks 27 = .ok (.iadd, 1) := by decide +kernel
theorem dX12_ticks_28 : decode cX12_ticks 28 = .ok (.iastore, 1) := by decide +kernel
theorem dX12_ticks_29 : decode cX12_ticks 29 = .ok (.iload_n 2, 1) := by decide +kernel
theorem dX12_ticks_30 : decode cX12_ticks 30 = .ok (.ireturn, 1) := by decide +kernel
theorem wB_1160 : Cond.code yX12_measures cX12_measures 7 none ∈ dgB := List.mem_filter.mpr ⟨tbl_8 _ (List.mem_of_getElem? (i := 146) rfl), rfl⟩
theorem wB_1161 : Cond.methodLink RX12 484 yX12_measures ∈ dgB := List.mem_filter.mpr ⟨tbl_8 _ (List.mem_of_getElem? (i := 143) (by decide +kernel)), by decide +kernel⟩
theorem wB_1162 : Cond.instanceMethod yX12_measures ∈ dgB := List.mem_filter.mpr ⟨tbl_8 _ (List.mem_of_getElem? (i := 145) (by decide +kernel)), by decide +kernel⟩
theorem wB_1163 : Cond.selects RX12 yX12_measures yX12_measures ∈ dgB := List.mem_filter.mpr ⟨List.mem_of_getElem? (i := 120) (by decide +kernel), by decide +kernel⟩
theorem wB_1164 : Cond.code yX12_has2 cX12_has2 2 (some .boolean) ∈ dgB := List.mem_filter.mpr ⟨tbl_8 _ (List.mem_of_getElem? (i := 229) rfl), rfl⟩
theorem wB_1165 : Cond.methodLink RX12 487 yX12_has2 ∈ dgB := List.mem_filter.mpr ⟨tbl_8 _ (List.mem_of_getElem? (i := 227) (by decide +kernel)), by decide +kernel⟩
theorem wB_1166 : Cond.static yX12_has2 ∈ dgB := List.mem_filter.mpr ⟨tbl_8 _ (List.mem_of_getElem? (i := 228) (by decide +kernel)), by decide +kernel⟩
theorem wB_1167 : Cond.code yX12_canDig cX12_canDig 3 (some .boolean) ∈ dgB := List.mem_filter.mpr ⟨tbl_8 _ (List.mem_of_getElem? (i := 187) rfl), rfl⟩
theorem wB_1168 : Cond.methodLink RX12 490 yX12_canDig ∈ dgB := List.mem_filter.mpr ⟨tbl_8 _ (List.mem_of_getElem? (i := 184) (by decide +kernel)), by decide +kernel⟩
theorem wB_1169 : Cond.instanceMethod yX12_canDig ∈ dgB := List.mem_filter.mpr ⟨tbl_8 _ (List.mem_of_getElem? (i := 186) (by decide +kernel)), by decide +kernel⟩
theorem wB_1170 : Cond.selects RX12 yX12_canDig yX12_canDig ∈ dgB := List.mem_filter.mpr ⟨List.mem_of_getElem? (i := 127) (by decide +kernel), by decide +kernel⟩
theorem wB_1171 : Cond.code yX12_isFalling cX12_isFalling 3 (some .boolean) ∈ dgB := List.mem_filter.mpr ⟨tbl_8 _ (List.mem_of_getElem? (i := 195) rfl), rfl⟩
theorem wB_1172 : Cond.methodLink RX12 493 yX12_isFalling ∈ dgB := List.mem_filter.mpr ⟨tbl_8 _ (List.mem_of_getElem? (i := 192) (by decide +kernel)), by decide +kernel⟩
theorem wB_1173 : Cond.instanceMethod yX12_isFalling ∈ dgB := List.mem_filter.mpr ⟨tbl_8 _ (List.mem_of_getElem? (i := 194) (by decide +kernel)), by decide +kernel⟩
theorem wB_1174 : Cond.selects RX12 yX12_isFalling yX12_isFalling ∈ dgB := List.mem_filter.mpr ⟨List.mem_of_getElem? (i := 129) (by decide +kernel), by decide +kernel⟩
theorem wB_1175 : Cond.code yX12_got cX12_got 5 (some .int) ∈ dgB := List.mem_filter.mpr ⟨tbl_9 _ (List.mem_of_getElem? (i := 40) rfl), rfl⟩
theorem wB_1176 : Cond.methodLink RX12 500 yX12_got ∈ dgB := List.mem_filter.mpr ⟨tbl_9 _ (List.mem_of_getElem? (i := 37) (by decide +kernel)), by decide +kernel⟩
theorem wB_1177 : Cond.instanceMethod yX12_got ∈ dgB := List.mem_filter.mpr ⟨tbl_9 _ (List.mem_of_getElem? (i := 39) (by decide +kernel)), by decide +kernel⟩
theorem wB_1178 : Cond.selects RX12 yX12_got yX12_got ∈ dgB := List.mem_filter.mpr ⟨List.mem_of_getElem? (i := 141) (by decide +kernel), by decide +kernel⟩
theorem wB_1179 : Cond.code yX12_writesDown cX12_writesDown 6 none ∈ dgB := List.mem_filter.mpr ⟨tbl_9 _ (List.mem_of_getElem? (i := 36) rfl), rfl⟩
theorem wB_1180 : Cond.methodLink RX12 496 yX12_writesDown ∈ dgB := List.mem_filter.mpr ⟨tbl_9 _ (List.mem_of_getElem? (i := 33) (by decide +kernel)), by decide +kernel⟩
theorem wB_1181 : Cond.instanceMethod yX12_writesDown ∈ dgB := List.mem_filter.mpr ⟨tbl_9 _ (List.mem_of_getElem? (i := 35) (by decide +kernel)), by decide +kernel⟩
theorem wB_1182 : Cond.selects RX12 yX12_writesDown yX12_writesDown ∈ dgB := List.mem_filter.mpr ⟨List.mem_of_getElem? (i := 140) (by decide +kernel), by decide +kernel⟩
theorem wB_1183 : Cond.fieldLink RX12 219 "DarkMineModel" "lessBy" "[I" ∈ dgB := List.mem_filter.mpr ⟨tbl_6 _ (List.mem_of_getElem? (i := 231) (by decide +kernel)), by decide +kernel⟩
theorem wB_1184 : Cond.code yX12_digs cX12_digs 5 (some .boolean) ∈ dgB := List.mem_filter.mpr ⟨tbl_9 _ (List.mem_of_getElem? (i := 32) rfl), rfl⟩
theorem wB_1185 : Cond.methodLink RX12 506 yX12_digs ∈ dgB := List.mem_filter.mpr ⟨tbl_9 _ (List.mem_of_getElem? (i := 29) (by decide +kernel)), by decide +kernel⟩
theorem wB_1186 : Cond.instanceMethod yX12_digs ∈ dgB := List.mem_filter.mpr ⟨tbl_9 _ (List.mem_of_getElem? (i := 31) (by decide +kernel)), by decide +kernel⟩
theorem wB_1187 : Cond.selects RX12 yX12_digs yX12_digs ∈ dgB := List.mem_filter.mpr ⟨List.mem_of_getElem? (i := 139) (by decide +kernel), by decide +kernel⟩
theorem wB_1188 : Cond.code yX12_lightens cX12_lightens 5 none ∈ dgB := List.mem_filter.mpr ⟨tbl_9 _ (List.mem_of_getElem? (i := 45) rfl), rfl⟩
theorem wB_1189 : Cond.methodLink RX12 509 yX12_lightens ∈ dgB := List.mem_filter.mpr ⟨tbl_9 _ (List.mem_of_getElem? (i := 42) (by decide +kernel)), by decide +kernel⟩
theorem wB_1190 : Cond.instanceMethod yX12_lightens ∈ dgB := List.mem_filter.mpr ⟨tbl_9 _ (List.mem_of_getElem? (i := 44) (by decide +kernel)), by decide +kernel⟩
theorem wB_1191 : Cond.selects RX12 yX12_lightens yX12_lightens ∈ dgB := List.mem_filter.mpr ⟨List.mem_of_getElem? (i := 142) (by decide +kernel), by decide +kernel⟩
set_option maxHeartbeats 8000000 in
set_option maxRecDepth 100000 in
theorem c_m_digs (l : Launch) (g : Nat → ClassId) (D : va_G) (o : Nat) (S : dg_S) (a1 : Int32) (b_a1 : 0 ≤ (a1).toInt ∧ (a1).toInt ≤ 21) (ZB : ZBM S) (ZW : ZWM S) (I : CM o S) (sz : Nat) : Met l yX12_digs (bw yX12_digs cX12_digs 5 (some .boolean)) ({ frames := 7, cells := 0, slots := 0, locals := 171 } : Room) (dk_Pc g D (dg_w g shM o rfM S) sz [.ref (o + 0), .int a1]) (va_Qi (fun (r : Int32) S' => CM o S' ∧ dg_sm shM [] [31, 33, 37, 38, 39, 40, 41, 42, 43] S S' ∧ (0 ≤ (r).toInt ∧ (r).toInt ≤ 1) ∧ True) (dg_B g D shM o rfM) (dg_A o shM.length sz)) 0 0 (dg_A o shM.length sz) := by
  refine dg_met (cc := cX12_digs) (maxL := 5) (ret := (some .boolean)) (by decide) rfl (Nat.le_of_ble_eq_true rfl) ?_
  intro p e s m args below meth c A hAe harg hx hb hr hml hts hown hlocks hin hP K hS hA1 hA ST hsz ls hl
  rw [← hAe]
  have F : CallFix p m c cX12_digs 5 s args (bw yX12_digs cX12_digs 5 (some .boolean)) RX12 := ⟨hx, hb, hml, hown, hts⟩
  have hl : lv_has ls 5 [(0, .ref (o + 0)), (1, .int a1)] := hl
  have M_0 : dg_sm shM [] [31, 33, 37, 38, 39, 40, 41, 42, 43] S S := dg_sm.rf
  refine lv_aload_n hx hb dX12_digs_0 rfl (lv_at hl 0 rfl) ?_
  refine dg_get (C := RX12) (T := TX12) (N := 77) hx hb hts (fun w h => bw_mem (wU_X12 w h)) hown K hP sM_0 rfl 21 (by decide) (hts _ (bw_mem wB_391)) (fun _ h9 => h9) (v := .ref (o + 9)) (show S.1 0 21 = .ref (o + 9) from dg_I.rel (d := 9) I sM_0 (by decide +kernel)) dX12_digs_1 ?_
  refine lv_aload_n hx hb dX12_digs_4 rfl (lv_at hl 0 rfl) ?_
  obtain ⟨x_1, f_x_1, b_x_1⟩ := dg_I.int (i := 0) (k := 13) (lo := 0) (hi := 1) I sM_0 (by decide +kernel)
  refine dg_get (C := RX12) (T := TX12) (N := 77) hx hb hts (fun w h => bw_mem (wU_X12 w h)) hown K hP sM_0 rfl 13 (by decide) (hts _ (bw_mem wB_1085)) (fun _ h9 => h9) (v := .int x_1) f_x_1 dX12_digs_5 ?_
  have hin_2 : vp_in x_1 2 := (dk_inv (by omega) (by omega))
  refine dg_iald hx hb K hP sM_9 hin_2 dX12_digs_8 (fun x_3 ex_3 => ?_)
  have b_x_3 := dk_all_at (dg_I.row (lo := 0) (hi := 16) I sM_9 (by decide +kernel)) hin_2 ex_3
  refine lv_if_ne (tgt := 14) hx hb dX12_digs_9 (by decide) (fun c_4 => ?_) (fun c_4 => ?_)
  · have jc_4 := dk_neqc (k := 0) (by decide +kernel) c_4
    refine lv_bipush (v := 16) hx hb dX12_digs_14 (by decide +kernel) ?_
    refine lv_iload_n hx hb dX12_digs_16 rfl (lv_at hl 1 rfl) ?_
    refine lv_imul hx hb dX12_digs_17 ?_
    refine lv_topi (fun x_5 ex_5 => ?_)
    have jx_5 : (x_5).toInt = 16 * (a1).toInt := by rw [ex_5]; exact dk_mulT (by decide +kernel) rfl (by omega) (by omega)
    refine lv_aload_n hx hb dX12_digs_18 rfl (lv_at hl 0 rfl) ?_
    refine dg_get (C := RX12) (T := TX12) (N := 77) hx hb hts (fun w h => bw_mem (wU_X12 w h)) hown K hP sM_0 rfl 49 (by decide) (hts _ (bw_mem wB_1108)) (fun _ h9 => h9) (v := .ref (o + 29)) (show S.1 0 49 = .ref (o + 29) from dg_I.rel (d := 29) I sM_0 (by decide +kernel)) dX12_digs_19 ?_
    refine lv_iload_n hx hb dX12_digs_22 rfl (lv_at hl 1 rfl) ?_
    have hin_6 : vp_in a1 22 := (dk_inv (by omega) (by omega))
    refine dg_iald hx hb K hP sM_29 hin_6 dX12_digs_23 (fun x_7 ex_7 => ?_)
    have b_x_7 := dk_all_at (dg_I.row (lo := 0) (hi := 2000) I sM_29 (by decide +kernel)) hin_6 ex_7
    refine lv_aload_n hx hb dX12_digs_24 rfl (lv_at hl 0 rfl) ?_
    refine dg_get (C := RX12) (T := TX12) (N := 77) hx hb hts (fun w h => bw_mem (wU_X12 w h)) hown K hP sM_0 rfl 21 (by decide) (hts _ (bw_mem wB_391)) (fun _ h9 => h9) (v := .ref (o + 9)) (show S.1 0 21 = .ref (o + 9) from dg_I.rel (d := 9) I sM_0 (by decide +kernel)) dX12_digs_25 ?_
    refine lv_aload_n hx hb dX12_digs_28 rfl (lv_at hl 0 rfl) ?_
    refine dg_get (C := RX12) (T := TX12) (N := 77) hx hb hts (fun w h => bw_mem (wU_X12 w h)) hown K hP sM_0 rfl 13 (by decide) (hts _ (bw_mem wB_1085)) (fun _ h9 => h9) (v := .int x_1) f_x_1 dX12_digs_29 ?_
    have hin_8 : vp_in x_1 2 := (dk_inv (by omega) (by omega))
    refine dg_iald hx hb K hP sM_9 hin_8 dX12_digs_32 (fun y_9 ey_9 => ?_)
    obtain rfl : x_3 = y_9 := (ey_9.trans ex_3.symm).symm
    refine lv_irem hx hb dX12_digs_33 (fun z => absurd (dk_eqc (k := 0) (by decide +kernel) z) (by omega)) ?_
    refine lv_topi (fun x_10 ex_10 => ?_)
    have jx_10 := dk_remT (x := x_7) (y := x_3) (a := (x_7).toInt) (b := (x_3).toInt) rfl rfl (by omega) (by omega)
    rw [← ex_10] at jx_10
    refine lv_iadd hx hb dX12_digs_34 ?_
    refine lv_topi (fun x_11 ex_11 => ?_)
    have jx_11 : (x_11).toInt = (x_5).toInt + (x_10).toInt := by rw [ex_11]; exact dk_addT rfl rfl (by omega) (by omega)
    refine lv_istore_n (lv' := [(2, .int x_11), (0, .ref (o + 0)), (1, .int a1)]) hx hb dX12_digs_35 rfl hl (by decide) rfl (fun ls hl => ?_)
    refine lv_aload_n hx hb dX12_digs_36 rfl (lv_at hl 1 rfl) ?_
    refine dg_get (C := RX12) (T := TX12) (N := 77) hx hb hts (fun w h => bw_mem (wU_X12 w h)) hown K hP sM_0 rfl 56 (by decide) (hts _ (bw_mem wB_1133)) (fun _ h9 => h9) (v := .ref (o + 36)) (show S.1 0 56 = .ref (o + 36) from dg_I.rel (d := 36) I sM_0 (by decide +kernel)) dX12_digs_37 ?_
    refine lv_iload_n hx hb dX12_digs_40 rfl (lv_at hl 0 rfl) ?_
    have hin_12 : vp_in x_11 352 := (dk_inv (by omega) (by omega))
    refine dg_iald hx hb K hP sM_36 hin_12 dX12_digs_41 (fun x_13 ex_13 => ?_)
    have b_x_13 := dk_all_at (dg_I.row (lo := 0) (hi := 63) I sM_36 (by decide +kernel)) hin_12 ex_13
    refine lv_istore_n (lv' := [(3, .int x_13), (2, .int x_11), (0, .ref (o + 0)), (1, .int a1)]) hx hb dX12_digs_42 rfl hl (by decide) rfl (fun ls hl => ?_)
    refine lv_aload_n hx hb dX12_digs_43 rfl (lv_at hl 2 rfl) ?_
    refine lv_iload_n hx hb dX12_digs_44 rfl (lv_at hl 3 rfl) ?_
    obtain ⟨x_14, f_x_14⟩ : ∃ x, S.2.1 4 (x_1 : Int32).toNatClampNeg = x := ⟨_, rfl⟩
    have hin_15 : vp_in (x_1 : Int32) 2 := (dk_inv (by omega) (by omega))
    have b_x_14 := dk_all_at (dg_I.row (lo := 0) (hi := 9999) I sM_4 (by decide +kernel)) hin_15 f_x_14.symm
    have ex_14 := f_x_14.symm
    obtain ⟨x_16, f_x_16, b_x_16⟩ := dg_I.int (i := 0) (k := 47) (lo := 0) (hi := 1) I sM_0 (by decide +kernel)
    have zb_x_14 : (x_14).toInt ≤ 63 := by rw [ex_14]; exact (ZB x_1 x_16 f_x_1 f_x_16).2.2.1
    refine dg_callv hS hA1 hA (va_runV (As := [.int a1]) (rest := []) F (c_m_measures l g D o S a1 (by omega) x_1 f_x_1 (by omega) x_14 f_x_14 (by omega) ZB I s.heap.size) (cwV 1 hts (bw_V wB_1161 wB_1162 wB_1163 wB_297 wB_1160) rfl rfl rfl (by decide +kernel) ⟨Nat.le_of_ble_eq_true rfl, Nat.le_of_ble_eq_true rfl⟩) (dg_preV sM_0 rfl K ST hP hS hA1 hA) rfl rfl hl.1 rfl (lv_room (Nat.le_of_ble_eq_true rfl)) dX12_digs_45 ⟨Nat.le_of_ble_eq_true rfl, Nat.le_of_ble_eq_true rfl⟩) (fun S_17 hw_17 H locs hP hS => ?_)
    obtain ⟨I_17, m_17, -⟩ := hw_17
    have M_17 := dg_sm.tr M_0 m_17 (by decide) (by decide)
    refine lv_aload_n hx hb dX12_digs_48 rfl (lv_at hl 2 rfl) ?_
    refine dg_get (C := RX12) (T := TX12) (N := 77) hx hb hts (fun w h => bw_mem (wU_X12 w h)) hown K hP sM_0 rfl 53 (by decide) (hts _ (bw_mem wB_1130)) (fun _ h9 => h9) (v := .ref (o + 33)) (show S_17.1 0 53 = .ref (o + 33) from dg_I.rel (d := 33) I_17 sM_0 (by decide +kernel)) dX12_digs_49 ?_
    refine lv_iload_n hx hb dX12_digs_52 rfl (lv_at hl 3 rfl) ?_
    have hin_18 : vp_in a1 22 := (dk_inv (by omega) (by omega))
    refine dg_iald hx hb K hP sM_33 hin_18 dX12_digs_53 (fun x_19 ex_19 => ?_)
    refine lv_aload_n hx hb dX12_digs_54 rfl (lv_at hl 2 rfl) ?_
    refine dg_get (C := RX12) (T := TX12) (N := 77) hx hb hts (fun w h => bw_mem (wU_X12 w h)) hown K hP sM_0 rfl 55 (by decide) (hts _ (bw_mem wB_1132)) (fun _ h9 => h9) (v := .ref (o + 35)) (show S_17.1 0 55 = .ref (o + 35) from dg_I.rel (d := 35) I_17 sM_0 (by decide +kernel)) dX12_digs_55 ?_
    refine lv_iload_n hx hb dX12_digs_58 rfl (lv_at hl 1 rfl) ?_
    have hin_20 : vp_in x_11 352 := (dk_inv (by omega) (by omega))
    refine dg_iald hx hb K hP sM_35 hin_20 dX12_digs_59 (fun x_21 ex_21 => ?_)
    refine dg_calli hS hA1 hA (va_runS (As := [.int x_19, .int x_21]) (rest := []) F (c_m_has2 l g D o S_17 x_19 x_21 I_17 H.size) (va_cwS 2 hts (bw_S wB_1165 wB_1166 wB_297 wB_1164) rfl rfl rfl (by decide +kernel) ⟨Nat.le_of_ble_eq_true rfl, Nat.le_of_ble_eq_true rfl⟩) (dg_preS K ST hP hS hA1 hA) rfl rfl hl.1 rfl (lv_room (Nat.le_of_ble_eq_true rfl)) dX12_digs_60 ⟨Nat.le_of_ble_eq_true rfl, Nat.le_of_ble_eq_true rfl⟩) (fun x_22 S_23 hw_23 H locs hP hS => ?_)
    rw [hw_23.1] at hP
    obtain ⟨hq_23, w_23_0, -⟩ := hw_23
    have w_23_0 : 0 ≤ (x_22).toInt ∧ (x_22).toInt ≤ 1 := w_23_0
    refine lv_if_ne (tgt := 75) hx hb dX12_digs_63 (by decide) (fun c_24 => ?_) (fun c_24 => ?_)
    · have jc_24 := dk_neqc (k := 0) (by decide +kernel) c_24
      refine lv_iconst (v := 0) hx hb dX12_digs_75 (by decide +kernel) ?_
      have hz_25 : (0 : Int32).toInt = 0 := by decide +kernel
      refine W.widen (k := 0) (n := 0) (Nat.le_of_ble_eq_true rfl) (Nat.le_of_ble_eq_true rfl) ?_
      exact dg_iret hx hb hr hlocks (by decide +kernel) hP hS ⟨I_17, M_17, (by decide +kernel), trivial⟩ dX12_digs_76
    · have jc_24 := dk_eqc (k := 0) (by decide +kernel) c_24
      refine lv_aload_n hx hb dX12_digs_66 rfl (lv_at hl 2 rfl) ?_
      refine lv_iload_n hx hb dX12_digs_67 rfl (lv_at hl 3 rfl) ?_
      refine lv_iload_n hx hb dX12_digs_68 rfl (lv_at hl 0 rfl) ?_
      obtain ⟨x_27, ex_27⟩ : ∃ z : Int32, z = 64 * (a1 : Int32) := ⟨_, rfl⟩
      have jx_27 : (x_27).toInt = 64 * (a1 : Int32).toInt := by rw [ex_27]; exact dk_mulT (by decide +kernel) rfl (by omega) (by omega)
      obtain ⟨ci_26, eci_26⟩ : ∃ z : Int32, z = x_27 + (x_13 : Int32) := ⟨_, rfl⟩
      have jci_26 : (ci_26).toInt = (x_27).toInt + (x_13 : Int32).toInt := by rw [eci_26]; exact dk_addT rfl rfl (by omega) (by omega)
      obtain ⟨x_28, f_x_28⟩ : ∃ x, S_17.2.1 31 (ci_26 : Int32).toNatClampNeg = x := ⟨_, rfl⟩
      have hin_29 : vp_in (ci_26 : Int32) 1408 := (dk_inv (by omega) (by omega))
      have b_x_28 := dk_all_at (dg_I.row (lo := (-1)) (hi := 9) I_17 sM_31 (by decide +kernel)) hin_29 f_x_28.symm
      refine dg_calli hS hA1 hA (va_runV (As := [.int a1, .int x_13]) (rest := []) F (c_m_canDigG l g D o S_17 a1 (by omega) x_13 (by omega) ci_26 x_28 f_x_28 (by omega) (by omega) (ZBM.keep ZB m_17 (by decide) (by decide) (by decide) (by decide) (by decide)) I_17 H.size) (cwV 2 hts (bw_V wB_1168 wB_1169 wB_1170 wB_297 wB_1167) rfl rfl rfl (by decide +kernel) ⟨Nat.le_of_ble_eq_true rfl, Nat.le_of_ble_eq_true rfl⟩) (dg_preV sM_0 rfl K ST hP hS hA1 hA) rfl rfl hl.1 rfl (lv_room (Nat.le_of_ble_eq_true rfl)) dX12_digs_69 ⟨Nat.le_of_ble_eq_true rfl, Nat.le_of_ble_eq_true rfl⟩) (fun x_30 S_31 hw_31 H locs hP hS => ?_)
      rw [hw_31.1] at hP
      obtain ⟨hq_31, w_31_0, w_31_1, -⟩ := hw_31
      have w_31_0 : 0 ≤ (x_30).toInt ∧ (x_30).toInt ≤ 1 := w_31_0
      have w_31_1 : (x_30).toInt = 1 → 0 ≤ (x_28).toInt := w_31_1
      refine lv_if_ne (tgt := 77) hx hb dX12_digs_72 (by decide) (fun c_32 => ?_) (fun c_32 => ?_)
      · have jc_32 := dk_neqc (k := 0) (by decide +kernel) c_32
        refine lv_aload_n hx hb dX12_digs_77 rfl (lv_at hl 2 rfl) ?_
        refine lv_iload_n hx hb dX12_digs_78 rfl (lv_at hl 3 rfl) ?_
        refine lv_iload_n hx hb dX12_digs_79 rfl (lv_at hl 0 rfl) ?_
        refine dg_calli hS hA1 hA (va_runV (As := [.int a1, .int x_13]) (rest := []) F (c_m_isFalling l g D o S_17 a1 (by omega) x_13 (by omega) (ZBM.keep ZB m_17 (by decide) (by decide) (by decide) (by decide) (by decide)) (ZWM.keep ZW m_17 (by decide) (by decide) (by decide) (by decide)) I_17 H.size) (cwV 2 hts (bw_V wB_1172 wB_1173 wB_1174 wB_297 wB_1171) rfl rfl rfl (by decide +kernel) ⟨Nat.le_of_ble_eq_true rfl, Nat.le_of_ble_eq_true rfl⟩) (dg_preV sM_0 rfl K ST hP hS hA1 hA) rfl rfl hl.1 rfl (lv_room (Nat.le_of_ble_eq_true rfl)) dX12_digs_80 ⟨Nat.le_of_ble_eq_true rfl, Nat.le_of_ble_eq_true rfl⟩) (fun x_33 S_34 hw_34 H locs hP hS => ?_)
        obtain ⟨I_34, m_34, w_34_0, -⟩ := hw_34
        have M_34 := dg_sm.tr M_17 m_34 (by decide) (by decide)
        have w_34_0 : 0 ≤ (x_33).toInt ∧ (x_33).toInt ≤ 1 := w_34_0
        refine lv_if_eq (tgt := 130) hx hb dX12_digs_83 (by decide) (fun c_35 => ?_) (fun c_35 => ?_)
        · have jc_35 := dk_eqc (k := 0) (by decide +kernel) c_35
          refine lv_aload_n hx hb dX12_digs_130 rfl (lv_at hl 2 rfl) ?_
          refine lv_iload_n hx hb dX12_digs_131 rfl (lv_at hl 3 rfl) ?_
          refine lv_iload_n hx hb dX12_digs_132 rfl (lv_at hl 0 rfl) ?_
          refine dg_calli hS hA1 hA (va_runV (As := [.int a1, .int x_13]) (rest := []) F (c_m_gotG l g D o S_34 a1 (by omega) x_13 (by omega) ci_26 x_28 ((congrFun (m_34.2 31 _ sM_31 (by decide)).1 _).trans f_x_28) (by omega) (by omega) (ZBM.keep (ZBM.keep ZB m_17 (by decide) (by decide) (by decide) (by decide) (by decide)) m_34 (by decide) (by decide) (by decide) (by decide) (by decide)) (ZWM.keep (ZWM.keep ZW m_17 (by decide) (by decide) (by decide) (by decide)) m_34 (by decide) (by decide) (by decide) (by decide)) I_34 H.size) (cwV 2 hts (bw_V wB_1176 wB_1177 wB_1178 wB_297 wB_1175) rfl rfl rfl (by decide +kernel) ⟨Nat.le_of_ble_eq_true rfl, Nat.le_of_ble_eq_true rfl⟩) (dg_preV sM_0 rfl K ST hP hS hA1 hA) rfl rfl hl.1 rfl (lv_room (Nat.le_of_ble_eq_true rfl)) dX12_digs_133 ⟨Nat.le_of_ble_eq_true rfl, Nat.le_of_ble_eq_true rfl⟩) (fun x_36 S_37 hw_37 H locs hP hS => ?_)
          obtain ⟨I_37, m_37, w_37_0, w_37_1, -⟩ := hw_37
          have M_37 := dg_sm.tr M_34 m_37 (by decide) (by decide)
          have w_37_0 : (-1) ≤ (x_36).toInt ∧ (x_36).toInt ≤ 9 := w_37_0
          have w_37_1 : 0 ≤ (x_28).toInt → 0 ≤ (x_36).toInt := w_37_1
          refine lv_istore (lv' := [(4, .int x_36), (3, .int x_13), (2, .int x_11), (0, .ref (o + 0)), (1, .int a1)]) hx hb dX12_digs_136 hl (by decide) rfl (fun ls hl => ?_)
          refine lv_aload_n hx hb dX12_digs_138 rfl (lv_at hl 3 rfl) ?_
          refine dg_get (C := RX12) (T := TX12) (N := 77) hx hb hts (fun w h => bw_mem (wU_X12 w h)) hown K hP sM_0 rfl 51 (by decide) (hts _ (bw_mem wB_1090)) (fun _ h9 => h9) (v := .ref (o + 31)) (show S_37.1 0 51 = .ref (o + 31) from dg_I.rel (d := 31) I_37 sM_0 (by decide +kernel)) dX12_digs_139 ?_
          refine lv_bipush (v := 64) hx hb dX12_digs_142 (by decide +kernel) ?_
          refine lv_iload_n hx hb dX12_digs_144 rfl (lv_at hl 4 rfl) ?_
          refine lv_imul hx hb dX12_digs_145 ?_
          refine lv_topi (fun x_38 ex_38 => ?_)
          have jx_38 : (x_38).toInt = 64 * (a1).toInt := by rw [ex_38]; exact dk_mulT (by decide +kernel) rfl (by omega) (by omega)
          refine lv_iload_n hx hb dX12_digs_146 rfl (lv_at hl 1 rfl) ?_
          refine lv_iadd hx hb dX12_digs_147 ?_
          refine lv_topi (fun x_39 ex_39 => ?_)
          have jx_39 : (x_39).toInt = (x_38).toInt + (x_13).toInt := by rw [ex_39]; exact dk_addT rfl rfl (by omega) (by omega)
          refine lv_iconst (v := (-1)) hx hb dX12_digs_148 (by decide +kernel) ?_
          have hin_40 : vp_in x_39 1408 := (dk_inv (by omega) (by omega))
          have hz_42 : (-1 : Int32).toInt = (-1) := by decide +kernel
          refine dg_iast hx hb K hP hS hA1 sM_31 hin_40 dX12_digs_149 (fun S_41 e_41 H locs hP hS => ?_)
          have I_41 := dg_I.ufu (lo := (-1)) (hi := 9) I_37 e_41 sM_31 (by decide +kernel) (show (-1) ≤ ((-1 : Int32)).toInt ∧ ((-1 : Int32)).toInt ≤ 9 from (by decide +kernel))
          have M_41 := dg_sm.uf M_37 e_41 sM_31 (by decide)
          refine lv_aload_n hx hb dX12_digs_150 rfl (lv_at hl 3 rfl) ?_
          refine lv_iload_n hx hb dX12_digs_151 rfl (lv_at hl 4 rfl) ?_
          refine lv_aload_n hx hb dX12_digs_152 rfl (lv_at hl 3 rfl) ?_
          refine dg_get (C := RX12) (T := TX12) (N := 77) hx hb hts (fun w h => bw_mem (wU_X12 w h)) hown K hP sM_0 rfl 55 (by decide) (hts _ (bw_mem wB_1132)) (fun _ h9 => h9) (v := .ref (o + 35)) (show S_41.1 0 55 = .ref (o + 35) from dg_I.rel (d := 35) I_41 sM_0 (by decide +kernel)) dX12_digs_153 ?_
          refine lv_iload_n hx hb dX12_digs_156 rfl (lv_at hl 2 rfl) ?_
          have hin_43 : vp_in x_11 352 := (dk_inv (by omega) (by omega))
          refine dg_iald hx hb K hP sM_35 hin_43 dX12_digs_157 (fun y_44 ey_44 => ?_)
          obtain rfl : x_21 = y_44 := ((ey_44.trans (congrFun ((dg_uf_ne e_41 (by decide)).trans ((m_37.2 35 _ sM_35 (by decide)).1.trans (m_34.2 35 _ sM_35 (by decide)).1)) _)).trans ex_21.symm).symm
          refine lv_iload_n hx hb dX12_digs_158 rfl (lv_at hl 1 rfl) ?_
          refine lv_iload hx hb dX12_digs_159 (lv_at hl 0 rfl) ?_
          refine dg_callv hS hA1 hA (va_runV (As := [.int a1, .int x_21, .int x_13, .int x_36]) (rest := []) F (c_m_writesDown l g D o S_41 a1 (by omega) x_21 x_13 x_36 I_41 H.size) (cwV 4 hts (bw_V wB_1180 wB_1181 wB_1182 wB_297 wB_1179) rfl rfl rfl (by decide +kernel) ⟨Nat.le_of_ble_eq_true rfl, Nat.le_of_ble_eq_true rfl⟩) (dg_preV sM_0 rfl K ST hP hS hA1 hA) rfl rfl hl.1 rfl (lv_room (Nat.le_of_ble_eq_true rfl)) dX12_digs_161 ⟨Nat.le_of_ble_eq_true rfl, Nat.le_of_ble_eq_true rfl⟩) (fun S_45 hw_45 H locs hP hS => ?_)
          obtain ⟨I_45, m_45, -⟩ := hw_45
          have M_45 := dg_sm.tr M_41 m_45 (by decide) (by decide)
          refine lv_aload_n hx hb dX12_digs_164 rfl (lv_at hl 3 rfl) ?_
          refine dg_get (C := RX12) (T := TX12) (N := 77) hx hb hts (fun w h => bw_mem (wU_X12 w h)) hown K hP sM_0 rfl 57 (by decide) (hts _ (bw_mem wB_1117)) (fun _ h9 => h9) (v := .ref (o + 37)) (show S_45.1 0 57 = .ref (o + 37) from dg_I.rel (d := 37) I_45 sM_0 (by decide +kernel)) dX12_digs_165 ?_
          refine lv_bipush (v := 10) hx hb dX12_digs_168 (by decide +kernel) ?_
          refine lv_iload_n hx hb dX12_digs_170 rfl (lv_at hl 4 rfl) ?_
          refine lv_imul hx hb dX12_digs_171 ?_
          refine lv_topi (fun x_46 ex_46 => ?_)
          have jx_46 : (x_46).toInt = 10 * (a1).toInt := by rw [ex_46]; exact dk_mulT (by decide +kernel) rfl (by omega) (by omega)
          refine lv_iload hx hb dX12_digs_172 (lv_at hl 0 rfl) ?_
          refine lv_iadd hx hb dX12_digs_174 ?_
          refine lv_topi (fun x_47 ex_47 => ?_)
          have jx_47 : (x_47).toInt = (x_46).toInt + (x_36).toInt := by rw [ex_47]; exact dk_addT rfl rfl (by omega) (by omega)
          have hin_48 : vp_in x_47 220 := (dk_inv (by omega) (by omega))
          refine dg_iald hx hb K hP sM_37 hin_48 dX12_digs_175 (fun x_49 ex_49 => ?_)
          refine lv_bipush (v := 99) hx hb dX12_digs_176 (by decide +kernel) ?_
          refine lv_icmp_ge (tgt := 197) hx hb dX12_digs_178 (by decide) (fun c_50 => ?_) (fun c_50 => ?_)
          · have jc_50 := dk_gec (k := 99) (by decide +kernel) c_50
            refine lv_iconst (v := 1) hx hb dX12_digs_197 (by decide +kernel) ?_
            have hz_51 : (1 : Int32).toInt = 1 := by decide +kernel
            refine W.widen (k := 0) (n := 0) (Nat.le_of_ble_eq_true rfl) (Nat.le_of_ble_eq_true rfl) ?_
            exact dg_iret hx hb hr hlocks (by decide +kernel) hP hS ⟨I_45, M_45, (by decide +kernel), trivial⟩ dX12_digs_198
          · have jc_50 := dk_ngec (k := 99) (by decide +kernel) c_50
            refine lv_aload_n hx hb dX12_digs_181 rfl (lv_at hl 3 rfl) ?_
            refine dg_get (C := RX12) (T := TX12) (N := 77) hx hb hts (fun w h => bw_mem (wU_X12 w h)) hown K hP sM_0 rfl 57 (by decide) (hts _ (bw_mem wB_1117)) (fun _ h9 => h9) (v := .ref (o + 37)) (show S_45.1 0 57 = .ref (o + 37) from dg_I.rel (d := 37) I_45 sM_0 (by decide +kernel)) dX12_digs_182 ?_
            refine lv_bipush (v := 10) hx hb dX12_digs_185 (by decide +kernel) ?_
            refine lv_iload_n hx hb dX12_digs_187 rfl (lv_at hl 4 rfl) ?_
            refine lv_imul hx hb dX12_digs_188 ?_
            refine lv_topi (fun x_52 ex_52 => ?_)
            have jx_52 : (x_52).toInt = 10 * (a1).toInt := by rw [ex_52]; exact dk_mulT (by decide +kernel) rfl (by omega) (by omega)
            refine lv_iload hx hb dX12_digs_189 (lv_at hl 0 rfl) ?_
            refine lv_iadd hx hb dX12_digs_191 ?_
            refine lv_topi (fun x_53 ex_53 => ?_)
            have jx_53 : (x_53).toInt = (x_52).toInt + (x_36).toInt := by rw [ex_53]; exact dk_addT rfl rfl (by omega) (by omega)
            refine lv_dup2_11 hx hb dX12_digs_192 rfl rfl ?_
            have hin_54 : vp_in x_53 220 := (dk_inv (by omega) (by omega))
            refine dg_iald hx hb K hP sM_37 hin_54 dX12_digs_193 (fun x_55 ex_55 => ?_)
            have htw_55 : (x_53 : Int32).toInt = (x_47 : Int32).toInt → (x_55).toInt = (x_49 : Int32).toInt := fun h => by have h9 := Int32.toInt_inj.mp h; rw [ex_55, h9]; exact congrArg Int32.toInt ex_49.symm
            refine lv_iconst (v := 1) hx hb dX12_digs_194 (by decide +kernel) ?_
            refine lv_iadd hx hb dX12_digs_195 ?_
            refine lv_topi (fun x_57 ex_57 => ?_)
            have hin_58 : vp_in x_53 220 := (dk_inv (by omega) (by omega))
            refine dg_iast hx hb K hP hS hA1 sM_37 hin_58 dX12_digs_196 (fun S_59 e_59 H locs hP hS => ?_)
            have I_59 := dg_I.uf0 I_45 e_59 sM_37 (by decide +kernel)
            have M_59 := dg_sm.uf M_45 e_59 sM_37 (by decide)
            refine lv_iconst (v := 1) hx hb dX12_digs_197 (by decide +kernel) ?_
            have hz_60 : (1 : Int32).toInt = 1 := by decide +kernel
            refine W.widen (k := 0) (n := 0) (Nat.le_of_ble_eq_true rfl) (Nat.le_of_ble_eq_true rfl) ?_
            exact dg_iret hx hb hr hlocks (by decide +kernel) hP hS ⟨I_59, M_59, (by decide +kernel), trivial⟩ dX12_digs_198
        · have jc_35 := dk_neqc (k := 0) (by decide +kernel) c_35
          refine lv_aload_n hx hb dX12_digs_86 rfl (lv_at hl 2 rfl) ?_
          refine dg_get (C := RX12) (T := TX12) (N := 77) hx hb hts (fun w h => bw_mem (wU_X12 w h)) hown K hP sM_0 rfl 51 (by decide) (hts _ (bw_mem wB_1090)) (fun _ h9 => h9) (v := .ref (o + 31)) (show S_34.1 0 51 = .ref (o + 31) from dg_I.rel (d := 31) I_34 sM_0 (by decide +kernel)) dX12_digs_87 ?_
          refine lv_bipush (v := 64) hx hb dX12_digs_90 (by decide +kernel) ?_
          refine lv_iload_n hx hb dX12_digs_92 rfl (lv_at hl 3 rfl) ?_
          refine lv_imul hx hb dX12_digs_93 ?_
          refine lv_topi (fun x_61 ex_61 => ?_)
          have jx_61 : (x_61).toInt = 64 * (a1).toInt := by rw [ex_61]; exact dk_mulT (by decide +kernel) rfl (by omega) (by omega)
          refine lv_iload_n hx hb dX12_digs_94 rfl (lv_at hl 0 rfl) ?_
          refine lv_iadd hx hb dX12_digs_95 ?_
          refine lv_topi (fun x_62 ex_62 => ?_)
          have jx_62 : (x_62).toInt = (x_61).toInt + (x_13).toInt := by rw [ex_62]; exact dk_addT rfl rfl (by omega) (by omega)
          refine lv_iconst (v := 0) hx hb dX12_digs_96 (by decide +kernel) ?_
          have hin_63 : vp_in x_62 1408 := (dk_inv (by omega) (by omega))
          have hz_65 : (0 : Int32).toInt = 0 := by decide +kernel
          refine dg_iast hx hb K hP hS hA1 sM_31 hin_63 dX12_digs_97 (fun S_64 e_64 H locs hP hS => ?_)
          have I_64 := dg_I.ufu (lo := (-1)) (hi := 9) I_34 e_64 sM_31 (by decide +kernel) (show (-1) ≤ ((0 : Int32)).toInt ∧ ((0 : Int32)).toInt ≤ 9 from (by decide +kernel))
          have M_64 := dg_sm.uf M_34 e_64 sM_31 (by decide)
          refine lv_aload_n hx hb dX12_digs_98 rfl (lv_at hl 2 rfl) ?_
          refine dg_get (C := RX12) (T := TX12) (N := 77) hx hb hts (fun w h => bw_mem (wU_X12 w h)) hown K hP sM_0 rfl 53 (by decide) (hts _ (bw_mem wB_1130)) (fun _ h9 => h9) (v := .ref (o + 33)) (show S_64.1 0 53 = .ref (o + 33) from dg_I.rel (d := 33) I_64 sM_0 (by decide +kernel)) dX12_digs_99 ?_
          refine lv_iload_n hx hb dX12_digs_102 rfl (lv_at hl 3 rfl) ?_
          refine lv_dup2_11 hx hb dX12_digs_103 rfl rfl ?_
          have hin_66 : vp_in a1 22 := (dk_inv (by omega) (by omega))
          refine dg_iald hx hb K hP sM_33 hin_66 dX12_digs_104 (fun y_67 ey_67 => ?_)
          obtain rfl : x_19 = y_67 := ((ey_67.trans (congrFun ((dg_uf_ne e_64 (by decide)).trans (m_34.2 33 _ sM_33 (by decide)).1) _)).trans ex_19.symm).symm
          refine lv_iconst (v := 1) hx hb dX12_digs_105 (by decide +kernel) ?_
          refine lv_aload_n hx hb dX12_digs_106 rfl (lv_at hl 2 rfl) ?_
          refine dg_get (C := RX12) (T := TX12) (N := 77) hx hb hts (fun w h => bw_mem (wU_X12 w h)) hown K hP sM_0 rfl 55 (by decide) (hts _ (bw_mem wB_1132)) (fun _ h9 => h9) (v := .ref (o + 35)) (show S_64.1 0 55 = .ref (o + 35) from dg_I.rel (d := 35) I_64 sM_0 (by decide +kernel)) dX12_digs_107 ?_
          refine lv_iload_n hx hb dX12_digs_110 rfl (lv_at hl 1 rfl) ?_
          have hin_68 : vp_in x_11 352 := (dk_inv (by omega) (by omega))
          refine dg_iald hx hb K hP sM_35 hin_68 dX12_digs_111 (fun y_69 ey_69 => ?_)
          obtain rfl : x_21 = y_69 := ((ey_69.trans (congrFun ((dg_uf_ne e_64 (by decide)).trans (m_34.2 35 _ sM_35 (by decide)).1) _)).trans ex_21.symm).symm
          refine lv_ishl hx hb dX12_digs_112 ?_
          refine lv_topi (fun x_70 ex_70 => ?_)
          refine lv_ior hx hb dX12_digs_113 ?_
          refine lv_topi (fun x_71 ex_71 => ?_)
          have hin_72 : vp_in a1 22 := (dk_inv (by omega) (by omega))
          refine dg_iast hx hb K hP hS hA1 sM_33 hin_72 dX12_digs_114 (fun S_73 e_73 H locs hP hS => ?_)
          have I_73 := dg_I.uf0 I_64 e_73 sM_33 (by decide +kernel)
          have M_73 := dg_sm.uf M_64 e_73 sM_33 (by decide)
          refine lv_aload_n hx hb dX12_digs_115 rfl (lv_at hl 2 rfl) ?_
          refine lv_iload_n hx hb dX12_digs_116 rfl (lv_at hl 3 rfl) ?_
          refine lv_aload_n hx hb dX12_digs_117 rfl (lv_at hl 2 rfl) ?_
          refine dg_get (C := RX12) (T := TX12) (N := 77) hx hb hts (fun w h => bw_mem (wU_X12 w h)) hown K hP sM_0 rfl 55 (by decide) (hts _ (bw_mem wB_1132)) (fun _ h9 => h9) (v := .ref (o + 35)) (show S_73.1 0 55 = .ref (o + 35) from dg_I.rel (d := 35) I_73 sM_0 (by decide +kernel)) dX12_digs_118 ?_
          refine lv_iload_n hx hb dX12_digs_121 rfl (lv_at hl 1 rfl) ?_
          have hin_74 : vp_in x_11 352 := (dk_inv (by omega) (by omega))
          refine dg_iald hx hb K hP sM_35 hin_74 dX12_digs_122 (fun y_75 ey_75 => ?_)
          obtain rfl : x_21 = y_75 := ((ey_75.trans (congrFun ((dg_uf_ne e_73 (by decide)).trans ((dg_uf_ne e_64 (by decide)).trans (m_34.2 35 _ sM_35 (by decide)).1)) _)).trans ex_21.symm).symm
          refine lv_iload_n hx hb dX12_digs_123 rfl (lv_at hl 0 rfl) ?_
          refine lv_iconst (v := (-1)) hx hb dX12_digs_124 (by decide +kernel) ?_
          refine dg_callv hS hA1 hA (va_runV (As := [.int a1, .int x_21, .int x_13, .int (-1)]) (rest := []) F (c_m_writesDown l g D o S_73 a1 (by omega) x_21 x_13 (-1) I_73 H.size) (cwV 4 hts (bw_V wB_1180 wB_1181 wB_1182 wB_297 wB_1179) rfl rfl rfl (by decide +kernel) ⟨Nat.le_of_ble_eq_true rfl, Nat.le_of_ble_eq_true rfl⟩) (dg_preV sM_0 rfl K ST hP hS hA1 hA) rfl rfl hl.1 rfl (lv_room (Nat.le_of_ble_eq_true rfl)) dX12_digs_125 ⟨Nat.le_of_ble_eq_true rfl, Nat.le_of_ble_eq_true rfl⟩) (fun S_76 hw_76 H locs hP hS => ?_)
          obtain ⟨I_76, m_76, -⟩ := hw_76
          have M_76 := dg_sm.tr M_73 m_76 (by decide) (by decide)
          refine lv_iconst (v := 0) hx hb dX12_digs_128 (by decide +kernel) ?_
          have hz_77 : (0 : Int32).toInt = 0 := by decide +kernel
          refine W.widen (k := 0) (n := 0) (Nat.le_of_ble_eq_true rfl) (Nat.le_of_ble_eq_true rfl) ?_
          exact dg_iret hx hb hr hlocks (by decide +kernel) hP hS ⟨I_76, M_76, (by decide +kernel), trivial⟩ dX12_digs_129
      · have jc_32 := dk_eqc (k := 0) (by decide +kernel) c_32
        refine lv_iconst (v := 0) hx hb dX12_digs_75 (by decide +kernel) ?_
        have hz_78 : (0 : Int32).toInt = 0 := by decide +kernel
        refine W.widen (k := 0) (n := 0) (Nat.le_of_ble_eq_true rfl) (Nat.le_of_ble_eq_true rfl) ?_
        exact dg_iret hx hb hr hlocks (by decide +kernel) hP hS ⟨I_17, M_17, (by decide +kernel), trivial⟩ dX12_digs_76
  · have jc_4 := dk_eqc (k := 0) (by decide +kernel) c_4
    refine lv_iconst (v := 0) hx hb dX12_digs_12 (by decide +kernel) ?_
    have hz_79 : (0 : Int32).toInt = 0 := by decide +kernel
    refine W.widen (k := 0) (n := 0) (Nat.le_of_ble_eq_true rfl) (Nat.le_of_ble_eq_true rfl) ?_
    exact dg_iret hx hb hr hlocks (by decide +kernel) hP hS ⟨I, M_0, (by decide +kernel), trivial⟩ dX12_digs_13
set_option maxHeartbeats 8000000 in
set_option maxRecDepth 100000 in
theorem c_m_lightens (l : Launch) (g : Nat → ClassId) (D : va_G) (o : Nat) (S : dg_S) (a1 : Int32) (b_a1 : 0 ≤ (a1).toInt ∧ (a1).toInt ≤ 21) (ZB : ZBM S) (ZW : ZWM S) (I : CM o S) (sz : Nat) : Met l yX12_lightens (bw yX12_lightens cX12_lightens 5 none) ({ frames := 6, cells := 0, slots := 0, locals := 147 } : Room) (dk_Pc g D (dg_w g shM o rfM S) sz [.ref (o + 0), .int a1]) (va_Qv (fun S' => CM o S' ∧ dg_sm shM [] [31, 40, 41, 42, 43, 44] S S' ∧ True) (dg_B g D shM o rfM) (dg_A o shM.length sz)) 0 0 (dg_A o shM.length sz) := by
  refine dg_met (cc := cX12_lightens) (maxL := 5) (ret := none) (by decide) rfl (Nat.le_of_ble_eq_true rfl) ?_
  intro p e s m args below meth c A hAe harg hx hb hr hml hts hown hlocks hin hP K hS hA1 hA ST hsz ls hl
  rw [← hAe]
  have F : CallFix p m c cX12_lightens 5 s args (bw yX12_lightens cX12_lightens 5 none) RX12 := ⟨hx, hb, hml, hown, hts⟩
  have hl : lv_has ls 5 [(0, .ref (o + 0)), (1, .int a1)] := hl
  have M_0 : dg_sm shM [] [31, 40, 41, 42, 43, 44] S S := dg_sm.rf
  refine lv_aload_n hx hb dX12_lightens_0 rfl (lv_at hl 0 rfl) ?_
  refine lv_iload_n hx hb dX12_lightens_1 rfl (lv_at hl 1 rfl) ?_
  obtain ⟨x_1, f_x_1, b_x_1⟩ := dg_I.int (i := 0) (k := 13) (lo := 0) (hi := 1) I sM_0 (by decide +kernel)
  obtain ⟨x_2, f_x_2⟩ : ∃ x, S.2.1 4 (x_1 : Int32).toNatClampNeg = x := ⟨_, rfl⟩
  have hin_3 : vp_in (x_1 : Int32) 2 := (dk_inv (by omega) (by omega))
  have b_x_2 := dk_all_at (dg_I.row (lo := 0) (hi := 9999) I sM_4 (by decide +kernel)) hin_3 f_x_2.symm
  have ex_2 := f_x_2.symm
  obtain ⟨x_4, f_x_4, b_x_4⟩ := dg_I.int (i := 0) (k := 47) (lo := 0) (hi := 1) I sM_0 (by decide +kernel)
  have zb_x_2 : (x_2).toInt ≤ 63 := by rw [ex_2]; exact (ZB x_1 x_4 f_x_1 f_x_4).2.2.1
  refine dg_callv hS hA1 hA (va_runV (As := [.int a1]) (rest := []) F (c_m_measures l g D o S a1 (by omega) x_1 f_x_1 (by omega) x_2 f_x_2 (by omega) ZB I s.heap.size) (cwV 1 hts (bw_V wB_1161 wB_1162 wB_1163 wB_297 wB_1160) rfl rfl rfl (by decide +kernel) ⟨Nat.le_of_ble_eq_true rfl, Nat.le_of_ble_eq_true rfl⟩) (dg_preV sM_0 rfl K ST hP hS hA1 hA) rfl rfl hl.1 rfl (lv_room (Nat.le_of_ble_eq_true rfl)) dX12_lightens_2 ⟨Nat.le_of_ble_eq_true rfl, Nat.le_of_ble_eq_true rfl⟩) (fun S_5 hw_5 H locs hP hS => ?_)
  obtain ⟨I_5, m_5, -⟩ := hw_5
  have M_5 := dg_sm.tr M_0 m_5 (by decide) (by decide)
  refine lv_iconst (v := 0) hx hb dX12_lightens_5 (by decide +kernel) ?_
  refine lv_istore_n (lv' := [(2, .int 0), (0, .ref (o + 0)), (1, .int a1)]) hx hb dX12_lightens_6 rfl hl (by decide) rfl (fun ls hl => ?_)
  have J_412 : ∀ (x_247 : Int32), (64 ≤ (x_247).toInt ∧ (x_247).toInt ≤ 2147483647) → ∀ S_411 : dg_S, CM o S_411 → dg_sm shM [] [31, 40, 41, 42, 43, 44] S S_411 → ∀ (H : Heap) (locs : List Loc), va_P D vwCl (dg_w g shM o rfM S_411) H → va_S A s.heap H locs → ∀ ls : Array Slot, lv_has ls 5 [(2, .int x_247), (0, .ref (o + 0)), (1, .int a1)] → W p l e ({ frames := 6, cells := 0, slots := 0, locals := 147 } : Room) s m args below meth c H locs 0 0 (MQ below (va_Qv (fun S' => CM o S' ∧ dg_sm shM [] [31, 40, 41, 42, 43, 44] S S' ∧ True) (dg_B g D shM o rfM) A) args s 0 0 A) (F0 m 113 ls []) := by
    intro x_247 b_x_247 S_411 I_411 M_411 H locs hP hS ls hl
    refine lv_iconst (v := 0) hx hb dX12_lightens_113 (by decide +kernel) ?_
    refine lv_istore_n (lv' := [(2, .int 0), (0, .ref (o + 0)), (1, .int a1)]) hx hb dX12_lightens_114 rfl hl (by decide) rfl (fun ls hl => ?_)
    have L_549 : ∀ (n : Nat) (x_547 : Int32), (0 ≤ (x_547).toInt ∧ (x_547).toInt ≤ 64) → ((65 - (x_547).toInt).toNat < n) → ∀ S_548 : dg_S, CM o S_548 → dg_sm shM [] [31, 40, 41, 42, 43, 44] S S_548 → ∀ (H : Heap) (locs : List Loc), va_P D vwCl (dg_w g shM o rfM S_548) H → va_S A s.heap H locs → ∀ ls : Array Slot, lv_has ls 5 [(2, .int x_547), (0, .ref (o + 0)), (1, .int a1)] → W p l e ({ frames := 6, cells := 0, slots := 0, locals := 147 } : Room) s m args below meth c H locs 0 0 (MQ below (va_Qv (fun S' => CM o S' ∧ dg_sm shM [] [31, 40, 41, 42, 43, 44] S S' ∧ True) (dg_B g D shM o rfM) A) args s 0 0 A) (F0 m 115 ls []) := by
      intro n
      induction n with
      | zero =>
        intro x_547 b_x_547 hmu S_548 I_548 M_548 H locs hP hS ls hl
        omega
      | succ n ih =>
        intro x_547 b_x_547 hmu S_548 I_548 M_548 H locs hP hS ls hl
        refine lv_iload_n hx hb dX12_lightens_115 rfl (lv_at hl 0 rfl) ?_
        refine lv_bipush (v := 64) hx hb dX12_lightens_116 (by decide +kernel) ?_
        refine lv_icmp_ge (tgt := 185) hx hb dX12_lightens_118 (by decide) (fun c_550 => ?_) (fun c_550 => ?_)
        · have jc_550 := dk_gec (k := 64) (by decide +kernel) c_550
          refine W.widen (k := 0) (n := 0) (Nat.le_of_ble_eq_true rfl) (Nat.le_of_ble_eq_true rfl) ?_
          exact dg_vret hx hb hr hlocks hP hS ⟨I_548, M_548, trivial⟩ dX12_lightens_185
        · have jc_550 := dk_ngec (k := 64) (by decide +kernel) c_550
          refine lv_aload_n hx hb dX12_lightens_121 rfl (lv_at hl 1 rfl) ?_
          refine dg_get (C := RX12) (T := TX12) (N := 77) hx hb hts (fun w h => bw_mem (wU_X12 w h)) hown K hP sM_0 rfl 51 (by decide) (hts _ (bw_mem wB_1090)) (fun _ h9 => h9) (v := .ref (o + 31)) (show S_548.1 0 51 = .ref (o + 31) from dg_I.rel (d := 31) I_548 sM_0 (by decide +kernel)) dX12_lightens_122 ?_
          refine lv_bipush (v := 64) hx hb dX12_lightens_125 (by decide +kernel) ?_
          refine lv_iload_n hx hb dX12_lightens_127 rfl (lv_at hl 2 rfl) ?_
          refine lv_imul hx hb dX12_lightens_128 ?_
          refine lv_topi (fun x_551 ex_551 => ?_)
          have jx_551 : (x_551).toInt = 64 * (a1).toInt := by rw [ex_551]; exact dk_mulT (by decide +kernel) rfl (by omega) (by omega)
          refine lv_iload_n hx hb dX12_lightens_129 rfl (lv_at hl 0 rfl) ?_
          refine lv_iadd hx hb dX12_lightens_130 ?_
          refine lv_topi (fun x_552 ex_552 => ?_)
          have jx_552 : (x_552).toInt = (x_551).toInt + (x_547).toInt := by rw [ex_552]; exact dk_addT rfl rfl (by omega) (by omega)
          have hin_553 : vp_in x_552 1408 := (dk_inv (by omega) (by omega))
          refine dg_iald hx hb K hP sM_31 hin_553 dX12_lightens_131 (fun x_554 ex_554 => ?_)
          have b_x_554 := dk_all_at (dg_I.row (lo := (-1)) (hi := 9) I_548 sM_31 (by decide +kernel)) hin_553 ex_554
          refine lv_istore_n (lv' := [(3, .int x_554), (2, .int x_547), (0, .ref (o + 0)), (1, .int a1)]) hx hb dX12_lightens_132 rfl hl (by decide) rfl (fun ls hl => ?_)
          refine lv_aload_n hx hb dX12_lightens_133 rfl (lv_at hl 2 rfl) ?_
          refine lv_iload_n hx hb dX12_lightens_134 rfl (lv_at hl 1 rfl) ?_
          obtain ⟨x_555, f_x_555⟩ : ∃ x, S_548.2.1 2 (x_1 : Int32).toNatClampNeg = x := ⟨_, rfl⟩
          have hin_556 : vp_in (x_1 : Int32) 2 := (dk_inv (by omega) (by omega))
          have b_x_555 := dk_all_at (dg_I.row (lo := 0) (hi := 9999) I_548 sM_2 (by decide +kernel)) hin_556 f_x_555.symm
          have ex_555 := f_x_555.symm
          have zb_x_555 : (x_555).toInt ≤ 7 ∧ ((x_4 : Int32).toInt = 1 → 3 ≤ (x_555).toInt) := by rw [ex_555]; exact ⟨((ZBM.keep ZB M_548 (by decide) (by decide) (by decide) (by decide) (by decide)) x_1 x_4 ((M_548.1 0 13 _ sM_0 (by decide)).trans f_x_1) ((M_548.1 0 47 _ sM_0 (by decide)).trans f_x_4)).1, fun h9 => (((ZBM.keep ZB M_548 (by decide) (by decide) (by decide) (by decide) (by decide)) x_1 x_4 ((M_548.1 0 13 _ sM_0 (by decide)).trans f_x_1) ((M_548.1 0 47 _ sM_0 (by decide)).trans f_x_4)).2.2.2 h9).1⟩
          obtain ⟨x_557, f_x_557⟩ : ∃ x, S_548.2.1 3 (x_1 : Int32).toNatClampNeg = x := ⟨_, rfl⟩
          have hin_558 : vp_in (x_1 : Int32) 2 := (dk_inv (by omega) (by omega))
          have b_x_557 := dk_all_at (dg_I.row (lo := 0) (hi := 9999) I_548 sM_3 (by decide +kernel)) hin_558 f_x_557.symm
          have ex_557 := f_x_557.symm
          have zb_x_557 : (x_557).toInt ≤ 7 ∧ ((x_4 : Int32).toInt = 1 → 3 ≤ (x_557).toInt) := by rw [ex_557]; exact ⟨((ZBM.keep ZB M_548 (by decide) (by decide) (by decide) (by decide) (by decide)) x_1 x_4 ((M_548.1 0 13 _ sM_0 (by decide)).trans f_x_1) ((M_548.1 0 47 _ sM_0 (by decide)).trans f_x_4)).2.1, fun h9 => (((ZBM.keep ZB M_548 (by decide) (by decide) (by decide) (by decide) (by decide)) x_1 x_4 ((M_548.1 0 13 _ sM_0 (by decide)).trans f_x_1) ((M_548.1 0 47 _ sM_0 (by decide)).trans f_x_4)).2.2.2 h9).2⟩
          refine dg_calli hS hA1 hA (va_runV (As := [.int x_547]) (rest := []) F (c_m_isCellOf l g D o S_548 x_547 (by omega) x_1 ((M_548.1 0 13 _ sM_0 (by decide)).trans f_x_1) (by omega) x_4 ((M_548.1 0 47 _ sM_0 (by decide)).trans f_x_4) (by omega) x_555 f_x_555 (by omega) x_557 f_x_557 (by omega) (ZBM.keep ZB M_548 (by decide) (by decide) (by decide) (by decide) (by decide)) I_548 H.size) (cwV 1 hts (bw_V wB_1123 wB_1124 wB_1125 wB_297 wB_1122) rfl rfl rfl (by decide +kernel) ⟨Nat.le_of_ble_eq_true rfl, Nat.le_of_ble_eq_true rfl⟩) (dg_preV sM_0 rfl K ST hP hS hA1 hA) rfl rfl hl.1 rfl (lv_room (Nat.le_of_ble_eq_true rfl)) dX12_lightens_135 ⟨Nat.le_of_ble_eq_true rfl, Nat.le_of_ble_eq_true rfl⟩) (fun x_559 S_560 hw_560 H locs hP hS => ?_)
          rw [hw_560.1] at hP
          obtain ⟨hq_560, w_560_0, w_560_1, w_560_2, -⟩ := hw_560
          have w_560_0 : 0 ≤ (x_559).toInt ∧ (x_559).toInt ≤ 1 := w_560_0
          have w_560_1 : (x_559).toInt = 1 → 0 ≤ (x_547).toInt := w_560_1
          have w_560_2 : (x_559).toInt = 1 ↔ ((x_4).toInt = 1 ∧ 0 ≤ (x_547).toInt ∧ (x_547).toInt % 8 < (x_555).toInt ∧ (x_547).toInt / 8 < (x_557).toInt) := w_560_2
          have J_577 : ∀ S_576 : dg_S, CM o S_576 → dg_sm shM [] [31, 40, 41, 42, 43, 44] S S_576 → ∀ (H : Heap) (locs : List Loc), va_P D vwCl (dg_w g shM o rfM S_576) H → va_S A s.heap H locs → ∀ ls : Array Slot, lv_has ls 5 [(3, .int x_554), (2, .int x_547), (0, .ref (o + 0)), (1, .int a1)] → W p l e ({ frames := 6, cells := 0, slots := 0, locals := 147 } : Room) s m args below meth c H locs 0 0 (MQ below (va_Qv (fun S' => CM o S' ∧ dg_sm shM [] [31, 40, 41, 42, 43, 44] S S' ∧ True) (dg_B g D shM o rfM) A) args s 0 0 A) (F0 m 179 ls []) := by
            intro S_576 I_576 M_576 H locs hP hS ls hl
            obtain ⟨x_578, ex_578⟩ : ∃ z, z = x_547 + 1 := ⟨_, rfl⟩
            have jx_578 : (x_578).toInt = (x_547).toInt + 1 := by rw [ex_578]; exact dk_addT rfl (by decide +kernel) (by omega) (by omega)
            refine lv_iinc (v := x_578) (lv' := [(2, .int x_578), (3, .int x_554), (0, .ref (o + 0)), (1, .int a1)]) hx hb dX12_lightens_179 hl (k := 1) rfl (by rw [ex_578]; rfl) (by decide) rfl (fun ls hl => ?_)
            refine lv_goto (tgt := 115) hx hb dX12_lightens_182 (by decide) ?_
            exact ih x_578 (by omega) (by omega) S_576 I_576 M_576  _ _ hP hS _ (lv_sub hl [0, 2, 3] rfl)
          refine lv_if_eq (tgt := 179) hx hb dX12_lightens_138 (by decide) (fun c_579 => ?_) (fun c_579 => ?_)
          · have jc_579 := dk_eqc (k := 0) (by decide +kernel) c_579
            exact J_577   S_548 I_548 M_548  _ _ hP hS _ (lv_sub hl [0, 1, 2, 3] rfl)
          · have jc_579 := dk_neqc (k := 0) (by decide +kernel) c_579
            refine lv_iload_n hx hb dX12_lightens_141 rfl (lv_at hl 0 rfl) ?_
            refine lv_iconst (v := (-1)) hx hb dX12_lightens_142 (by decide +kernel) ?_
            refine lv_icmp_eq (tgt := 179) hx hb dX12_lightens_143 (by decide) (fun c_580 => ?_) (fun c_580 => ?_)
            · have jc_580 := dk_eqc (k := (-1)) (by decide +kernel) c_580
              exact J_577   S_548 I_548 M_548  _ _ hP hS _ (lv_sub hl [0, 1, 2, 3] rfl)
            · have jc_580 := dk_neqc (k := (-1)) (by decide +kernel) c_580
              refine lv_aload_n hx hb dX12_lightens_146 rfl (lv_at hl 2 rfl) ?_
              refine dg_get (C := RX12) (T := TX12) (N := 77) hx hb hts (fun w h => bw_mem (wU_X12 w h)) hown K hP sM_0 rfl 51 (by decide) (hts _ (bw_mem wB_1090)) (fun _ h9 => h9) (v := .ref (o + 31)) (show S_548.1 0 51 = .ref (o + 31) from dg_I.rel (d := 31) I_548 sM_0 (by decide +kernel)) dX12_lightens_147 ?_
              refine lv_bipush (v := 64) hx hb dX12_lightens_150 (by decide +kernel) ?_
              refine lv_iload_n hx hb dX12_lightens_152 rfl (lv_at hl 3 rfl) ?_
              refine lv_imul hx hb dX12_lightens_153 ?_
              refine lv_topi (fun x_581 ex_581 => ?_)
              have jx_581 : (x_581).toInt = 64 * (a1).toInt := by rw [ex_581]; exact dk_mulT (by decide +kernel) rfl (by omega) (by omega)
              refine lv_iload_n hx hb dX12_lightens_154 rfl (lv_at hl 1 rfl) ?_
              refine lv_iadd hx hb dX12_lightens_155 ?_
              refine lv_topi (fun x_582 ex_582 => ?_)
              have jx_582 : (x_582).toInt = (x_581).toInt + (x_547).toInt := by rw [ex_582]; exact dk_addT rfl rfl (by omega) (by omega)
              refine lv_iload_n hx hb dX12_lightens_156 rfl (lv_at hl 0 rfl) ?_
              refine lv_aload_n hx hb dX12_lightens_157 rfl (lv_at hl 2 rfl) ?_
              refine dg_get (C := RX12) (T := TX12) (N := 77) hx hb hts (fun w h => bw_mem (wU_X12 w h)) hown K hP sM_0 rfl 68 (by decide) (hts _ (bw_mem wB_1183)) (fun _ h9 => h9) (v := .ref (o + 44)) (show S_548.1 0 68 = .ref (o + 44) from dg_I.rel (d := 44) I_548 sM_0 (by decide +kernel)) dX12_lightens_158 ?_
              refine lv_iload_n hx hb dX12_lightens_161 rfl (lv_at hl 1 rfl) ?_
              have hin_583 : vp_in x_547 64 := (dk_inv (by omega) (by omega))
              refine dg_iald hx hb K hP sM_44 hin_583 dX12_lightens_162 (fun x_584 ex_584 => ?_)
              have b_x_584 := dk_all_at (dg_I.row (lo := 0) (hi := 9) I_548 sM_44 (by decide +kernel)) hin_583 ex_584
              have J_592 : ∀ (x_589 : Int32), ((-1) ≤ (x_589).toInt ∧ (x_589).toInt ≤ 9) → ∀ (H : Heap) (locs : List Loc), va_P D vwCl (dg_w g shM o rfM S_548) H → va_S A s.heap H locs → ∀ ls : Array Slot, lv_has ls 5 [(3, .int x_554), (2, .int x_547), (0, .ref (o + 0)), (1, .int a1)] → W p l e ({ frames := 6, cells := 0, slots := 0, locals := 147 } : Room) s m args below meth c H locs 0 0 (MQ below (va_Qv (fun S' => CM o S' ∧ dg_sm shM [] [31, 40, 41, 42, 43, 44] S S' ∧ True) (dg_B g D shM o rfM) A) args s 0 0 A) (F0 m 178 ls [.int x_589, .int x_582, .ref (o + 31)]) := by
                intro x_589 b_x_589 H locs hP hS ls hl
                have hin_593 : vp_in x_582 1408 := (dk_inv (by omega) (by omega))
                refine dg_iast hx hb K hP hS hA1 sM_31 hin_593 dX12_lightens_178 (fun S_594 e_594 H locs hP hS => ?_)
                have I_594 := dg_I.ufu (lo := (-1)) (hi := 9) I_548 e_594 sM_31 (by decide +kernel) (show (-1) ≤ (x_589).toInt ∧ (x_589).toInt ≤ 9 from (by omega))
                have M_594 := dg_sm.uf M_548 e_594 sM_31 (by decide)
                exact J_577   S_594 I_594 M_594  _ _ hP hS _ (lv_sub hl [0, 1, 2, 3] rfl)
              refine lv_icmp_le (tgt := 177) hx hb dX12_lightens_163 (by decide) (fun c_595 => ?_) (fun c_595 => ?_)
              · have jc_595 := dk_lec (k := (x_584).toInt) rfl c_595
                refine lv_iconst (v := 0) hx hb dX12_lightens_177 (by decide +kernel) ?_
                have hz_596 : (0 : Int32).toInt = 0 := by decide +kernel
                exact J_592 0 (by decide +kernel) _ _ hP hS _ (lv_sub hl [0, 1, 2, 3] rfl)
              · have jc_595 := dk_nlec (k := (x_584).toInt) rfl c_595
                refine lv_iload_n hx hb dX12_lightens_166 rfl (lv_at hl 0 rfl) ?_
                refine lv_aload_n hx hb dX12_lightens_167 rfl (lv_at hl 2 rfl) ?_
                refine dg_get (C := RX12) (T := TX12) (N := 77) hx hb hts (fun w h => bw_mem (wU_X12 w h)) hown K hP sM_0 rfl 68 (by decide) (hts _ (bw_mem wB_1183)) (fun _ h9 => h9) (v := .ref (o + 44)) (show S_548.1 0 68 = .ref (o + 44) from dg_I.rel (d := 44) I_548 sM_0 (by decide +kernel)) dX12_lightens_168 ?_
                refine lv_iload_n hx hb dX12_lightens_171 rfl (lv_at hl 1 rfl) ?_
                have hin_597 : vp_in x_547 64 := (dk_inv (by omega) (by omega))
                refine dg_iald hx hb K hP sM_44 hin_597 dX12_lightens_172 (fun y_598 ey_598 => ?_)
                obtain rfl : x_584 = y_598 := (ey_598.trans ex_584.symm).symm
                refine lv_isub hx hb dX12_lightens_173 ?_
                refine lv_topi (fun x_599 ex_599 => ?_)
                have jx_599 : (x_599).toInt = (x_554).toInt - (x_584).toInt := by rw [ex_599]; exact dk_subT rfl rfl (by omega) (by omega)
                refine lv_goto (tgt := 178) hx hb dX12_lightens_174 (by decide) ?_
                exact J_592 x_599 (by omega) _ _ hP hS _ (lv_sub hl [0, 1, 2, 3] rfl)
    have hz_600 : (0 : Int32).toInt = 0 := by decide +kernel
    have hz_601 : (0 : Int32).toInt = 0 := by decide +kernel
    exact L_549 ((65 - ((0 : Int32)).toInt).toNat + 1) 0 (by decide +kernel) (by omega) S_411 I_411 M_411  _ _ hP hS _ (lv_sub hl [0, 1, 2] rfl)
  have L_807 : ∀ (n : Nat) (x_805 : Int32), (0 ≤ (x_805).toInt ∧ (x_805).toInt ≤ 64) → ((65 - (x_805).toInt).toNat < n) → ∀ S_806 : dg_S, CM o S_806 → dg_sm shM [] [31, 40, 41, 42, 43, 44] S S_806 → ∀ (H : Heap) (locs : List Loc), va_P D vwCl (dg_w g shM o rfM S_806) H → va_S A s.heap H locs → ∀ ls : Array Slot, lv_has ls 5 [(2, .int x_805), (0, .ref (o + 0)), (1, .int a1)] → W p l e ({ frames := 6, cells := 0, slots := 0, locals := 147 } : Room) s m args below meth c H locs 0 0 (MQ below (va_Qv (fun S' => CM o S' ∧ dg_sm shM [] [31, 40, 41, 42, 43, 44] S S' ∧ True) (dg_B g D shM o rfM) A) args s 0 0 A) (F0 m 7 ls []) := by
    intro n
    induction n with
    | zero =>
      intro x_805 b_x_805 hmu S_806 I_806 M_806 H locs hP hS ls hl
      omega
    | succ n ih =>
      intro x_805 b_x_805 hmu S_806 I_806 M_806 H locs hP hS ls hl
      refine lv_iload_n hx hb dX12_lightens_7 rfl (lv_at hl 0 rfl) ?_
      refine lv_bipush (v := 64) hx hb dX12_lightens_8 (by decide +kernel) ?_
      refine lv_icmp_ge (tgt := 113) hx hb dX12_lightens_10 (by decide) (fun c_808 => ?_) (fun c_808 => ?_)
      · have jc_808 := dk_gec (k := 64) (by decide +kernel) c_808
        have hf_808 := dk_full x_805
        exact J_412 x_805 (by omega) S_806 I_806 M_806  _ _ hP hS _ (lv_sub hl [0, 1, 2] rfl)
      · have jc_808 := dk_ngec (k := 64) (by decide +kernel) c_808
        refine lv_aload_n hx hb dX12_lightens_13 rfl (lv_at hl 1 rfl) ?_
        refine dg_get (C := RX12) (T := TX12) (N := 77) hx hb hts (fun w h => bw_mem (wU_X12 w h)) hown K hP sM_0 rfl 68 (by decide) (hts _ (bw_mem wB_1183)) (fun _ h9 => h9) (v := .ref (o + 44)) (show S_806.1 0 68 = .ref (o + 44) from dg_I.rel (d := 44) I_806 sM_0 (by decide +kernel)) dX12_lightens_14 ?_
        refine lv_iload_n hx hb dX12_lightens_17 rfl (lv_at hl 0 rfl) ?_
        refine lv_iconst (v := 0) hx hb dX12_lightens_18 (by decide +kernel) ?_
        have hin_810 : vp_in x_805 64 := (dk_inv (by omega) (by omega))
        have hz_812 : (0 : Int32).toInt = 0 := by decide +kernel
        refine dg_iast hx hb K hP hS hA1 sM_44 hin_810 dX12_lightens_19 (fun S_811 e_811 H locs hP hS => ?_)
        have I_811 := dg_I.ufu (lo := 0) (hi := 9) I_806 e_811 sM_44 (by decide +kernel) (show 0 ≤ ((0 : Int32)).toInt ∧ ((0 : Int32)).toInt ≤ 9 from (by decide +kernel))
        have M_811 := dg_sm.uf M_806 e_811 sM_44 (by decide)
        refine lv_aload_n hx hb dX12_lightens_20 rfl (lv_at hl 1 rfl) ?_
        refine lv_iload_n hx hb dX12_lightens_21 rfl (lv_at hl 0 rfl) ?_
        obtain ⟨x_813, f_x_813⟩ : ∃ x, S_811.2.1 2 (x_1 : Int32).toNatClampNeg = x := ⟨_, rfl⟩
        have hin_814 : vp_in (x_1 : Int32) 2 := (dk_inv (by omega) (by omega))
        have b_x_813 := dk_all_at (dg_I.row (lo := 0) (hi := 9999) I_811 sM_2 (by decide +kernel)) hin_814 f_x_813.symm
        have ex_813 := f_x_813.symm
        have zb_x_813 : (x_813).toInt ≤ 7 ∧ ((x_4 : Int32).toInt = 1 → 3 ≤ (x_813).toInt) := by rw [ex_813]; exact ⟨((ZBM.keep (ZBM.keep ZB M_806 (by decide) (by decide) (by decide) (by decide) (by decide)) (dg_sm.uf (WF := []) (WA := [44]) dg_sm.rf e_811 sM_44 (by decide)) (by decide) (by decide) (by decide) (by decide) (by decide)) x_1 x_4 (((dg_uf_F e_811 0 13).trans (M_806.1 0 13 _ sM_0 (by decide))).trans f_x_1) (((dg_uf_F e_811 0 47).trans (M_806.1 0 47 _ sM_0 (by decide))).trans f_x_4)).1, fun h9 => (((ZBM.keep (ZBM.keep ZB M_806 (by decide) (by decide) (by decide) (by decide) (by decide)) (dg_sm.uf (WF := []) (WA := [44]) dg_sm.rf e_811 sM_44 (by decide)) (by decide) (by decide) (by decide) (by decide) (by decide)) x_1 x_4 (((dg_uf_F e_811 0 13).trans (M_806.1 0 13 _ sM_0 (by decide))).trans f_x_1) (((dg_uf_F e_811 0 47).trans (M_806.1 0 47 _ sM_0 (by decide))).trans f_x_4)).2.2.2 h9).1⟩
        obtain ⟨x_815, f_x_815⟩ : ∃ x, S_811.2.1 3 (x_1 : Int32).toNatClampNeg = x := ⟨_, rfl⟩
        have hin_816 : vp_in (x_1 : Int32) 2 := (dk_inv (by omega) (by omega))
        have b_x_815 := dk_all_at (dg_I.row (lo := 0) (hi := 9999) I_811 sM_3 (by decide +kernel)) hin_816 f_x_815.symm
        have ex_815 := f_x_815.symm
        have zb_x_815 : (x_815).toInt ≤ 7 ∧ ((x_4 : Int32).toInt = 1 → 3 ≤ (x_815).toInt) := by rw [ex_815]; exact ⟨((ZBM.keep (ZBM.keep ZB M_806 (by decide) (by decide) (by decide) (by decide) (by decide)) (dg_sm.uf (WF := []) (WA := [44]) dg_sm.rf e_811 sM_44 (by decide)) (by decide) (by decide) (by decide) (by decide) (by decide)) x_1 x_4 (((dg_uf_F e_811 0 13).trans (M_806.1 0 13 _ sM_0 (by decide))).trans f_x_1) (((dg_uf_F e_811 0 47).trans (M_806.1 0 47 _ sM_0 (by decide))).trans f_x_4)).2.1, fun h9 => (((ZBM.keep (ZBM.keep ZB M_806 (by decide) (by decide) (by decide) (by decide) (by decide)) (dg_sm.uf (WF := []) (WA := [44]) dg_sm.rf e_811 sM_44 (by decide)) (by decide) (by decide) (by decide) (by decide) (by decide)) x_1 x_4 (((dg_uf_F e_811 0 13).trans (M_806.1 0 13 _ sM_0 (by decide))).trans f_x_1) (((dg_uf_F e_811 0 47).trans (M_806.1 0 47 _ sM_0 (by decide))).trans f_x_4)).2.2.2 h9).2⟩
        refine dg_calli hS hA1 hA (va_runV (As := [.int x_805]) (rest := []) F (c_m_isCellOf l g D o S_811 x_805 (by omega) x_1 (((dg_uf_F e_811 0 13).trans (M_806.1 0 13 _ sM_0 (by decide))).trans f_x_1) (by omega) x_4 (((dg_uf_F e_811 0 47).trans (M_806.1 0 47 _ sM_0 (by decide))).trans f_x_4) (by omega) x_813 f_x_813 (by omega) x_815 f_x_815 (by omega) (ZBM.keep (ZBM.keep ZB M_806 (by decide) (by decide) (by decide) (by decide) (by decide)) (dg_sm.uf (WF := []) (WA := [44]) dg_sm.rf e_811 sM_44 (by decide)) (by decide) (by decide) (by decide) (by decide) (by decide)) I_811 H.size) (cwV 1 hts (bw_V wB_1123 wB_1124 wB_1125 wB_297 wB_1122) rfl rfl rfl (by decide +kernel) ⟨Nat.le_of_ble_eq_true rfl, Nat.le_of_ble_eq_true rfl⟩) (dg_preV sM_0 rfl K ST hP hS hA1 hA) rfl rfl hl.1 rfl (lv_room (Nat.le_of_ble_eq_true rfl)) dX12_lightens_22 ⟨Nat.le_of_ble_eq_true rfl, Nat.le_of_ble_eq_true rfl⟩) (fun x_817 S_818 hw_818 H locs hP hS => ?_)
        rw [hw_818.1] at hP
        obtain ⟨hq_818, w_818_0, w_818_1, w_818_2, -⟩ := hw_818
        have w_818_0 : 0 ≤ (x_817).toInt ∧ (x_817).toInt ≤ 1 := w_818_0
        have w_818_1 : (x_817).toInt = 1 → 0 ≤ (x_805).toInt := w_818_1
        have w_818_2 : (x_817).toInt = 1 ↔ ((x_4).toInt = 1 ∧ 0 ≤ (x_805).toInt ∧ (x_805).toInt % 8 < (x_813).toInt ∧ (x_805).toInt / 8 < (x_815).toInt) := w_818_2
        have J_848 : ∀ S_847 : dg_S, CM o S_847 → dg_sm shM [] [31, 40, 41, 42, 43, 44] S S_847 → ∀ (H : Heap) (locs : List Loc), va_P D vwCl (dg_w g shM o rfM S_847) H → va_S A s.heap H locs → ∀ ls : Array Slot, lv_has ls 5 [(2, .int x_805), (0, .ref (o + 0)), (1, .int a1)] → W p l e ({ frames := 6, cells := 0, slots := 0, locals := 147 } : Room) s m args below meth c H locs 0 0 (MQ below (va_Qv (fun S' => CM o S' ∧ dg_sm shM [] [31, 40, 41, 42, 43, 44] S S' ∧ True) (dg_B g D shM o rfM) A) args s 0 0 A) (F0 m 107 ls []) := by
          intro S_847 I_847 M_847 H locs hP hS ls hl
          obtain ⟨x_849, ex_849⟩ : ∃ z, z = x_805 + 1 := ⟨_, rfl⟩
          have jx_849 : (x_849).toInt = (x_805).toInt + 1 := by rw [ex_849]; exact dk_addT rfl (by decide +kernel) (by omega) (by omega)
          refine lv_iinc (v := x_849) (lv' := [(2, .int x_849), (0, .ref (o + 0)), (1, .int a1)]) hx hb dX12_lightens_107 hl (k := 0) rfl (by rw [ex_849]; rfl) (by decide) rfl (fun ls hl => ?_)
          refine lv_goto (tgt := 7) hx hb dX12_lightens_110 (by decide) ?_
          exact ih x_849 (by omega) (by omega) S_847 I_847 M_847  _ _ hP hS _ (lv_sub hl [0, 1, 2] rfl)
        refine lv_if_eq (tgt := 107) hx hb dX12_lightens_25 (by decide) (fun c_850 => ?_) (fun c_850 => ?_)
        · have jc_850 := dk_eqc (k := 0) (by decide +kernel) c_850
          exact J_848   S_811 I_811 M_811  _ _ hP hS _ (lv_sub hl [0, 1, 2] rfl)
        · have jc_850 := dk_neqc (k := 0) (by decide +kernel) c_850
          refine lv_aload_n hx hb dX12_lightens_28 rfl (lv_at hl 1 rfl) ?_
          refine lv_iload_n hx hb dX12_lightens_29 rfl (lv_at hl 2 rfl) ?_
          refine lv_iload_n hx hb dX12_lightens_30 rfl (lv_at hl 0 rfl) ?_
          refine dg_calli hS hA1 hA (va_runV (As := [.int a1, .int x_805]) (rest := []) F (c_m_isOpen l g D o S_811 a1 (by omega) x_805 (by omega) I_811 H.size) (cwV 2 hts (bw_V wB_1092 wB_1093 wB_1094 wB_297 wB_1091) rfl rfl rfl (by decide +kernel) ⟨Nat.le_of_ble_eq_true rfl, Nat.le_of_ble_eq_true rfl⟩) (dg_preV sM_0 rfl K ST hP hS hA1 hA) rfl rfl hl.1 rfl (lv_room (Nat.le_of_ble_eq_true rfl)) dX12_lightens_31 ⟨Nat.le_of_ble_eq_true rfl, Nat.le_of_ble_eq_true rfl⟩) (fun x_851 S_852 hw_852 H locs hP hS => ?_)
          rw [hw_852.1] at hP
          obtain ⟨hq_852, w_852_0, -⟩ := hw_852
          have w_852_0 : 0 ≤ (x_851).toInt ∧ (x_851).toInt ≤ 1 := w_852_0
          refine lv_if_ne (tgt := 107) hx hb dX12_lightens_34 (by decide) (fun c_853 => ?_) (fun c_853 => ?_)
          · have jc_853 := dk_neqc (k := 0) (by decide +kernel) c_853
            exact J_848   S_811 I_811 M_811  _ _ hP hS _ (lv_sub hl [0, 1, 2] rfl)
          · have jc_853 := dk_eqc (k := 0) (by decide +kernel) c_853
            refine lv_aload_n hx hb dX12_lightens_37 rfl (lv_at hl 1 rfl) ?_
            refine lv_iload_n hx hb dX12_lightens_38 rfl (lv_at hl 2 rfl) ?_
            refine lv_iload_n hx hb dX12_lightens_39 rfl (lv_at hl 0 rfl) ?_
            refine dg_calli hS hA1 hA (va_runV (As := [.int a1, .int x_805]) (rest := []) F (c_m_litBeside l g D o S_811 a1 (by omega) x_805 (by omega) (ZBM.keep (ZBM.keep ZB M_806 (by decide) (by decide) (by decide) (by decide) (by decide)) (dg_sm.uf (WF := []) (WA := [44]) dg_sm.rf e_811 sM_44 (by decide)) (by decide) (by decide) (by decide) (by decide) (by decide)) I_811 H.size) (cwV 2 hts (bw_V wB_1110 wB_1111 wB_1112 wB_297 wB_1109) rfl rfl rfl (by decide +kernel) ⟨Nat.le_of_ble_eq_true rfl, Nat.le_of_ble_eq_true rfl⟩) (dg_preV sM_0 rfl K ST hP hS hA1 hA) rfl rfl hl.1 rfl (lv_room (Nat.le_of_ble_eq_true rfl)) dX12_lightens_40 ⟨Nat.le_of_ble_eq_true rfl, Nat.le_of_ble_eq_true rfl⟩) (fun x_854 S_855 hw_855 H locs hP hS => ?_)
            rw [hw_855.1] at hP
            obtain ⟨hq_855, w_855_0, -⟩ := hw_855
            have w_855_0 : (-2147483648) ≤ (x_854).toInt ∧ (x_854).toInt ≤ 100000000 := w_855_0
            refine lv_ldcw hx hb hown (hts _ (bw_mem wB_1102)) dX12_lightens_43 ?_
            refine lv_icmp_ne (tgt := 52) hx hb dX12_lightens_46 (by decide) (fun c_856 => ?_) (fun c_856 => ?_)
            · have jc_856 := dk_neqc (k := 100000000) (by decide +kernel) c_856
              refine lv_aload_n hx hb dX12_lightens_52 rfl (lv_at hl 1 rfl) ?_
              refine lv_iload_n hx hb dX12_lightens_53 rfl (lv_at hl 2 rfl) ?_
              refine lv_iload_n hx hb dX12_lightens_54 rfl (lv_at hl 0 rfl) ?_
              refine dg_callv hS hA1 hA (va_runV (As := [.int a1, .int x_805]) (rest := []) F (c_m_lays l g D o S_811 a1 (by omega) x_805 (by omega) (ZBM.keep (ZBM.keep ZB M_806 (by decide) (by decide) (by decide) (by decide) (by decide)) (dg_sm.uf (WF := []) (WA := [44]) dg_sm.rf e_811 sM_44 (by decide)) (by decide) (by decide) (by decide) (by decide) (by decide)) I_811 H.size) (cwV 2 hts (bw_V wB_1152 wB_1153 wB_1154 wB_297 wB_1151) rfl rfl rfl (by decide +kernel) ⟨Nat.le_of_ble_eq_true rfl, Nat.le_of_ble_eq_true rfl⟩) (dg_preV sM_0 rfl K ST hP hS hA1 hA) rfl rfl hl.1 rfl (lv_room (Nat.le_of_ble_eq_true rfl)) dX12_lightens_55 ⟨Nat.le_of_ble_eq_true rfl, Nat.le_of_ble_eq_true rfl⟩) (fun S_857 hw_857 H locs hP hS => ?_)
              obtain ⟨I_857, m_857, -⟩ := hw_857
              have M_857 := dg_sm.tr M_811 m_857 (by decide) (by decide)
              refine lv_aload_n hx hb dX12_lightens_58 rfl (lv_at hl 1 rfl) ?_
              refine lv_iconst (v := 0) hx hb dX12_lightens_59 (by decide +kernel) ?_
              refine dg_calli hS hA1 hA (va_runV (As := [.int 0]) (rest := []) F (c_m_isTold_0 l g D o S_857 I_857 H.size) (cwV 1 hts (bw_V wB_1148 wB_1149 wB_1150 wB_297 wB_1147) rfl rfl rfl (by decide +kernel) ⟨Nat.le_of_ble_eq_true rfl, Nat.le_of_ble_eq_true rfl⟩) (dg_preV sM_0 rfl K ST hP hS hA1 hA) rfl rfl hl.1 rfl (lv_room (Nat.le_of_ble_eq_true rfl)) dX12_lightens_60 ⟨Nat.le_of_ble_eq_true rfl, Nat.le_of_ble_eq_true rfl⟩) (fun x_858 S_859 hw_859 H locs hP hS => ?_)
              rw [hw_859.1] at hP
              obtain ⟨hq_859, w_859_0, w_859_1, -⟩ := hw_859
              try rw [hq_859] at w_859_1
              have w_859_0 : 0 ≤ (x_858).toInt ∧ (x_858).toInt ≤ 1 := w_859_0
              replace w_859_1 : (x_858).toInt = 1 → ZT0M S_857 := w_859_1
              have J_877 : ∀ (x_864 : Int64), ∀ S_876 : dg_S, CM o S_876 → dg_sm shM [] [31, 40, 41, 42, 43, 44] S S_876 → S_876.2.1 44 (x_805 : Int32).toNatClampNeg = 0 → ∀ (H : Heap) (locs : List Loc), va_P D vwCl (dg_w g shM o rfM S_876) H → va_S A s.heap H locs → ∀ ls : Array Slot, lv_has ls 5 [(2, .int x_805), (0, .ref (o + 0)), (1, .int a1)] → W p l e ({ frames := 6, cells := 0, slots := 0, locals := 147 } : Room) s m args below meth c H locs 0 0 (MQ below (va_Qv (fun S' => CM o S' ∧ dg_sm shM [] [31, 40, 41, 42, 43, 44] S S' ∧ True) (dg_B g D shM o rfM) A) args s 0 0 A) (F0 m 75 ls [.long x_864]) := by
                intro x_864 S_876 I_876 M_876 frw_876_0 H locs hP hS ls hl
                refine lv_lstore_n (lv' := [(3, .long x_864), (2, .int x_805), (0, .ref (o + 0)), (1, .int a1)]) hx hb dX12_lightens_75 rfl hl (by decide) rfl (fun ls hl => ?_)
                refine lv_aload_n hx hb dX12_lightens_76 rfl (lv_at hl 2 rfl) ?_
                refine dg_get (C := RX12) (T := TX12) (N := 77) hx hb hts (fun w h => bw_mem (wU_X12 w h)) hown K hP sM_0 rfl 68 (by decide) (hts _ (bw_mem wB_1183)) (fun _ h9 => h9) (v := .ref (o + 44)) (show S_876.1 0 68 = .ref (o + 44) from dg_I.rel (d := 44) I_876 sM_0 (by decide +kernel)) dX12_lightens_77 ?_
                refine lv_iload_n hx hb dX12_lightens_80 rfl (lv_at hl 1 rfl) ?_
                refine lv_lload_n hx hb dX12_lightens_81 rfl (lv_at hl 0 rfl) ?_
                refine lv_lconst (v := 0) hx hb dX12_lightens_82 (by decide +kernel) ?_
                refine W.lcmp hx hb dX12_lightens_83 ?_
                refine lv_topi (fun x_878 ex_878 => ?_)
                have hz_878 : (0 : Int64).toInt = 0 := by decide +kernel
                have hlc_x_878 := dk_lcmp ex_878
                have J_888 : ∀ (x_885 : Int32), (0 ≤ (x_885).toInt ∧ (x_885).toInt ≤ 9) → ∀ (H : Heap) (locs : List Loc), va_P D vwCl (dg_w g shM o rfM S_876) H → va_S A s.heap H locs → ∀ ls : Array Slot, lv_has ls 5 [(3, .long x_864), (2, .int x_805), (0, .ref (o + 0)), (1, .int a1)] → W p l e ({ frames := 6, cells := 0, slots := 0, locals := 147 } : Room) s m args below meth c H locs 0 0 (MQ below (va_Qv (fun S' => CM o S' ∧ dg_sm shM [] [31, 40, 41, 42, 43, 44] S S' ∧ True) (dg_B g D shM o rfM) A) args s 0 0 A) (F0 m 106 ls [.int x_885, .int x_805, .ref (o + 44)]) := by
                  intro x_885 b_x_885 H locs hP hS ls hl
                  have hin_889 : vp_in x_805 64 := (dk_inv (by omega) (by omega))
                  refine dg_iast hx hb K hP hS hA1 sM_44 hin_889 dX12_lightens_106 (fun S_890 e_890 H locs hP hS => ?_)
                  have I_890 := dg_I.ufu (lo := 0) (hi := 9) I_876 e_890 sM_44 (by decide +kernel) (show 0 ≤ (x_885).toInt ∧ (x_885).toInt ≤ 9 from (by omega))
                  have M_890 := dg_sm.uf M_876 e_890 sM_44 (by decide)
                  exact J_848   S_890 I_890 M_890  _ _ hP hS _ (lv_sub hl [1, 2, 3] rfl)
                refine lv_if_ge (tgt := 91) hx hb dX12_lightens_84 (by decide) (fun c_891 => ?_) (fun c_891 => ?_)
                · have jc_891 := dk_gec (k := 0) (by decide +kernel) c_891
                  refine lv_lload_n hx hb dX12_lightens_91 rfl (lv_at hl 0 rfl) ?_
                  refine lv_ldc2 hx hb hown (hts _ (bw_mem wB_1159)) dX12_lightens_92 ?_
                  refine W.lcmp hx hb dX12_lightens_95 ?_
                  refine lv_topi (fun x_892 ex_892 => ?_)
                  have hz_892 : (9 : Int64).toInt = 9 := by decide +kernel
                  have hlc_x_892 := dk_lcmp ex_892
                  refine lv_if_le (tgt := 104) hx hb dX12_lightens_96 (by decide) (fun c_894 => ?_) (fun c_894 => ?_)
                  · have jc_894 := dk_lec (k := 0) (by decide +kernel) c_894
                    refine lv_lload_n hx hb dX12_lightens_104 rfl (lv_at hl 0 rfl) ?_
                    obtain ⟨x_895, ex_895⟩ : ∃ z, (x_864 : Int64).toInt32 = z := ⟨_, rfl⟩
                    refine lv_l2i (v := x_895) hx hb dX12_lightens_105 ex_895 ?_
                    have hli_x_895 := dk_l2i ex_895
                    exact J_888 x_895 (by omega) _ _ hP hS _ (lv_sub hl [0, 1, 2, 3] rfl)
                  · have jc_894 := dk_nlec (k := 0) (by decide +kernel) c_894
                    refine lv_bipush (v := 9) hx hb dX12_lightens_99 (by decide +kernel) ?_
                    refine lv_goto (tgt := 106) hx hb dX12_lightens_101 (by decide) ?_
                    have hz_896 : (9 : Int32).toInt = 9 := by decide +kernel
                    exact J_888 9 (by decide +kernel) _ _ hP hS _ (lv_sub hl [0, 1, 2, 3] rfl)
                · have jc_891 := dk_ngec (k := 0) (by decide +kernel) c_891
                  refine lv_iconst (v := 0) hx hb dX12_lightens_87 (by decide +kernel) ?_
                  refine lv_goto (tgt := 106) hx hb dX12_lightens_88 (by decide) ?_
                  have hz_897 : (0 : Int32).toInt = 0 := by decide +kernel
                  exact J_888 0 (by decide +kernel) _ _ hP hS _ (lv_sub hl [0, 1, 2, 3] rfl)
              refine lv_if_eq (tgt := 74) hx hb dX12_lightens_63 (by decide) (fun c_898 => ?_) (fun c_898 => ?_)
              · have jc_898 := dk_eqc (k := 0) (by decide +kernel) c_898
                refine lv_lconst (v := 1) hx hb dX12_lightens_74 (by decide +kernel) ?_
                exact J_877 1  S_857 I_857 M_857 ((congrFun (m_857.2 44 _ sM_44 (by decide)).1 _).trans ((congrFun (dg_uf_at e_811) _).trans (dg_upd_at rfl))) _ _ hP hS _ (lv_sub hl [0, 1, 2] rfl)
              · have jc_898 := dk_neqc (k := 0) (by decide +kernel) c_898
                have T0_h898 : ZT0M S_857 := w_859_1 (by omega)
                refine lv_aload_n hx hb dX12_lightens_66 rfl (lv_at hl 1 rfl) ?_
                refine lv_iconst (v := 0) hx hb dX12_lightens_67 (by decide +kernel) ?_
                refine dg_calll hS hA1 hA (va_runV (As := [.int 0]) (rest := []) F (c_m_reckons_0 l g D o S_857 (ZWM.keep (ZWM.keep (ZWM.keep ZW M_806 (by decide) (by decide) (by decide) (by decide)) (dg_sm.uf (WF := []) (WA := [44]) dg_sm.rf e_811 sM_44 (by decide)) (by decide) (by decide) (by decide) (by decide)) m_857 (by decide) (by decide) (by decide) (by decide)) T0_h898 I_857 H.size) (cwV 1 hts (bw_V wB_1156 wB_1157 wB_1158 wB_297 wB_1155) rfl rfl rfl (by decide +kernel) ⟨Nat.le_of_ble_eq_true rfl, Nat.le_of_ble_eq_true rfl⟩) (dg_preV sM_0 rfl K ST hP hS hA1 hA) rfl rfl hl.1 rfl (lv_room (Nat.le_of_ble_eq_true rfl)) dX12_lightens_68 ⟨Nat.le_of_ble_eq_true rfl, Nat.le_of_ble_eq_true rfl⟩) (fun x_900 S_901 hw_901 H locs hP hS => ?_)
                obtain ⟨I_901, m_901, -⟩ := hw_901
                have M_901 := dg_sm.tr M_857 m_901 (by decide) (by decide)
                refine lv_goto (tgt := 75) hx hb dX12_lightens_71 (by decide) ?_
                exact J_877 x_900  S_901 I_901 M_901 ((congrFun ((m_901.2 44 _ sM_44 (by decide)).1.trans (m_857.2 44 _ sM_44 (by decide)).1) _).trans ((congrFun (dg_uf_at e_811) _).trans (dg_upd_at rfl))) _ _ hP hS _ (lv_sub hl [0, 1, 2] rfl)
            · have jc_856 := dk_eqc (k := 100000000) (by decide +kernel) c_856
              refine lv_goto (tgt := 107) hx hb dX12_lightens_49 (by decide) ?_
              exact J_848   S_811 I_811 M_811  _ _ hP hS _ (lv_sub hl [0, 1, 2] rfl)
  have hz_902 : (0 : Int32).toInt = 0 := by decide +kernel
  have hz_903 : (0 : Int32).toInt = 0 := by decide +kernel
  exact L_807 ((65 - ((0 : Int32)).toInt).toNat + 1) 0 (by decide +kernel) (by omega) S_5 I_5 M_5  _ _ hP hS _ (lv_sub hl [0, 1, 2] rfl)
set_option maxHeartbeats 8000000 in
set_option maxRecDepth 100000 in
theorem c_m_ticks (l : Launch) (g : Nat → ClassId) (D : va_G) (o : Nat) (S : dg_S) (a1 : Int32) (b_a1 : 0 ≤ (a1).toInt ∧ (a1).toInt ≤ 21) (s0 : Int32) (f_s0 : S.2.1 29 (a1 : Int32).toNatClampNeg = s0) (b_s0 : 0 ≤ (s0).toInt ∧ (s0).toInt ≤ 1999) (hs0 : (a1).toInt ≠ 1 → (s0).toInt ≤ 998) (ZB : ZBM S) (ZS : ZSM S) (ZW : ZWM S) (I : CM o S) (sz : Nat) : Met l yX12_ticks (bw yX12_ticks cX12_ticks 3 (some .int)) ({ frames := 8, cells := 0, slots := 0, locals := 195 } : Room) (dk_Pc g D (dg_w g shM o rfM S) sz [.ref (o + 0), .int a1]) (va_Qi (fun (r : Int32) S' => CM o S' ∧ dg_sm shM [] [29, 31, 33, 37, 38, 39, 40, 41, 42, 43, 44] S S' ∧ (0 ≤ (r).toInt ∧ (r).toInt ≤ 1) ∧ (∀ x9 : Int32, S'.2.1 29 (a1 : Int32).toNatClampNeg = x9 → ((x9).toInt = (s0).toInt + 1)) ∧ ZSM S' ∧ True) (dg_B g D shM o rfM) (dg_A o shM.length sz)) 0 0 (dg_A o shM.length sz) := by
  refine dg_met (cc := cX12_ticks) (maxL := 3) (ret := (some .int)) (by decide) rfl (Nat.le_of_ble_eq_true rfl) ?_
  intro p e s m args below meth c A hAe harg hx hb hr hml hts hown hlocks hin hP K hS hA1 hA ST hsz ls hl
  rw [← hAe]
  have F : CallFix p m c cX12_ticks 3 s args (bw yX12_ticks cX12_ticks 3 (some .int)) RX12 := ⟨hx, hb, hml, hown, hts⟩
  have hl : lv_has ls 3 [(0, .ref (o + 0)), (1, .int a1)] := hl
  have M_0 : dg_sm shM [] [29, 31, 33, 37, 38, 39, 40, 41, 42, 43, 44] S S := dg_sm.rf
  refine lv_aload_n hx hb dX12_ticks_0 rfl (lv_at hl 0 rfl) ?_
  refine lv_iload_n hx hb dX12_ticks_1 rfl (lv_at hl 1 rfl) ?_
  refine dg_calli hS hA1 hA (va_runV (As := [.int a1]) (rest := []) F (c_m_digs l g D o S a1 (by omega) ZB ZW I s.heap.size) (cwV 1 hts (bw_V wB_1185 wB_1186 wB_1187 wB_297 wB_1184) rfl rfl rfl (by decide +kernel) ⟨Nat.le_of_ble_eq_true rfl, Nat.le_of_ble_eq_true rfl⟩) (dg_preV sM_0 rfl K ST hP hS hA1 hA) rfl rfl hl.1 rfl (lv_room (Nat.le_of_ble_eq_true rfl)) dX12_ticks_2 ⟨Nat.le_of_ble_eq_true rfl, Nat.le_of_ble_eq_true rfl⟩) (fun x_1 S_2 hw_2 H locs hP hS => ?_)
  obtain ⟨I_2, m_2, w_2_0, -⟩ := hw_2
  have M_2 := dg_sm.tr M_0 m_2 (by decide) (by decide)
  have w_2_0 : 0 ≤ (x_1).toInt ∧ (x_1).toInt ≤ 1 := w_2_0
  have J_11 : ∀ (x_4 : Int32), (0 ≤ (x_4).toInt ∧ (x_4).toInt ≤ 1) → ∀ (H : Heap) (locs : List Loc), va_P D vwCl (dg_w g shM o rfM S_2) H → va_S A s.heap H locs → ∀ ls : Array Slot, lv_has ls 3 [(0, .ref (o + 0)), (1, .int a1)] → W p l e ({ frames := 8, cells := 0, slots := 0, locals := 195 } : Room) s m args below meth c H locs 0 0 (MQ below (va_Qi (fun (r : Int32) S' => CM o S' ∧ dg_sm shM [] [29, 31, 33, 37, 38, 39, 40, 41, 42, 43, 44] S S' ∧ (0 ≤ (r).toInt ∧ (r).toInt ≤ 1) ∧ (∀ x9 : Int32, S'.2.1 29 (a1 : Int32).toNatClampNeg = x9 → ((x9).toInt = (s0).toInt + 1)) ∧ ZSM S' ∧ True) (dg_B g D shM o rfM) A) args s 0 0 A) (F0 m 13 ls [.int x_4]) := by
    intro x_4 b_x_4 H locs hP hS ls hl
    refine lv_istore_n (lv' := [(2, .int x_4), (0, .ref (o + 0)), (1, .int a1)]) hx hb dX12_ticks_13 rfl hl (by decide) rfl (fun ls hl => ?_)
    refine lv_aload_n hx hb dX12_ticks_14 rfl (lv_at hl 1 rfl) ?_
    refine lv_iload_n hx hb dX12_ticks_15 rfl (lv_at hl 2 rfl) ?_
    refine dg_callv hS hA1 hA (va_runV (As := [.int a1]) (rest := []) F (c_m_lightens l g D o S_2 a1 (by omega) (ZBM.keep ZB m_2 (by decide) (by decide) (by decide) (by decide) (by decide)) (ZWM.keep ZW m_2 (by decide) (by decide) (by decide) (by decide)) I_2 H.size) (cwV 1 hts (bw_V wB_1189 wB_1190 wB_1191 wB_297 wB_1188) rfl rfl rfl (by decide +kernel) ⟨Nat.le_of_ble_eq_true rfl, Nat.le_of_ble_eq_true rfl⟩) (dg_preV sM_0 rfl K ST hP hS hA1 hA) rfl rfl hl.1 rfl (lv_room (Nat.le_of_ble_eq_true rfl)) dX12_ticks_16 ⟨Nat.le_of_ble_eq_true rfl, Nat.le_of_ble_eq_true rfl⟩) (fun S_12 hw_12 H locs hP hS => ?_)
    obtain ⟨I_12, m_12, -⟩ := hw_12
    have M_12 := dg_sm.tr M_2 m_12 (by decide) (by decide)
    refine lv_aload_n hx hb dX12_ticks_19 rfl (lv_at hl 1 rfl) ?_
    refine dg_get (C := RX12) (T := TX12) (N := 77) hx hb hts (fun w h => bw_mem (wU_X12 w h)) hown K hP sM_0 rfl 49 (by decide) (hts _ (bw_mem wB_1108)) (fun _ h9 => h9) (v := .ref (o + 29)) (show S_12.1 0 49 = .ref (o + 29) from dg_I.rel (d := 29) I_12 sM_0 (by decide +kernel)) dX12_ticks_20 ?_
    refine lv_iload_n hx hb dX12_ticks_23 rfl (lv_at hl 2 rfl) ?_
    refine lv_dup2_11 hx hb dX12_ticks_24 rfl rfl ?_
    have hin_13 : vp_in a1 22 := (dk_inv (by omega) (by omega))
    refine dg_iald hx hb K hP sM_29 hin_13 dX12_ticks_25 (fun y_14 ey_14 => ?_)
    obtain rfl : s0 = y_14 := ((ey_14.trans (congrFun ((m_12.2 29 _ sM_29 (by decide)).1.trans (m_2.2 29 _ sM_29 (by decide)).1) _)).trans f_s0).symm
    refine lv_iconst (v := 1) hx hb dX12_ticks_26 (by decide +kernel) ?_
    refine lv_iadd hx hb dX12_ticks_27 ?_
    refine lv_topi (fun x_15 ex_15 => ?_)
    have jx_15 : (x_15).toInt = (s0).toInt + 1 := by rw [ex_15]; exact dk_addT rfl (by decide +kernel) (by omega) (by omega)
    have hin_16 : vp_in a1 22 := (dk_inv (by omega) (by omega))
    refine dg_iast hx hb K hP hS hA1 sM_29 hin_16 dX12_ticks_28 (fun S_17 e_17 H locs hP hS => ?_)
    have I_17 := dg_I.ufu (lo := 0) (hi := 2000) I_12 e_17 sM_29 (by decide +kernel) (show 0 ≤ (x_15).toInt ∧ (x_15).toInt ≤ 2000 from (by omega))
    have M_17 := dg_sm.uf M_12 e_17 sM_29 (by decide)
    have ZS_17 := ZSM.up (ZSM.keep (ZSM.keep ZS m_2 (by decide)) m_12 (by decide)) hin_16 e_17 (by omega)
    refine lv_iload_n hx hb dX12_ticks_29 rfl (lv_at hl 0 rfl) ?_
    refine W.widen (k := 0) (n := 0) (Nat.le_of_ble_eq_true rfl) (Nat.le_of_ble_eq_true rfl) ?_
    exact dg_iret hx hb hr hlocks rfl hP hS ⟨I_17, M_17, (by omega), (fun x9 h9 => by obtain rfl := (((congrFun (dg_uf_at e_17) _).trans (dg_upd_at rfl))).symm.trans h9; omega), ZS_17, trivial⟩ dX12_ticks_30
  refine lv_if_eq (tgt := 12) hx hb dX12_ticks_5 (by decide) (fun c_18 => ?_) (fun c_18 => ?_)
  · have jc_18 := dk_eqc (k := 0) (by decide +kernel) c_18
    refine lv_iconst (v := 0) hx hb dX12_ticks_12 (by decide +kernel) ?_
    have hz_19 : (0 : Int32).toInt = 0 := by decide +kernel
    exact J_11 0 (by decide +kernel) _ _ hP hS _ (lv_sub hl [0, 1] rfl)
  · have jc_18 := dk_neqc (k := 0) (by decide +kernel) c_18
    refine lv_iconst (v := 1) hx hb dX12_ticks_8 (by decide +kernel) ?_
    refine lv_goto (tgt := 13) hx hb dX12_ticks_9 (by decide) ?_
    have hz_20 : (1 : Int32).toInt = 1 := by decide +kernel
    exact J_11 1 (by decide +kernel) _ _ hP hS _ (lv_sub hl [0, 1] rfl)
