/-! 40.m9.lean.txt -/
theorem dX12_reachBits_0 : decode cX12_reachBits 0 = .ok (.iconst 0, 1) := by decide +kernel
theorem dX12_reachBits_1 : decode cX12_reachBits 1 = .ok (.istore_n 1, 1) := by decide +kernel
theorem dX12_reachBits_2 : decode cX12_reachBits 2 = .ok (.iconst 0, 1) := by decide +kernel
theorem dX12_reachBits_3 : decode cX12_reachBits 3 = .ok (.istore_n 2, 1) := by decide +kernel
theorem dX12_reachBits_4 : decode cX12_reachBits 4 = .ok (.iload_n 2, 1) := by decide +kernel
theorem dX12_reachBits_5 : decode cX12_reachBits 5 = .ok (.bipush 20, 2) := by decide +kernel
theorem dX12_reachBits_7 : decode cX12_reachBits 7 = .ok (.if_icmp .gt 174, 3) := by decide +kernel
theorem dX12_reachBits_10 : decode cX12_reachBits 10 = .ok (.aload_n 0, 1) := by decide +kernel
theorem dX12_reachBits_11 : decode cX12_reachBits 11 = .ok (.iconst 1, 1) := by decide +kernel
theorem dX12_reachBits_12 : decode cX12_reachBits 12 = .ok (.iconst 0, 1) := by decide +kernel
theorem dX12_reachBits_13 : decode cX12_reachBits 13 = .ok (.invokevirtual 433, 3) := by decide +kernel
theorem dX12_reachBits_16 : decode cX12_reachBits 16 = .ok (.aload_n 0, 1) := by decide +kernel
theorem dX12_reachBits_17 : decode cX12_reachBits 17 = .ok (.iload_n 2, 1) := by decide +kernel
theorem dX12_reachBits_18 : decode cX12_reachBits 18 = .ok (.putfield 204, 3) := by decide +kernel
theorem dX12_reachBits_21 : decode cX12_reachBits 21 = .ok (.iconst 0, 1) := by decide +kernel
theorem dX12_reachBits_22 : decode cX12_reachBits 22 = .ok (.istore_n 3, 1) := by decide +kernel
theorem dX12_reachBits_23 : decode cX12_reachBits 23 = .ok (.iconst 0, 1) := by decide +kernel
theorem dX12_reachBits_24 : decode cX12_reachBits 24 = .ok (.istore 4, 2) := by decide +kernel
theorem dX12_reachBits_26 : decode cX12_reachBits 26 = .ok (.aload_n 0, 1) := by decide +kernel
theorem dX12_reachBits_27 : decode cX12_reachBits 27 = .ok (.iload 4, 2) := by decide +kernel
theorem dX12_reachBits_29 : decode cX12_reachBits 29 = .ok (.iconst 0, 1) := by decide +kernel
theorem dX12_reachBits_30 : decode cX12_reachBits 30 = .ok (.bipush 30, 2) := by decide +kernel
theorem dX12_reachBits_32 : decode cX12_reachBits 32 = .ok (.invokevirtual 541, 3) := by decide +kernel
theorem dX12_reachBits_35 : decode cX12_reachBits 35 = .ok (.ifCond .eq 122, 3) := by decide +kernel
theorem dX12_reachBits_38 : decode cX12_reachBits 38 = .ok (.iconst 0, 1) := by decide +kernel
theorem dX12_reachBits_39 : decode cX12_reachBits 39 = .ok (.istore 5, 2) := by decide +kernel
theorem dX12_reachBits_41 : decode cX12_reachBits 41 = .ok (.iload 5, 2) := by decide +kernel
theorem dX12_reachBits_43 : decode cX12_reachBits 43 = .ok (.bipush 64, 2) := by decide +kernel
theorem dX12_reachBits_45 : decode cX12_reachBits 45 = .ok (.if_icmp .ge 37, 3) := by decide +kernel
theorem dX12_reachBits_48 : decode cX12_reachBits 48 = .ok (.aload_n 0, 1) := by decide +kernel
theorem dX12_reachBits_49 : decode cX12_reachBits 49 = .ok (.getfield 235, 3) := by decide +kernel
theorem dX12_reachBits_52 : decode cX12_reachBits 52 = .ok (.bipush 64, 2) := by decide +kernel
theorem dX12_reachBits_54 : decode cX12_reachBits 54 = .ok (.bipush 31, 2) := by decide +kernel
theorem dX12_reachBits_56 : decode cX12_reachBits 56 = .ok (.iload_n 2, 1) := by decide +kernel
theorem dX12_reachBits_57 : decode cX12_reachBits 57 = .ok (.imul, 1) := by decide +kernel
theorem dX12_reachBits_58 : decode cX12_reachBits 58 = .ok (.iload 4, 2) := by decide +kernel
theorem dX12_reachBits_60 : decode cX12_reachBits 60 = .ok (.iadd, 1) := by decide +kernel
theorem dX12_reachBits_61 : decode cX12_reachBits 61 = .ok (.imul, 1) := by decide +kernel
theorem dX12_reachBits_62 : decode cX12_reachBits 62 = .ok (.iload 5, 2) := by decide +kernel
theorem dX12_reachBits_64 : decode cX12_reachBits 64 = .ok (.iadd, 1) := by decide +kernel
theorem dX12_reachBits_65 : decode cX12_reachBits 65 = .ok (.aload_n 0, 1) := by decide +kernel
theorem dX12_reachBits_66 : decode cX12_reachBits 66 = .ok (.getfield 168, 3) := by decide +kernel
theorem dX12_reachBits_69 : decode cX12_reachBits 69 = .ok (.bipush 64, 2) := by decide +kernel
theorem dX12_reachBits_71 : decode cX12_reachBits 71 = .ok (.iload 5, 2) := by decide +kernel
theorem dX12_reachBits_73 : decode cX12_reachBits 73 = .ok (.iadd, 1) := by decide +kernel
theorem dX12_reachBits_74 : decode cX12_reachBits 74 = .ok (.iaload, 1) := by decide +kernel
theorem dX12_reachBits_75 : decode cX12_reachBits 75 = .ok (.iastore, 1) := by decide +kernel
theorem dX12_reachBits_76 : decode cX12_reachBits 76 = .ok (.iinc 5 1, 3) := by decide +kernel
theorem dX12_reachBits_79 : decode cX12_reachBits 79 = .ok (.goto (-38), 3) := by decide +kernel
theorem dX12_reachBits_82 : decode cX12_reachBits 82 = .ok (.iconst 0, 1) := by decide +kernel
theorem dX12_reachBits_83 : decode cX12_reachBits 83 = .ok (.istore 5, 2) := by decide +kernel
theorem dX12_reachBits_85 : decode cX12_reachBits 85 = .ok (.iload 5, 2) := by decide +kernel
theorem dX12_reachBits_87 : decode cX12_reachBits 87 = .ok (.aload_n 0, 1) := by decide +kernel
theorem dX12_reachBits_88 : decode cX12_reachBits 88 = .ok (.getfield 222, 3) := by decide +kernel
theorem dX12_reachBits_91 : decode cX12_reachBits 91 = .ok (.if_icmp .ge 54, 3) := by decide +kernel
theorem dX12_reachBits_94 : decode cX12_reachBits 94 = .ok (.iload_n 3, 1) := by decide +kernel
theorem dX12_reachBits_95 : decode cX12_reachBits 95 = .ok (.aload_n 0, 1) := by decide +kernel
theorem dX12_reachBits_96 : decode cX12_reachBits 96 = .ok (.getfield 225, 3) := by decide +kernel
theorem dX12_reachBits_99 : decode cX12_reachBits 99 = .ok (.iload 5, 2) := by decide +kernel
theorem dX12_reachBits_101 : decode cX12_reachBits 101 = .ok (.iaload, 1) := by decide +kernel
theorem dX12_reachBits_102 : decode cX12_reachBits 102 = .ok (.iload 4, 2) := by decide +kernel
theorem dX12_reachBits_104 : decode cX12_reachBits 104 = .ok (.if_icmp .ne 32, 3) := by decide +kernel
theorem dX12_reachBits_107 : decode cX12_reachBits 107 = .ok (.aload_n 0, 1) := by decide +kernel
theorem dX12_reachBits_108 : decode cX12_reachBits 108 = .ok (.getfield 168, 3) := by decide +kernel
theorem dX12_reachBits_111 : decode cX12_reachBits 111 = .ok (.bipush 64, 2) := by decide +kernel
theorem dX12_reachBits_113 : decode cX12_reachBits 113 = .ok (.aload_n 0, 1) := by decide +kernel
theorem dX12_reachBits_114 : decode cX12_reachBits 114 = .ok (.getfield 228, 3) := by decide +kernel
theorem dX12_reachBits_117 : decode cX12_reachBits 117 = .ok (.iload 5, 2) := by decide +kernel
theorem dX12_reachBits_119 : decode cX12_reachBits 119 = .ok (.iaload, 1) := by decide +kernel
theorem dX12_reachBits_120 : decode cX12_reachBits 120 = .ok (.iadd, 1) := by decide +kernel
theorem dX12_reachBits_121 : decode cX12_reachBits 121 = .ok (.iaload, 1) := by decide +kernel
theorem dX12_reachBits_122 : decode cX12_reachBits 122 = .ok (.aload_n 0, 1) := by decide +kernel
theorem dX12_reachBits_123 : decode cX12_reachBits 123 = .ok (.getfield 231, 3) := by decide +kernel
theorem dX12_reachBits_126 : decode cX12_reachBits 126 = .ok (.iload 5, 2) := by decide +kernel
theorem dX12_reachBits_128 : decode cX12_reachBits 128 = .ok (.iaload, 1) := by decide +kernel
theorem dX12_reachBits_129 : decode cX12_reachBits 129 = .ok (.if_icmp .ne 7, 3) := by decide +kernel
theorem dX12_reachBits_132 : decode cX12_reachBits 132 = .ok (.iconst 1, 1) := by decide +kernel
theorem dX12_reachBits_133 : decode cX12_reachBits 133 = .ok (.goto 4, 3) := by decide +kernel
theorem dX12_reachBits_136 : decode cX12_reachBits 136 = .ok (.iconst 0, 1) := by decide +kernel
theorem dX12_reachBits_137 : decode cX12_reachBits 137 = .ok (.iadd, 1) := by decide +kernel
theorem dX12_reachBits_138 : decode cX12_reachBits 138 = .ok (.istore_n 3, 1) := by decide +kernel
theorem dX12_reachBits_139 : decode cX12_reachBits 139 = .ok (.iinc 5 1, 3) := by decide +kernel
theorem dX12_reachBits_142 : decode cX12_reachBits 142 = .ok (.goto (-57), 3) := by decide +kernel
theorem dX12_reachBits_145 : decode cX12_reachBits 145 = .ok (.aload_n 0, 1) := by decide +kernel
theorem dX12_reachBits_146 : decode cX12_reachBits 146 = .ok (.iconst 1, 1) := by decide +kernel
theorem dX12_reachBits_147 : decode cX12_reachBits 147 = .ok (.invokevirtual 538, 3) := by decide +kernel
theorem dX12_reachBits_150 : decode cX12_reachBits 150 = .ok (.pop, 1) := by decide +kernel
theorem dX12_reachBits_151 : decode cX12_reachBits 151 = .ok (.iinc 4 1, 3) := by decide +kernel
theorem dX12_reachBits_154 : decode cX12_reachBits 154 = .ok (.goto (-128), 3) := by decide +kernel
theorem dX12_reachBits_157 : decode cX12_reachBits 157 = .ok (.iload_n 1, 1) := by decide +kernel
theorem dX12_reachBits_158 : decode cX12_reachBits 158 = .ok (.iload_n 3, 1) := by decide +kernel
theorem dX12_reachBits_159 : decode cX12_reachBits 159 = .ok (.aload_n 0, 1) := by decide +kernel
theorem dX12_reachBits_160 : decode cX12_reachBits 160 = .ok (.getfield 222, 3) := by decide +kernel
theorem dX12_reachBits_163 : decode cX12_reachBits 163 = .ok (.if_icmp .ne 9, 3) := by decide +kernel
theorem dX12_reachBits_166 : decode cX12_reachBits 166 = .ok (.iconst 1, 1) := by decide +kernel
theorem dX12_reachBits_167 : decode cX12_reachBits 167 = .ok (.iload_n 2, 1) := by decide +kernel
theorem dX12_reachBits_168 : decode cX12_reachBits 168 = .ok (.ishl, 1) := by decide +kernel
theorem dX12_reachBits_169 : decode cX12_reachBits 169 = .ok (.goto 4, 3) := by decide +kernel
theorem dX12_reachBits_172 : decode cX12_reachBits 172 = .ok (.iconst 0, 1) := by decide +kernel
theorem dX12_reachBits_173 : decode cX12_reachBits 173 = .ok (.ior, 1) := by decide +kernel
theorem dX12_reachBits_174 : decode cX12_reachBits 174 = .ok (.istore_n 1, 1) := by decide +kernel
theorem dX12_reachBits_175 : decode cX12_reachBits 175 = .ok (.iinc 2 1, 3) := by decide +kernel
theorem dX12_reachBits_178 : decode cX12_reachBits 178 = .ok (.goto (-174), 3) := by decide +kernel
theorem dX12_reachBits_181 : decode cX12_reachBits 181 = .ok (.aload_n 0, 1) := by decide +kernel
theorem dX12_reachBits_182 : decode cX12_reachBits 182 = .ok (.aload_n 0, 1) := by decide +kernel
theorem dX12_reachBits_183 : decode cX12_reachBits 183 = .ok (.getfield 63, 3) := by decide +kernel
theorem dX12_reachBits_186 : decode cX12_reachBits 186 = .ok (.aload_n 0, 1) := by decide +kernel
theorem dX12_reachBits_187 : decode cX12_reachBits 187 = .ok (.getfield 51, 3) := by decide +kernel
theorem dX12_reachBits_190 : decode cX12_reachBits 190 = .ok (.iaload, 1) := by decide +kernel
theorem dX12_reachBits_191 : decode cX12_reachBits 191 = .ok (.putfield 204, 3) := by decide +kernel
theorem dX12_reachBits_194 : decode cX12_reachBits 194 = .ok (.iload_n 1, 1) := by decide +kernel
theorem dX12_reachBits_195 : decode cX12_reachBits 195 = .ok (.ireturn, 1) := by decide +kernel
theorem dX12_reaches_0 : decode cX12_reaches 0 = .ok (.aload_n 0, 1) := by decide +kernel
theorem dX12_reaches_1 : decode cX12_reaches 1 = .ok (.getfield 156, 3) := by decide +kernel
theorem dX12_reaches_4 : decode cX12_reaches 4 = .ok (.ifCond .eq 10, 3) := by decide +kernel
theorem dX12_reaches_7 : decode cX12_reaches 7 = .ok (.aload_n 0, 1) := by decide +kernel
theorem dX12_reaches_8 : decode cX12_reaches 8 = .ok (.invokevirtual 559, 3) := by decide +kernel
theorem dX12_reaches_11 : decode cX12_reaches 11 = .ok (.goto 4, 3) := by decide +kernel
theorem dX12_reaches_14 : decode cX12_reaches 14 = .ok (.iconst (-1), 1) := by decide +kernel
theorem dX12_reaches_15 : decode cX12_reaches 15 = .ok (.ireturn, 1) := by decide +kernel
theorem dX12_tells_0 : decode cX12_tells 0 = .ok (.aload_n 0, 1) := by decide +kernel
theorem dX12_tells_1 : decode cX12_tells 1 = .ok (.getfield 156, 3) := by decide +kernel
theorem dX12_tells_4 : decode cX12_tells 4 = .ok (.ifCond .eq 12, 3) := by decide +kernel
theorem dX12_tells_7 : decode cX12_tells 7 = .ok (.iload_n 1, 1) := by decide +kernel
theorem dX12_tells_8 : decode cX12_tells 8 = .ok (.iconst 0, 1) := by decide +kernel
theorem dX12_tells_9 : decode cX12_tells 9 = .ok (.iconst 2, 1) := by decide +kernel
theorem dX12_tells_10 : decode cX12_tells 10 = .ok (.invokestatic 333, 3) := by decide +kernel
theorem dX12_tells_13 : decode cX12_tells 13 = .ok (.ifCond .ne 5, 3) := by decide +kernel
theorem dX12_tells_16 : decode cX12_tells 16 = .ok (.iconst (-1), 1) := by decide +kernel
theorem dX12_tells_17 : decode cX12_tells 17 = .ok (.ireturn, 1) := by decide +kernel
theorem dX12_tells_18 : decode cX12_tells 18 = .ok (.aload_n 0, 1) := by decide +kernel
theorem dX12_tells_19 : decode cX12_tells 19 = .ok (.invokevirtual 559, 3) := by decide +kernel
theorem dX12_tells_22 : decode cX12_tells 22 = .ok (.istore_n 2, 1) := by decide +kernel
theorem dX12_tells_23 : decode cX12_tells 23 = .ok (.iconst (-1), 1) := by decide +kernel
theorem dX12_tells_24 : decode cX12_tells 24 = .ok (.istore_n 3, 1) := by decide +kernel
theorem dX12_tells_25 : decode cX12_tells 25 = .ok (.ldc_w 456, 3) := by decide +kernel
theorem dX12_tells_28 : decode cX12_tells 28 = .ok (.istore 4, 2) := by decide +kernel
theorem dX12_tells_30 : decode cX12_tells 30 = .ok (.iconst 1, 1) := by decide +kernel
theorem dX12_tells_31 : decode cX12_tells 31 = .ok (.istore 5, 2) := by decide +kernel
theorem dX12_tells_33 : decode cX12_tells 33 = .ok (.aload_n 0, 1) := by decide +kernel
theorem dX12_tells_34 : decode cX12_tells 34 = .ok (.iload 5, 2) := by decide +kernel
theorem dX12_tells_36 : decode cX12_tells 36 = .ok (.iconst 1, 1) := by decide +kernel
theorem dX12_tells_37 : decode cX12_tells 37 = .ok (.bipush 30, 2) := by decide +kernel
theorem dX12_tells_39 : decode cX12_tells 39 = .ok (.invokevirtual 541, 3) := by decide +kernel
theorem dX12_tells_42 : decode cX12_tells 42 = .ok (.ifCond .eq 78, 3) := by decide +kernel
theorem dX12_tells_45 : decode cX12_tells 45 = .ok (.iload_n 2, 1) := by decide +kernel
theorem dX12_tells_46 : decode cX12_tells 46 = .ok (.ifCond .eq 74, 3) := by decide +kernel
theorem dX12_tells_49 : decode cX12_tells 49 = .ok (.iconst 0, 1) := by decide +kernel
theorem dX12_tells_50 : decode cX12_tells 50 = .ok (.istore 6, 2) := by decide +kernel
theorem dX12_tells_52 : decode cX12_tells 52 = .ok (.iload 6, 2) := by decide +kernel
theorem dX12_tells_54 : decode cX12_tells 54 = .ok (.bipush 64, 2) := by decide +kernel
theorem dX12_tells_56 : decode cX12_tells 56 = .ok (.if_icmp .ge 58, 3) := by decide +kernel
theorem dX12_tells_59 : decode cX12_tells 59 = .ok (.aload_n 0, 1) := by decide +kernel
theorem dX12_tells_60 : decode cX12_tells 60 = .ok (.iload 6, 2) := by decide +kernel
theorem dX12_tells_62 : decode cX12_tells 62 = .ok (.invokevirtual 503, 3) := by decide +kernel
theorem dX12_tells_65 : decode cX12_tells 65 = .ok (.ifCond .eq 15, 3) := by decide +kernel
theorem dX12_tells_68 : decode cX12_tells 68 = .ok (.aload_n 0, 1) := by decide +kernel
theorem dX12_tells_69 : decode cX12_tells 69 = .ok (.iload_n 2, 1) := by decide +kernel
theorem dX12_tells_70 : decode cX12_tells 70 = .ok (.iload 5, 2) := by decide +kernel
theorem dX12_tells_72 : decode cX12_tells 72 = .ok (.iload 6, 2) := by decide +kernel
theorem dX12_tells_74 : decode cX12_tells 74 = .ok (.invokevirtual 562, 3) := by decide +kernel
theorem dX12_tells_77 : decode cX12_tells 77 = .ok (.goto 6, 3) := by decide +kernel
theorem dX12_tells_80 : decode cX12_tells 80 = .ok (.ldc_w 456, 3) := by decide +kernel
theorem dX12_tells_83 : decode cX12_tells 83 = .ok (.istore 7, 2) := by decide +kernel
theorem dX12_tells_85 : decode cX12_tells 85 = .ok (.iload 7, 2) := by decide +kernel
theorem dX12_tells_87 : decode cX12_tells 87 = .ok (.iload 4, 2) := by decide +kernel
theorem dX12_tells_89 : decode cX12_tells 89 = .ok (.if_icmp .lt 6, 3) := by decide +kernel
theorem dX12_tells_92 : decode cX12_tells 92 = .ok (.goto 16, 3) := by decide +kernel
theorem dX12_tells_95 : decode cX12_tells 95 = .ok (.iload 7, 2) := by decide +kernel
theorem dX12_tells_97 : decode cX12_tells 97 = .ok (.istore 4, 2) := by decide +kernel
theorem dX12_tells_99 : decode cX12_tells 99 = .ok (.bipush 64, 2) := by decide +kernel
theorem dX12_tells_101 : decode cX12_tells 101 = .ok (.iload 5, 2) := by decide +kernel
theorem dX12_tells_103 : decode cX12_tells 103 = .ok (.imul, 1) := by decide +kernel
theorem dX12_tells_104 : decode cX12_tells 104 = .ok (.iload 6, 2) := by decide +kernel
theorem dX12_tells_106 : decode cX12_tells 106 = .ok (.iadd, 1) := by decide +kernel
theorem dX12_tells_107 : decode cX12_tells 107 = .ok (.istore_n 3, 1) := by decide +kernel
theorem dX12_tells_108 : decode cX12_tells 108 = .ok (.iinc 6 1, 3) := by decide +kernel
theorem dX12_tells_111 : decode cX12_tells 111 = .ok (.goto (-59), 3) := by decide +kernel
theorem dX12_tells_114 : decode cX12_tells 114 = .ok (.iinc 5 1, 3) := by decide +kernel
theorem dX12_tells_117 : decode cX12_tells 117 = .ok (.goto (-84), 3) := by decide +kernel
theorem dX12_tells_120 : decode cX12_tells 120 = .ok (.iload_n 3, 1) := by decide +kernel
theorem dX12_tells_121 : decode cX12_tells 121 = .ok (.iconst (-1), 1) := by decide +kernel
theorem dX12_tells_122 : decode cX12_tells 122 = .ok (.if_icmp .ne 7, 3) := by decide +kernel
theorem dX12_tells_125 : decode cX12_tells 125 = .ok (.iconst (-1), 1) := by decide +kernel
theorem dX12_tells_126 : decode cX12_tells 126 = .ok (.goto 28, 3) := by decide +kernel
theorem dX12_tells_129 : decode cX12_tells 129 = .ok (.iload_n 1, 1) := by decide +kernel
theorem dX12_tells_130 : decode cX12_tells 130 = .ok (.ifCond .ne 10, 3) := by decide +kernel
theorem dX12_tells_133 : decode cX12_tells 133 = .ok (.iload_n 3, 1) := by decide +kernel
theorem dX12_tells_134 : decode cX12_tells 134 = .ok (.bipush 64, 2) := by decide +kernel
theorem dX12_tells_136 : decode cX12_tells 136 = .ok (.idiv, 1) := by decide +kernel
theorem dX12_tells_137 : decode cX12_tells 137 = .ok (.goto 17, 3) := by decide +kernel
theorem dX12_tells_140 : decode cX12_tells 140 = .ok (.iload_n 1, 1) := by decide +kernel
theorem dX12_tells_141 : decode cX12_tells 141 = .ok (.iconst 1, 1) := by decide +kernel
theorem dX12_tells_142 : decode cX12_tells 142 = .ok (.if_icmp .ne 10, 3) := by decide +kernel
theorem dX12_tells_145 : decode cX12_tells 145 = .ok (.iload_n 3, 1) := by decide +kernel
theorem dX12_tells_146 : decode cX12_tells 146 = .ok (.bipush 64, 2) := by decide +kernel
theorem dX12_tells_148 : decode cX12_tells 148 = .ok (.irem, 1) := by decide +kernel
theorem dX12_tells_149 : decode cX12_tells 149 = .ok (.goto 5, 3) := by decide +kernel
theorem dX12_tells_152 : decode cX12_tells 152 = .ok (.iload 4, 2) := by decide +kernel
theorem dX12_tells_154 : decode cX12_tells 154 = .ok (.ireturn, 1) := by decide +kernel
theorem dX12_shifts_0 : decode cX12_shifts 0 = .ok (.aload_n 0, 1) := by decide +kernel
theorem dX12_shifts_1 : decode cX12_shifts 1 = .ok (.iload_n 1, 1) := by decide +kernel
theorem dX12_shifts_2 : decode cX12_shifts 2 = .ok (.iconst 1, 1) := by decide +kernel
theorem dX12_shifts_3 : decode cX12_shifts 3 = .ok (.bipush 40, 2) := by decide +kernel
theorem dX12_shifts_5 : decode cX12_shifts 5 = .ok (.invokevirtual 541, 3) := by decide +kernel
theorem dX12_shifts_8 : decode cX12_shifts 8 = .ok (.ifCond .ne 9, 3) := by decide +kernel
theorem dX12_shifts_11 : decode cX12_shifts 11 = .ok (.aload_n 0, 1) := by decide +kernel
theorem dX12_shifts_12 : decode cX12_shifts 12 = .ok (.iconst 2, 1) := by decide +kernel
theorem dX12_shifts_13 : decode cX12_shifts 13 = .ok (.invokevirtual 247, 3) := by decide +kernel
theorem dX12_shifts_16 : decode cX12_shifts 16 = .ok (.ireturn, 1) := by decide +kernel
theorem dX12_shifts_17 : decode cX12_shifts 17 = .ok (.aload_n 0, 1) := by decide +kernel
theorem dX12_shifts_18 : decode cX12_shifts 18 = .ok (.invokevirtual 566, 3) := by decide +kernel
theorem dX12_shifts_21 : decode cX12_shifts 21 = .ok (.iconst 0, 1) := by decide +kernel
theorem dX12_shifts_22 : decode cX12_shifts 22 = .ok (.istore_n 2, 1) := by decide +kernel
theorem dX12_shifts_23 : decode cX12_shifts 23 = .ok (.iconst 0, 1) := by decide +kernel
theorem dX12_shifts_24 : decode cX12_shifts 24 = .ok (.istore_n 3, 1) := by decide +kernel
theorem dX12_shifts_25 : decode cX12_shifts 25 = .ok (.iload_n 3, 1) := by decide +kernel
theorem dX12_shifts_26 : decode cX12_shifts 26 = .ok (.iload_n 1, 1) := by decide +kernel
theorem dX12_shifts_27 : decode cX12_shifts 27 = .ok (.if_icmp .ge 17, 3) := by decide +kernel
theorem dX12_shifts_30 : decode cX12_shifts 30 = .ok (.iload_n 2, 1) := by decide +kernel
theorem dX12_shifts_31 : decode cX12_shifts 31 = .ok (.aload_n 0, 1) := by decide +kernel
theorem dX12_shifts_32 : decode cX12_shifts 32 = .ok (.iconst 0, 1) := by decide +kernel
theorem dX12_shifts_33 : decode cX12_shifts 33 = .ok (.invokevirtual 538, 3) := by decide +kernel
theorem dX12_shifts_36 : decode cX12_shifts 36 = .ok (.iadd, 1) := by decide +kernel
theorem dX12_shifts_37 : decode cX12_shifts 37 = .ok (.istore_n 2, 1) := by decide +kernel
theorem dX12_shifts_38 : decode cX12_shifts 38 = .ok (.iinc 3 1, 3) := by decide +kernel
theorem dX12_shifts_41 : decode cX12_shifts 41 = .ok (.goto (-16), 3) := by decide +kernel
theorem dX12_shifts_44 : decode cX12_shifts 44 = .ok (.iload_n 2, 1) := by decide +kernel
theorem dX12_shifts_45 : decode cX12_shifts 45 = .ok (.ireturn, 1) := by decide +kernel
theorem dX12_draw_0 : decode cX12_draw 0 = .ok (.aload_n 0, 1) := by decide +kernel
theorem dX12_draw_1 : decode cX12_draw 1 = .ok (.ldc2_w 569, 3) := by decide +kernel
theorem dX12_draw_4 : decode cX12_draw 4 = .ok (.aload_n 0, 1) := by decide +kernel
theorem dX12_draw_5 : decode cX12_draw 5 = .ok (.getfield 201, 3) := by decide +kernel
theorem dX12_draw_8 : decode cX12_draw 8 = .ok (.lmul, 1) := by decide +kernel
theorem dX12_draw_9 : decode cX12_draw 9 = .ok (.ldc2_w 571, 3) := by decide +kernel
theorem dX12_draw_12 : decode cX12_draw 12 = .ok (.ladd, 1) := by decide +kernel
theorem dX12_draw_13 : decode cX12_draw 13 = .ok (.ldc2_w 573, 3) := by decide +kernel
theorem dX12_draw_16 : decode cX12_draw 16 = .ok (.lrem, 1) := by decide +kernel
theorem dX12_draw_17 : decode cX12_draw 17 = .ok (.putfield 201, 3) := by decide +kernel
theorem dX12_draw_20 : decode cX12_draw 20 = .ok (.aload_n 0, 1) := by decide +kernel
theorem dX12_draw_21 : decode cX12_draw 21 = .ok (.getfield 201, 3) := by decide +kernel
theorem dX12_draw_24 : decode cX12_draw 24 = .ok (.ldc2_w 575, 3) := by decide +kernel
theorem dX12_draw_27 : decode cX12_draw 27 = .ok (.ldiv, 1) := by decide +kernel
theorem dX12_draw_28 : decode cX12_draw 28 = .ok (.iload_n 1, 1) := by decide +kernel
theorem dX12_draw_29 : decode cX12_draw 29 = .ok (.i2l, 1) := by decide +kernel
theorem dX12_draw_30 : decode cX12_draw 30 = .ok (.lrem, 1) := by decide +kernel
theorem dX12_draw_31 : decode cX12_draw 31 = .ok (.l2i, 1) := by decide +kernel
theorem dX12_draw_32 : decode cX12_draw 32 = .ok (.ireturn, 1) := by decide +kernel
theorem dX12_chance_0 : decode cX12_chance 0 = .ok (.aload_n 0, 1) := by decide +kernel
theorem dX12_chance_1 : decode cX12_chance 1 = .ok (.iload_n 1, 1) := by decide +kernel
theorem dX12_chance_2 : decode cX12_chance 2 = .ok (.iconst 1, 1) := by decide +kernel
theorem dX12_chance_3 : decode cX12_chance 3 = .ok (.bipush 40, 2) := by decide +kernel
theorem dX12_chance_5 : decode cX12_chance 5 = .ok (.invokevirtual 541, 3) := by decide +kernel
theorem dX12_chance_8 : decode cX12_chance 8 = .ok (.ifCond .ne 9, 3) := by decide +kernel
theorem dX12_chance_11 : decode cX12_chance 11 = .ok (.aload_n 0, 1) := by decide +kernel
theorem dX12_chance_12 : decode cX12_chance 12 = .ok (.iconst 2, 1) := by decide +kernel
theorem dX12_chance_13 : decode cX12_chance 13 = .ok (.invokevirtual 247, 3) := by decide +kernel
theorem dX12_chance_16 : decode cX12_chance 16 = .ok (.ireturn, 1) := by decide +kernel
theorem dX12_chance_17 : decode cX12_chance 17 = .ok (.aload_n 0, 1) := by decide +kernel
theorem dX12_chance_18 : decode cX12_chance 18 = .ok (.invokevirtual 566, 3) := by decide +kernel
theorem dX12_chance_21 : decode cX12_chance 21 = .ok (.iconst 0, 1) := by decide +kernel
theorem dX12_chance_22 : decode cX12_chance 22 = .ok (.istore_n 2, 1) := by decide +kernel
theorem dX12_chance_23 : decode cX12_chance 23 = .ok (.iconst 0, 1) := by decide +kernel
theorem dX12_chance_24 : decode cX12_chance 24 = .ok (.istore_n 3, 1) := by decide +kernel
theorem dX12_chance_25 : decode cX12_chance 25 = .ok (.iload_n 3, 1) := by decide +kernel
theorem dX12_chance_26 : decode cX12_chance 26 = .ok (.iload_n 1, 1) := by decide +kernel
theorem dX12_chance_27 : decode cX12_chance 27 = .ok (.if_icmp .ge 83, 3) := by decide +kernel
theorem dX12_chance_30 : decode cX12_chance 30 = .ok (.aload_n 0, 1) := by decide +kernel
theorem dX12_chance_31 : decode cX12_chance 31 = .ok (.bipush 100, 2) := by decide +kernel
theorem dX12_chance_33 : decode cX12_chance 33 = .ok (.invokevirtual 577, 3) := by decide +kernel
theorem dX12_chance_36 : decode cX12_chance 36 = .ok (.aload_n 0, 1) := by decide +kernel
theorem dX12_chance_37 : decode cX12_chance 37 = .ok (.getfield 66, 3) := by decide +kernel
theorem dX12_chance_40 : decode cX12_chance 40 = .ok (.aload_n 0, 1) := by decide +kernel
theorem dX12_chance_41 : decode cX12_chance 41 = .ok (.getfield 51, 3) := by decide +kernel
theorem dX12_chance_44 : decode cX12_chance 44 = .ok (.iaload, 1) := by decide +kernel
theorem dX12_chance_45 : decode cX12_chance 45 = .ok (.if_icmp .ge 53, 3) := by decide +kernel
theorem dX12_chance_48 : decode cX12_chance 48 = .ok (.aload_n 0, 1) := by decide +kernel
theorem dX12_chance_49 : decode cX12_chance 49 = .ok (.aload_n 0, 1) := by decide +kernel
theorem dX12_chance_50 : decode cX12_chance 50 = .ok (.getfield 54, 3) := by decide +kernel
theorem dX12_chance_53 : decode cX12_chance 53 = .ok (.aload_n 0, 1) := by decide +kernel
theorem dX12_chance_54 : decode cX12_chance 54 = .ok (.getfield 51, 3) := by decide +kernel
theorem dX12_chance_57 : decode cX12_chance 57 = .ok (.iaload, 1) := by decide +kernel
theorem dX12_chance_58 : decode cX12_chance 58 = .ok (.invokevirtual 577, 3) := by decide +kernel
theorem dX12_chance_61 : decode cX12_chance 61 = .ok (.istore 4, 2) := by decide +kernel
theorem dX12_chance_63 : decode cX12_chance 63 = .ok (.iload_n 2, 1) := by decide +kernel
theorem dX12_chance_64 : decode cX12_chance 64 = .ok (.aload_n 0, 1) := by decide +kernel
theorem dX12_chance_65 : decode cX12_chance 65 = .ok (.iconst 0, 1) := by decide +kernel
theorem dX12_chance_66 : decode cX12_chance 66 = .ok (.bipush 8, 2) := by decide +kernel
theorem dX12_chance_68 : decode cX12_chance 68 = .ok (.aload_n 0, 1) := by decide +kernel
theorem dX12_chance_69 : decode cX12_chance 69 = .ok (.aload_n 0, 1) := by decide +kernel
theorem dX12_chance_70 : decode cX12_chance 70 = .ok (.getfield 57, 3) := by decide +kernel
theorem dX12_chance_73 : decode cX12_chance 73 = .ok (.aload_n 0, 1) := by decide +kernel
theorem dX12_chance_74 : decode cX12_chance 74 = .ok (.getfield 51, 3) := by decide +kernel
theorem dX12_chance_77 : decode cX12_chance 77 = .ok (.iaload, 1) := by decide +kernel
theorem dX12_chance_78 : decode cX12_chance 78 = .ok (.invokevirtual 577, 3) := by decide +kernel
theorem dX12_chance_81 : decode cX12_chance 81 = .ok (.imul, 1) := by decide +kernel
theorem dX12_chance_82 : decode cX12_chance 82 = .ok (.iload 4, 2) := by decide +kernel
theorem dX12_chance_84 : decode cX12_chance 84 = .ok (.iadd, 1) := by decide +kernel
theorem dX12_chance_85 : decode cX12_chance 85 = .ok (.invokevirtual 556, 3) := by decide +kernel
theorem dX12_chance_88 : decode cX12_chance 88 = .ok (.ifCond .eq 7, 3) := by decide +kernel
theorem dX12_chance_91 : decode cX12_chance 91 = .ok (.iconst 1, 1) := by decide +kernel
theorem dX12_chance_92 : decode cX12_chance 92 = .ok (.goto 4, 3) := by decide +kernel
theorem dX12_chance_95 : decode cX12_chance 95 = .ok (.iconst 0, 1) := by decide +kernel
theorem dX12_chance_96 : decode cX12_chance 96 = .ok (.iadd, 1) := by decide +kernel
theorem dX12_chance_97 : decode cX12_chance 97 = .ok (.istore_n 2, 1) := by decide +kernel
theorem dX12_chance_98 : decode cX12_chance 98 = .ok (.aload_n 0, 1) := by decide +kernel
theorem dX12_chance_99 : decode cX12_chance 99 = .ok (.iconst 0, 1) := by decide +kernel
theorem dX12_chance_100 : decode cX12_chance 100 = .ok (.invokevirtual 538, 3) := by decide +kernel
theorem dX12_chance_103 : decode cX12_chance 103 = .ok (.pop, 1) := by decide +kernel
theorem dX12_chance_104 : decode cX12_chance 104 = .ok (.iinc 3 1, 3) := by decide +kernel
theorem dX12_chance_107 : decode cX12_chance 107 = .ok (.goto (-82), 3) := by decide +kernel
theorem dX12_chance_110 : decode cX12_chance 110 = .ok (.iload_n 2, 1) := by decide +kernel
theorem dX12_chance_111 : decode cX12_chance 111 = .ok (.ireturn, 1) := by decide +kernel
theorem dX12_image_0 : decode cX12_image 0 = .ok (.aload_n 0, 1) := by decide +kernel
theorem dX12_image_1 : decode cX12_image 1 = .ok (.iconst 0, 1) := by decide +kernel
theorem dX12_image_2 : decode cX12_image 2 = .ok (.putfield 244, 3) := by decide +kernel
theorem dX12_image_5 : decode cX12_image 5 = .ok (.aload_n 0, 1) := by decide +kernel
theorem dX12_image_6 : decode cX12_image 6 = .ok (.aload_n 0, 1) := by decide +kernel
theorem dX12_image_7 : decode cX12_image 7 = .ok (.getfield 162, 3) := by decide +kernel
theorem dX12_image_10 : decode cX12_image 10 = .ok (.iconst 0, 1) := by decide +kernel
theorem dX12_image_11 : decode cX12_image 11 = .ok (.iaload, 1) := by decide +kernel
theorem dX12_image_12 : decode cX12_image 12 = .ok (.bipush 8, 2) := by decide +kernel
theorem dX12_image_14 : decode cX12_image 14 = .ok (.ishr, 1) := by decide +kernel
theorem dX12_image_15 : decode cX12_image 15 = .ok (.invokevirtual 581, 3) := by decide +kernel
theorem dX12_image_18 : decode cX12_image 18 = .ok (.aload_n 0, 1) := by decide +kernel
theorem dX12_image_19 : decode cX12_image 19 = .ok (.aload_n 0, 1) := by decide +kernel
theorem dX12_image_20 : decode cX12_image 20 = .ok (.getfield 162, 3) := by decide +kernel
theorem dX12_image_23 : decode cX12_image 23 = .ok (.iconst 0, 1) := by decide +kernel
theorem dX12_image_24 : decode cX12_image 24 = .ok (.iaload, 1) := by decide +kernel
theorem dX12_image_25 : decode cX12_image 25 = .ok (.invokevirtual 581, 3) := by decide +kernel
theorem dX12_image_28 : decode cX12_image 28 = .ok (.aload_n 0, 1) := by decide +kernel
theorem dX12_image_29 : decode cX12_image 29 = .ok (.aload_n 0, 1) := by decide +kernel
theorem dX12_image_30 : decode cX12_image 30 = .ok (.getfield 165, 3) := by decide +kernel
theorem dX12_image_33 : decode cX12_image 33 = .ok (.iconst 0, 1) := by decide +kernel
theorem dX12_image_34 : decode cX12_image 34 = .ok (.iaload, 1) := by decide +kernel
theorem dX12_image_35 : decode cX12_image 35 = .ok (.bipush 16, 2) := by decide +kernel
theorem dX12_image_37 : decode cX12_image 37 = .ok (.ishr, 1) := by decide +kernel
theorem dX12_image_38 : decode cX12_image 38 = .ok (.invokevirtual 581, 3) := by decide +kernel
theorem dX12_image_41 : decode cX12_image 41 = .ok (.aload_n 0, 1) := by decide +kernel
theorem dX12_image_42 : decode cX12_image 42 = .ok (.aload_n 0, 1) := by decide +kernel
theorem dX12_image_43 : decode cX12_image 43 = .ok (.getfield 165, 3) := by decide +kernel
theorem dX12_image_46 : decode cX12_image 46 = .ok (.iconst 0, 1) := by decide +kernel
theorem dX12_image_47 : decode cX12_image 47 = .ok (.iaload, 1) := by decide +kernel
theorem dX12_image_48 : decode cX12_image 48 = .ok (.bipush 8, 2) := by decide +kernel
theorem dX12_image_50 : decode cX12_image 50 = .ok (.ishr, 1) := by decide +kernel
theorem dX12_image_51 : decode cX12_image 51 = .ok (.invokevirtual 581, 3) := by decide +kernel
theorem dX12_image_54 : decode cX12_image 54 = .ok (.aload_n 0, 1) := by decide +kernel
theorem dX12_image_55 : decode cX12_image 55 = .ok (.aload_n 0, 1) := by decide +kernel
theorem dX12_image_56 : decode cX12_image 56 = .ok (.getfield 165, 3) := by decide +kernel
theorem dX12_image_59 : decode cX12_image 59 = .ok (.iconst 0, 1) := by decide +kernel
theorem dX12_image_60 : decode cX12_image 60 = .ok (.iaload, 1) := by decide +kernel
theorem dX12_image_61 : decode cX12_image 61 = .ok (.invokevirtual 581, 3) := by decide +kernel
theorem dX12_image_64 : decode cX12_image 64 = .ok (.iconst 0, 1) := by decide +kernel
theorem dX12_image_65 : decode cX12_image 65 = .ok (.istore_n 1, 1) := by decide +kernel
theorem dX12_image_66 : decode cX12_image 66 = .ok (.iload_n 1, 1) := by decide +kernel
theorem dX12_image_67 : decode cX12_image 67 = .ok (.bipush 64, 2) := by decide +kernel
theorem dX12_image_69 : decode cX12_image 69 = .ok (.if_icmp .ge 43, 3) := by decide +kernel
theorem dX12_image_72 : decode cX12_image 72 = .ok (.aload_n 0, 1) := by decide +kernel
theorem dX12_image_73 : decode cX12_image 73 = .ok (.iload_n 1, 1) := by decide +kernel
theorem dX12_image_74 : decode cX12_image 74 = .ok (.invokevirtual 503, 3) := by decide +kernel
theorem dX12_image_77 : decode cX12_image 77 = .ok (.ifCond .eq 29, 3) := by decide +kernel
theorem dX12_image_80 : decode cX12_image 80 = .ok (.aload_n 0, 1) := by decide +kernel
theorem dX12_image_81 : decode cX12_image 81 = .ok (.aload_n 0, 1) := by decide +kernel
theorem dX12_image_82 : decode cX12_image 82 = .ok (.getfield 171, 3) := by decide +kernel
theorem dX12_image_85 : decode cX12_image 85 = .ok (.iload_n 1, 1) := by decide +kernel
theorem dX12_image_86 : decode cX12_image 86 = .ok (.iaload, 1) := by decide +kernel
theorem dX12_image_87 : decode cX12_image 87 = .ok (.iconst 1, 1) := by decide +kernel
theorem dX12_image_88 : decode cX12_image 88 = .ok (.if_icmp .ne 9, 3) := by decide +kernel
theorem dX12_image_91 : decode cX12_image 91 = .ok (.sipush 254, 3) := by decide +kernel
theorem dX12_image_94 : decode cX12_image 94 = .ok (.goto 9, 3) := by decide +kernel
theorem dX12_image_97 : decode cX12_image 97 = .ok (.aload_n 0, 1) := by decide +kernel
theorem dX12_image_98 : decode cX12_image 98 = .ok (.getfield 168, 3) := by decide +kernel
theorem dX12_image_101 : decode cX12_image 101 = .ok (.iload_n 1, 1) := by decide +kernel
theorem dX12_image_102 : decode cX12_image 102 = .ok (.iaload, 1) := by decide +kernel
theorem dX12_image_103 : decode cX12_image 103 = .ok (.invokevirtual 581, 3) := by decide +kernel
theorem dX12_image_106 : decode cX12_image 106 = .ok (.iinc 1 1, 3) := by decide +kernel
theorem dX12_image_109 : decode cX12_image 109 = .ok (.goto (-43), 3) := by decide +kernel
theorem dX12_image_112 : decode cX12_image 112 = .ok (.iconst 0, 1) := by decide +kernel
theorem dX12_image_113 : decode cX12_image 113 = .ok (.istore_n 1, 1) := by decide +kernel
theorem dX12_image_114 : decode cX12_image 114 = .ok (.iload_n 1, 1) := by decide +kernel
theorem dX12_image_115 : decode cX12_image 115 = .ok (.aload_n 0, 1) := by decide +kernel
theorem dX12_image_116 : decode cX12_image 116 = .ok (.getfield 72, 3) := by decide +kernel
theorem dX12_image_119 : decode cX12_image 119 = .ok (.aload_n 0, 1) := by decide +kernel
theorem dX12_image_120 : decode cX12_image 120 = .ok (.getfield 51, 3) := by decide +kernel
theorem dX12_image_123 : decode cX12_image 123 = .ok (.iaload, 1) := by decide +kernel
theorem dX12_image_124 : decode cX12_image 124 = .ok (.if_icmp .ge 31, 3) := by decide +kernel
theorem dX12_image_127 : decode cX12_image 127 = .ok (.aload_n 0, 1) := by decide +kernel
theorem dX12_image_128 : decode cX12_image 128 = .ok (.aload_n 0, 1) := by decide +kernel
theorem dX12_image_129 : decode cX12_image 129 = .ok (.getfield 174, 3) := by decide +kernel
theorem dX12_image_132 : decode cX12_image 132 = .ok (.iconst 0, 1) := by decide +kernel
theorem dX12_image_133 : decode cX12_image 133 = .ok (.iaload, 1) := by decide +kernel
theorem dX12_image_134 : decode cX12_image 134 = .ok (.iload_n 1, 1) := by decide +kernel
theorem dX12_image_135 : decode cX12_image 135 = .ok (.invokestatic 487, 3) := by decide +kernel
theorem dX12_image_138 : decode cX12_image 138 = .ok (.ifCond .eq 7, 3) := by decide +kernel
theorem dX12_image_141 : decode cX12_image 141 = .ok (.iconst 1, 1) := by decide +kernel
theorem dX12_image_142 : decode cX12_image 142 = .ok (.goto 4, 3) := by decide +kernel
theorem dX12_image_145 : decode cX12_image 145 = .ok (.iconst 0, 1) := by decide +kernel
theorem dX12_image_146 : decode cX12_image 146 = .ok (.invokevirtual 581, 3) := by decide +kernel
theorem dX12_image_149 : decode cX12_image 149 = .ok (.iinc 1 1, 3) := by decide +kernel
theorem dX12_image_152 : decode cX12_image 152 = .ok (.goto (-38), 3) := by decide +kernel
theorem dX12_image_155 : decode cX12_image 155 = .ok (.iconst 0, 1) := by decide +kernel
theorem dX12_image_156 : decode cX12_image 156 = .ok (.istore_n 1, 1) := by decide +kernel
theorem dX12_image_157 : decode cX12_image 157 = .ok (.iload_n 1, 1) := by decide +kernel
theorem dX12_image_158 : decode cX12_image 158 = .ok (.aload_n 0, 1) := by decide +kernel
theorem dX12_image_159 : decode cX12_image 159 = .ok (.getfield 75, 3) := by decide +kernel
theorem dX12_image_162 : decode cX12_image 162 = .ok (.aload_n 0, 1) := by decide +kernel
theorem dX12_image_163 : decode cX12_image 163 = .ok (.getfield 51, 3) := by decide +kernel
theorem dX12_image_166 : decode cX12_image 166 = .ok (.iaload, 1) := by decide +kernel
theorem dX12_image_167 : decode cX12_image 167 = .ok (.if_icmp .ge 47, 3) := by decide +kernel
theorem dX12_image_170 : decode cX12_image 170 = .ok (.aload_n 0, 1) := by decide +kernel
theorem dX12_image_171 : decode cX12_image 171 = .ok (.aload_n 0, 1) := by decide +kernel
theorem dX12_image_172 : decode cX12_image 172 = .ok (.getfield 180, 3) := by decide +kernel
theorem dX12_image_175 : decode cX12_image 175 = .ok (.iload_n 1, 1) := by decide +kernel
theorem dX12_image_176 : decode cX12_image 176 = .ok (.iaload, 1) := by decide +kernel
theorem dX12_image_177 : decode cX12_image 177 = .ok (.invokevirtual 581, 3) := by decide +kernel
theorem dX12_image_180 : decode cX12_image 180 = .ok (.aload_n 0, 1) := by decide +kernel
theorem dX12_image_181 : decode cX12_image 181 = .ok (.aload_n 0, 1) := by decide +kernel
theorem dX12_image_182 : decode cX12_image 182 = .ok (.getfield 183, 3) := by decide +kernel
theorem dX12_image_185 : decode cX12_image 185 = .ok (.iload_n 1, 1) := by decide +kernel
theorem dX12_image_186 : decode cX12_image 186 = .ok (.iaload, 1) := by decide +kernel
theorem dX12_image_187 : decode cX12_image 187 = .ok (.iconst 0, 1) := by decide +kernel
theorem dX12_image_188 : decode cX12_image 188 = .ok (.invokestatic 529, 3) := by decide +kernel
theorem dX12_image_191 : decode cX12_image 191 = .ok (.invokevirtual 581, 3) := by decide +kernel
theorem dX12_image_194 : decode cX12_image 194 = .ok (.aload_n 0, 1) := by decide +kernel
theorem dX12_image_195 : decode cX12_image 195 = .ok (.aload_n 0, 1) := by decide +kernel
theorem dX12_image_196 : decode cX12_image 196 = .ok (.getfield 183, 3) := by decide +kernel
theorem dX12_image_199 : decode cX12_image 199 = .ok (.iload_n 1, 1) := by decide +kernel
theorem dX12_image_200 : decode cX12_image 200 = .ok (.iaload, 1) := by decide +kernel
theorem dX12_image_201 : decode cX12_image 201 = .ok (.iconst 1, 1) := by decide +kernel
theorem dX12_image_202 : decode cX12_image 202 = .ok (.invokestatic 529, 3) := by decide +kernel
theorem dX12_image_205 : decode cX12_image 205 = .ok (.invokevirtual 581, 3) := by decide +kernel
theorem dX12_image_208 : decode cX12_image 208 = .ok (.iinc 1 1, 3) := by decide +kernel
theorem dX12_image_211 : decode cX12_image 211 = .ok (.goto (-54), 3) := by decide +kernel
theorem dX12_image_214 : decode cX12_image 214 = .ok (.iconst 0, 1) := by decide +kernel
theorem dX12_image_215 : decode cX12_image 215 = .ok (.istore_n 1, 1) := by decide +kernel
theorem dX12_image_216 : decode cX12_image 216 = .ok (.iload_n 1, 1) := by decide +kernel
theorem dX12_image_217 : decode cX12_image 217 = .ok (.aload_n 0, 1) := by decide +kernel
theorem dX12_image_218 : decode cX12_image 218 = .ok (.getfield 84, 3) := by decide +kernel
theorem dX12_image_221 : decode cX12_image 221 = .ok (.aload_n 0, 1) := by decide +kernel
theorem dX12_image_222 : decode cX12_image 222 = .ok (.getfield 51, 3) := by decide +kernel
theorem dX12_image_225 : decode cX12_image 225 = .ok (.iaload, 1) := by decide +kernel
theorem dX12_image_226 : decode cX12_image 226 = .ok (.if_icmp .ge 31, 3) := by decide +kernel
theorem dX12_image_229 : decode cX12_image 229 = .ok (.aload_n 0, 1) := by decide +kernel
theorem dX12_image_230 : decode cX12_image 230 = .ok (.aload_n 0, 1) := by decide +kernel
theorem dX12_image_231 : decode cX12_image 231 = .ok (.getfield 177, 3) := by decide +kernel
theorem dX12_image_234 : decode cX12_image 234 = .ok (.iconst 0, 1) := by decide +kernel
theorem dX12_image_235 : decode cX12_image 235 = .ok (.iaload, 1) := by decide +kernel
theorem dX12_image_236 : decode cX12_image 236 = .ok (.iload_n 1, 1) := by decide +kernel
theorem dX12_image_237 : decode cX12_image 237 = .ok (.invokestatic 487, 3) := by decide +kernel
theorem dX12_image_240 : decode cX12_image 240 = .ok (.ifCond .eq 7, 3) := by decide +kernel
theorem dX12_image_243 : decode cX12_image 243 = .ok (.iconst 1, 1) := by decide +kernel
theorem dX12_image_244 : decode cX12_image 244 = .ok (.goto 4, 3) := by decide +kernel
theorem dX12_image_247 : decode cX12_image 247 = .ok (.iconst 0, 1) := by decide +kernel
theorem dX12_image_248 : decode cX12_image 248 = .ok (.invokevirtual 581, 3) := by decide +kernel
theorem dX12_image_251 : decode cX12_image 251 = .ok (.iinc 1 1, 3) := by decide +kernel
theorem dX12_image_254 : decode cX12_image 254 = .ok (.goto (-38), 3) := by decide +kernel
theorem dX12_image_257 : decode cX12_image 257 = .ok (.iconst 0, 1) := by decide +kernel
theorem dX12_image_258 : decode cX12_image 258 = .ok (.istore_n 1, 1) := by decide +kernel
theorem dX12_image_259 : decode cX12_image 259 = .ok (.iload_n 1, 1) := by decide +kernel
theorem dX12_image_260 : decode cX12_image 260 = .ok (.bipush 10, 2) := by decide +kernel
theorem dX12_image_262 : decode cX12_image 262 = .ok (.if_icmp .ge 19, 3) := by decide +kernel
theorem dX12_image_265 : decode cX12_image 265 = .ok (.aload_n 0, 1) := by decide +kernel
theorem dX12_image_266 : decode cX12_image 266 = .ok (.aload_n 0, 1) := by decide +kernel
theorem dX12_image_267 : decode cX12_image 267 = .ok (.getfield 186, 3) := by decide +kernel
theorem dX12_image_270 : decode cX12_image 270 = .ok (.iload_n 1, 1) := by decide +kernel
theorem dX12_image_271 : decode cX12_image 271 = .ok (.iaload, 1) := by decide +kernel
theorem dX12_image_272 : decode cX12_image 272 = .ok (.invokevirtual 581, 3) := by decide +kernel
theorem dX12_image_275 : decode cX12_image 275 = .ok (.iinc 1 1, 3) := by decide +kernel
theorem dX12_image_278 : decode cX12_image 278 = .ok (.goto (-19), 3) := by decide +kernel
theorem dX12_image_281 : decode cX12_image 281 = .ok (.sipush 233, 3) := by decide +kernel
theorem dX12_image_284 : decode cX12_image 284 = .ok (.istore_n 1, 1) := by decide +kernel
theorem dX12_image_285 : decode cX12_image 285 = .ok (.iconst 0, 1) := by decide +kernel
theorem dX12_image_286 : decode cX12_image 286 = .ok (.istore_n 2, 1) := by decide +kernel
theorem dX12_image_287 : decode cX12_image 287 = .ok (.iload_n 2, 1) := by decide +kernel
theorem dX12_image_288 : decode cX12_image 288 = .ok (.aload_n 0, 1) := by decide +kernel
theorem dX12_image_289 : decode cX12_image 289 = .ok (.getfield 244, 3) := by decide +kernel
theorem dX12_image_292 : decode cX12_image 292 = .ok (.if_icmp .ge 24, 3) := by decide +kernel
theorem dX12_image_295 : decode cX12_image 295 = .ok (.iconst 5, 1) := by decide +kernel
theorem dX12_image_296 : decode cX12_image 296 = .ok (.iload_n 1, 1) := by decide +kernel
theorem dX12_image_297 : decode cX12_image 297 = .ok (.imul, 1) := by decide +kernel
theorem dX12_image_298 : decode cX12_image 298 = .ok (.aload_n 0, 1) := by decide +kernel
theorem dX12_image_299 : decode cX12_image 299 = .ok (.getfield 241, 3) := by decide +kernel
theorem dX12_image_302 : decode cX12_image 302 = .ok (.iload_n 2, 1) := by decide +kernel
theorem dX12_image_303 : decode cX12_image 303 = .ok (.iaload, 1) := by decide +kernel
theorem dX12_image_304 : decode cX12_image 304 = .ok (.iadd, 1) := by decide +kernel
theorem dX12_image_305 : decode cX12_image 305 = .ok (.sipush 251, 3) := by decide +kernel
theorem dX12_image_308 : decode cX12_image 308 = .ok (.irem, 1) := by decide +kernel
theorem dX12_image_309 : decode cX12_image 309 = .ok (.istore_n 1, 1) := by decide +kernel
theorem dX12_image_310 : decode cX12_image 310 = .ok (.iinc 2 1, 3) := by decide +kernel
theorem dX12_image_313 : decode cX12_image 313 = .ok (.goto (-26), 3) := by decide +kernel
theorem dX12_image_316 : decode cX12_image 316 = .ok (.aload_n 0, 1) := by decide +kernel
theorem dX12_image_317 : decode cX12_image 317 = .ok (.iload_n 1, 1) := by decide +kernel
theorem dX12_image_318 : decode cX12_image 318 = .ok (.invokevirtual 581, 3) := by decide +kernel
theorem dX12_image_321 : decode cX12_image 321 = .ok (.aload_n 0, 1) := by decide +kernel
theorem dX12_image_322 : decode cX12_image 322 = .ok (.getfield 244, 3) := by decide +kernel
theorem dX12_image_325 : decode cX12_image 325 = .ok (.ireturn, 1) := by decide +kernel
theorem wB_1267 : Cond.constantLong RX12 569 (1103515245) ∈ dgB := List.mem_filter.mpr ⟨tbl_9 _ (List.mem_of_getElem? (i := 122) (by decide +kernel)), by decide +kernel⟩
theorem wB_1268 : Cond.constantLong RX12 571 (12345) ∈ dgB := List.mem_filter.mpr ⟨tbl_9 _ (List.mem_of_getElem? (i := 123) (by decide +kernel)), by decide +kernel⟩
theorem wB_1269 : Cond.constantLong RX12 573 (2147483648) ∈ dgB := List.mem_filter.mpr ⟨tbl_9 _ (List.mem_of_getElem? (i := 124) (by decide +kernel)), by decide +kernel⟩
theorem wB_1270 : Cond.constantLong RX12 575 (64) ∈ dgB := List.mem_filter.mpr ⟨tbl_9 _ (List.mem_of_getElem? (i := 125) (by decide +kernel)), by decide +kernel⟩
theorem wB_1271 : Cond.code yX12_draw cX12_draw 2 (some .int) ∈ dgB := List.mem_filter.mpr ⟨tbl_9 _ (List.mem_of_getElem? (i := 121) rfl), rfl⟩
theorem wB_1272 : Cond.methodLink RX12 577 yX12_draw ∈ dgB := List.mem_filter.mpr ⟨tbl_9 _ (List.mem_of_getElem? (i := 118) (by decide +kernel)), by decide +kernel⟩
theorem wB_1273 : Cond.instanceMethod yX12_draw ∈ dgB := List.mem_filter.mpr ⟨tbl_9 _ (List.mem_of_getElem? (i := 120) (by decide +kernel)), by decide +kernel⟩
theorem wB_1274 : Cond.selects RX12 yX12_draw yX12_draw ∈ dgB := List.mem_filter.mpr ⟨List.mem_of_getElem? (i := 150) (by decide +kernel), by decide +kernel⟩
theorem wB_1275 : Cond.fieldLink RX12 225 "DarkMineModel" "feltShifts" "[I" ∈ dgB := List.mem_filter.mpr ⟨tbl_6 _ (List.mem_of_getElem? (i := 233) (by decide +kernel)), by decide +kernel⟩
theorem wB_1276 : Cond.fieldLink RX12 228 "DarkMineModel" "feltCell" "[I" ∈ dgB := List.mem_filter.mpr ⟨tbl_6 _ (List.mem_of_getElem? (i := 234) (by decide +kernel)), by decide +kernel⟩
theorem wB_1277 : Cond.fieldLink RX12 231 "DarkMineModel" "feltGrade" "[I" ∈ dgB := List.mem_filter.mpr ⟨tbl_6 _ (List.mem_of_getElem? (i := 235) (by decide +kernel)), by decide +kernel⟩
theorem wB_1278 : Cond.code yX12_reachBits cX12_reachBits 6 (some .int) ∈ dgB := List.mem_filter.mpr ⟨tbl_9 _ (List.mem_of_getElem? (i := 97) rfl), rfl⟩
theorem wB_1279 : Cond.methodLink RX12 559 yX12_reachBits ∈ dgB := List.mem_filter.mpr ⟨tbl_9 _ (List.mem_of_getElem? (i := 94) (by decide +kernel)), by decide +kernel⟩
theorem wB_1280 : Cond.instanceMethod yX12_reachBits ∈ dgB := List.mem_filter.mpr ⟨tbl_9 _ (List.mem_of_getElem? (i := 96) (by decide +kernel)), by decide +kernel⟩
theorem wB_1281 : Cond.selects RX12 yX12_reachBits yX12_reachBits ∈ dgB := List.mem_filter.mpr ⟨List.mem_of_getElem? (i := 147) (by decide +kernel), by decide +kernel⟩
theorem wB_1282 : Cond.code yX12_mostBy cX12_mostBy 7 (some .int) ∈ dgB := List.mem_filter.mpr ⟨tbl_9 _ (List.mem_of_getElem? (i := 105) rfl), rfl⟩
theorem wB_1283 : Cond.methodLink RX12 562 yX12_mostBy ∈ dgB := List.mem_filter.mpr ⟨tbl_9 _ (List.mem_of_getElem? (i := 102) (by decide +kernel)), by decide +kernel⟩
theorem wB_1284 : Cond.instanceMethod yX12_mostBy ∈ dgB := List.mem_filter.mpr ⟨tbl_9 _ (List.mem_of_getElem? (i := 104) (by decide +kernel)), by decide +kernel⟩
theorem wB_1285 : Cond.selects RX12 yX12_mostBy yX12_mostBy ∈ dgB := List.mem_filter.mpr ⟨List.mem_of_getElem? (i := 148) (by decide +kernel), by decide +kernel⟩
theorem wB_1286 : Cond.code yX12_writes cX12_writes 2 none ∈ dgB := List.mem_filter.mpr ⟨tbl_9 _ (List.mem_of_getElem? (i := 158) rfl), rfl⟩
theorem wB_1287 : Cond.methodLink RX12 581 yX12_writes ∈ dgB := List.mem_filter.mpr ⟨tbl_9 _ (List.mem_of_getElem? (i := 155) (by decide +kernel)), by decide +kernel⟩
theorem wB_1288 : Cond.instanceMethod yX12_writes ∈ dgB := List.mem_filter.mpr ⟨tbl_9 _ (List.mem_of_getElem? (i := 157) (by decide +kernel)), by decide +kernel⟩
theorem wB_1289 : Cond.selects RX12 yX12_writes yX12_writes ∈ dgB := List.mem_filter.mpr ⟨List.mem_of_getElem? (i := 151) (by decide +kernel), by decide +kernel⟩
set_option maxHeartbeats 8000000 in
set_option maxRecDepth 100000 in
theorem c_m_shifts (l : Launch) (g : Nat → ClassId) (D : va_G) (o : Nat) (S : dg_S) (a1 : Int32) (ZB : ZBM S) (ZS : ZSM S) (ZW : ZWM S) (I : CM o S) (sz : Nat) : Met l yX12_shifts (bw yX12_shifts cX12_shifts 4 (some .int)) ({ frames := 9, cells := 0, slots := 0, locals := 217 } : Room) (dk_Pc g D (dg_w g shM o rfM S) sz [.ref (o + 0), .int a1]) (va_Qi (fun (r : Int32) S' => CM o S' ∧ dg_sm shM [(0, 60), (0, 61)] [28, 29, 30, 31, 32, 33, 34, 35, 36, 37, 38, 39, 40, 41, 42, 43, 44] S S' ∧ ZSM S' ∧ True) (dg_B g D shM o rfM) (dg_A o shM.length sz)) 0 0 (dg_A o shM.length sz) := by
  refine dg_met (cc := cX12_shifts) (maxL := 4) (ret := (some .int)) (by decide) rfl (Nat.le_of_ble_eq_true rfl) ?_
  intro p e s m args below meth c A hAe harg hx hb hr hml hts hown hlocks hin hP K hS hA1 hA ST hsz ls hl
  rw [← hAe]
  have F : CallFix p m c cX12_shifts 4 s args (bw yX12_shifts cX12_shifts 4 (some .int)) RX12 := ⟨hx, hb, hml, hown, hts⟩
  have hl : lv_has ls 4 [(0, .ref (o + 0)), (1, .int a1)] := hl
  have M_0 : dg_sm shM [(0, 60), (0, 61)] [28, 29, 30, 31, 32, 33, 34, 35, 36, 37, 38, 39, 40, 41, 42, 43, 44] S S := dg_sm.rf
  refine lv_aload_n hx hb dX12_shifts_0 rfl (lv_at hl 0 rfl) ?_
  refine lv_iload_n hx hb dX12_shifts_1 rfl (lv_at hl 1 rfl) ?_
  refine lv_iconst (v := 1) hx hb dX12_shifts_2 (by decide +kernel) ?_
  refine lv_bipush (v := 40) hx hb dX12_shifts_3 (by decide +kernel) ?_
  have hz_1 : (1 : Int32).toInt = 1 := by decide +kernel
  have hz_2 : (40 : Int32).toInt = 40 := by decide +kernel
  obtain ⟨x_3, f_x_3, b_x_3⟩ := dg_I.int (i := 0) (k := 47) (lo := 0) (hi := 1) I sM_0 (by decide +kernel)
  obtain ⟨x_4, f_x_4⟩ : ∃ x, S.2.1 29 (0 : Int32).toNatClampNeg = x := ⟨_, rfl⟩
  have hin_5 : vp_in (0 : Int32) 22 := (dk_in (by decide +kernel))
  have b_x_4 := dk_all_at (dg_I.row (lo := 0) (hi := 2000) I sM_29 (by decide +kernel)) hin_5 f_x_4.symm
  have ex_4 := f_x_4.symm
  have hz_6 : (0 : Int32).toInt = 0 := by decide +kernel
  have zs_x_4 : (0 : Int32).toInt ≠ 1 → (x_4).toInt ≤ 999 := fun h => by rw [ex_4]; exact ZS _ (dk_inT hin_5).2 (fun q => by have h9 := (dk_inT hin_5).1; omega)
  refine dg_calli hS hA1 hA (va_runV (As := [.int a1, .int 1, .int 40]) (rest := []) F (c_m_isAhead l g D o S a1 1 (by decide +kernel) 40 (by decide +kernel) x_3 f_x_3 (by omega) x_4 f_x_4 (by omega) I s.heap.size) (cwV 3 hts (bw_V wB_1235 wB_1236 wB_1237 wB_297 wB_1234) rfl rfl rfl (by decide +kernel) ⟨Nat.le_of_ble_eq_true rfl, Nat.le_of_ble_eq_true rfl⟩) (dg_preV sM_0 rfl K ST hP hS hA1 hA) rfl rfl hl.1 rfl (lv_room (Nat.le_of_ble_eq_true rfl)) dX12_shifts_5 ⟨Nat.le_of_ble_eq_true rfl, Nat.le_of_ble_eq_true rfl⟩) (fun x_7 S_8 hw_8 H locs hP hS => ?_)
  rw [hw_8.1] at hP
  obtain ⟨hq_8, w_8_0, w_8_1, -⟩ := hw_8
  have hz_9 : (1 : Int32).toInt = 1 := by decide +kernel
  have hz_10 : (40 : Int32).toInt = 40 := by decide +kernel
  have w_8_0 : 0 ≤ (x_7).toInt ∧ (x_7).toInt ≤ 1 := w_8_0
  have w_8_1 : (x_7).toInt = 1 → ((x_3).toInt = 1 ∧ ((1 : Int32)).toInt ≤ (a1).toInt ∧ (a1).toInt ≤ ((40 : Int32)).toInt ∧ (x_4).toInt ≤ 999 - (a1).toInt) := w_8_1
  refine lv_if_ne (tgt := 17) hx hb dX12_shifts_8 (by decide) (fun c_11 => ?_) (fun c_11 => ?_)
  · have jc_11 := dk_neqc (k := 0) (by decide +kernel) c_11
    refine lv_aload_n hx hb dX12_shifts_17 rfl (lv_at hl 0 rfl) ?_
    refine dg_callv hS hA1 hA (va_runV (As := []) (rest := []) F (c_m_keeps l g D o S x_4 f_x_4 (by omega) ZB ZS I H.size) (cwV 0 hts (bw_V wB_1257 wB_1258 wB_1259 wB_297 wB_1256) rfl rfl rfl (by decide +kernel) ⟨Nat.le_of_ble_eq_true rfl, Nat.le_of_ble_eq_true rfl⟩) (dg_preV sM_0 rfl K ST hP hS hA1 hA) rfl rfl hl.1 rfl (lv_room (Nat.le_of_ble_eq_true rfl)) dX12_shifts_18 ⟨Nat.le_of_ble_eq_true rfl, Nat.le_of_ble_eq_true rfl⟩) (fun S_12 hw_12 H locs hP hS => ?_)
    obtain ⟨I_12, m_12, w_12_0, w_12_1, -⟩ := hw_12
    have M_12 := dg_sm.tr M_0 m_12 (by decide) (by decide)
    obtain ⟨x_13, f_x_13⟩ : ∃ x, S_12.2.1 29 (0 : Int32).toNatClampNeg = x := ⟨_, rfl⟩
    have hin_14 : vp_in (0 : Int32) 22 := (dk_in (by decide +kernel))
    have b_x_13 := dk_all_at (dg_I.row (lo := 0) (hi := 2000) I_12 sM_29 (by decide +kernel)) hin_14 f_x_13.symm
    have ex_13 := f_x_13.symm
    have hz_15 : (0 : Int32).toInt = 0 := by decide +kernel
    have zs_x_13 : (0 : Int32).toInt ≠ 1 → (x_13).toInt ≤ 999 := fun h => by rw [ex_13]; exact w_12_1 _ (dk_inT hin_14).2 (fun q => by have h9 := (dk_inT hin_14).1; omega)
    have w_12_0 : (x_13).toInt = (x_4).toInt := w_12_0 x_13 f_x_13
    refine lv_iconst (v := 0) hx hb dX12_shifts_21 (by decide +kernel) ?_
    refine lv_istore_n (lv' := [(2, .int 0), (0, .ref (o + 0)), (1, .int a1)]) hx hb dX12_shifts_22 rfl hl (by decide) rfl (fun ls hl => ?_)
    refine lv_iconst (v := 0) hx hb dX12_shifts_23 (by decide +kernel) ?_
    refine lv_istore_n (lv' := [(3, .int 0), (2, .int 0), (0, .ref (o + 0)), (1, .int a1)]) hx hb dX12_shifts_24 rfl hl (by decide) rfl (fun ls hl => ?_)
    have L_78 : ∀ (n : Nat) (x_75 : Int32) (x_76 : Int32), (0 ≤ (x_75).toInt ∧ (x_75).toInt ≤ 40) → ((41 - (x_75).toInt).toNat < n) → ∀ S_77 : dg_S, CM o S_77 → dg_sm shM [(0, 60), (0, 61)] [28, 29, 30, 31, 32, 33, 34, 35, 36, 37, 38, 39, 40, 41, 42, 43, 44] S S_77 → ∀ rw_77_0 : Int32, S_77.2.1 29 (0 : Int32).toNatClampNeg = rw_77_0 → (0 ≤ (rw_77_0).toInt ∧ (rw_77_0).toInt ≤ 2000) → ZSM S_77 → ((rw_77_0).toInt = (x_13).toInt + (x_75).toInt ∧ (x_75).toInt ≤ (a1).toInt) → ∀ (H : Heap) (locs : List Loc), va_P D vwCl (dg_w g shM o rfM S_77) H → va_S A s.heap H locs → ∀ ls : Array Slot, lv_has ls 4 [(3, .int x_75), (2, .int x_76), (0, .ref (o + 0)), (1, .int a1)] → W p l e ({ frames := 9, cells := 0, slots := 0, locals := 217 } : Room) s m args below meth c H locs 0 0 (MQ below (va_Qi (fun (r : Int32) S' => CM o S' ∧ dg_sm shM [(0, 60), (0, 61)] [28, 29, 30, 31, 32, 33, 34, 35, 36, 37, 38, 39, 40, 41, 42, 43, 44] S S' ∧ ZSM S' ∧ True) (dg_B g D shM o rfM) A) args s 0 0 A) (F0 m 25 ls []) := by
      intro n
      induction n with
      | zero =>
        intro x_75 x_76 b_x_75 hmu S_77 I_77 M_77 rw_77_0 frw_77_0 brw_77_0 ZS_77 srel_77_0 H locs hP hS ls hl
        omega
      | succ n ih =>
        intro x_75 x_76 b_x_75 hmu S_77 I_77 M_77 rw_77_0 frw_77_0 brw_77_0 ZS_77 srel_77_0 H locs hP hS ls hl
        refine lv_iload_n hx hb dX12_shifts_25 rfl (lv_at hl 0 rfl) ?_
        refine lv_iload_n hx hb dX12_shifts_26 rfl (lv_at hl 3 rfl) ?_
        refine lv_icmp_ge (tgt := 44) hx hb dX12_shifts_27 (by decide) (fun c_79 => ?_) (fun c_79 => ?_)
        · have jc_79 := dk_gec (k := (a1).toInt) rfl c_79
          refine lv_iload_n hx hb dX12_shifts_44 rfl (lv_at hl 1 rfl) ?_
          refine W.widen (k := 0) (n := 0) (Nat.le_of_ble_eq_true rfl) (Nat.le_of_ble_eq_true rfl) ?_
          exact dg_iret hx hb hr hlocks rfl hP hS ⟨I_77, M_77, ZS_77, trivial⟩ dX12_shifts_45
        · have jc_79 := dk_ngec (k := (a1).toInt) rfl c_79
          refine lv_iload_n hx hb dX12_shifts_30 rfl (lv_at hl 1 rfl) ?_
          refine lv_aload_n hx hb dX12_shifts_31 rfl (lv_at hl 2 rfl) ?_
          refine lv_iconst (v := 0) hx hb dX12_shifts_32 (by decide +kernel) ?_
          have hz_80 : (0 : Int32).toInt = 0 := by decide +kernel
          refine dg_calli hS hA1 hA (va_runV (As := [.int 0]) (rest := [.int x_76]) F (c_m_ticks l g D o S_77 0 (by decide +kernel) rw_77_0 frw_77_0 (by omega) (by omega) (ZBM.keep ZB M_77 (by decide) (by decide) (by decide) (by decide) (by decide)) ZS_77 (ZWM.keep ZW M_77 (by decide) (by decide) (by decide) (by decide)) I_77 H.size) (cwV 1 hts (bw_V wB_1231 wB_1232 wB_1233 wB_297 wB_1230) rfl rfl rfl (by decide +kernel) ⟨Nat.le_of_ble_eq_true rfl, Nat.le_of_ble_eq_true rfl⟩) (dg_preV sM_0 rfl K ST hP hS hA1 hA) rfl rfl hl.1 rfl (lv_room (Nat.le_of_ble_eq_true rfl)) dX12_shifts_33 ⟨Nat.le_of_ble_eq_true rfl, Nat.le_of_ble_eq_true rfl⟩) (fun x_81 S_82 hw_82 H locs hP hS => ?_)
          obtain ⟨I_82, m_82, w_82_0, w_82_1, w_82_2, -⟩ := hw_82
          have M_82 := dg_sm.tr M_77 m_82 (by decide) (by decide)
          have hz_83 : (0 : Int32).toInt = 0 := by decide +kernel
          have w_82_0 : 0 ≤ (x_81).toInt ∧ (x_81).toInt ≤ 1 := w_82_0
          obtain ⟨x_84, f_x_84⟩ : ∃ x, S_82.2.1 29 (0 : Int32).toNatClampNeg = x := ⟨_, rfl⟩
          have hin_85 : vp_in (0 : Int32) 22 := (dk_in (by decide +kernel))
          have b_x_84 := dk_all_at (dg_I.row (lo := 0) (hi := 2000) I_82 sM_29 (by decide +kernel)) hin_85 f_x_84.symm
          have ex_84 := f_x_84.symm
          have hz_86 : (0 : Int32).toInt = 0 := by decide +kernel
          have zs_x_84 : (0 : Int32).toInt ≠ 1 → (x_84).toInt ≤ 999 := fun h => by rw [ex_84]; exact w_82_2 _ (dk_inT hin_85).2 (fun q => by have h9 := (dk_inT hin_85).1; omega)
          have w_82_1 : (x_84).toInt = (rw_77_0).toInt + 1 := w_82_1 x_84 f_x_84
          refine lv_iadd hx hb dX12_shifts_36 ?_
          refine lv_topi (fun x_87 ex_87 => ?_)
          refine lv_istore_n (lv' := [(2, .int x_87), (3, .int x_75), (0, .ref (o + 0)), (1, .int a1)]) hx hb dX12_shifts_37 rfl hl (by decide) rfl (fun ls hl => ?_)
          obtain ⟨x_88, ex_88⟩ : ∃ z, z = x_75 + 1 := ⟨_, rfl⟩
          have jx_88 : (x_88).toInt = (x_75).toInt + 1 := by rw [ex_88]; exact dk_addT rfl (by decide +kernel) (by omega) (by omega)
          refine lv_iinc (v := x_88) (lv' := [(3, .int x_88), (2, .int x_87), (0, .ref (o + 0)), (1, .int a1)]) hx hb dX12_shifts_38 hl (k := 1) rfl (by rw [ex_88]; rfl) (by decide) rfl (fun ls hl => ?_)
          refine lv_goto (tgt := 25) hx hb dX12_shifts_41 (by decide) ?_
          exact ih x_88 x_87 (by omega) (by omega) S_82 I_82 M_82 x_84 f_x_84 (by omega) w_82_2 (by omega) _ _ hP hS _ (lv_sub hl [0, 1, 2, 3] rfl)
    have hz_89 : (0 : Int32).toInt = 0 := by decide +kernel
    have hz_90 : (0 : Int32).toInt = 0 := by decide +kernel
    have hz_91 : (0 : Int32).toInt = 0 := by decide +kernel
    exact L_78 ((41 - ((0 : Int32)).toInt).toNat + 1) 0 0 (by decide +kernel) (by omega) S_12 I_12 M_12 x_13 f_x_13 (by omega) w_12_1 (by omega) _ _ hP hS _ (lv_sub hl [0, 1, 2, 3] rfl)
  · have jc_11 := dk_eqc (k := 0) (by decide +kernel) c_11
    refine lv_aload_n hx hb dX12_shifts_11 rfl (lv_at hl 0 rfl) ?_
    refine lv_iconst (v := 2) hx hb dX12_shifts_12 (by decide +kernel) ?_
    have hz_92 : (2 : Int32).toInt = 2 := by decide +kernel
    refine dg_calli hS hA1 hA (va_runV (As := [.int 2]) (rest := []) F (c_m_refuses l g D o S 2 (by decide +kernel) I H.size) (cwV 1 hts (bw_V wB_1079 wB_1080 wB_1081 wB_297 wB_1078) rfl rfl rfl (by decide +kernel) ⟨Nat.le_of_ble_eq_true rfl, Nat.le_of_ble_eq_true rfl⟩) (dg_preV sM_0 rfl K ST hP hS hA1 hA) rfl rfl hl.1 rfl (lv_room (Nat.le_of_ble_eq_true rfl)) dX12_shifts_13 ⟨Nat.le_of_ble_eq_true rfl, Nat.le_of_ble_eq_true rfl⟩) (fun x_93 S_94 hw_94 H locs hP hS => ?_)
    obtain ⟨I_94, m_94, w_94_0, -⟩ := hw_94
    have M_94 := dg_sm.tr M_0 m_94 (by decide) (by decide)
    have w_94_0 : (-1) ≤ (x_93).toInt ∧ (x_93).toInt ≤ (-1) := w_94_0
    refine W.widen (k := 0) (n := 0) (Nat.le_of_ble_eq_true rfl) (Nat.le_of_ble_eq_true rfl) ?_
    exact dg_iret hx hb hr hlocks rfl hP hS ⟨I_94, M_94, (ZSM.keep ZS m_94 (by decide)), trivial⟩ dX12_shifts_16
set_option maxHeartbeats 8000000 in
set_option maxRecDepth 100000 in
theorem c_m_draw (l : Launch) (g : Nat → ClassId) (D : va_G) (o : Nat) (S : dg_S) (a1 : Int32) (b_a1 : 1 ≤ (a1).toInt ∧ (a1).toInt ≤ 100) (ZD : ZDM S) (I : CM o S) (sz : Nat) : Met l yX12_draw (bw yX12_draw cX12_draw 2 (some .int)) ({ frames := 1, cells := 0, slots := 0, locals := 32 } : Room) (dk_Pc g D (dg_w g shM o rfM S) sz [.ref (o + 0), .int a1]) (va_Qi (fun (r : Int32) S' => CM o S' ∧ dg_sm shM [(0, 62)] [] S S' ∧ (0 ≤ (r).toInt ∧ (r).toInt ≤ 99) ∧ ((r).toInt < (a1).toInt) ∧ ZDM S' ∧ True) (dg_B g D shM o rfM) (dg_A o shM.length sz)) 0 0 (dg_A o shM.length sz) := by
  refine dg_met (cc := cX12_draw) (maxL := 2) (ret := (some .int)) (by decide) rfl (Nat.le_of_ble_eq_true rfl) ?_
  intro p e s m args below meth c A hAe harg hx hb hr hml hts hown hlocks hin hP K hS hA1 hA ST hsz ls hl
  rw [← hAe]
  have F : CallFix p m c cX12_draw 2 s args (bw yX12_draw cX12_draw 2 (some .int)) RX12 := ⟨hx, hb, hml, hown, hts⟩
  have hl : lv_has ls 2 [(0, .ref (o + 0)), (1, .int a1)] := hl
  have M_0 : dg_sm shM [(0, 62)] [] S S := dg_sm.rf
  refine lv_aload_n hx hb dX12_draw_0 rfl (lv_at hl 0 rfl) ?_
  refine lv_ldc2 hx hb hown (hts _ (bw_mem wB_1267)) dX12_draw_1 ?_
  refine lv_aload_n hx hb dX12_draw_4 rfl (lv_at hl 0 rfl) ?_
  obtain ⟨x_1, f_x_1⟩ := dg_I.long (i := 0) (k := 62) I sM_0 (by decide +kernel)
  refine dg_get (C := RX12) (T := TX12) (N := 77) hx hb hts (fun w h => bw_mem (wU_X12 w h)) hown K hP sM_0 rfl 62 (by decide) (hts _ (bw_mem wB_1201)) (fun _ h9 => h9) (v := .long x_1) f_x_1 dX12_draw_5 ?_
  refine lv_lmul hx hb dX12_draw_8 ?_
  refine lv_topl (fun x_2 ex_2 => ?_)
  refine lv_ldc2 hx hb hown (hts _ (bw_mem wB_1268)) dX12_draw_9 ?_
  refine lv_ladd hx hb dX12_draw_12 ?_
  refine lv_topl (fun x_3 ex_3 => ?_)
  refine lv_ldc2 hx hb hown (hts _ (bw_mem wB_1269)) dX12_draw_13 ?_
  refine lv_lrem hx hb dX12_draw_16 (by decide +kernel) ?_
  refine lv_topl (fun x_4 ex_4 => ?_)
  have hd_x_4 := dk_drawA (ZD _ f_x_1) ex_2 ex_3 ex_4
  refine dg_put (ci := 12) (v := .long x_4) (ty := tyX12 62) (C := RX12) (T := TX12) (N := 77) hx hb hts (fun w h => bw_mem (wU_X12 w h)) tyX12 tyX12_ok nmX12 hown K hP hS hA1 sM_0 rfl 62 (by decide) (hts _ (bw_mem wB_1201)) (fun _ h9 => h9) rfl (by decide +kernel) rfl rfl dX12_draw_17 (fun S_5 e_5 H locs hP hS => ?_)
  have I_5 := dg_I.uFl I e_5 sM_0 (by decide +kernel)
  have M_5 := dg_sm.uF M_0 e_5 sM_0 (by decide)
  have ZD_5 : ZDM S_5 := ZDM.put e_5 (by omega)
  refine lv_aload_n hx hb dX12_draw_20 rfl (lv_at hl 0 rfl) ?_
  refine dg_get (C := RX12) (T := TX12) (N := 77) hx hb hts (fun w h => bw_mem (wU_X12 w h)) hown K hP sM_0 rfl 62 (by decide) (hts _ (bw_mem wB_1201)) (fun _ h9 => h9) (v := .long x_4) (dg_uF_at e_5) dX12_draw_21 ?_
  refine lv_ldc2 hx hb hown (hts _ (bw_mem wB_1270)) dX12_draw_24 ?_
  refine lv_ldiv hx hb dX12_draw_27 (by decide +kernel) ?_
  refine lv_topl (fun x_6 ex_6 => ?_)
  have hd_x_6 := dk_div64 (by omega) ex_6
  refine lv_iload_n hx hb dX12_draw_28 rfl (lv_at hl 1 rfl) ?_
  obtain ⟨x_7, ex_7⟩ : ∃ z, (a1 : Int32).toInt64 = z := ⟨_, rfl⟩
  refine lv_i2l (v := x_7) hx hb dX12_draw_29 ex_7 ?_
  refine lv_lrem hx hb dX12_draw_30 (fun q => absurd (show (a1 : Int32).toInt = 0 by rw [← Int32.toInt_toInt64, ex_7, q]; decide +kernel) (by omega)) ?_
  refine lv_topl (fun x_8 ex_8 => ?_)
  have hd_x_8 := dk_remB (u := x_6) (q := x_7) (by omega) (by rw [← ex_7, Int32.toInt_toInt64]; omega) ex_8
  rw [← ex_7, Int32.toInt_toInt64] at hd_x_8
  obtain ⟨x_9, ex_9⟩ : ∃ z, (x_8 : Int64).toInt32 = z := ⟨_, rfl⟩
  refine lv_l2i (v := x_9) hx hb dX12_draw_31 ex_9 ?_
  have hli_x_9 := dk_l2i ex_9
  refine W.widen (k := 0) (n := 0) (Nat.le_of_ble_eq_true rfl) (Nat.le_of_ble_eq_true rfl) ?_
  exact dg_iret hx hb hr hlocks rfl hP hS ⟨I_5, M_5, (by omega), (by omega), ZD_5, trivial⟩ dX12_draw_32
set_option maxHeartbeats 8000000 in
set_option maxRecDepth 100000 in
theorem c_m_chance (l : Launch) (g : Nat → ClassId) (D : va_G) (o : Nat) (S : dg_S) (a1 : Int32) (ZB : ZBM S) (ZS : ZSM S) (ZW : ZWM S) (ZD : ZDM S) (I : CM o S) (sz : Nat) : Met l yX12_chance (bw yX12_chance cX12_chance 5 (some .int)) ({ frames := 9, cells := 0, slots := 0, locals := 217 } : Room) (dk_Pc g D (dg_w g shM o rfM S) sz [.ref (o + 0), .int a1]) (va_Qi (fun (r : Int32) S' => CM o S' ∧ dg_sm shM [(0, 60), (0, 61), (0, 62)] [28, 29, 30, 31, 32, 33, 34, 35, 36, 37, 38, 39, 40, 41, 42, 43, 44] S S' ∧ ZSM S' ∧ ZDM S' ∧ True) (dg_B g D shM o rfM) (dg_A o shM.length sz)) 0 0 (dg_A o shM.length sz) := by
  refine dg_met (cc := cX12_chance) (maxL := 5) (ret := (some .int)) (by decide) rfl (Nat.le_of_ble_eq_true rfl) ?_
  intro p e s m args below meth c A hAe harg hx hb hr hml hts hown hlocks hin hP K hS hA1 hA ST hsz ls hl
  rw [← hAe]
  have F : CallFix p m c cX12_chance 5 s args (bw yX12_chance cX12_chance 5 (some .int)) RX12 := ⟨hx, hb, hml, hown, hts⟩
  have hl : lv_has ls 5 [(0, .ref (o + 0)), (1, .int a1)] := hl
  have M_0 : dg_sm shM [(0, 60), (0, 61), (0, 62)] [28, 29, 30, 31, 32, 33, 34, 35, 36, 37, 38, 39, 40, 41, 42, 43, 44] S S := dg_sm.rf
  refine lv_aload_n hx hb dX12_chance_0 rfl (lv_at hl 0 rfl) ?_
  refine lv_iload_n hx hb dX12_chance_1 rfl (lv_at hl 1 rfl) ?_
  refine lv_iconst (v := 1) hx hb dX12_chance_2 (by decide +kernel) ?_
  refine lv_bipush (v := 40) hx hb dX12_chance_3 (by decide +kernel) ?_
  have hz_1 : (1 : Int32).toInt = 1 := by decide +kernel
  have hz_2 : (40 : Int32).toInt = 40 := by decide +kernel
  obtain ⟨x_3, f_x_3, b_x_3⟩ := dg_I.int (i := 0) (k := 47) (lo := 0) (hi := 1) I sM_0 (by decide +kernel)
  obtain ⟨x_4, f_x_4⟩ : ∃ x, S.2.1 29 (0 : Int32).toNatClampNeg = x := ⟨_, rfl⟩
  have hin_5 : vp_in (0 : Int32) 22 := (dk_in (by decide +kernel))
  have b_x_4 := dk_all_at (dg_I.row (lo := 0) (hi := 2000) I sM_29 (by decide +kernel)) hin_5 f_x_4.symm
  have ex_4 := f_x_4.symm
  have hz_6 : (0 : Int32).toInt = 0 := by decide +kernel
  have zs_x_4 : (0 : Int32).toInt ≠ 1 → (x_4).toInt ≤ 999 := fun h => by rw [ex_4]; exact ZS _ (dk_inT hin_5).2 (fun q => by have h9 := (dk_inT hin_5).1; omega)
  refine dg_calli hS hA1 hA (va_runV (As := [.int a1, .int 1, .int 40]) (rest := []) F (c_m_isAhead l g D o S a1 1 (by decide +kernel) 40 (by decide +kernel) x_3 f_x_3 (by omega) x_4 f_x_4 (by omega) I s.heap.size) (cwV 3 hts (bw_V wB_1235 wB_1236 wB_1237 wB_297 wB_1234) rfl rfl rfl (by decide +kernel) ⟨Nat.le_of_ble_eq_true rfl, Nat.le_of_ble_eq_true rfl⟩) (dg_preV sM_0 rfl K ST hP hS hA1 hA) rfl rfl hl.1 rfl (lv_room (Nat.le_of_ble_eq_true rfl)) dX12_chance_5 ⟨Nat.le_of_ble_eq_true rfl, Nat.le_of_ble_eq_true rfl⟩) (fun x_7 S_8 hw_8 H locs hP hS => ?_)
  rw [hw_8.1] at hP
  obtain ⟨hq_8, w_8_0, w_8_1, -⟩ := hw_8
  have hz_9 : (1 : Int32).toInt = 1 := by decide +kernel
  have hz_10 : (40 : Int32).toInt = 40 := by decide +kernel
  have w_8_0 : 0 ≤ (x_7).toInt ∧ (x_7).toInt ≤ 1 := w_8_0
  have w_8_1 : (x_7).toInt = 1 → ((x_3).toInt = 1 ∧ ((1 : Int32)).toInt ≤ (a1).toInt ∧ (a1).toInt ≤ ((40 : Int32)).toInt ∧ (x_4).toInt ≤ 999 - (a1).toInt) := w_8_1
  refine lv_if_ne (tgt := 17) hx hb dX12_chance_8 (by decide) (fun c_11 => ?_) (fun c_11 => ?_)
  · have jc_11 := dk_neqc (k := 0) (by decide +kernel) c_11
    refine lv_aload_n hx hb dX12_chance_17 rfl (lv_at hl 0 rfl) ?_
    refine dg_callv hS hA1 hA (va_runV (As := []) (rest := []) F (c_m_keeps l g D o S x_4 f_x_4 (by omega) ZB ZS I H.size) (cwV 0 hts (bw_V wB_1257 wB_1258 wB_1259 wB_297 wB_1256) rfl rfl rfl (by decide +kernel) ⟨Nat.le_of_ble_eq_true rfl, Nat.le_of_ble_eq_true rfl⟩) (dg_preV sM_0 rfl K ST hP hS hA1 hA) rfl rfl hl.1 rfl (lv_room (Nat.le_of_ble_eq_true rfl)) dX12_chance_18 ⟨Nat.le_of_ble_eq_true rfl, Nat.le_of_ble_eq_true rfl⟩) (fun S_12 hw_12 H locs hP hS => ?_)
    obtain ⟨I_12, m_12, w_12_0, w_12_1, -⟩ := hw_12
    have M_12 := dg_sm.tr M_0 m_12 (by decide) (by decide)
    obtain ⟨x_13, f_x_13⟩ : ∃ x, S_12.2.1 29 (0 : Int32).toNatClampNeg = x := ⟨_, rfl⟩
    have hin_14 : vp_in (0 : Int32) 22 := (dk_in (by decide +kernel))
    have b_x_13 := dk_all_at (dg_I.row (lo := 0) (hi := 2000) I_12 sM_29 (by decide +kernel)) hin_14 f_x_13.symm
    have ex_13 := f_x_13.symm
    have hz_15 : (0 : Int32).toInt = 0 := by decide +kernel
    have zs_x_13 : (0 : Int32).toInt ≠ 1 → (x_13).toInt ≤ 999 := fun h => by rw [ex_13]; exact w_12_1 _ (dk_inT hin_14).2 (fun q => by have h9 := (dk_inT hin_14).1; omega)
    have w_12_0 : (x_13).toInt = (x_4).toInt := w_12_0 x_13 f_x_13
    refine lv_iconst (v := 0) hx hb dX12_chance_21 (by decide +kernel) ?_
    refine lv_istore_n (lv' := [(2, .int 0), (0, .ref (o + 0)), (1, .int a1)]) hx hb dX12_chance_22 rfl hl (by decide) rfl (fun ls hl => ?_)
    refine lv_iconst (v := 0) hx hb dX12_chance_23 (by decide +kernel) ?_
    refine lv_istore_n (lv' := [(3, .int 0), (2, .int 0), (0, .ref (o + 0)), (1, .int a1)]) hx hb dX12_chance_24 rfl hl (by decide) rfl (fun ls hl => ?_)
    have L_268 : ∀ (n : Nat) (x_265 : Int32) (x_266 : Int32), (0 ≤ (x_265).toInt ∧ (x_265).toInt ≤ 40) → ((41 - (x_265).toInt).toNat < n) → ∀ S_267 : dg_S, CM o S_267 → dg_sm shM [(0, 60), (0, 61), (0, 62)] [28, 29, 30, 31, 32, 33, 34, 35, 36, 37, 38, 39, 40, 41, 42, 43, 44] S S_267 → ∀ rw_267_0 : Int32, S_267.2.1 29 (0 : Int32).toNatClampNeg = rw_267_0 → (0 ≤ (rw_267_0).toInt ∧ (rw_267_0).toInt ≤ 2000) → ZSM S_267 → ZDM S_267 → ((rw_267_0).toInt = (x_13).toInt + (x_265).toInt ∧ (x_265).toInt ≤ (a1).toInt) → ∀ (H : Heap) (locs : List Loc), va_P D vwCl (dg_w g shM o rfM S_267) H → va_S A s.heap H locs → ∀ ls : Array Slot, lv_has ls 5 [(3, .int x_265), (2, .int x_266), (0, .ref (o + 0)), (1, .int a1)] → W p l e ({ frames := 9, cells := 0, slots := 0, locals := 217 } : Room) s m args below meth c H locs 0 0 (MQ below (va_Qi (fun (r : Int32) S' => CM o S' ∧ dg_sm shM [(0, 60), (0, 61), (0, 62)] [28, 29, 30, 31, 32, 33, 34, 35, 36, 37, 38, 39, 40, 41, 42, 43, 44] S S' ∧ ZSM S' ∧ ZDM S' ∧ True) (dg_B g D shM o rfM) A) args s 0 0 A) (F0 m 25 ls []) := by
      intro n
      induction n with
      | zero =>
        intro x_265 x_266 b_x_265 hmu S_267 I_267 M_267 rw_267_0 frw_267_0 brw_267_0 ZS_267 ZD_267 srel_267_0 H locs hP hS ls hl
        omega
      | succ n ih =>
        intro x_265 x_266 b_x_265 hmu S_267 I_267 M_267 rw_267_0 frw_267_0 brw_267_0 ZS_267 ZD_267 srel_267_0 H locs hP hS ls hl
        refine lv_iload_n hx hb dX12_chance_25 rfl (lv_at hl 0 rfl) ?_
        refine lv_iload_n hx hb dX12_chance_26 rfl (lv_at hl 3 rfl) ?_
        refine lv_icmp_ge (tgt := 110) hx hb dX12_chance_27 (by decide) (fun c_269 => ?_) (fun c_269 => ?_)
        · have jc_269 := dk_gec (k := (a1).toInt) rfl c_269
          refine lv_iload_n hx hb dX12_chance_110 rfl (lv_at hl 1 rfl) ?_
          refine W.widen (k := 0) (n := 0) (Nat.le_of_ble_eq_true rfl) (Nat.le_of_ble_eq_true rfl) ?_
          exact dg_iret hx hb hr hlocks rfl hP hS ⟨I_267, M_267, ZS_267, ZD_267, trivial⟩ dX12_chance_111
        · have jc_269 := dk_ngec (k := (a1).toInt) rfl c_269
          refine lv_aload_n hx hb dX12_chance_30 rfl (lv_at hl 2 rfl) ?_
          refine lv_bipush (v := 100) hx hb dX12_chance_31 (by decide +kernel) ?_
          have hz_270 : (100 : Int32).toInt = 100 := by decide +kernel
          refine dg_calli hS hA1 hA (va_runV (As := [.int 100]) (rest := []) F (c_m_draw l g D o S_267 100 (by decide +kernel) ZD_267 I_267 H.size) (cwV 1 hts (bw_V wB_1272 wB_1273 wB_1274 wB_297 wB_1271) rfl rfl rfl (by decide +kernel) ⟨Nat.le_of_ble_eq_true rfl, Nat.le_of_ble_eq_true rfl⟩) (dg_preV sM_0 rfl K ST hP hS hA1 hA) rfl rfl hl.1 rfl (lv_room (Nat.le_of_ble_eq_true rfl)) dX12_chance_33 ⟨Nat.le_of_ble_eq_true rfl, Nat.le_of_ble_eq_true rfl⟩) (fun x_271 S_272 hw_272 H locs hP hS => ?_)
          obtain ⟨I_272, m_272, w_272_0, w_272_1, w_272_2, -⟩ := hw_272
          have M_272 := dg_sm.tr M_267 m_272 (by decide) (by decide)
          have hz_273 : (100 : Int32).toInt = 100 := by decide +kernel
          have w_272_0 : 0 ≤ (x_271).toInt ∧ (x_271).toInt ≤ 99 := w_272_0
          have w_272_1 : (x_271).toInt < ((100 : Int32)).toInt := w_272_1
          refine lv_aload_n hx hb dX12_chance_36 rfl (lv_at hl 2 rfl) ?_
          refine dg_get (C := RX12) (T := TX12) (N := 77) hx hb hts (fun w h => bw_mem (wU_X12 w h)) hown K hP sM_0 rfl 18 (by decide) (hts _ (bw_mem wB_475)) (fun _ h9 => h9) (v := .ref (o + 6)) (show S_272.1 0 18 = .ref (o + 6) from dg_I.rel (d := 6) I_272 sM_0 (by decide +kernel)) dX12_chance_37 ?_
          refine lv_aload_n hx hb dX12_chance_40 rfl (lv_at hl 2 rfl) ?_
          obtain ⟨x_274, f_x_274, b_x_274⟩ := dg_I.int (i := 0) (k := 13) (lo := 0) (hi := 1) I sM_0 (by decide +kernel)
          refine dg_get (C := RX12) (T := TX12) (N := 77) hx hb hts (fun w h => bw_mem (wU_X12 w h)) hown K hP sM_0 rfl 13 (by decide) (hts _ (bw_mem wB_1085)) (fun _ h9 => h9) (v := .int x_274) (((m_272.1 0 13 _ sM_0 (by decide)).trans (M_267.1 0 13 _ sM_0 (by decide))).trans f_x_274) dX12_chance_41 ?_
          have hin_275 : vp_in x_274 2 := (dk_inv (by omega) (by omega))
          refine dg_iald hx hb K hP sM_6 hin_275 dX12_chance_44 (fun x_276 ex_276 => ?_)
          have b_x_276 := dk_all_at (dg_I.row (lo := 0) (hi := 9999) I_272 sM_6 (by decide +kernel)) hin_275 ex_276
          refine lv_icmp_ge (tgt := 98) hx hb dX12_chance_45 (by decide) (fun c_277 => ?_) (fun c_277 => ?_)
          · have jc_277 := dk_gec (k := (x_276).toInt) rfl c_277
            refine lv_aload_n hx hb dX12_chance_98 rfl (lv_at hl 2 rfl) ?_
            refine lv_iconst (v := 0) hx hb dX12_chance_99 (by decide +kernel) ?_
            have hz_278 : (0 : Int32).toInt = 0 := by decide +kernel
            refine dg_calli hS hA1 hA (va_runV (As := [.int 0]) (rest := []) F (c_m_ticks l g D o S_272 0 (by decide +kernel) rw_267_0 ((congrFun (m_272.2 29 _ sM_29 (by decide)).1 _).trans frw_267_0) (by omega) (by omega) (ZBM.keep (ZBM.keep ZB M_267 (by decide) (by decide) (by decide) (by decide) (by decide)) m_272 (by decide) (by decide) (by decide) (by decide) (by decide)) (ZSM.keep ZS_267 m_272 (by decide)) (ZWM.keep (ZWM.keep ZW M_267 (by decide) (by decide) (by decide) (by decide)) m_272 (by decide) (by decide) (by decide) (by decide)) I_272 H.size) (cwV 1 hts (bw_V wB_1231 wB_1232 wB_1233 wB_297 wB_1230) rfl rfl rfl (by decide +kernel) ⟨Nat.le_of_ble_eq_true rfl, Nat.le_of_ble_eq_true rfl⟩) (dg_preV sM_0 rfl K ST hP hS hA1 hA) rfl rfl hl.1 rfl (lv_room (Nat.le_of_ble_eq_true rfl)) dX12_chance_100 ⟨Nat.le_of_ble_eq_true rfl, Nat.le_of_ble_eq_true rfl⟩) (fun x_279 S_280 hw_280 H locs hP hS => ?_)
            obtain ⟨I_280, m_280, w_280_0, w_280_1, w_280_2, -⟩ := hw_280
            have M_280 := dg_sm.tr M_272 m_280 (by decide) (by decide)
            have hz_281 : (0 : Int32).toInt = 0 := by decide +kernel
            have w_280_0 : 0 ≤ (x_279).toInt ∧ (x_279).toInt ≤ 1 := w_280_0
            obtain ⟨x_282, f_x_282⟩ : ∃ x, S_280.2.1 29 (0 : Int32).toNatClampNeg = x := ⟨_, rfl⟩
            have hin_283 : vp_in (0 : Int32) 22 := (dk_in (by decide +kernel))
            have b_x_282 := dk_all_at (dg_I.row (lo := 0) (hi := 2000) I_280 sM_29 (by decide +kernel)) hin_283 f_x_282.symm
            have ex_282 := f_x_282.symm
            have hz_284 : (0 : Int32).toInt = 0 := by decide +kernel
            have zs_x_282 : (0 : Int32).toInt ≠ 1 → (x_282).toInt ≤ 999 := fun h => by rw [ex_282]; exact w_280_2 _ (dk_inT hin_283).2 (fun q => by have h9 := (dk_inT hin_283).1; omega)
            have w_280_1 : (x_282).toInt = (rw_267_0).toInt + 1 := w_280_1 x_282 f_x_282
            refine lv_pop hx hb dX12_chance_103 rfl ?_
            obtain ⟨x_285, ex_285⟩ : ∃ z, z = x_265 + 1 := ⟨_, rfl⟩
            have jx_285 : (x_285).toInt = (x_265).toInt + 1 := by rw [ex_285]; exact dk_addT rfl (by decide +kernel) (by omega) (by omega)
            refine lv_iinc (v := x_285) (lv' := [(3, .int x_285), (2, .int x_266), (0, .ref (o + 0)), (1, .int a1)]) hx hb dX12_chance_104 hl (k := 0) rfl (by rw [ex_285]; rfl) (by decide) rfl (fun ls hl => ?_)
            refine lv_goto (tgt := 25) hx hb dX12_chance_107 (by decide) ?_
            exact ih x_285 x_266 (by omega) (by omega) S_280 I_280 M_280 x_282 f_x_282 (by omega) w_280_2 (ZDM.keep w_272_2 m_280 (by decide)) (by omega) _ _ hP hS _ (lv_sub hl [0, 1, 2, 3] rfl)
          · have jc_277 := dk_ngec (k := (x_276).toInt) rfl c_277
            refine lv_aload_n hx hb dX12_chance_48 rfl (lv_at hl 2 rfl) ?_
            refine lv_aload_n hx hb dX12_chance_49 rfl (lv_at hl 2 rfl) ?_
            refine dg_get (C := RX12) (T := TX12) (N := 77) hx hb hts (fun w h => bw_mem (wU_X12 w h)) hown K hP sM_0 rfl 14 (by decide) (hts _ (bw_mem wB_372)) (fun _ h9 => h9) (v := .ref (o + 2)) (show S_272.1 0 14 = .ref (o + 2) from dg_I.rel (d := 2) I_272 sM_0 (by decide +kernel)) dX12_chance_50 ?_
            refine lv_aload_n hx hb dX12_chance_53 rfl (lv_at hl 2 rfl) ?_
            refine dg_get (C := RX12) (T := TX12) (N := 77) hx hb hts (fun w h => bw_mem (wU_X12 w h)) hown K hP sM_0 rfl 13 (by decide) (hts _ (bw_mem wB_1085)) (fun _ h9 => h9) (v := .int x_274) (((m_272.1 0 13 _ sM_0 (by decide)).trans (M_267.1 0 13 _ sM_0 (by decide))).trans f_x_274) dX12_chance_54 ?_
            have hin_286 : vp_in x_274 2 := (dk_inv (by omega) (by omega))
            refine dg_iald hx hb K hP sM_2 hin_286 dX12_chance_57 (fun x_287 ex_287 => ?_)
            have b_x_287 := dk_all_at (dg_I.row (lo := 0) (hi := 9999) I_272 sM_2 (by decide +kernel)) hin_286 ex_287
            have zb_x_287 : (x_287).toInt ≤ 7 ∧ ((x_3 : Int32).toInt = 1 → 3 ≤ (x_287).toInt) := by rw [ex_287]; exact ⟨((ZBM.keep (ZBM.keep ZB M_267 (by decide) (by decide) (by decide) (by decide) (by decide)) m_272 (by decide) (by decide) (by decide) (by decide) (by decide)) x_274 x_3 (((m_272.1 0 13 _ sM_0 (by decide)).trans (M_267.1 0 13 _ sM_0 (by decide))).trans f_x_274) (((m_272.1 0 47 _ sM_0 (by decide)).trans (M_267.1 0 47 _ sM_0 (by decide))).trans f_x_3)).1, fun h9 => (((ZBM.keep (ZBM.keep ZB M_267 (by decide) (by decide) (by decide) (by decide) (by decide)) m_272 (by decide) (by decide) (by decide) (by decide) (by decide)) x_274 x_3 (((m_272.1 0 13 _ sM_0 (by decide)).trans (M_267.1 0 13 _ sM_0 (by decide))).trans f_x_274) (((m_272.1 0 47 _ sM_0 (by decide)).trans (M_267.1 0 47 _ sM_0 (by decide))).trans f_x_3)).2.2.2 h9).1⟩
            refine dg_calli hS hA1 hA (va_runV (As := [.int x_287]) (rest := []) F (c_m_draw l g D o S_272 x_287 (by omega) w_272_2 I_272 H.size) (cwV 1 hts (bw_V wB_1272 wB_1273 wB_1274 wB_297 wB_1271) rfl rfl rfl (by decide +kernel) ⟨Nat.le_of_ble_eq_true rfl, Nat.le_of_ble_eq_true rfl⟩) (dg_preV sM_0 rfl K ST hP hS hA1 hA) rfl rfl hl.1 rfl (lv_room (Nat.le_of_ble_eq_true rfl)) dX12_chance_58 ⟨Nat.le_of_ble_eq_true rfl, Nat.le_of_ble_eq_true rfl⟩) (fun x_288 S_289 hw_289 H locs hP hS => ?_)
            obtain ⟨I_289, m_289, w_289_0, w_289_1, w_289_2, -⟩ := hw_289
            have M_289 := dg_sm.tr M_272 m_289 (by decide) (by decide)
            have w_289_0 : 0 ≤ (x_288).toInt ∧ (x_288).toInt ≤ 99 := w_289_0
            have w_289_1 : (x_288).toInt < (x_287).toInt := w_289_1
            refine lv_istore (lv' := [(4, .int x_288), (3, .int x_265), (2, .int x_266), (0, .ref (o + 0)), (1, .int a1)]) hx hb dX12_chance_61 hl (by decide) rfl (fun ls hl => ?_)
            refine lv_iload_n hx hb dX12_chance_63 rfl (lv_at hl 2 rfl) ?_
            refine lv_aload_n hx hb dX12_chance_64 rfl (lv_at hl 3 rfl) ?_
            refine lv_iconst (v := 0) hx hb dX12_chance_65 (by decide +kernel) ?_
            refine lv_bipush (v := 8) hx hb dX12_chance_66 (by decide +kernel) ?_
            refine lv_aload_n hx hb dX12_chance_68 rfl (lv_at hl 3 rfl) ?_
            refine lv_aload_n hx hb dX12_chance_69 rfl (lv_at hl 3 rfl) ?_
            refine dg_get (C := RX12) (T := TX12) (N := 77) hx hb hts (fun w h => bw_mem (wU_X12 w h)) hown K hP sM_0 rfl 15 (by decide) (hts _ (bw_mem wB_377)) (fun _ h9 => h9) (v := .ref (o + 3)) (show S_289.1 0 15 = .ref (o + 3) from dg_I.rel (d := 3) I_289 sM_0 (by decide +kernel)) dX12_chance_70 ?_
            refine lv_aload_n hx hb dX12_chance_73 rfl (lv_at hl 3 rfl) ?_
            refine dg_get (C := RX12) (T := TX12) (N := 77) hx hb hts (fun w h => bw_mem (wU_X12 w h)) hown K hP sM_0 rfl 13 (by decide) (hts _ (bw_mem wB_1085)) (fun _ h9 => h9) (v := .int x_274) (((m_289.1 0 13 _ sM_0 (by decide)).trans ((m_272.1 0 13 _ sM_0 (by decide)).trans (M_267.1 0 13 _ sM_0 (by decide)))).trans f_x_274) dX12_chance_74 ?_
            have hin_290 : vp_in x_274 2 := (dk_inv (by omega) (by omega))
            refine dg_iald hx hb K hP sM_3 hin_290 dX12_chance_77 (fun x_291 ex_291 => ?_)
            have b_x_291 := dk_all_at (dg_I.row (lo := 0) (hi := 9999) I_289 sM_3 (by decide +kernel)) hin_290 ex_291
            have zb_x_291 : (x_291).toInt ≤ 7 ∧ ((x_3 : Int32).toInt = 1 → 3 ≤ (x_291).toInt) := by rw [ex_291]; exact ⟨((ZBM.keep (ZBM.keep (ZBM.keep ZB M_267 (by decide) (by decide) (by decide) (by decide) (by decide)) m_272 (by decide) (by decide) (by decide) (by decide) (by decide)) m_289 (by decide) (by decide) (by decide) (by decide) (by decide)) x_274 x_3 (((m_289.1 0 13 _ sM_0 (by decide)).trans ((m_272.1 0 13 _ sM_0 (by decide)).trans (M_267.1 0 13 _ sM_0 (by decide)))).trans f_x_274) (((m_289.1 0 47 _ sM_0 (by decide)).trans ((m_272.1 0 47 _ sM_0 (by decide)).trans (M_267.1 0 47 _ sM_0 (by decide)))).trans f_x_3)).2.1, fun h9 => (((ZBM.keep (ZBM.keep (ZBM.keep ZB M_267 (by decide) (by decide) (by decide) (by decide) (by decide)) m_272 (by decide) (by decide) (by decide) (by decide) (by decide)) m_289 (by decide) (by decide) (by decide) (by decide) (by decide)) x_274 x_3 (((m_289.1 0 13 _ sM_0 (by decide)).trans ((m_272.1 0 13 _ sM_0 (by decide)).trans (M_267.1 0 13 _ sM_0 (by decide)))).trans f_x_274) (((m_289.1 0 47 _ sM_0 (by decide)).trans ((m_272.1 0 47 _ sM_0 (by decide)).trans (M_267.1 0 47 _ sM_0 (by decide)))).trans f_x_3)).2.2.2 h9).2⟩
            refine dg_calli hS hA1 hA (va_runV (As := [.int x_291]) (rest := [.int 8, .int 0, .ref (o + 0), .int x_266]) F (c_m_draw l g D o S_289 x_291 (by omega) w_289_2 I_289 H.size) (cwV 1 hts (bw_V wB_1272 wB_1273 wB_1274 wB_297 wB_1271) rfl rfl rfl (by decide +kernel) ⟨Nat.le_of_ble_eq_true rfl, Nat.le_of_ble_eq_true rfl⟩) (dg_preV sM_0 rfl K ST hP hS hA1 hA) rfl rfl hl.1 rfl (lv_room (Nat.le_of_ble_eq_true rfl)) dX12_chance_78 ⟨Nat.le_of_ble_eq_true rfl, Nat.le_of_ble_eq_true rfl⟩) (fun x_292 S_293 hw_293 H locs hP hS => ?_)
            obtain ⟨I_293, m_293, w_293_0, w_293_1, w_293_2, -⟩ := hw_293
            have M_293 := dg_sm.tr M_289 m_293 (by decide) (by decide)
            have w_293_0 : 0 ≤ (x_292).toInt ∧ (x_292).toInt ≤ 99 := w_293_0
            have w_293_1 : (x_292).toInt < (x_291).toInt := w_293_1
            refine lv_imul hx hb dX12_chance_81 ?_
            refine lv_topi (fun x_294 ex_294 => ?_)
            have jx_294 : (x_294).toInt = 8 * (x_292).toInt := by rw [ex_294]; exact dk_mulT (by decide +kernel) rfl (by omega) (by omega)
            refine lv_iload hx hb dX12_chance_82 (lv_at hl 0 rfl) ?_
            refine lv_iadd hx hb dX12_chance_84 ?_
            refine lv_topi (fun x_295 ex_295 => ?_)
            have jx_295 : (x_295).toInt = (x_294).toInt + (x_288).toInt := by rw [ex_295]; exact dk_addT rfl rfl (by omega) (by omega)
            have hz_296 : (0 : Int32).toInt = 0 := by decide +kernel
            refine dg_calli hS hA1 hA (va_runV (As := [.int 0, .int x_295]) (rest := [.int x_266]) F (c_m_isSolidBy l g D o S_293 0 (by decide +kernel) x_295 (by omega) I_293 H.size) (cwV 2 hts (bw_V wB_1264 wB_1265 wB_1266 wB_297 wB_1263) rfl rfl rfl (by decide +kernel) ⟨Nat.le_of_ble_eq_true rfl, Nat.le_of_ble_eq_true rfl⟩) (dg_preV sM_0 rfl K ST hP hS hA1 hA) rfl rfl hl.1 rfl (lv_room (Nat.le_of_ble_eq_true rfl)) dX12_chance_85 ⟨Nat.le_of_ble_eq_true rfl, Nat.le_of_ble_eq_true rfl⟩) (fun x_297 S_298 hw_298 H locs hP hS => ?_)
            obtain ⟨I_298, m_298, w_298_0, -⟩ := hw_298
            have M_298 := dg_sm.tr M_293 m_298 (by decide) (by decide)
            have w_298_0 : 0 ≤ (x_297).toInt ∧ (x_297).toInt ≤ 1 := w_298_0
            refine lv_if_eq (tgt := 95) hx hb dX12_chance_88 (by decide) (fun c_299 => ?_) (fun c_299 => ?_)
            · have jc_299 := dk_eqc (k := 0) (by decide +kernel) c_299
              refine lv_iconst (v := 0) hx hb dX12_chance_95 (by decide +kernel) ?_
              have hf_299 := dk_full x_266
              refine lv_iadd hx hb dX12_chance_96 ?_
              refine dk_top (y := x_266) (by simp) ?_
              refine lv_istore_n (lv' := [(2, .int x_266), (4, .int x_288), (3, .int x_265), (0, .ref (o + 0)), (1, .int a1)]) hx hb dX12_chance_97 rfl hl (by decide) rfl (fun ls hl => ?_)
              refine lv_aload_n hx hb dX12_chance_98 rfl (lv_at hl 3 rfl) ?_
              refine lv_iconst (v := 0) hx hb dX12_chance_99 (by decide +kernel) ?_
              have hz_301 : (0 : Int32).toInt = 0 := by decide +kernel
              refine dg_calli hS hA1 hA (va_runV (As := [.int 0]) (rest := []) F (c_m_ticks l g D o S_298 0 (by decide +kernel) rw_267_0 ((congrFun ((m_298.2 29 _ sM_29 (by decide)).1.trans ((m_293.2 29 _ sM_29 (by decide)).1.trans ((m_289.2 29 _ sM_29 (by decide)).1.trans (m_272.2 29 _ sM_29 (by decide)).1))) _).trans frw_267_0) (by omega) (by omega) (ZBM.keep (ZBM.keep (ZBM.keep (ZBM.keep (ZBM.keep ZB M_267 (by decide) (by decide) (by decide) (by decide) (by decide)) m_272 (by decide) (by decide) (by decide) (by decide) (by decide)) m_289 (by decide) (by decide) (by decide) (by decide) (by decide)) m_293 (by decide) (by decide) (by decide) (by decide) (by decide)) m_298 (by decide) (by decide) (by decide) (by decide) (by decide)) (ZSM.keep (ZSM.keep (ZSM.keep (ZSM.keep ZS_267 m_272 (by decide)) m_289 (by decide)) m_293 (by decide)) m_298 (by decide)) (ZWM.keep (ZWM.keep (ZWM.keep (ZWM.keep (ZWM.keep ZW M_267 (by decide) (by decide) (by decide) (by decide)) m_272 (by decide) (by decide) (by decide) (by decide)) m_289 (by decide) (by decide) (by decide) (by decide)) m_293 (by decide) (by decide) (by decide) (by decide)) m_298 (by decide) (by decide) (by decide) (by decide)) I_298 H.size) (cwV 1 hts (bw_V wB_1231 wB_1232 wB_1233 wB_297 wB_1230) rfl rfl rfl (by decide +kernel) ⟨Nat.le_of_ble_eq_true rfl, Nat.le_of_ble_eq_true rfl⟩) (dg_preV sM_0 rfl K ST hP hS hA1 hA) rfl rfl hl.1 rfl (lv_room (Nat.le_of_ble_eq_true rfl)) dX12_chance_100 ⟨Nat.le_of_ble_eq_true rfl, Nat.le_of_ble_eq_true rfl⟩) (fun x_302 S_303 hw_303 H locs hP hS => ?_)
              obtain ⟨I_303, m_303, w_303_0, w_303_1, w_303_2, -⟩ := hw_303
              have M_303 := dg_sm.tr M_298 m_303 (by decide) (by decide)
              have hz_304 : (0 : Int32).toInt = 0 := by decide +kernel
              have w_303_0 : 0 ≤ (x_302).toInt ∧ (x_302).toInt ≤ 1 := w_303_0
              obtain ⟨x_305, f_x_305⟩ : ∃ x, S_303.2.1 29 (0 : Int32).toNatClampNeg = x := ⟨_, rfl⟩
              have hin_306 : vp_in (0 : Int32) 22 := (dk_in (by decide +kernel))
              have b_x_305 := dk_all_at (dg_I.row (lo := 0) (hi := 2000) I_303 sM_29 (by decide +kernel)) hin_306 f_x_305.symm
              have ex_305 := f_x_305.symm
              have hz_307 : (0 : Int32).toInt = 0 := by decide +kernel
              have zs_x_305 : (0 : Int32).toInt ≠ 1 → (x_305).toInt ≤ 999 := fun h => by rw [ex_305]; exact w_303_2 _ (dk_inT hin_306).2 (fun q => by have h9 := (dk_inT hin_306).1; omega)
              have w_303_1 : (x_305).toInt = (rw_267_0).toInt + 1 := w_303_1 x_305 f_x_305
              refine lv_pop hx hb dX12_chance_103 rfl ?_
              obtain ⟨x_308, ex_308⟩ : ∃ z, z = x_265 + 1 := ⟨_, rfl⟩
              have jx_308 : (x_308).toInt = (x_265).toInt + 1 := by rw [ex_308]; exact dk_addT rfl (by decide +kernel) (by omega) (by omega)
              refine lv_iinc (v := x_308) (lv' := [(3, .int x_308), (2, .int x_266), (4, .int x_288), (0, .ref (o + 0)), (1, .int a1)]) hx hb dX12_chance_104 hl (k := 2) rfl (by rw [ex_308]; rfl) (by decide) rfl (fun ls hl => ?_)
              refine lv_goto (tgt := 25) hx hb dX12_chance_107 (by decide) ?_
              exact ih x_308 x_266 (by omega) (by omega) S_303 I_303 M_303 x_305 f_x_305 (by omega) w_303_2 (ZDM.keep (ZDM.keep w_293_2 m_298 (by decide)) m_303 (by decide)) (by omega) _ _ hP hS _ (lv_sub hl [0, 1, 3, 4] rfl)
            · have jc_299 := dk_neqc (k := 0) (by decide +kernel) c_299
              refine lv_iconst (v := 1) hx hb dX12_chance_91 (by decide +kernel) ?_
              refine lv_goto (tgt := 96) hx hb dX12_chance_92 (by decide) ?_
              refine lv_iadd hx hb dX12_chance_96 ?_
              refine lv_topi (fun x_309 ex_309 => ?_)
              refine lv_istore_n (lv' := [(2, .int x_309), (4, .int x_288), (3, .int x_265), (0, .ref (o + 0)), (1, .int a1)]) hx hb dX12_chance_97 rfl hl (by decide) rfl (fun ls hl => ?_)
              refine lv_aload_n hx hb dX12_chance_98 rfl (lv_at hl 3 rfl) ?_
              refine lv_iconst (v := 0) hx hb dX12_chance_99 (by decide +kernel) ?_
              have hz_310 : (0 : Int32).toInt = 0 := by decide +kernel
              refine dg_calli hS hA1 hA (va_runV (As := [.int 0]) (rest := []) F (c_m_ticks l g D o S_298 0 (by decide +kernel) rw_267_0 ((congrFun ((m_298.2 29 _ sM_29 (by decide)).1.trans ((m_293.2 29 _ sM_29 (by decide)).1.trans ((m_289.2 29 _ sM_29 (by decide)).1.trans (m_272.2 29 _ sM_29 (by decide)).1))) _).trans frw_267_0) (by omega) (by omega) (ZBM.keep (ZBM.keep (ZBM.keep (ZBM.keep (ZBM.keep ZB M_267 (by decide) (by decide) (by decide) (by decide) (by decide)) m_272 (by decide) (by decide) (by decide) (by decide) (by decide)) m_289 (by decide) (by decide) (by decide) (by decide) (by decide)) m_293 (by decide) (by decide) (by decide) (by decide) (by decide)) m_298 (by decide) (by decide) (by decide) (by decide) (by decide)) (ZSM.keep (ZSM.keep (ZSM.keep (ZSM.keep ZS_267 m_272 (by decide)) m_289 (by decide)) m_293 (by decide)) m_298 (by decide)) (ZWM.keep (ZWM.keep (ZWM.keep (ZWM.keep (ZWM.keep ZW M_267 (by decide) (by decide) (by decide) (by decide)) m_272 (by decide) (by decide) (by decide) (by decide)) m_289 (by decide) (by decide) (by decide) (by decide)) m_293 (by decide) (by decide) (by decide) (by decide)) m_298 (by decide) (by decide) (by decide) (by decide)) I_298 H.size) (cwV 1 hts (bw_V wB_1231 wB_1232 wB_1233 wB_297 wB_1230) rfl rfl rfl (by decide +kernel) ⟨Nat.le_of_ble_eq_true rfl, Nat.le_of_ble_eq_true rfl⟩) (dg_preV sM_0 rfl K ST hP hS hA1 hA) rfl rfl hl.1 rfl (lv_room (Nat.le_of_ble_eq_true rfl)) dX12_chance_100 ⟨Nat.le_of_ble_eq_true rfl, Nat.le_of_ble_eq_true rfl⟩) (fun x_311 S_312 hw_312 H locs hP hS => ?_)
              obtain ⟨I_312, m_312, w_312_0, w_312_1, w_312_2, -⟩ := hw_312
              have M_312 := dg_sm.tr M_298 m_312 (by decide) (by decide)
              have hz_313 : (0 : Int32).toInt = 0 := by decide +kernel
              have w_312_0 : 0 ≤ (x_311).toInt ∧ (x_311).toInt ≤ 1 := w_312_0
              obtain ⟨x_314, f_x_314⟩ : ∃ x, S_312.2.1 29 (0 : Int32).toNatClampNeg = x := ⟨_, rfl⟩
              have hin_315 : vp_in (0 : Int32) 22 := (dk_in (by decide +kernel))
              have b_x_314 := dk_all_at (dg_I.row (lo := 0) (hi := 2000) I_312 sM_29 (by decide +kernel)) hin_315 f_x_314.symm
              have ex_314 := f_x_314.symm
              have hz_316 : (0 : Int32).toInt = 0 := by decide +kernel
              have zs_x_314 : (0 : Int32).toInt ≠ 1 → (x_314).toInt ≤ 999 := fun h => by rw [ex_314]; exact w_312_2 _ (dk_inT hin_315).2 (fun q => by have h9 := (dk_inT hin_315).1; omega)
              have w_312_1 : (x_314).toInt = (rw_267_0).toInt + 1 := w_312_1 x_314 f_x_314
              refine lv_pop hx hb dX12_chance_103 rfl ?_
              obtain ⟨x_317, ex_317⟩ : ∃ z, z = x_265 + 1 := ⟨_, rfl⟩
              have jx_317 : (x_317).toInt = (x_265).toInt + 1 := by rw [ex_317]; exact dk_addT rfl (by decide +kernel) (by omega) (by omega)
              refine lv_iinc (v := x_317) (lv' := [(3, .int x_317), (2, .int x_309), (4, .int x_288), (0, .ref (o + 0)), (1, .int a1)]) hx hb dX12_chance_104 hl (k := 2) rfl (by rw [ex_317]; rfl) (by decide) rfl (fun ls hl => ?_)
              refine lv_goto (tgt := 25) hx hb dX12_chance_107 (by decide) ?_
              exact ih x_317 x_309 (by omega) (by omega) S_312 I_312 M_312 x_314 f_x_314 (by omega) w_312_2 (ZDM.keep (ZDM.keep w_293_2 m_298 (by decide)) m_312 (by decide)) (by omega) _ _ hP hS _ (lv_sub hl [0, 1, 3, 4] rfl)
    have hz_318 : (0 : Int32).toInt = 0 := by decide +kernel
    have hz_319 : (0 : Int32).toInt = 0 := by decide +kernel
    have hz_320 : (0 : Int32).toInt = 0 := by decide +kernel
    exact L_268 ((41 - ((0 : Int32)).toInt).toNat + 1) 0 0 (by decide +kernel) (by omega) S_12 I_12 M_12 x_13 f_x_13 (by omega) w_12_1 (ZDM.keep ZD m_12 (by decide)) (by omega) _ _ hP hS _ (lv_sub hl [0, 1, 2, 3] rfl)
  · have jc_11 := dk_eqc (k := 0) (by decide +kernel) c_11
    refine lv_aload_n hx hb dX12_chance_11 rfl (lv_at hl 0 rfl) ?_
    refine lv_iconst (v := 2) hx hb dX12_chance_12 (by decide +kernel) ?_
    have hz_321 : (2 : Int32).toInt = 2 := by decide +kernel
    refine dg_calli hS hA1 hA (va_runV (As := [.int 2]) (rest := []) F (c_m_refuses l g D o S 2 (by decide +kernel) I H.size) (cwV 1 hts (bw_V wB_1079 wB_1080 wB_1081 wB_297 wB_1078) rfl rfl rfl (by decide +kernel) ⟨Nat.le_of_ble_eq_true rfl, Nat.le_of_ble_eq_true rfl⟩) (dg_preV sM_0 rfl K ST hP hS hA1 hA) rfl rfl hl.1 rfl (lv_room (Nat.le_of_ble_eq_true rfl)) dX12_chance_13 ⟨Nat.le_of_ble_eq_true rfl, Nat.le_of_ble_eq_true rfl⟩) (fun x_322 S_323 hw_323 H locs hP hS => ?_)
    obtain ⟨I_323, m_323, w_323_0, -⟩ := hw_323
    have M_323 := dg_sm.tr M_0 m_323 (by decide) (by decide)
    have w_323_0 : (-1) ≤ (x_322).toInt ∧ (x_322).toInt ≤ (-1) := w_323_0
    refine W.widen (k := 0) (n := 0) (Nat.le_of_ble_eq_true rfl) (Nat.le_of_ble_eq_true rfl) ?_
    exact dg_iret hx hb hr hlocks rfl hP hS ⟨I_323, M_323, (ZSM.keep ZS m_323 (by decide)), (ZDM.keep ZD m_323 (by decide)), trivial⟩ dX12_chance_16
set_option maxHeartbeats 8000000 in
set_option maxRecDepth 100000 in
theorem c_m_reachBits (l : Launch) (g : Nat → ClassId) (D : va_G) (o : Nat) (S : dg_S) (ZB : ZBM S) (ZS : ZSM S) (ZW : ZWM S) (I : CM o S) (sz : Nat) : Met l yX12_reachBits (bw yX12_reachBits cX12_reachBits 6 (some .int)) ({ frames := 9, cells := 0, slots := 0, locals := 217 } : Room) (dk_Pc g D (dg_w g shM o rfM S) sz [.ref (o + 0)]) (va_Qi (fun (r : Int32) S' => CM o S' ∧ dg_sm shM [(0, 63)] [29, 30, 31, 32, 33, 34, 35, 36, 37, 38, 39, 40, 41, 42, 43, 44, 48] S S' ∧ ZSM S' ∧ True) (dg_B g D shM o rfM) (dg_A o shM.length sz)) 0 0 (dg_A o shM.length sz) := by
  refine dg_met (cc := cX12_reachBits) (maxL := 6) (ret := (some .int)) (by decide) rfl (Nat.le_of_ble_eq_true rfl) ?_
  intro p e s m args below meth c A hAe harg hx hb hr hml hts hown hlocks hin hP K hS hA1 hA ST hsz ls hl
  rw [← hAe]
  have F : CallFix p m c cX12_reachBits 6 s args (bw yX12_reachBits cX12_reachBits 6 (some .int)) RX12 := ⟨hx, hb, hml, hown, hts⟩
  have hl : lv_has ls 6 [(0, .ref (o + 0))] := hl
  have M_0 : dg_sm shM [(0, 63)] [29, 30, 31, 32, 33, 34, 35, 36, 37, 38, 39, 40, 41, 42, 43, 44, 48] S S := dg_sm.rf
  refine lv_iconst (v := 0) hx hb dX12_reachBits_0 (by decide +kernel) ?_
  refine lv_istore_n (lv' := [(1, .int 0), (0, .ref (o + 0))]) hx hb dX12_reachBits_1 rfl hl (by decide) rfl (fun ls hl => ?_)
  refine lv_iconst (v := 0) hx hb dX12_reachBits_2 (by decide +kernel) ?_
  refine lv_istore_n (lv' := [(2, .int 0), (1, .int 0), (0, .ref (o + 0))]) hx hb dX12_reachBits_3 rfl hl (by decide) rfl (fun ls hl => ?_)
  have L_1287 : ∀ (n : Nat) (x_1284 : Int32) (x_1285 : Int32), (0 ≤ (x_1284).toInt ∧ (x_1284).toInt ≤ 21) → ((22 - (x_1284).toInt).toNat < n) → ∀ S_1286 : dg_S, CM o S_1286 → dg_sm shM [(0, 63)] [29, 30, 31, 32, 33, 34, 35, 36, 37, 38, 39, 40, 41, 42, 43, 44, 48] S S_1286 → ZSM S_1286 → ∀ (H : Heap) (locs : List Loc), va_P D vwCl (dg_w g shM o rfM S_1286) H → va_S A s.heap H locs → ∀ ls : Array Slot, lv_has ls 6 [(2, .int x_1284), (1, .int x_1285), (0, .ref (o + 0))] → W p l e ({ frames := 9, cells := 0, slots := 0, locals := 217 } : Room) s m args below meth c H locs 0 0 (MQ below (va_Qi (fun (r : Int32) S' => CM o S' ∧ dg_sm shM [(0, 63)] [29, 30, 31, 32, 33, 34, 35, 36, 37, 38, 39, 40, 41, 42, 43, 44, 48] S S' ∧ ZSM S' ∧ True) (dg_B g D shM o rfM) A) args s 0 0 A) (F0 m 4 ls []) := by
    intro n
    induction n with
    | zero =>
      intro x_1284 x_1285 b_x_1284 hmu S_1286 I_1286 M_1286 ZS_1286 H locs hP hS ls hl
      omega
    | succ n ih =>
      intro x_1284 x_1285 b_x_1284 hmu S_1286 I_1286 M_1286 ZS_1286 H locs hP hS ls hl
      refine lv_iload_n hx hb dX12_reachBits_4 rfl (lv_at hl 0 rfl) ?_
      refine lv_bipush (v := 20) hx hb dX12_reachBits_5 (by decide +kernel) ?_
      refine lv_icmp_gt (tgt := 181) hx hb dX12_reachBits_7 (by decide) (fun c_1288 => ?_) (fun c_1288 => ?_)
      · have jc_1288 := dk_gtc (k := 20) (by decide +kernel) c_1288
        refine lv_aload_n hx hb dX12_reachBits_181 rfl (lv_at hl 2 rfl) ?_
        refine lv_aload_n hx hb dX12_reachBits_182 rfl (lv_at hl 2 rfl) ?_
        refine dg_get (C := RX12) (T := TX12) (N := 77) hx hb hts (fun w h => bw_mem (wU_X12 w h)) hown K hP sM_0 rfl 17 (by decide) (hts _ (bw_mem wB_480)) (fun _ h9 => h9) (v := .ref (o + 5)) (show S_1286.1 0 17 = .ref (o + 5) from dg_I.rel (d := 5) I_1286 sM_0 (by decide +kernel)) dX12_reachBits_183 ?_
        refine lv_aload_n hx hb dX12_reachBits_186 rfl (lv_at hl 2 rfl) ?_
        obtain ⟨x_1289, f_x_1289, b_x_1289⟩ := dg_I.int (i := 0) (k := 13) (lo := 0) (hi := 1) I sM_0 (by decide +kernel)
        refine dg_get (C := RX12) (T := TX12) (N := 77) hx hb hts (fun w h => bw_mem (wU_X12 w h)) hown K hP sM_0 rfl 13 (by decide) (hts _ (bw_mem wB_1085)) (fun _ h9 => h9) (v := .int x_1289) ((M_1286.1 0 13 _ sM_0 (by decide)).trans f_x_1289) dX12_reachBits_187 ?_
        have hin_1290 : vp_in x_1289 2 := (dk_inv (by omega) (by omega))
        refine dg_iald hx hb K hP sM_5 hin_1290 dX12_reachBits_190 (fun x_1291 ex_1291 => ?_)
        have b_x_1291 := dk_all_at (dg_I.row (lo := 0) (hi := 9999) I_1286 sM_5 (by decide +kernel)) hin_1290 ex_1291
        refine dg_put (ci := 12) (v := .int x_1291) (ty := tyX12 63) (C := RX12) (T := TX12) (N := 77) hx hb hts (fun w h => bw_mem (wU_X12 w h)) tyX12 tyX12_ok nmX12 hown K hP hS hA1 sM_0 rfl 63 (by decide) (hts _ (bw_mem wB_1096)) (fun _ h9 => h9) rfl (by decide +kernel) rfl rfl dX12_reachBits_191 (fun S_1292 e_1292 H locs hP hS => ?_)
        have I_1292 := dg_I.uFi (lo := (-2147483648)) (hi := 2147483647) I_1286 e_1292 sM_0 (by decide +kernel) (show (-2147483648) ≤ (x_1291).toInt ∧ (x_1291).toInt ≤ 2147483647 from (dk_full _))
        have M_1292 := dg_sm.uF M_1286 e_1292 sM_0 (by decide)
        refine lv_iload_n hx hb dX12_reachBits_194 rfl (lv_at hl 1 rfl) ?_
        refine W.widen (k := 0) (n := 0) (Nat.le_of_ble_eq_true rfl) (Nat.le_of_ble_eq_true rfl) ?_
        exact dg_iret hx hb hr hlocks rfl hP hS ⟨I_1292, M_1292, (ZSM.keep ZS_1286 (dg_sm.uF (WF := [(0, 63)]) (WA := []) dg_sm.rf e_1292 sM_0 (by decide)) (by decide)), trivial⟩ dX12_reachBits_195
      · have jc_1288 := dk_ngtc (k := 20) (by decide +kernel) c_1288
        refine lv_aload_n hx hb dX12_reachBits_10 rfl (lv_at hl 2 rfl) ?_
        refine lv_iconst (v := 1) hx hb dX12_reachBits_11 (by decide +kernel) ?_
        refine lv_iconst (v := 0) hx hb dX12_reachBits_12 (by decide +kernel) ?_
        have hz_1293 : (1 : Int32).toInt = 1 := by decide +kernel
        have hz_1294 : (0 : Int32).toInt = 0 := by decide +kernel
        obtain ⟨x_1295, f_x_1295⟩ : ∃ x, S_1286.2.1 29 (0 : Int32).toNatClampNeg = x := ⟨_, rfl⟩
        have hin_1296 : vp_in (0 : Int32) 22 := (dk_in (by decide +kernel))
        have b_x_1295 := dk_all_at (dg_I.row (lo := 0) (hi := 2000) I_1286 sM_29 (by decide +kernel)) hin_1296 f_x_1295.symm
        have ex_1295 := f_x_1295.symm
        have hz_1297 : (0 : Int32).toInt = 0 := by decide +kernel
        have zs_x_1295 : (0 : Int32).toInt ≠ 1 → (x_1295).toInt ≤ 999 := fun h => by rw [ex_1295]; exact ZS_1286 _ (dk_inT hin_1296).2 (fun q => by have h9 := (dk_inT hin_1296).1; omega)
        refine dg_callv hS hA1 hA (va_runV (As := [.int 1, .int 0]) (rest := []) F (c_m_copies l g D o S_1286 1 (by decide +kernel) 0 (by decide +kernel) x_1295 f_x_1295 (by omega) x_1295 f_x_1295 (by omega) (by omega) ZS_1286 I_1286 H.size) (cwV 2 hts (bw_V wB_1227 wB_1228 wB_1229 wB_297 wB_1226) rfl rfl rfl (by decide +kernel) ⟨Nat.le_of_ble_eq_true rfl, Nat.le_of_ble_eq_true rfl⟩) (dg_preV sM_0 rfl K ST hP hS hA1 hA) rfl rfl hl.1 rfl (lv_room (Nat.le_of_ble_eq_true rfl)) dX12_reachBits_13 ⟨Nat.le_of_ble_eq_true rfl, Nat.le_of_ble_eq_true rfl⟩) (fun S_1298 hw_1298 H locs hP hS => ?_)
        obtain ⟨I_1298, m_1298, w_1298_0, w_1298_1, w_1298_2, -⟩ := hw_1298
        have M_1298 := dg_sm.tr M_1286 m_1298 (by decide) (by decide)
        have hz_1299 : (1 : Int32).toInt = 1 := by decide +kernel
        have hz_1300 : (0 : Int32).toInt = 0 := by decide +kernel
        obtain ⟨x_1301, f_x_1301⟩ : ∃ x, S_1298.2.1 29 (1 : Int32).toNatClampNeg = x := ⟨_, rfl⟩
        have hin_1302 : vp_in (1 : Int32) 22 := (dk_in (by decide +kernel))
        have b_x_1301 := dk_all_at (dg_I.row (lo := 0) (hi := 2000) I_1298 sM_29 (by decide +kernel)) hin_1302 f_x_1301.symm
        have ex_1301 := f_x_1301.symm
        have hz_1303 : (1 : Int32).toInt = 1 := by decide +kernel
        have zs_x_1301 : (1 : Int32).toInt ≠ 1 → (x_1301).toInt ≤ 999 := fun h => by rw [ex_1301]; exact w_1298_2 _ (dk_inT hin_1302).2 (fun q => by have h9 := (dk_inT hin_1302).1; omega)
        have w_1298_0 : (x_1301).toInt = (x_1295).toInt := w_1298_0 x_1301 f_x_1301
        obtain ⟨x_1304, f_x_1304⟩ : ∃ x, S_1298.2.1 29 (0 : Int32).toNatClampNeg = x := ⟨_, rfl⟩
        have hin_1305 : vp_in (0 : Int32) 22 := (dk_in (by decide +kernel))
        have b_x_1304 := dk_all_at (dg_I.row (lo := 0) (hi := 2000) I_1298 sM_29 (by decide +kernel)) hin_1305 f_x_1304.symm
        have ex_1304 := f_x_1304.symm
        have hz_1306 : (0 : Int32).toInt = 0 := by decide +kernel
        have zs_x_1304 : (0 : Int32).toInt ≠ 1 → (x_1304).toInt ≤ 999 := fun h => by rw [ex_1304]; exact w_1298_2 _ (dk_inT hin_1305).2 (fun q => by have h9 := (dk_inT hin_1305).1; omega)
        have w_1298_1 : ((1 : Int32)).toInt ≠ 0 → (x_1304).toInt = (x_1295).toInt := w_1298_1 x_1304 f_x_1304
        refine lv_aload_n hx hb dX12_reachBits_16 rfl (lv_at hl 2 rfl) ?_
        refine lv_iload_n hx hb dX12_reachBits_17 rfl (lv_at hl 0 rfl) ?_
        refine dg_put (ci := 12) (v := .int x_1284) (ty := tyX12 63) (C := RX12) (T := TX12) (N := 77) hx hb hts (fun w h => bw_mem (wU_X12 w h)) tyX12 tyX12_ok nmX12 hown K hP hS hA1 sM_0 rfl 63 (by decide) (hts _ (bw_mem wB_1096)) (fun _ h9 => h9) rfl (by decide +kernel) rfl rfl dX12_reachBits_18 (fun S_1307 e_1307 H locs hP hS => ?_)
        have I_1307 := dg_I.uFi (lo := (-2147483648)) (hi := 2147483647) I_1298 e_1307 sM_0 (by decide +kernel) (show (-2147483648) ≤ (x_1284).toInt ∧ (x_1284).toInt ≤ 2147483647 from (dk_full _))
        have M_1307 := dg_sm.uF M_1298 e_1307 sM_0 (by decide)
        refine lv_iconst (v := 0) hx hb dX12_reachBits_21 (by decide +kernel) ?_
        refine lv_istore_n (lv' := [(3, .int 0), (2, .int x_1284), (1, .int x_1285), (0, .ref (o + 0))]) hx hb dX12_reachBits_22 rfl hl (by decide) rfl (fun ls hl => ?_)
        refine lv_iconst (v := 0) hx hb dX12_reachBits_23 (by decide +kernel) ?_
        refine lv_istore (lv' := [(4, .int 0), (3, .int 0), (2, .int x_1284), (1, .int x_1285), (0, .ref (o + 0))]) hx hb dX12_reachBits_24 hl (by decide) rfl (fun ls hl => ?_)
        have J_1952 : ∀ (x_1940 : Int32) (x_1941 : Int32), (0 ≤ (x_1940).toInt ∧ (x_1940).toInt ≤ 31) → ∀ S_1951 : dg_S, CM o S_1951 → dg_sm shM [(0, 63)] [29, 30, 31, 32, 33, 34, 35, 36, 37, 38, 39, 40, 41, 42, 43, 44, 48] S S_1951 → S_1951.1 0 63 = .int x_1284 → ZSM S_1951 → ∀ (H : Heap) (locs : List Loc), va_P D vwCl (dg_w g shM o rfM S_1951) H → va_S A s.heap H locs → ∀ ls : Array Slot, lv_has ls 6 [(4, .int x_1940), (3, .int x_1941), (2, .int x_1284), (1, .int x_1285), (0, .ref (o + 0))] → W p l e ({ frames := 9, cells := 0, slots := 0, locals := 217 } : Room) s m args below meth c H locs 0 0 (MQ below (va_Qi (fun (r : Int32) S' => CM o S' ∧ dg_sm shM [(0, 63)] [29, 30, 31, 32, 33, 34, 35, 36, 37, 38, 39, 40, 41, 42, 43, 44, 48] S S' ∧ ZSM S' ∧ True) (dg_B g D shM o rfM) A) args s 0 0 A) (F0 m 157 ls []) := by
          intro x_1940 x_1941 b_x_1940 S_1951 I_1951 M_1951 ff_1951_63_0 ZS_1951 H locs hP hS ls hl
          refine lv_iload_n hx hb dX12_reachBits_157 rfl (lv_at hl 3 rfl) ?_
          refine lv_iload_n hx hb dX12_reachBits_158 rfl (lv_at hl 1 rfl) ?_
          refine lv_aload_n hx hb dX12_reachBits_159 rfl (lv_at hl 4 rfl) ?_
          obtain ⟨x_1953, f_x_1953, b_x_1953⟩ := dg_I.int (i := 0) (k := 69) (lo := 0) (hi := 16) I sM_0 (by decide +kernel)
          refine dg_get (C := RX12) (T := TX12) (N := 77) hx hb hts (fun w h => bw_mem (wU_X12 w h)) hown K hP sM_0 rfl 69 (by decide) (hts _ (bw_mem wB_1193)) (fun _ h9 => h9) (v := .int x_1953) ((M_1951.1 0 69 _ sM_0 (by decide)).trans f_x_1953) dX12_reachBits_160 ?_
          have J_1961 : ∀ (x_1958 : Int32), ∀ (H : Heap) (locs : List Loc), va_P D vwCl (dg_w g shM o rfM S_1951) H → va_S A s.heap H locs → ∀ ls : Array Slot, lv_has ls 6 [(4, .int x_1940), (3, .int x_1941), (2, .int x_1284), (1, .int x_1285), (0, .ref (o + 0))] → W p l e ({ frames := 9, cells := 0, slots := 0, locals := 217 } : Room) s m args below meth c H locs 0 0 (MQ below (va_Qi (fun (r : Int32) S' => CM o S' ∧ dg_sm shM [(0, 63)] [29, 30, 31, 32, 33, 34, 35, 36, 37, 38, 39, 40, 41, 42, 43, 44, 48] S S' ∧ ZSM S' ∧ True) (dg_B g D shM o rfM) A) args s 0 0 A) (F0 m 173 ls [.int x_1958, .int x_1285]) := by
            intro x_1958 H locs hP hS ls hl
            refine lv_ior hx hb dX12_reachBits_173 ?_
            refine lv_topi (fun x_1962 ex_1962 => ?_)
            refine lv_istore_n (lv' := [(1, .int x_1962), (4, .int x_1940), (3, .int x_1941), (2, .int x_1284), (0, .ref (o + 0))]) hx hb dX12_reachBits_174 rfl hl (by decide) rfl (fun ls hl => ?_)
            obtain ⟨x_1963, ex_1963⟩ : ∃ z, z = x_1284 + 1 := ⟨_, rfl⟩
            have jx_1963 : (x_1963).toInt = (x_1284).toInt + 1 := by rw [ex_1963]; exact dk_addT rfl (by decide +kernel) (by omega) (by omega)
            refine lv_iinc (v := x_1963) (lv' := [(2, .int x_1963), (1, .int x_1962), (4, .int x_1940), (3, .int x_1941), (0, .ref (o + 0))]) hx hb dX12_reachBits_175 hl (k := 3) rfl (by rw [ex_1963]; rfl) (by decide) rfl (fun ls hl => ?_)
            refine lv_goto (tgt := 4) hx hb dX12_reachBits_178 (by decide) ?_
            exact ih x_1963 x_1962 (by omega) (by omega) S_1951 I_1951 M_1951 ZS_1951 _ _ hP hS _ (lv_sub hl [0, 1, 4] rfl)
          refine lv_icmp_ne (tgt := 172) hx hb dX12_reachBits_163 (by decide) (fun c_1964 => ?_) (fun c_1964 => ?_)
          · have hf_1964 := dk_full x_1941
            have jc_1964 := dk_neqc (k := (x_1953).toInt) rfl c_1964
            refine lv_iconst (v := 0) hx hb dX12_reachBits_172 (by decide +kernel) ?_
            exact J_1961 0  _ _ hP hS _ (lv_sub hl [0, 1, 2, 3, 4] rfl)
          · have hf_1965 := dk_full x_1941
            have jc_1964 := dk_eqc (k := (x_1953).toInt) rfl c_1964
            refine lv_iconst (v := 1) hx hb dX12_reachBits_166 (by decide +kernel) ?_
            refine lv_iload_n hx hb dX12_reachBits_167 rfl (lv_at hl 2 rfl) ?_
            refine lv_ishl hx hb dX12_reachBits_168 ?_
            refine lv_topi (fun x_1967 ex_1967 => ?_)
            refine lv_goto (tgt := 173) hx hb dX12_reachBits_169 (by decide) ?_
            exact J_1961 x_1967  _ _ hP hS _ (lv_sub hl [0, 1, 2, 3, 4] rfl)
        have L_2389 : ∀ (n : Nat) (x_2386 : Int32) (x_2387 : Int32), (0 ≤ (x_2386).toInt ∧ (x_2386).toInt ≤ 31) → ((32 - (x_2386).toInt).toNat < n) → ∀ S_2388 : dg_S, CM o S_2388 → dg_sm shM [(0, 63)] [29, 30, 31, 32, 33, 34, 35, 36, 37, 38, 39, 40, 41, 42, 43, 44, 48] S S_2388 → S_2388.1 0 63 = .int x_1284 → ∀ rw_2388_0 : Int32, S_2388.2.1 29 (1 : Int32).toNatClampNeg = rw_2388_0 → (0 ≤ (rw_2388_0).toInt ∧ (rw_2388_0).toInt ≤ 2000) → ZSM S_2388 → ((rw_2388_0).toInt ≤ 999 + (x_2386).toInt) → ∀ (H : Heap) (locs : List Loc), va_P D vwCl (dg_w g shM o rfM S_2388) H → va_S A s.heap H locs → ∀ ls : Array Slot, lv_has ls 6 [(4, .int x_2386), (3, .int x_2387), (2, .int x_1284), (1, .int x_1285), (0, .ref (o + 0))] → W p l e ({ frames := 9, cells := 0, slots := 0, locals := 217 } : Room) s m args below meth c H locs 0 0 (MQ below (va_Qi (fun (r : Int32) S' => CM o S' ∧ dg_sm shM [(0, 63)] [29, 30, 31, 32, 33, 34, 35, 36, 37, 38, 39, 40, 41, 42, 43, 44, 48] S S' ∧ ZSM S' ∧ True) (dg_B g D shM o rfM) A) args s 0 0 A) (F0 m 26 ls []) := by
          intro n
          induction n with
          | zero =>
            intro x_2386 x_2387 b_x_2386 hmu S_2388 I_2388 M_2388 ff_2388_63_0 rw_2388_0 frw_2388_0 brw_2388_0 ZS_2388 srel_2388_0 H locs hP hS ls hl
            omega
          | succ n ih =>
            intro x_2386 x_2387 b_x_2386 hmu S_2388 I_2388 M_2388 ff_2388_63_0 rw_2388_0 frw_2388_0 brw_2388_0 ZS_2388 srel_2388_0 H locs hP hS ls hl
            refine lv_aload_n hx hb dX12_reachBits_26 rfl (lv_at hl 4 rfl) ?_
            refine lv_iload hx hb dX12_reachBits_27 (lv_at hl 0 rfl) ?_
            refine lv_iconst (v := 0) hx hb dX12_reachBits_29 (by decide +kernel) ?_
            refine lv_bipush (v := 30) hx hb dX12_reachBits_30 (by decide +kernel) ?_
            have hz_2390 : (0 : Int32).toInt = 0 := by decide +kernel
            have hz_2391 : (30 : Int32).toInt = 30 := by decide +kernel
            obtain ⟨x_2392, f_x_2392, b_x_2392⟩ := dg_I.int (i := 0) (k := 47) (lo := 0) (hi := 1) I sM_0 (by decide +kernel)
            obtain ⟨x_2393, f_x_2393⟩ : ∃ x, S_2388.2.1 29 (0 : Int32).toNatClampNeg = x := ⟨_, rfl⟩
            have hin_2394 : vp_in (0 : Int32) 22 := (dk_in (by decide +kernel))
            have b_x_2393 := dk_all_at (dg_I.row (lo := 0) (hi := 2000) I_2388 sM_29 (by decide +kernel)) hin_2394 f_x_2393.symm
            have ex_2393 := f_x_2393.symm
            have hz_2395 : (0 : Int32).toInt = 0 := by decide +kernel
            have zs_x_2393 : (0 : Int32).toInt ≠ 1 → (x_2393).toInt ≤ 999 := fun h => by rw [ex_2393]; exact ZS_2388 _ (dk_inT hin_2394).2 (fun q => by have h9 := (dk_inT hin_2394).1; omega)
            refine dg_calli hS hA1 hA (va_runV (As := [.int x_2386, .int 0, .int 30]) (rest := []) F (c_m_isAhead l g D o S_2388 x_2386 0 (by decide +kernel) 30 (by decide +kernel) x_2392 ((M_2388.1 0 47 _ sM_0 (by decide)).trans f_x_2392) (by omega) x_2393 f_x_2393 (by omega) I_2388 H.size) (cwV 3 hts (bw_V wB_1235 wB_1236 wB_1237 wB_297 wB_1234) rfl rfl rfl (by decide +kernel) ⟨Nat.le_of_ble_eq_true rfl, Nat.le_of_ble_eq_true rfl⟩) (dg_preV sM_0 rfl K ST hP hS hA1 hA) rfl rfl hl.1 rfl (lv_room (Nat.le_of_ble_eq_true rfl)) dX12_reachBits_32 ⟨Nat.le_of_ble_eq_true rfl, Nat.le_of_ble_eq_true rfl⟩) (fun x_2396 S_2397 hw_2397 H locs hP hS => ?_)
            rw [hw_2397.1] at hP
            obtain ⟨hq_2397, w_2397_0, w_2397_1, -⟩ := hw_2397
            have hz_2398 : (0 : Int32).toInt = 0 := by decide +kernel
            have hz_2399 : (30 : Int32).toInt = 30 := by decide +kernel
            have w_2397_0 : 0 ≤ (x_2396).toInt ∧ (x_2396).toInt ≤ 1 := w_2397_0
            have w_2397_1 : (x_2396).toInt = 1 → ((x_2392).toInt = 1 ∧ ((0 : Int32)).toInt ≤ (x_2386).toInt ∧ (x_2386).toInt ≤ ((30 : Int32)).toInt ∧ (x_2393).toInt ≤ 999 - (x_2386).toInt) := w_2397_1
            refine lv_if_eq (tgt := 157) hx hb dX12_reachBits_35 (by decide) (fun c_2400 => ?_) (fun c_2400 => ?_)
            · have jc_2400 := dk_eqc (k := 0) (by decide +kernel) c_2400
              exact J_1952 x_2386 x_2387 (by omega) S_2388 I_2388 M_2388 ff_2388_63_0 ZS_2388 _ _ hP hS _ (lv_sub hl [0, 1, 2, 3, 4] rfl)
            · have jc_2400 := dk_neqc (k := 0) (by decide +kernel) c_2400
              refine lv_iconst (v := 0) hx hb dX12_reachBits_38 (by decide +kernel) ?_
              refine lv_istore (lv' := [(5, .int 0), (4, .int x_2386), (3, .int x_2387), (2, .int x_1284), (1, .int x_1285), (0, .ref (o + 0))]) hx hb dX12_reachBits_39 hl (by decide) rfl (fun ls hl => ?_)
              have J_2603 : ∀ (x_2471 : Int32), (64 ≤ (x_2471).toInt ∧ (x_2471).toInt ≤ 2147483647) → ∀ S_2602 : dg_S, CM o S_2602 → dg_sm shM [(0, 63)] [29, 30, 31, 32, 33, 34, 35, 36, 37, 38, 39, 40, 41, 42, 43, 44, 48] S S_2602 → S_2602.1 0 63 = .int x_1284 → S_2602.2.1 29 (1 : Int32).toNatClampNeg = rw_2388_0 → S_2602.2.1 29 (0 : Int32).toNatClampNeg = x_2393 → ZSM S_2602 → ∀ (H : Heap) (locs : List Loc), va_P D vwCl (dg_w g shM o rfM S_2602) H → va_S A s.heap H locs → ∀ ls : Array Slot, lv_has ls 6 [(5, .int x_2471), (4, .int x_2386), (3, .int x_2387), (2, .int x_1284), (1, .int x_1285), (0, .ref (o + 0))] → W p l e ({ frames := 9, cells := 0, slots := 0, locals := 217 } : Room) s m args below meth c H locs 0 0 (MQ below (va_Qi (fun (r : Int32) S' => CM o S' ∧ dg_sm shM [(0, 63)] [29, 30, 31, 32, 33, 34, 35, 36, 37, 38, 39, 40, 41, 42, 43, 44, 48] S S' ∧ ZSM S' ∧ True) (dg_B g D shM o rfM) A) args s 0 0 A) (F0 m 82 ls []) := by
                intro x_2471 b_x_2471 S_2602 I_2602 M_2602 ff_2602_63_0 frw_2602_0 frw_2602_1 ZS_2602 H locs hP hS ls hl
                refine lv_iconst (v := 0) hx hb dX12_reachBits_82 (by decide +kernel) ?_
                refine lv_istore (lv' := [(5, .int 0), (4, .int x_2386), (3, .int x_2387), (2, .int x_1284), (1, .int x_1285), (0, .ref (o + 0))]) hx hb dX12_reachBits_83 hl (by decide) rfl (fun ls hl => ?_)
                have J_2733 : ∀ (x_2723 : Int32) (x_2724 : Int32), (0 ≤ (x_2723).toInt ∧ (x_2723).toInt ≤ 2147483647) → ∀ (H : Heap) (locs : List Loc), va_P D vwCl (dg_w g shM o rfM S_2602) H → va_S A s.heap H locs → ∀ ls : Array Slot, lv_has ls 6 [(5, .int x_2723), (4, .int x_2386), (3, .int x_2724), (2, .int x_1284), (1, .int x_1285), (0, .ref (o + 0))] → W p l e ({ frames := 9, cells := 0, slots := 0, locals := 217 } : Room) s m args below meth c H locs 0 0 (MQ below (va_Qi (fun (r : Int32) S' => CM o S' ∧ dg_sm shM [(0, 63)] [29, 30, 31, 32, 33, 34, 35, 36, 37, 38, 39, 40, 41, 42, 43, 44, 48] S S' ∧ ZSM S' ∧ True) (dg_B g D shM o rfM) A) args s 0 0 A) (F0 m 145 ls []) := by
                  intro x_2723 x_2724 b_x_2723 H locs hP hS ls hl
                  refine lv_aload_n hx hb dX12_reachBits_145 rfl (lv_at hl 5 rfl) ?_
                  refine lv_iconst (v := 1) hx hb dX12_reachBits_146 (by decide +kernel) ?_
                  have hz_2734 : (1 : Int32).toInt = 1 := by decide +kernel
                  refine dg_calli hS hA1 hA (va_runV (As := [.int 1]) (rest := []) F (c_m_ticks l g D o S_2602 1 (by decide +kernel) rw_2388_0 frw_2602_0 (by omega) (by omega) (ZBM.keep ZB M_2602 (by decide) (by decide) (by decide) (by decide) (by decide)) ZS_2602 (ZWM.keep ZW M_2602 (by decide) (by decide) (by decide) (by decide)) I_2602 H.size) (cwV 1 hts (bw_V wB_1231 wB_1232 wB_1233 wB_297 wB_1230) rfl rfl rfl (by decide +kernel) ⟨Nat.le_of_ble_eq_true rfl, Nat.le_of_ble_eq_true rfl⟩) (dg_preV sM_0 rfl K ST hP hS hA1 hA) rfl rfl hl.1 rfl (lv_room (Nat.le_of_ble_eq_true rfl)) dX12_reachBits_147 ⟨Nat.le_of_ble_eq_true rfl, Nat.le_of_ble_eq_true rfl⟩) (fun x_2735 S_2736 hw_2736 H locs hP hS => ?_)
                  obtain ⟨I_2736, m_2736, w_2736_0, w_2736_1, w_2736_2, -⟩ := hw_2736
                  have M_2736 := dg_sm.tr M_2602 m_2736 (by decide) (by decide)
                  have hz_2737 : (1 : Int32).toInt = 1 := by decide +kernel
                  have w_2736_0 : 0 ≤ (x_2735).toInt ∧ (x_2735).toInt ≤ 1 := w_2736_0
                  obtain ⟨x_2738, f_x_2738⟩ : ∃ x, S_2736.2.1 29 (1 : Int32).toNatClampNeg = x := ⟨_, rfl⟩
                  have hin_2739 : vp_in (1 : Int32) 22 := (dk_in (by decide +kernel))
                  have b_x_2738 := dk_all_at (dg_I.row (lo := 0) (hi := 2000) I_2736 sM_29 (by decide +kernel)) hin_2739 f_x_2738.symm
                  have ex_2738 := f_x_2738.symm
                  have hz_2740 : (1 : Int32).toInt = 1 := by decide +kernel
                  have zs_x_2738 : (1 : Int32).toInt ≠ 1 → (x_2738).toInt ≤ 999 := fun h => by rw [ex_2738]; exact w_2736_2 _ (dk_inT hin_2739).2 (fun q => by have h9 := (dk_inT hin_2739).1; omega)
                  have w_2736_1 : (x_2738).toInt = (rw_2388_0).toInt + 1 := w_2736_1 x_2738 f_x_2738
                  refine lv_pop hx hb dX12_reachBits_150 rfl ?_
                  obtain ⟨x_2741, ex_2741⟩ : ∃ z, z = x_2386 + 1 := ⟨_, rfl⟩
                  have jx_2741 : (x_2741).toInt = (x_2386).toInt + 1 := by rw [ex_2741]; exact dk_addT rfl (by decide +kernel) (by omega) (by omega)
                  refine lv_iinc (v := x_2741) (lv' := [(4, .int x_2741), (5, .int x_2723), (3, .int x_2724), (2, .int x_1284), (1, .int x_1285), (0, .ref (o + 0))]) hx hb dX12_reachBits_151 hl (k := 1) rfl (by rw [ex_2741]; rfl) (by decide) rfl (fun ls hl => ?_)
                  refine lv_goto (tgt := 26) hx hb dX12_reachBits_154 (by decide) ?_
                  exact ih x_2741 x_2724 (by omega) (by omega) S_2736 I_2736 M_2736 ((m_2736.1 0 63 _ sM_0 (by decide)).trans ff_2602_63_0) x_2738 f_x_2738 (by omega) w_2736_2 (by omega) _ _ hP hS _ (lv_sub hl [0, 2, 3, 4, 5] rfl)
                have L_2848 : ∀ (n : Nat) (x_2846 : Int32) (x_2847 : Int32), (0 ≤ (x_2846).toInt ∧ (x_2846).toInt ≤ 16) → ((17 - (x_2846).toInt).toNat < n) → ∀ (H : Heap) (locs : List Loc), va_P D vwCl (dg_w g shM o rfM S_2602) H → va_S A s.heap H locs → ∀ ls : Array Slot, lv_has ls 6 [(5, .int x_2846), (4, .int x_2386), (3, .int x_2847), (2, .int x_1284), (1, .int x_1285), (0, .ref (o + 0))] → W p l e ({ frames := 9, cells := 0, slots := 0, locals := 217 } : Room) s m args below meth c H locs 0 0 (MQ below (va_Qi (fun (r : Int32) S' => CM o S' ∧ dg_sm shM [(0, 63)] [29, 30, 31, 32, 33, 34, 35, 36, 37, 38, 39, 40, 41, 42, 43, 44, 48] S S' ∧ ZSM S' ∧ True) (dg_B g D shM o rfM) A) args s 0 0 A) (F0 m 85 ls []) := by
                  intro n
                  induction n with
                  | zero =>
                    intro x_2846 x_2847 b_x_2846 hmu H locs hP hS ls hl
                    omega
                  | succ n ih =>
                    intro x_2846 x_2847 b_x_2846 hmu H locs hP hS ls hl
                    refine lv_iload hx hb dX12_reachBits_85 (lv_at hl 0 rfl) ?_
                    refine lv_aload_n hx hb dX12_reachBits_87 rfl (lv_at hl 5 rfl) ?_
                    obtain ⟨x_2849, f_x_2849, b_x_2849⟩ := dg_I.int (i := 0) (k := 69) (lo := 0) (hi := 16) I sM_0 (by decide +kernel)
                    refine dg_get (C := RX12) (T := TX12) (N := 77) hx hb hts (fun w h => bw_mem (wU_X12 w h)) hown K hP sM_0 rfl 69 (by decide) (hts _ (bw_mem wB_1193)) (fun _ h9 => h9) (v := .int x_2849) ((M_2602.1 0 69 _ sM_0 (by decide)).trans f_x_2849) dX12_reachBits_88 ?_
                    refine lv_icmp_ge (tgt := 145) hx hb dX12_reachBits_91 (by decide) (fun c_2850 => ?_) (fun c_2850 => ?_)
                    · have jc_2850 := dk_gec (k := (x_2849).toInt) rfl c_2850
                      have hf_2850 := dk_full x_2846
                      exact J_2733 x_2846 x_2847 (by omega) _ _ hP hS _ (lv_sub hl [0, 1, 2, 3, 4, 5] rfl)
                    · have jc_2850 := dk_ngec (k := (x_2849).toInt) rfl c_2850
                      refine lv_iload_n hx hb dX12_reachBits_94 rfl (lv_at hl 2 rfl) ?_
                      refine lv_aload_n hx hb dX12_reachBits_95 rfl (lv_at hl 5 rfl) ?_
                      refine dg_get (C := RX12) (T := TX12) (N := 77) hx hb hts (fun w h => bw_mem (wU_X12 w h)) hown K hP sM_0 rfl 70 (by decide) (hts _ (bw_mem wB_1275)) (fun _ h9 => h9) (v := .ref (o + 45)) (show S_2602.1 0 70 = .ref (o + 45) from dg_I.rel (d := 45) I_2602 sM_0 (by decide +kernel)) dX12_reachBits_96 ?_
                      refine lv_iload hx hb dX12_reachBits_99 (lv_at hl 0 rfl) ?_
                      have hin_2852 : vp_in x_2846 16 := (dk_inv (by omega) (by omega))
                      refine dg_iald hx hb K hP sM_45 hin_2852 dX12_reachBits_101 (fun x_2853 ex_2853 => ?_)
                      have b_x_2853 := dk_all_at (dg_I.row (lo := 0) (hi := 255) I_2602 sM_45 (by decide +kernel)) hin_2852 ex_2853
                      refine lv_iload hx hb dX12_reachBits_102 (lv_at hl 1 rfl) ?_
                      have J_2868 : ∀ (x_2865 : Int32), (0 ≤ (x_2865).toInt ∧ (x_2865).toInt ≤ 1) → ∀ (H : Heap) (locs : List Loc), va_P D vwCl (dg_w g shM o rfM S_2602) H → va_S A s.heap H locs → ∀ ls : Array Slot, lv_has ls 6 [(5, .int x_2846), (4, .int x_2386), (3, .int x_2847), (2, .int x_1284), (1, .int x_1285), (0, .ref (o + 0))] → W p l e ({ frames := 9, cells := 0, slots := 0, locals := 217 } : Room) s m args below meth c H locs 0 0 (MQ below (va_Qi (fun (r : Int32) S' => CM o S' ∧ dg_sm shM [(0, 63)] [29, 30, 31, 32, 33, 34, 35, 36, 37, 38, 39, 40, 41, 42, 43, 44, 48] S S' ∧ ZSM S' ∧ True) (dg_B g D shM o rfM) A) args s 0 0 A) (F0 m 137 ls [.int x_2865, .int x_2847]) := by
                        intro x_2865 b_x_2865 H locs hP hS ls hl
                        refine lv_iadd hx hb dX12_reachBits_137 ?_
                        refine lv_topi (fun x_2869 ex_2869 => ?_)
                        refine lv_istore_n (lv' := [(3, .int x_2869), (5, .int x_2846), (4, .int x_2386), (2, .int x_1284), (1, .int x_1285), (0, .ref (o + 0))]) hx hb dX12_reachBits_138 rfl hl (by decide) rfl (fun ls hl => ?_)
                        obtain ⟨x_2870, ex_2870⟩ : ∃ z, z = x_2846 + 1 := ⟨_, rfl⟩
                        have jx_2870 : (x_2870).toInt = (x_2846).toInt + 1 := by rw [ex_2870]; exact dk_addT rfl (by decide +kernel) (by omega) (by omega)
                        refine lv_iinc (v := x_2870) (lv' := [(5, .int x_2870), (3, .int x_2869), (4, .int x_2386), (2, .int x_1284), (1, .int x_1285), (0, .ref (o + 0))]) hx hb dX12_reachBits_139 hl (k := 1) rfl (by rw [ex_2870]; rfl) (by decide) rfl (fun ls hl => ?_)
                        refine lv_goto (tgt := 85) hx hb dX12_reachBits_142 (by decide) ?_
                        exact ih x_2870 x_2869 (by omega) (by omega) _ _ hP hS _ (lv_sub hl [0, 2, 1, 3, 4, 5] rfl)
                      have J_2871 : ∀ (H : Heap) (locs : List Loc), va_P D vwCl (dg_w g shM o rfM S_2602) H → va_S A s.heap H locs → ∀ ls : Array Slot, lv_has ls 6 [(5, .int x_2846), (4, .int x_2386), (3, .int x_2847), (2, .int x_1284), (1, .int x_1285), (0, .ref (o + 0))] → W p l e ({ frames := 9, cells := 0, slots := 0, locals := 217 } : Room) s m args below meth c H locs 0 0 (MQ below (va_Qi (fun (r : Int32) S' => CM o S' ∧ dg_sm shM [(0, 63)] [29, 30, 31, 32, 33, 34, 35, 36, 37, 38, 39, 40, 41, 42, 43, 44, 48] S S' ∧ ZSM S' ∧ True) (dg_B g D shM o rfM) A) args s 0 0 A) (F0 m 136 ls [.int x_2847]) := by
                        intro H locs hP hS ls hl
                        refine lv_iconst (v := 0) hx hb dX12_reachBits_136 (by decide +kernel) ?_
                        have hz_2872 : (0 : Int32).toInt = 0 := by decide +kernel
                        exact J_2868 0 (by decide +kernel) _ _ hP hS _ (lv_sub hl [0, 1, 2, 3, 4, 5] rfl)
                      refine lv_icmp_ne (tgt := 136) hx hb dX12_reachBits_104 (by decide) (fun c_2873 => ?_) (fun c_2873 => ?_)
                      · have jc_2873 := dk_neqc (k := (x_2386).toInt) rfl c_2873
                        exact J_2871   _ _ hP hS _ (lv_sub hl [0, 1, 2, 3, 4, 5] rfl)
                      · have jc_2873 := dk_eqc (k := (x_2386).toInt) rfl c_2873
                        refine lv_aload_n hx hb dX12_reachBits_107 rfl (lv_at hl 5 rfl) ?_
                        refine dg_get (C := RX12) (T := TX12) (N := 77) hx hb hts (fun w h => bw_mem (wU_X12 w h)) hown K hP sM_0 rfl 51 (by decide) (hts _ (bw_mem wB_1090)) (fun _ h9 => h9) (v := .ref (o + 31)) (show S_2602.1 0 51 = .ref (o + 31) from dg_I.rel (d := 31) I_2602 sM_0 (by decide +kernel)) dX12_reachBits_108 ?_
                        refine lv_bipush (v := 64) hx hb dX12_reachBits_111 (by decide +kernel) ?_
                        refine lv_aload_n hx hb dX12_reachBits_113 rfl (lv_at hl 5 rfl) ?_
                        refine dg_get (C := RX12) (T := TX12) (N := 77) hx hb hts (fun w h => bw_mem (wU_X12 w h)) hown K hP sM_0 rfl 71 (by decide) (hts _ (bw_mem wB_1276)) (fun _ h9 => h9) (v := .ref (o + 46)) (show S_2602.1 0 71 = .ref (o + 46) from dg_I.rel (d := 46) I_2602 sM_0 (by decide +kernel)) dX12_reachBits_114 ?_
                        refine lv_iload hx hb dX12_reachBits_117 (lv_at hl 0 rfl) ?_
                        have hin_2874 : vp_in x_2846 16 := (dk_inv (by omega) (by omega))
                        refine dg_iald hx hb K hP sM_46 hin_2874 dX12_reachBits_119 (fun x_2875 ex_2875 => ?_)
                        have b_x_2875 := dk_all_at (dg_I.row (lo := 0) (hi := 63) I_2602 sM_46 (by decide +kernel)) hin_2874 ex_2875
                        refine lv_iadd hx hb dX12_reachBits_120 ?_
                        refine lv_topi (fun x_2876 ex_2876 => ?_)
                        have jx_2876 : (x_2876).toInt = 64 + (x_2875).toInt := by rw [ex_2876]; exact dk_addT (by decide +kernel) rfl (by omega) (by omega)
                        have hin_2877 : vp_in x_2876 1408 := (dk_inv (by omega) (by omega))
                        refine dg_iald hx hb K hP sM_31 hin_2877 dX12_reachBits_121 (fun x_2878 ex_2878 => ?_)
                        have b_x_2878 := dk_all_at (dg_I.row (lo := (-1)) (hi := 9) I_2602 sM_31 (by decide +kernel)) hin_2877 ex_2878
                        refine lv_aload_n hx hb dX12_reachBits_122 rfl (lv_at hl 5 rfl) ?_
                        refine dg_get (C := RX12) (T := TX12) (N := 77) hx hb hts (fun w h => bw_mem (wU_X12 w h)) hown K hP sM_0 rfl 72 (by decide) (hts _ (bw_mem wB_1277)) (fun _ h9 => h9) (v := .ref (o + 47)) (show S_2602.1 0 72 = .ref (o + 47) from dg_I.rel (d := 47) I_2602 sM_0 (by decide +kernel)) dX12_reachBits_123 ?_
                        refine lv_iload hx hb dX12_reachBits_126 (lv_at hl 0 rfl) ?_
                        have hin_2879 : vp_in x_2846 16 := (dk_inv (by omega) (by omega))
                        refine dg_iald hx hb K hP sM_47 hin_2879 dX12_reachBits_128 (fun x_2880 ex_2880 => ?_)
                        refine lv_icmp_ne (tgt := 136) hx hb dX12_reachBits_129 (by decide) (fun c_2881 => ?_) (fun c_2881 => ?_)
                        · have hf_2881 := dk_full x_2880
                          have jc_2881 := dk_neqc (k := (x_2880).toInt) rfl c_2881
                          exact J_2871   _ _ hP hS _ (lv_sub hl [0, 1, 2, 3, 4, 5] rfl)
                        · have hf_2882 := dk_full x_2880
                          have jc_2881 := dk_eqc (k := (x_2880).toInt) rfl c_2881
                          refine lv_iconst (v := 1) hx hb dX12_reachBits_132 (by decide +kernel) ?_
                          refine lv_goto (tgt := 137) hx hb dX12_reachBits_133 (by decide) ?_
                          have hz_2884 : (1 : Int32).toInt = 1 := by decide +kernel
                          exact J_2868 1 (by decide +kernel) _ _ hP hS _ (lv_sub hl [0, 1, 2, 3, 4, 5] rfl)
                have hz_2885 : (0 : Int32).toInt = 0 := by decide +kernel
                have hz_2886 : (0 : Int32).toInt = 0 := by decide +kernel
                exact L_2848 ((17 - ((0 : Int32)).toInt).toNat + 1) 0 x_2387 (by decide +kernel) (by omega) _ _ hP hS _ (lv_sub hl [0, 1, 2, 3, 4, 5] rfl)
              have L_2948 : ∀ (n : Nat) (x_2946 : Int32), (0 ≤ (x_2946).toInt ∧ (x_2946).toInt ≤ 64) → ((65 - (x_2946).toInt).toNat < n) → ∀ S_2947 : dg_S, CM o S_2947 → dg_sm shM [(0, 63)] [29, 30, 31, 32, 33, 34, 35, 36, 37, 38, 39, 40, 41, 42, 43, 44, 48] S S_2947 → S_2947.1 0 63 = .int x_1284 → S_2947.2.1 29 (1 : Int32).toNatClampNeg = rw_2388_0 → S_2947.2.1 29 (0 : Int32).toNatClampNeg = x_2393 → ZSM S_2947 → ∀ (H : Heap) (locs : List Loc), va_P D vwCl (dg_w g shM o rfM S_2947) H → va_S A s.heap H locs → ∀ ls : Array Slot, lv_has ls 6 [(5, .int x_2946), (4, .int x_2386), (3, .int x_2387), (2, .int x_1284), (1, .int x_1285), (0, .ref (o + 0))] → W p l e ({ frames := 9, cells := 0, slots := 0, locals := 217 } : Room) s m args below meth c H locs 0 0 (MQ below (va_Qi (fun (r : Int32) S' => CM o S' ∧ dg_sm shM [(0, 63)] [29, 30, 31, 32, 33, 34, 35, 36, 37, 38, 39, 40, 41, 42, 43, 44, 48] S S' ∧ ZSM S' ∧ True) (dg_B g D shM o rfM) A) args s 0 0 A) (F0 m 41 ls []) := by
                intro n
                induction n with
                | zero =>
                  intro x_2946 b_x_2946 hmu S_2947 I_2947 M_2947 ff_2947_63_0 frw_2947_0 frw_2947_1 ZS_2947 H locs hP hS ls hl
                  omega
                | succ n ih =>
                  intro x_2946 b_x_2946 hmu S_2947 I_2947 M_2947 ff_2947_63_0 frw_2947_0 frw_2947_1 ZS_2947 H locs hP hS ls hl
                  refine lv_iload hx hb dX12_reachBits_41 (lv_at hl 0 rfl) ?_
                  refine lv_bipush (v := 64) hx hb dX12_reachBits_43 (by decide +kernel) ?_
                  refine lv_icmp_ge (tgt := 82) hx hb dX12_reachBits_45 (by decide) (fun c_2949 => ?_) (fun c_2949 => ?_)
                  · have jc_2949 := dk_gec (k := 64) (by decide +kernel) c_2949
                    have hf_2949 := dk_full x_2946
                    exact J_2603 x_2946 (by omega) S_2947 I_2947 M_2947 ff_2947_63_0 frw_2947_0 frw_2947_1 ZS_2947 _ _ hP hS _ (lv_sub hl [0, 1, 2, 3, 4, 5] rfl)
                  · have jc_2949 := dk_ngec (k := 64) (by decide +kernel) c_2949
                    refine lv_aload_n hx hb dX12_reachBits_48 rfl (lv_at hl 5 rfl) ?_
                    refine dg_get (C := RX12) (T := TX12) (N := 77) hx hb hts (fun w h => bw_mem (wU_X12 w h)) hown K hP sM_0 rfl 73 (by decide) (hts _ (bw_mem wB_1262)) (fun _ h9 => h9) (v := .ref (o + 48)) (show S_2947.1 0 73 = .ref (o + 48) from dg_I.rel (d := 48) I_2947 sM_0 (by decide +kernel)) dX12_reachBits_49 ?_
                    refine lv_bipush (v := 64) hx hb dX12_reachBits_52 (by decide +kernel) ?_
                    refine lv_bipush (v := 31) hx hb dX12_reachBits_54 (by decide +kernel) ?_
                    refine lv_iload_n hx hb dX12_reachBits_56 rfl (lv_at hl 3 rfl) ?_
                    refine lv_imul hx hb dX12_reachBits_57 ?_
                    refine lv_topi (fun x_2951 ex_2951 => ?_)
                    have jx_2951 : (x_2951).toInt = 31 * (x_1284).toInt := by rw [ex_2951]; exact dk_mulT (by decide +kernel) rfl (by omega) (by omega)
                    refine lv_iload hx hb dX12_reachBits_58 (lv_at hl 1 rfl) ?_
                    refine lv_iadd hx hb dX12_reachBits_60 ?_
                    refine lv_topi (fun x_2952 ex_2952 => ?_)
                    have jx_2952 : (x_2952).toInt = (x_2951).toInt + (x_2386).toInt := by rw [ex_2952]; exact dk_addT rfl rfl (by omega) (by omega)
                    refine lv_imul hx hb dX12_reachBits_61 ?_
                    refine lv_topi (fun x_2953 ex_2953 => ?_)
                    have jx_2953 : (x_2953).toInt = 64 * (x_2952).toInt := by rw [ex_2953]; exact dk_mulT (by decide +kernel) rfl (by omega) (by omega)
                    refine lv_iload hx hb dX12_reachBits_62 (lv_at hl 0 rfl) ?_
                    refine lv_iadd hx hb dX12_reachBits_64 ?_
                    refine lv_topi (fun x_2954 ex_2954 => ?_)
                    have jx_2954 : (x_2954).toInt = (x_2953).toInt + (x_2946).toInt := by rw [ex_2954]; exact dk_addT rfl rfl (by omega) (by omega)
                    refine lv_aload_n hx hb dX12_reachBits_65 rfl (lv_at hl 5 rfl) ?_
                    refine dg_get (C := RX12) (T := TX12) (N := 77) hx hb hts (fun w h => bw_mem (wU_X12 w h)) hown K hP sM_0 rfl 51 (by decide) (hts _ (bw_mem wB_1090)) (fun _ h9 => h9) (v := .ref (o + 31)) (show S_2947.1 0 51 = .ref (o + 31) from dg_I.rel (d := 31) I_2947 sM_0 (by decide +kernel)) dX12_reachBits_66 ?_
                    refine lv_bipush (v := 64) hx hb dX12_reachBits_69 (by decide +kernel) ?_
                    refine lv_iload hx hb dX12_reachBits_71 (lv_at hl 0 rfl) ?_
                    refine lv_iadd hx hb dX12_reachBits_73 ?_
                    refine lv_topi (fun x_2955 ex_2955 => ?_)
                    have jx_2955 : (x_2955).toInt = 64 + (x_2946).toInt := by rw [ex_2955]; exact dk_addT (by decide +kernel) rfl (by omega) (by omega)
                    have hin_2956 : vp_in x_2955 1408 := (dk_inv (by omega) (by omega))
                    refine dg_iald hx hb K hP sM_31 hin_2956 dX12_reachBits_74 (fun x_2957 ex_2957 => ?_)
                    have b_x_2957 := dk_all_at (dg_I.row (lo := (-1)) (hi := 9) I_2947 sM_31 (by decide +kernel)) hin_2956 ex_2957
                    have hin_2958 : vp_in x_2954 41664 := (dk_inv (by omega) (by omega))
                    refine dg_iast hx hb K hP hS hA1 sM_48 hin_2958 dX12_reachBits_75 (fun S_2959 e_2959 H locs hP hS => ?_)
                    have I_2959 := dg_I.ufu (lo := (-1)) (hi := 9) I_2947 e_2959 sM_48 (by decide +kernel) (show (-1) ≤ (x_2957).toInt ∧ (x_2957).toInt ≤ 9 from (by omega))
                    have M_2959 := dg_sm.uf M_2947 e_2959 sM_48 (by decide)
                    obtain ⟨x_2960, ex_2960⟩ : ∃ z, z = x_2946 + 1 := ⟨_, rfl⟩
                    have jx_2960 : (x_2960).toInt = (x_2946).toInt + 1 := by rw [ex_2960]; exact dk_addT rfl (by decide +kernel) (by omega) (by omega)
                    refine lv_iinc (v := x_2960) (lv' := [(5, .int x_2960), (4, .int x_2386), (3, .int x_2387), (2, .int x_1284), (1, .int x_1285), (0, .ref (o + 0))]) hx hb dX12_reachBits_76 hl (k := 0) rfl (by rw [ex_2960]; rfl) (by decide) rfl (fun ls hl => ?_)
                    refine lv_goto (tgt := 41) hx hb dX12_reachBits_79 (by decide) ?_
                    exact ih x_2960 (by omega) (by omega) S_2959 I_2959 M_2959 ((dg_uf_F e_2959 0 63).trans ff_2947_63_0) ((congrFun (dg_uf_ne e_2959 (by decide)) _).trans frw_2947_0) ((congrFun (dg_uf_ne e_2959 (by decide)) _).trans frw_2947_1) (ZSM.keep ZS_2947 (dg_sm.uf (WF := []) (WA := [48]) dg_sm.rf e_2959 sM_48 (by decide)) (by decide)) _ _ hP hS _ (lv_sub hl [0, 1, 2, 3, 4, 5] rfl)
              have hz_2961 : (0 : Int32).toInt = 0 := by decide +kernel
              have hz_2962 : (0 : Int32).toInt = 0 := by decide +kernel
              exact L_2948 ((65 - ((0 : Int32)).toInt).toNat + 1) 0 (by decide +kernel) (by omega) S_2388 I_2388 M_2388 ff_2388_63_0 frw_2388_0 f_x_2393 ZS_2388 _ _ hP hS _ (lv_sub hl [0, 1, 2, 3, 4, 5] rfl)
        have hz_2963 : (0 : Int32).toInt = 0 := by decide +kernel
        have hz_2964 : (0 : Int32).toInt = 0 := by decide +kernel
        have hz_2965 : (0 : Int32).toInt = 0 := by decide +kernel
        exact L_2389 ((32 - ((0 : Int32)).toInt).toNat + 1) 0 0 (by decide +kernel) (by omega) S_1307 I_1307 M_1307 (dg_uF_at e_1307) x_1301 ((congrFun (dg_uF_f e_1307 29) _).trans f_x_1301) (by omega) (ZSM.keep w_1298_2 (dg_sm.uF (WF := [(0, 63)]) (WA := []) dg_sm.rf e_1307 sM_0 (by decide)) (by decide)) (by omega) _ _ hP hS _ (lv_sub hl [0, 1, 2, 3, 4] rfl)
  have hz_2966 : (0 : Int32).toInt = 0 := by decide +kernel
  have hz_2967 : (0 : Int32).toInt = 0 := by decide +kernel
  have hz_2968 : (0 : Int32).toInt = 0 := by decide +kernel
  exact L_1287 ((22 - ((0 : Int32)).toInt).toNat + 1) 0 0 (by decide +kernel) (by omega) S I M_0 ZS _ _ hP hS _ (lv_sub hl [0, 1, 2] rfl)
set_option maxHeartbeats 8000000 in
set_option maxRecDepth 100000 in
theorem c_m_reaches (l : Launch) (g : Nat → ClassId) (D : va_G) (o : Nat) (S : dg_S) (ZB : ZBM S) (ZS : ZSM S) (ZW : ZWM S) (I : CM o S) (sz : Nat) : Met l yX12_reaches (bw yX12_reaches cX12_reaches 1 (some .int)) ({ frames := 10, cells := 0, slots := 0, locals := 242 } : Room) (dk_Pc g D (dg_w g shM o rfM S) sz [.ref (o + 0)]) (va_Qi (fun (r : Int32) S' => CM o S' ∧ dg_sm shM [(0, 63)] [29, 30, 31, 32, 33, 34, 35, 36, 37, 38, 39, 40, 41, 42, 43, 44, 48] S S' ∧ ZSM S' ∧ True) (dg_B g D shM o rfM) (dg_A o shM.length sz)) 0 0 (dg_A o shM.length sz) := by
  refine dg_met (cc := cX12_reaches) (maxL := 1) (ret := (some .int)) (by decide) rfl (Nat.le_of_ble_eq_true rfl) ?_
  intro p e s m args below meth c A hAe harg hx hb hr hml hts hown hlocks hin hP K hS hA1 hA ST hsz ls hl
  rw [← hAe]
  have F : CallFix p m c cX12_reaches 1 s args (bw yX12_reaches cX12_reaches 1 (some .int)) RX12 := ⟨hx, hb, hml, hown, hts⟩
  have hl : lv_has ls 1 [(0, .ref (o + 0))] := hl
  have M_0 : dg_sm shM [(0, 63)] [29, 30, 31, 32, 33, 34, 35, 36, 37, 38, 39, 40, 41, 42, 43, 44, 48] S S := dg_sm.rf
  refine lv_aload_n hx hb dX12_reaches_0 rfl (lv_at hl 0 rfl) ?_
  obtain ⟨x_1, f_x_1, b_x_1⟩ := dg_I.int (i := 0) (k := 47) (lo := 0) (hi := 1) I sM_0 (by decide +kernel)
  refine dg_get (C := RX12) (T := TX12) (N := 77) hx hb hts (fun w h => bw_mem (wU_X12 w h)) hown K hP sM_0 rfl 47 (by decide) (hts _ (bw_mem wB_1084)) (fun _ h9 => h9) (v := .int x_1) f_x_1 dX12_reaches_1 ?_
  refine lv_if_eq (tgt := 14) hx hb dX12_reaches_4 (by decide) (fun c_2 => ?_) (fun c_2 => ?_)
  · have jc_2 := dk_eqc (k := 0) (by decide +kernel) c_2
    refine lv_iconst (v := (-1)) hx hb dX12_reaches_14 (by decide +kernel) ?_
    refine W.widen (k := 0) (n := 0) (Nat.le_of_ble_eq_true rfl) (Nat.le_of_ble_eq_true rfl) ?_
    exact dg_iret hx hb hr hlocks rfl hP hS ⟨I, M_0, ZS, trivial⟩ dX12_reaches_15
  · have jc_2 := dk_neqc (k := 0) (by decide +kernel) c_2
    refine lv_aload_n hx hb dX12_reaches_7 rfl (lv_at hl 0 rfl) ?_
    refine dg_calli hS hA1 hA (va_runV (As := []) (rest := []) F (c_m_reachBits l g D o S ZB ZS ZW I s.heap.size) (cwV 0 hts (bw_V wB_1279 wB_1280 wB_1281 wB_297 wB_1278) rfl rfl rfl (by decide +kernel) ⟨Nat.le_of_ble_eq_true rfl, Nat.le_of_ble_eq_true rfl⟩) (dg_preV sM_0 rfl K ST hP hS hA1 hA) rfl rfl hl.1 rfl (lv_room (Nat.le_of_ble_eq_true rfl)) dX12_reaches_8 ⟨Nat.le_of_ble_eq_true rfl, Nat.le_of_ble_eq_true rfl⟩) (fun x_3 S_4 hw_4 H locs hP hS => ?_)
    obtain ⟨I_4, m_4, w_4_0, -⟩ := hw_4
    have M_4 := dg_sm.tr M_0 m_4 (by decide) (by decide)
    refine lv_goto (tgt := 15) hx hb dX12_reaches_11 (by decide) ?_
    refine W.widen (k := 0) (n := 0) (Nat.le_of_ble_eq_true rfl) (Nat.le_of_ble_eq_true rfl) ?_
    exact dg_iret hx hb hr hlocks rfl hP hS ⟨I_4, M_4, w_4_0, trivial⟩ dX12_reaches_15
set_option maxHeartbeats 8000000 in
set_option maxRecDepth 100000 in
theorem c_m_tells (l : Launch) (g : Nat → ClassId) (D : va_G) (o : Nat) (S : dg_S) (a1 : Int32) (ZB : ZBM S) (ZS : ZSM S) (ZW : ZWM S) (I : CM o S) (sz : Nat) : Met l yX12_tells (bw yX12_tells cX12_tells 8 (some .int)) ({ frames := 10, cells := 0, slots := 0, locals := 242 } : Room) (dk_Pc g D (dg_w g shM o rfM S) sz [.ref (o + 0), .int a1]) (va_Qi (fun (r : Int32) S' => CM o S' ∧ dg_sm shM [(0, 63)] [29, 30, 31, 32, 33, 34, 35, 36, 37, 38, 39, 40, 41, 42, 43, 44, 48, 49] S S' ∧ ((-1) ≤ (r).toInt ∧ (r).toInt ≤ 100000000) ∧ ZSM S' ∧ True) (dg_B g D shM o rfM) (dg_A o shM.length sz)) 0 0 (dg_A o shM.length sz) := by
  refine dg_met (cc := cX12_tells) (maxL := 8) (ret := (some .int)) (by decide) rfl (Nat.le_of_ble_eq_true rfl) ?_
  intro p e s m args below meth c A hAe harg hx hb hr hml hts hown hlocks hin hP K hS hA1 hA ST hsz ls hl
  rw [← hAe]
  have F : CallFix p m c cX12_tells 8 s args (bw yX12_tells cX12_tells 8 (some .int)) RX12 := ⟨hx, hb, hml, hown, hts⟩
  have hl : lv_has ls 8 [(0, .ref (o + 0)), (1, .int a1)] := hl
  have M_0 : dg_sm shM [(0, 63)] [29, 30, 31, 32, 33, 34, 35, 36, 37, 38, 39, 40, 41, 42, 43, 44, 48, 49] S S := dg_sm.rf
  refine lv_aload_n hx hb dX12_tells_0 rfl (lv_at hl 0 rfl) ?_
  obtain ⟨x_1, f_x_1, b_x_1⟩ := dg_I.int (i := 0) (k := 47) (lo := 0) (hi := 1) I sM_0 (by decide +kernel)
  refine dg_get (C := RX12) (T := TX12) (N := 77) hx hb hts (fun w h => bw_mem (wU_X12 w h)) hown K hP sM_0 rfl 47 (by decide) (hts _ (bw_mem wB_1084)) (fun _ h9 => h9) (v := .int x_1) f_x_1 dX12_tells_1 ?_
  refine lv_if_eq (tgt := 16) hx hb dX12_tells_4 (by decide) (fun c_2 => ?_) (fun c_2 => ?_)
  · have jc_2 := dk_eqc (k := 0) (by decide +kernel) c_2
    refine lv_iconst (v := (-1)) hx hb dX12_tells_16 (by decide +kernel) ?_
    have hz_3 : (-1 : Int32).toInt = (-1) := by decide +kernel
    refine W.widen (k := 0) (n := 0) (Nat.le_of_ble_eq_true rfl) (Nat.le_of_ble_eq_true rfl) ?_
    exact dg_iret hx hb hr hlocks rfl hP hS ⟨I, M_0, (by decide +kernel), ZS, trivial⟩ dX12_tells_17
  · have jc_2 := dk_neqc (k := 0) (by decide +kernel) c_2
    refine lv_iload_n hx hb dX12_tells_7 rfl (lv_at hl 1 rfl) ?_
    refine lv_iconst (v := 0) hx hb dX12_tells_8 (by decide +kernel) ?_
    refine lv_iconst (v := 2) hx hb dX12_tells_9 (by decide +kernel) ?_
    refine dg_calli hS hA1 hA (va_runS (As := [.int a1, .int 0, .int 2]) (rest := []) F (c_m_is l g D o S a1 0 2 I s.heap.size) (va_cwS 3 hts (bw_S wB_362 wB_363 wB_297 wB_361) rfl rfl rfl (by decide +kernel) ⟨Nat.le_of_ble_eq_true rfl, Nat.le_of_ble_eq_true rfl⟩) (dg_preS K ST hP hS hA1 hA) rfl rfl hl.1 rfl (lv_room (Nat.le_of_ble_eq_true rfl)) dX12_tells_10 ⟨Nat.le_of_ble_eq_true rfl, Nat.le_of_ble_eq_true rfl⟩) (fun x_4 S_5 hw_5 H locs hP hS => ?_)
    rw [hw_5.1] at hP
    obtain ⟨hq_5, w_5_0, w_5_1, -⟩ := hw_5
    have hz_6 : (0 : Int32).toInt = 0 := by decide +kernel
    have hz_7 : (2 : Int32).toInt = 2 := by decide +kernel
    have w_5_0 : 0 ≤ (x_4).toInt ∧ (x_4).toInt ≤ 1 := w_5_0
    have w_5_1 : (x_4).toInt = 1 ↔ (((0 : Int32)).toInt ≤ (a1).toInt ∧ (a1).toInt ≤ ((2 : Int32)).toInt) := w_5_1
    refine lv_if_ne (tgt := 18) hx hb dX12_tells_13 (by decide) (fun c_8 => ?_) (fun c_8 => ?_)
    · have jc_8 := dk_neqc (k := 0) (by decide +kernel) c_8
      refine lv_aload_n hx hb dX12_tells_18 rfl (lv_at hl 0 rfl) ?_
      refine dg_calli hS hA1 hA (va_runV (As := []) (rest := []) F (c_m_reachBits l g D o S ZB ZS ZW I H.size) (cwV 0 hts (bw_V wB_1279 wB_1280 wB_1281 wB_297 wB_1278) rfl rfl rfl (by decide +kernel) ⟨Nat.le_of_ble_eq_true rfl, Nat.le_of_ble_eq_true rfl⟩) (dg_preV sM_0 rfl K ST hP hS hA1 hA) rfl rfl hl.1 rfl (lv_room (Nat.le_of_ble_eq_true rfl)) dX12_tells_19 ⟨Nat.le_of_ble_eq_true rfl, Nat.le_of_ble_eq_true rfl⟩) (fun x_9 S_10 hw_10 H locs hP hS => ?_)
      obtain ⟨I_10, m_10, w_10_0, -⟩ := hw_10
      have M_10 := dg_sm.tr M_0 m_10 (by decide) (by decide)
      refine lv_istore_n (lv' := [(2, .int x_9), (0, .ref (o + 0)), (1, .int a1)]) hx hb dX12_tells_22 rfl hl (by decide) rfl (fun ls hl => ?_)
      refine lv_iconst (v := (-1)) hx hb dX12_tells_23 (by decide +kernel) ?_
      refine lv_istore_n (lv' := [(3, .int (-1)), (2, .int x_9), (0, .ref (o + 0)), (1, .int a1)]) hx hb dX12_tells_24 rfl hl (by decide) rfl (fun ls hl => ?_)
      refine lv_ldcw hx hb hown (hts _ (bw_mem wB_1102)) dX12_tells_25 ?_
      refine lv_istore (lv' := [(4, .int 100000000), (3, .int (-1)), (2, .int x_9), (0, .ref (o + 0)), (1, .int a1)]) hx hb dX12_tells_28 hl (by decide) rfl (fun ls hl => ?_)
      refine lv_iconst (v := 1) hx hb dX12_tells_30 (by decide +kernel) ?_
      refine lv_istore (lv' := [(5, .int 1), (4, .int 100000000), (3, .int (-1)), (2, .int x_9), (0, .ref (o + 0)), (1, .int a1)]) hx hb dX12_tells_31 hl (by decide) rfl (fun ls hl => ?_)
      have J_1000 : ∀ (x_989 : Int32) (x_990 : Int32) (x_991 : Int32), (1 ≤ (x_989).toInt ∧ (x_989).toInt ≤ 2147483647) → (0 ≤ (x_990).toInt ∧ (x_990).toInt ≤ 100000000) → ((-1) ≤ (x_991).toInt ∧ (x_991).toInt ≤ 2147483647) → ∀ S_999 : dg_S, CM o S_999 → dg_sm shM [(0, 63)] [29, 30, 31, 32, 33, 34, 35, 36, 37, 38, 39, 40, 41, 42, 43, 44, 48, 49] S S_999 → ZSM S_999 → ∀ (H : Heap) (locs : List Loc), va_P D vwCl (dg_w g shM o rfM S_999) H → va_S A s.heap H locs → ∀ ls : Array Slot, lv_has ls 8 [(5, .int x_989), (4, .int x_990), (3, .int x_991), (2, .int x_9), (0, .ref (o + 0)), (1, .int a1)] → W p l e ({ frames := 10, cells := 0, slots := 0, locals := 242 } : Room) s m args below meth c H locs 0 0 (MQ below (va_Qi (fun (r : Int32) S' => CM o S' ∧ dg_sm shM [(0, 63)] [29, 30, 31, 32, 33, 34, 35, 36, 37, 38, 39, 40, 41, 42, 43, 44, 48, 49] S S' ∧ ((-1) ≤ (r).toInt ∧ (r).toInt ≤ 100000000) ∧ ZSM S' ∧ True) (dg_B g D shM o rfM) A) args s 0 0 A) (F0 m 120 ls []) := by
        intro x_989 x_990 x_991 b_x_989 b_x_990 b_x_991 S_999 I_999 M_999 ZS_999 H locs hP hS ls hl
        refine lv_iload_n hx hb dX12_tells_120 rfl (lv_at hl 2 rfl) ?_
        refine lv_iconst (v := (-1)) hx hb dX12_tells_121 (by decide +kernel) ?_
        refine lv_icmp_ne (tgt := 129) hx hb dX12_tells_122 (by decide) (fun c_1001 => ?_) (fun c_1001 => ?_)
        · have jc_1001 := dk_neqc (k := (-1)) (by decide +kernel) c_1001
          refine lv_iload_n hx hb dX12_tells_129 rfl (lv_at hl 5 rfl) ?_
          refine lv_if_ne (tgt := 140) hx hb dX12_tells_130 (by decide) (fun c_1002 => ?_) (fun c_1002 => ?_)
          · have jc_1002 := dk_neqc (k := 0) (by decide +kernel) c_1002
            refine lv_iload_n hx hb dX12_tells_140 rfl (lv_at hl 5 rfl) ?_
            refine lv_iconst (v := 1) hx hb dX12_tells_141 (by decide +kernel) ?_
            refine lv_icmp_ne (tgt := 152) hx hb dX12_tells_142 (by decide) (fun c_1003 => ?_) (fun c_1003 => ?_)
            · have jc_1003 := dk_neqc (k := 1) (by decide +kernel) c_1003
              refine lv_iload hx hb dX12_tells_152 (lv_at hl 1 rfl) ?_
              refine W.widen (k := 0) (n := 0) (Nat.le_of_ble_eq_true rfl) (Nat.le_of_ble_eq_true rfl) ?_
              exact dg_iret hx hb hr hlocks rfl hP hS ⟨I_999, M_999, (by omega), ZS_999, trivial⟩ dX12_tells_154
            · have jc_1003 := dk_eqc (k := 1) (by decide +kernel) c_1003
              refine lv_iload_n hx hb dX12_tells_145 rfl (lv_at hl 2 rfl) ?_
              refine lv_bipush (v := 64) hx hb dX12_tells_146 (by decide +kernel) ?_
              refine lv_irem hx hb dX12_tells_148 (by decide +kernel) ?_
              refine lv_topi (fun x_1004 ex_1004 => ?_)
              have jx_1004 : (x_1004).toInt = (x_991).toInt % 64 := by rw [ex_1004]; exact dk_remL (by omega) (by decide +kernel) (by decide)
              refine lv_goto (tgt := 154) hx hb dX12_tells_149 (by decide) ?_
              refine W.widen (k := 0) (n := 0) (Nat.le_of_ble_eq_true rfl) (Nat.le_of_ble_eq_true rfl) ?_
              exact dg_iret hx hb hr hlocks rfl hP hS ⟨I_999, M_999, (by omega), ZS_999, trivial⟩ dX12_tells_154
          · have jc_1002 := dk_eqc (k := 0) (by decide +kernel) c_1002
            refine lv_iload_n hx hb dX12_tells_133 rfl (lv_at hl 2 rfl) ?_
            refine lv_bipush (v := 64) hx hb dX12_tells_134 (by decide +kernel) ?_
            refine lv_idiv hx hb dX12_tells_136 (by decide +kernel) ?_
            refine lv_topi (fun x_1005 ex_1005 => ?_)
            have jx_1005 : (x_1005).toInt = (x_991).toInt / 64 := by rw [ex_1005]; exact dk_divL (by omega) (by decide +kernel) (by decide)
            refine lv_goto (tgt := 154) hx hb dX12_tells_137 (by decide) ?_
            refine W.widen (k := 0) (n := 0) (Nat.le_of_ble_eq_true rfl) (Nat.le_of_ble_eq_true rfl) ?_
            exact dg_iret hx hb hr hlocks rfl hP hS ⟨I_999, M_999, (by omega), ZS_999, trivial⟩ dX12_tells_154
        · have jc_1001 := dk_eqc (k := (-1)) (by decide +kernel) c_1001
          refine lv_iconst (v := (-1)) hx hb dX12_tells_125 (by decide +kernel) ?_
          refine lv_goto (tgt := 154) hx hb dX12_tells_126 (by decide) ?_
          have hz_1006 : (-1 : Int32).toInt = (-1) := by decide +kernel
          refine W.widen (k := 0) (n := 0) (Nat.le_of_ble_eq_true rfl) (Nat.le_of_ble_eq_true rfl) ?_
          exact dg_iret hx hb hr hlocks rfl hP hS ⟨I_999, M_999, (by decide +kernel), ZS_999, trivial⟩ dX12_tells_154
      have L_1847 : ∀ (n : Nat) (x_1843 : Int32) (x_1844 : Int32) (x_1845 : Int32), (1 ≤ (x_1843).toInt ∧ (x_1843).toInt ≤ 31) → (0 ≤ (x_1844).toInt ∧ (x_1844).toInt ≤ 100000000) → ((-1) ≤ (x_1845).toInt ∧ (x_1845).toInt ≤ 2147483647) → ((32 - (x_1843).toInt).toNat < n) → ∀ S_1846 : dg_S, CM o S_1846 → dg_sm shM [(0, 63)] [29, 30, 31, 32, 33, 34, 35, 36, 37, 38, 39, 40, 41, 42, 43, 44, 48, 49] S S_1846 → ZSM S_1846 → ∀ (H : Heap) (locs : List Loc), va_P D vwCl (dg_w g shM o rfM S_1846) H → va_S A s.heap H locs → ∀ ls : Array Slot, lv_has ls 8 [(5, .int x_1843), (4, .int x_1844), (3, .int x_1845), (2, .int x_9), (0, .ref (o + 0)), (1, .int a1)] → W p l e ({ frames := 10, cells := 0, slots := 0, locals := 242 } : Room) s m args below meth c H locs 0 0 (MQ below (va_Qi (fun (r : Int32) S' => CM o S' ∧ dg_sm shM [(0, 63)] [29, 30, 31, 32, 33, 34, 35, 36, 37, 38, 39, 40, 41, 42, 43, 44, 48, 49] S S' ∧ ((-1) ≤ (r).toInt ∧ (r).toInt ≤ 100000000) ∧ ZSM S' ∧ True) (dg_B g D shM o rfM) A) args s 0 0 A) (F0 m 33 ls []) := by
        intro n
        induction n with
        | zero =>
          intro x_1843 x_1844 x_1845 b_x_1843 b_x_1844 b_x_1845 hmu S_1846 I_1846 M_1846 ZS_1846 H locs hP hS ls hl
          omega
        | succ n ih =>
          intro x_1843 x_1844 x_1845 b_x_1843 b_x_1844 b_x_1845 hmu S_1846 I_1846 M_1846 ZS_1846 H locs hP hS ls hl
          refine lv_aload_n hx hb dX12_tells_33 rfl (lv_at hl 4 rfl) ?_
          refine lv_iload hx hb dX12_tells_34 (lv_at hl 0 rfl) ?_
          refine lv_iconst (v := 1) hx hb dX12_tells_36 (by decide +kernel) ?_
          refine lv_bipush (v := 30) hx hb dX12_tells_37 (by decide +kernel) ?_
          have hz_1848 : (1 : Int32).toInt = 1 := by decide +kernel
          have hz_1849 : (30 : Int32).toInt = 30 := by decide +kernel
          obtain ⟨x_1850, f_x_1850⟩ : ∃ x, S_1846.2.1 29 (0 : Int32).toNatClampNeg = x := ⟨_, rfl⟩
          have hin_1851 : vp_in (0 : Int32) 22 := (dk_in (by decide +kernel))
          have b_x_1850 := dk_all_at (dg_I.row (lo := 0) (hi := 2000) I_1846 sM_29 (by decide +kernel)) hin_1851 f_x_1850.symm
          have ex_1850 := f_x_1850.symm
          have hz_1852 : (0 : Int32).toInt = 0 := by decide +kernel
          have zs_x_1850 : (0 : Int32).toInt ≠ 1 → (x_1850).toInt ≤ 999 := fun h => by rw [ex_1850]; exact ZS_1846 _ (dk_inT hin_1851).2 (fun q => by have h9 := (dk_inT hin_1851).1; omega)
          refine dg_calli hS hA1 hA (va_runV (As := [.int x_1843, .int 1, .int 30]) (rest := []) F (c_m_isAhead l g D o S_1846 x_1843 1 (by decide +kernel) 30 (by decide +kernel) x_1 ((M_1846.1 0 47 _ sM_0 (by decide)).trans f_x_1) (by omega) x_1850 f_x_1850 (by omega) I_1846 H.size) (cwV 3 hts (bw_V wB_1235 wB_1236 wB_1237 wB_297 wB_1234) rfl rfl rfl (by decide +kernel) ⟨Nat.le_of_ble_eq_true rfl, Nat.le_of_ble_eq_true rfl⟩) (dg_preV sM_0 rfl K ST hP hS hA1 hA) rfl rfl hl.1 rfl (lv_room (Nat.le_of_ble_eq_true rfl)) dX12_tells_39 ⟨Nat.le_of_ble_eq_true rfl, Nat.le_of_ble_eq_true rfl⟩) (fun x_1853 S_1854 hw_1854 H locs hP hS => ?_)
          rw [hw_1854.1] at hP
          obtain ⟨hq_1854, w_1854_0, w_1854_1, -⟩ := hw_1854
          have hz_1855 : (1 : Int32).toInt = 1 := by decide +kernel
          have hz_1856 : (30 : Int32).toInt = 30 := by decide +kernel
          have w_1854_0 : 0 ≤ (x_1853).toInt ∧ (x_1853).toInt ≤ 1 := w_1854_0
          have w_1854_1 : (x_1853).toInt = 1 → ((x_1).toInt = 1 ∧ ((1 : Int32)).toInt ≤ (x_1843).toInt ∧ (x_1843).toInt ≤ ((30 : Int32)).toInt ∧ (x_1850).toInt ≤ 999 - (x_1843).toInt) := w_1854_1
          refine lv_if_eq (tgt := 120) hx hb dX12_tells_42 (by decide) (fun c_1857 => ?_) (fun c_1857 => ?_)
          · have jc_1857 := dk_eqc (k := 0) (by decide +kernel) c_1857
            have hf_1857 := dk_full x_1843
            have hf_1858 := dk_full x_1845
            exact J_1000 x_1843 x_1844 x_1845 (by omega) (by omega) (by omega) S_1846 I_1846 M_1846 ZS_1846 _ _ hP hS _ (lv_sub hl [0, 1, 2, 3, 4, 5] rfl)
          · have jc_1857 := dk_neqc (k := 0) (by decide +kernel) c_1857
            refine lv_iload_n hx hb dX12_tells_45 rfl (lv_at hl 3 rfl) ?_
            refine lv_if_eq (tgt := 120) hx hb dX12_tells_46 (by decide) (fun c_1860 => ?_) (fun c_1860 => ?_)
            · have jc_1860 := dk_eqc (k := 0) (by decide +kernel) c_1860
              have hf_1860 := dk_full x_1843
              have hf_1861 := dk_full x_1845
              exact J_1000 x_1843 x_1844 x_1845 (by omega) (by omega) (by omega) S_1846 I_1846 M_1846 ZS_1846 _ _ hP hS _ (lv_sub hl [0, 1, 2, 3, 4, 5] rfl)
            · have jc_1860 := dk_neqc (k := 0) (by decide +kernel) c_1860
              refine lv_iconst (v := 0) hx hb dX12_tells_49 (by decide +kernel) ?_
              refine lv_istore (lv' := [(6, .int 0), (5, .int x_1843), (4, .int x_1844), (3, .int x_1845), (2, .int x_9), (0, .ref (o + 0)), (1, .int a1)]) hx hb dX12_tells_50 hl (by decide) rfl (fun ls hl => ?_)
              have J_2014 : ∀ (x_2007 : Int32) (x_2008 : Int32) (x_2009 : Int32), (64 ≤ (x_2007).toInt ∧ (x_2007).toInt ≤ 2147483647) → (0 ≤ (x_2008).toInt ∧ (x_2008).toInt ≤ 100000000) → ((-1) ≤ (x_2009).toInt ∧ (x_2009).toInt ≤ 2147483647) → ∀ S_2013 : dg_S, CM o S_2013 → dg_sm shM [(0, 63)] [29, 30, 31, 32, 33, 34, 35, 36, 37, 38, 39, 40, 41, 42, 43, 44, 48, 49] S S_2013 → S_2013.2.1 29 (0 : Int32).toNatClampNeg = x_1850 → ZSM S_2013 → ∀ (H : Heap) (locs : List Loc), va_P D vwCl (dg_w g shM o rfM S_2013) H → va_S A s.heap H locs → ∀ ls : Array Slot, lv_has ls 8 [(6, .int x_2007), (5, .int x_1843), (4, .int x_2008), (3, .int x_2009), (2, .int x_9), (0, .ref (o + 0)), (1, .int a1)] → W p l e ({ frames := 10, cells := 0, slots := 0, locals := 242 } : Room) s m args below meth c H locs 0 0 (MQ below (va_Qi (fun (r : Int32) S' => CM o S' ∧ dg_sm shM [(0, 63)] [29, 30, 31, 32, 33, 34, 35, 36, 37, 38, 39, 40, 41, 42, 43, 44, 48, 49] S S' ∧ ((-1) ≤ (r).toInt ∧ (r).toInt ≤ 100000000) ∧ ZSM S' ∧ True) (dg_B g D shM o rfM) A) args s 0 0 A) (F0 m 114 ls []) := by
                intro x_2007 x_2008 x_2009 b_x_2007 b_x_2008 b_x_2009 S_2013 I_2013 M_2013 frw_2013_0 ZS_2013 H locs hP hS ls hl
                obtain ⟨x_2015, ex_2015⟩ : ∃ z, z = x_1843 + 1 := ⟨_, rfl⟩
                have jx_2015 : (x_2015).toInt = (x_1843).toInt + 1 := by rw [ex_2015]; exact dk_addT rfl (by decide +kernel) (by omega) (by omega)
                refine lv_iinc (v := x_2015) (lv' := [(5, .int x_2015), (6, .int x_2007), (4, .int x_2008), (3, .int x_2009), (2, .int x_9), (0, .ref (o + 0)), (1, .int a1)]) hx hb dX12_tells_114 hl (k := 1) rfl (by rw [ex_2015]; rfl) (by decide) rfl (fun ls hl => ?_)
                refine lv_goto (tgt := 33) hx hb dX12_tells_117 (by decide) ?_
                have hf_2015 := dk_full x_2009
                exact ih x_2015 x_2008 x_2009 (by omega) (by omega) (by omega) (by omega) S_2013 I_2013 M_2013 ZS_2013 _ _ hP hS _ (lv_sub hl [0, 2, 3, 4, 5, 6] rfl)
              have L_2144 : ∀ (n : Nat) (x_2140 : Int32) (x_2141 : Int32) (x_2142 : Int32), (0 ≤ (x_2140).toInt ∧ (x_2140).toInt ≤ 64) → (0 ≤ (x_2141).toInt ∧ (x_2141).toInt ≤ 100000000) → ((-1) ≤ (x_2142).toInt ∧ (x_2142).toInt ≤ 2147483647) → ((65 - (x_2140).toInt).toNat < n) → ∀ S_2143 : dg_S, CM o S_2143 → dg_sm shM [(0, 63)] [29, 30, 31, 32, 33, 34, 35, 36, 37, 38, 39, 40, 41, 42, 43, 44, 48, 49] S S_2143 → S_2143.2.1 29 (0 : Int32).toNatClampNeg = x_1850 → ZSM S_2143 → ∀ (H : Heap) (locs : List Loc), va_P D vwCl (dg_w g shM o rfM S_2143) H → va_S A s.heap H locs → ∀ ls : Array Slot, lv_has ls 8 [(6, .int x_2140), (5, .int x_1843), (4, .int x_2141), (3, .int x_2142), (2, .int x_9), (0, .ref (o + 0)), (1, .int a1)] → W p l e ({ frames := 10, cells := 0, slots := 0, locals := 242 } : Room) s m args below meth c H locs 0 0 (MQ below (va_Qi (fun (r : Int32) S' => CM o S' ∧ dg_sm shM [(0, 63)] [29, 30, 31, 32, 33, 34, 35, 36, 37, 38, 39, 40, 41, 42, 43, 44, 48, 49] S S' ∧ ((-1) ≤ (r).toInt ∧ (r).toInt ≤ 100000000) ∧ ZSM S' ∧ True) (dg_B g D shM o rfM) A) args s 0 0 A) (F0 m 52 ls []) := by
                intro n
                induction n with
                | zero =>
                  intro x_2140 x_2141 x_2142 b_x_2140 b_x_2141 b_x_2142 hmu S_2143 I_2143 M_2143 frw_2143_0 ZS_2143 H locs hP hS ls hl
                  omega
                | succ n ih =>
                  intro x_2140 x_2141 x_2142 b_x_2140 b_x_2141 b_x_2142 hmu S_2143 I_2143 M_2143 frw_2143_0 ZS_2143 H locs hP hS ls hl
                  refine lv_iload hx hb dX12_tells_52 (lv_at hl 0 rfl) ?_
                  refine lv_bipush (v := 64) hx hb dX12_tells_54 (by decide +kernel) ?_
                  refine lv_icmp_ge (tgt := 114) hx hb dX12_tells_56 (by decide) (fun c_2145 => ?_) (fun c_2145 => ?_)
                  · have jc_2145 := dk_gec (k := 64) (by decide +kernel) c_2145
                    have hf_2145 := dk_full x_2140
                    have hf_2146 := dk_full x_2142
                    exact J_2014 x_2140 x_2141 x_2142 (by omega) (by omega) (by omega) S_2143 I_2143 M_2143 frw_2143_0 ZS_2143 _ _ hP hS _ (lv_sub hl [0, 1, 2, 3, 4, 5, 6] rfl)
                  · have jc_2145 := dk_ngec (k := 64) (by decide +kernel) c_2145
                    refine lv_aload_n hx hb dX12_tells_59 rfl (lv_at hl 5 rfl) ?_
                    refine lv_iload hx hb dX12_tells_60 (lv_at hl 0 rfl) ?_
                    obtain ⟨x_2148, f_x_2148, b_x_2148⟩ := dg_I.int (i := 0) (k := 13) (lo := 0) (hi := 1) I sM_0 (by decide +kernel)
                    obtain ⟨x_2149, f_x_2149⟩ : ∃ x, S_2143.2.1 2 (x_2148 : Int32).toNatClampNeg = x := ⟨_, rfl⟩
                    have hin_2150 : vp_in (x_2148 : Int32) 2 := (dk_inv (by omega) (by omega))
                    have b_x_2149 := dk_all_at (dg_I.row (lo := 0) (hi := 9999) I_2143 sM_2 (by decide +kernel)) hin_2150 f_x_2149.symm
                    have ex_2149 := f_x_2149.symm
                    have zb_x_2149 : (x_2149).toInt ≤ 7 ∧ ((x_1 : Int32).toInt = 1 → 3 ≤ (x_2149).toInt) := by rw [ex_2149]; exact ⟨((ZBM.keep ZB M_2143 (by decide) (by decide) (by decide) (by decide) (by decide)) x_2148 x_1 ((M_2143.1 0 13 _ sM_0 (by decide)).trans f_x_2148) ((M_2143.1 0 47 _ sM_0 (by decide)).trans f_x_1)).1, fun h9 => (((ZBM.keep ZB M_2143 (by decide) (by decide) (by decide) (by decide) (by decide)) x_2148 x_1 ((M_2143.1 0 13 _ sM_0 (by decide)).trans f_x_2148) ((M_2143.1 0 47 _ sM_0 (by decide)).trans f_x_1)).2.2.2 h9).1⟩
                    obtain ⟨x_2151, f_x_2151⟩ : ∃ x, S_2143.2.1 3 (x_2148 : Int32).toNatClampNeg = x := ⟨_, rfl⟩
                    have hin_2152 : vp_in (x_2148 : Int32) 2 := (dk_inv (by omega) (by omega))
                    have b_x_2151 := dk_all_at (dg_I.row (lo := 0) (hi := 9999) I_2143 sM_3 (by decide +kernel)) hin_2152 f_x_2151.symm
                    have ex_2151 := f_x_2151.symm
                    have zb_x_2151 : (x_2151).toInt ≤ 7 ∧ ((x_1 : Int32).toInt = 1 → 3 ≤ (x_2151).toInt) := by rw [ex_2151]; exact ⟨((ZBM.keep ZB M_2143 (by decide) (by decide) (by decide) (by decide) (by decide)) x_2148 x_1 ((M_2143.1 0 13 _ sM_0 (by decide)).trans f_x_2148) ((M_2143.1 0 47 _ sM_0 (by decide)).trans f_x_1)).2.1, fun h9 => (((ZBM.keep ZB M_2143 (by decide) (by decide) (by decide) (by decide) (by decide)) x_2148 x_1 ((M_2143.1 0 13 _ sM_0 (by decide)).trans f_x_2148) ((M_2143.1 0 47 _ sM_0 (by decide)).trans f_x_1)).2.2.2 h9).2⟩
                    refine dg_calli hS hA1 hA (va_runV (As := [.int x_2140]) (rest := []) F (c_m_isCellOf l g D o S_2143 x_2140 (by omega) x_2148 ((M_2143.1 0 13 _ sM_0 (by decide)).trans f_x_2148) (by omega) x_1 ((M_2143.1 0 47 _ sM_0 (by decide)).trans f_x_1) (by omega) x_2149 f_x_2149 (by omega) x_2151 f_x_2151 (by omega) (ZBM.keep ZB M_2143 (by decide) (by decide) (by decide) (by decide) (by decide)) I_2143 H.size) (cwV 1 hts (bw_V wB_1123 wB_1124 wB_1125 wB_297 wB_1122) rfl rfl rfl (by decide +kernel) ⟨Nat.le_of_ble_eq_true rfl, Nat.le_of_ble_eq_true rfl⟩) (dg_preV sM_0 rfl K ST hP hS hA1 hA) rfl rfl hl.1 rfl (lv_room (Nat.le_of_ble_eq_true rfl)) dX12_tells_62 ⟨Nat.le_of_ble_eq_true rfl, Nat.le_of_ble_eq_true rfl⟩) (fun x_2153 S_2154 hw_2154 H locs hP hS => ?_)
                    rw [hw_2154.1] at hP
                    obtain ⟨hq_2154, w_2154_0, w_2154_1, w_2154_2, -⟩ := hw_2154
                    have w_2154_0 : 0 ≤ (x_2153).toInt ∧ (x_2153).toInt ≤ 1 := w_2154_0
                    have w_2154_1 : (x_2153).toInt = 1 → 0 ≤ (x_2140).toInt := w_2154_1
                    have w_2154_2 : (x_2153).toInt = 1 ↔ ((x_1).toInt = 1 ∧ 0 ≤ (x_2140).toInt ∧ (x_2140).toInt % 8 < (x_2149).toInt ∧ (x_2140).toInt / 8 < (x_2151).toInt) := w_2154_2
                    have J_2170 : ∀ (x_2158 : Int32), (0 ≤ (x_2158).toInt ∧ (x_2158).toInt ≤ 2147483647) → ∀ S_2169 : dg_S, CM o S_2169 → dg_sm shM [(0, 63)] [29, 30, 31, 32, 33, 34, 35, 36, 37, 38, 39, 40, 41, 42, 43, 44, 48, 49] S S_2169 → S_2169.2.1 29 (0 : Int32).toNatClampNeg = x_1850 → ZSM S_2169 → ∀ (H : Heap) (locs : List Loc), va_P D vwCl (dg_w g shM o rfM S_2169) H → va_S A s.heap H locs → ∀ ls : Array Slot, lv_has ls 8 [(6, .int x_2140), (5, .int x_1843), (4, .int x_2141), (3, .int x_2142), (2, .int x_9), (0, .ref (o + 0)), (1, .int a1)] → W p l e ({ frames := 10, cells := 0, slots := 0, locals := 242 } : Room) s m args below meth c H locs 0 0 (MQ below (va_Qi (fun (r : Int32) S' => CM o S' ∧ dg_sm shM [(0, 63)] [29, 30, 31, 32, 33, 34, 35, 36, 37, 38, 39, 40, 41, 42, 43, 44, 48, 49] S S' ∧ ((-1) ≤ (r).toInt ∧ (r).toInt ≤ 100000000) ∧ ZSM S' ∧ True) (dg_B g D shM o rfM) A) args s 0 0 A) (F0 m 83 ls [.int x_2158]) := by
                      intro x_2158 b_x_2158 S_2169 I_2169 M_2169 frw_2169_0 ZS_2169 H locs hP hS ls hl
                      refine lv_istore (lv' := [(7, .int x_2158), (6, .int x_2140), (5, .int x_1843), (4, .int x_2141), (3, .int x_2142), (2, .int x_9), (0, .ref (o + 0)), (1, .int a1)]) hx hb dX12_tells_83 hl (by decide) rfl (fun ls hl => ?_)
                      refine lv_iload hx hb dX12_tells_85 (lv_at hl 0 rfl) ?_
                      refine lv_iload hx hb dX12_tells_87 (lv_at hl 3 rfl) ?_
                      have J_2180 : ∀ (x_2176 : Int32) (x_2177 : Int32), ((-1) ≤ (x_2176).toInt ∧ (x_2176).toInt ≤ 2147483647) → (0 ≤ (x_2177).toInt ∧ (x_2177).toInt ≤ 100000000) → ∀ (H : Heap) (locs : List Loc), va_P D vwCl (dg_w g shM o rfM S_2169) H → va_S A s.heap H locs → ∀ ls : Array Slot, lv_has ls 8 [(3, .int x_2176), (4, .int x_2177), (7, .int x_2158), (6, .int x_2140), (5, .int x_1843), (2, .int x_9), (0, .ref (o + 0)), (1, .int a1)] → W p l e ({ frames := 10, cells := 0, slots := 0, locals := 242 } : Room) s m args below meth c H locs 0 0 (MQ below (va_Qi (fun (r : Int32) S' => CM o S' ∧ dg_sm shM [(0, 63)] [29, 30, 31, 32, 33, 34, 35, 36, 37, 38, 39, 40, 41, 42, 43, 44, 48, 49] S S' ∧ ((-1) ≤ (r).toInt ∧ (r).toInt ≤ 100000000) ∧ ZSM S' ∧ True) (dg_B g D shM o rfM) A) args s 0 0 A) (F0 m 108 ls []) := by
                        intro x_2176 x_2177 b_x_2176 b_x_2177 H locs hP hS ls hl
                        obtain ⟨x_2181, ex_2181⟩ : ∃ z, z = x_2140 + 1 := ⟨_, rfl⟩
                        have jx_2181 : (x_2181).toInt = (x_2140).toInt + 1 := by rw [ex_2181]; exact dk_addT rfl (by decide +kernel) (by omega) (by omega)
                        refine lv_iinc (v := x_2181) (lv' := [(6, .int x_2181), (3, .int x_2176), (4, .int x_2177), (7, .int x_2158), (5, .int x_1843), (2, .int x_9), (0, .ref (o + 0)), (1, .int a1)]) hx hb dX12_tells_108 hl (k := 3) rfl (by rw [ex_2181]; rfl) (by decide) rfl (fun ls hl => ?_)
                        refine lv_goto (tgt := 52) hx hb dX12_tells_111 (by decide) ?_
                        have hf_2181 := dk_full x_2176
                        exact ih x_2181 x_2177 x_2176 (by omega) (by omega) (by omega) (by omega) S_2169 I_2169 M_2169 frw_2169_0 ZS_2169 _ _ hP hS _ (lv_sub hl [0, 4, 2, 1, 5, 6, 7] rfl)
                      refine lv_icmp_lt (tgt := 95) hx hb dX12_tells_89 (by decide) (fun c_2183 => ?_) (fun c_2183 => ?_)
                      · have hf_2183 := dk_full x_2158
                        have jc_2183 := dk_ltc (k := (x_2141).toInt) rfl c_2183
                        refine lv_iload hx hb dX12_tells_95 (lv_at hl 0 rfl) ?_
                        refine lv_istore (lv' := [(4, .int x_2158), (7, .int x_2158), (6, .int x_2140), (5, .int x_1843), (3, .int x_2142), (2, .int x_9), (0, .ref (o + 0)), (1, .int a1)]) hx hb dX12_tells_97 hl (by decide) rfl (fun ls hl => ?_)
                        refine lv_bipush (v := 64) hx hb dX12_tells_99 (by decide +kernel) ?_
                        refine lv_iload hx hb dX12_tells_101 (lv_at hl 3 rfl) ?_
                        refine lv_imul hx hb dX12_tells_103 ?_
                        refine lv_topi (fun x_2185 ex_2185 => ?_)
                        have jx_2185 : (x_2185).toInt = 64 * (x_1843).toInt := by rw [ex_2185]; exact dk_mulT (by decide +kernel) rfl (by omega) (by omega)
                        refine lv_iload hx hb dX12_tells_104 (lv_at hl 2 rfl) ?_
                        refine lv_iadd hx hb dX12_tells_106 ?_
                        refine lv_topi (fun x_2186 ex_2186 => ?_)
                        have jx_2186 : (x_2186).toInt = (x_2185).toInt + (x_2140).toInt := by rw [ex_2186]; exact dk_addT rfl rfl (by omega) (by omega)
                        refine lv_istore_n (lv' := [(3, .int x_2186), (4, .int x_2158), (7, .int x_2158), (6, .int x_2140), (5, .int x_1843), (2, .int x_9), (0, .ref (o + 0)), (1, .int a1)]) hx hb dX12_tells_107 rfl hl (by decide) rfl (fun ls hl => ?_)
                        have hf_2186 := dk_full x_2186
                        exact J_2180 x_2186 x_2158 (by omega) (by omega) _ _ hP hS _ (lv_sub hl [0, 1, 2, 3, 4, 5, 6, 7] rfl)
                      · have hf_2187 := dk_full x_2158
                        have jc_2183 := dk_nltc (k := (x_2141).toInt) rfl c_2183
                        refine lv_goto (tgt := 108) hx hb dX12_tells_92 (by decide) ?_
                        have hf_2188 := dk_full x_2142
                        exact J_2180 x_2142 x_2141 (by omega) (by omega) _ _ hP hS _ (lv_sub hl [4, 3, 0, 1, 2, 5, 6, 7] rfl)
                    refine lv_if_eq (tgt := 80) hx hb dX12_tells_65 (by decide) (fun c_2190 => ?_) (fun c_2190 => ?_)
                    · have jc_2190 := dk_eqc (k := 0) (by decide +kernel) c_2190
                      refine lv_ldcw hx hb hown (hts _ (bw_mem wB_1102)) dX12_tells_80 ?_
                      have hz_2191 : (100000000 : Int32).toInt = 100000000 := by decide +kernel
                      exact J_2170 100000000 (by decide +kernel) S_2143 I_2143 M_2143 frw_2143_0 ZS_2143 _ _ hP hS _ (lv_sub hl [0, 1, 2, 3, 4, 5, 6] rfl)
                    · have jc_2190 := dk_neqc (k := 0) (by decide +kernel) c_2190
                      refine lv_aload_n hx hb dX12_tells_68 rfl (lv_at hl 5 rfl) ?_
                      refine lv_iload_n hx hb dX12_tells_69 rfl (lv_at hl 4 rfl) ?_
                      refine lv_iload hx hb dX12_tells_70 (lv_at hl 1 rfl) ?_
                      refine lv_iload hx hb dX12_tells_72 (lv_at hl 0 rfl) ?_
                      refine dg_calli hS hA1 hA (va_runV (As := [.int x_9, .int x_1843, .int x_2140]) (rest := []) F (c_m_mostBy l g D o S_2143 x_9 x_1843 (by omega) x_2140 (by omega) I_2143 H.size) (cwV 3 hts (bw_V wB_1283 wB_1284 wB_1285 wB_297 wB_1282) rfl rfl rfl (by decide +kernel) ⟨Nat.le_of_ble_eq_true rfl, Nat.le_of_ble_eq_true rfl⟩) (dg_preV sM_0 rfl K ST hP hS hA1 hA) rfl rfl hl.1 rfl (lv_room (Nat.le_of_ble_eq_true rfl)) dX12_tells_74 ⟨Nat.le_of_ble_eq_true rfl, Nat.le_of_ble_eq_true rfl⟩) (fun x_2192 S_2193 hw_2193 H locs hP hS => ?_)
                      obtain ⟨I_2193, m_2193, w_2193_0, -⟩ := hw_2193
                      have M_2193 := dg_sm.tr M_2143 m_2193 (by decide) (by decide)
                      have w_2193_0 : 0 ≤ (x_2192).toInt ∧ (x_2192).toInt ≤ 2147483647 := w_2193_0
                      refine lv_goto (tgt := 83) hx hb dX12_tells_77 (by decide) ?_
                      have hf_2193 := dk_full x_2192
                      exact J_2170 x_2192 (by omega) S_2193 I_2193 M_2193 ((congrFun (m_2193.2 29 _ sM_29 (by decide)).1 _).trans frw_2143_0) (ZSM.keep ZS_2143 m_2193 (by decide)) _ _ hP hS _ (lv_sub hl [0, 1, 2, 3, 4, 5, 6] rfl)
              have hz_2195 : (0 : Int32).toInt = 0 := by decide +kernel
              have hf_2195 := dk_full x_1845
              have hz_2197 : (0 : Int32).toInt = 0 := by decide +kernel
              exact L_2144 ((65 - ((0 : Int32)).toInt).toNat + 1) 0 x_1844 x_1845 (by decide +kernel) (by omega) (by omega) (by omega) S_1846 I_1846 M_1846 f_x_1850 ZS_1846 _ _ hP hS _ (lv_sub hl [0, 1, 2, 3, 4, 5, 6] rfl)
      have hz_2198 : (1 : Int32).toInt = 1 := by decide +kernel
      have hz_2199 : (100000000 : Int32).toInt = 100000000 := by decide +kernel
      have hz_2200 : (-1 : Int32).toInt = (-1) := by decide +kernel
      have hz_2201 : (1 : Int32).toInt = 1 := by decide +kernel
      have hz_2202 : (100000000 : Int32).toInt = 100000000 := by decide +kernel
      have hz_2203 : (-1 : Int32).toInt = (-1) := by decide +kernel
      exact L_1847 ((32 - ((1 : Int32)).toInt).toNat + 1) 1 100000000 (-1) (by decide +kernel) (by decide +kernel) (by decide +kernel) (by omega) S_10 I_10 M_10 w_10_0 _ _ hP hS _ (lv_sub hl [0, 1, 2, 3, 4, 5] rfl)
    · have jc_8 := dk_eqc (k := 0) (by decide +kernel) c_8
      refine lv_iconst (v := (-1)) hx hb dX12_tells_16 (by decide +kernel) ?_
      have hz_2204 : (-1 : Int32).toInt = (-1) := by decide +kernel
      refine W.widen (k := 0) (n := 0) (Nat.le_of_ble_eq_true rfl) (Nat.le_of_ble_eq_true rfl) ?_
      exact dg_iret hx hb hr hlocks rfl hP hS ⟨I, M_0, (by decide +kernel), ZS, trivial⟩ dX12_tells_17
set_option maxHeartbeats 8000000 in
set_option maxRecDepth 100000 in
theorem c_m_image (l : Launch) (g : Nat → ClassId) (D : va_G) (o : Nat) (S : dg_S) (bk : Int32) (f_bk : S.1 0 13 = .int bk) (b_bk : 0 ≤ (bk).toInt ∧ (bk).toInt ≤ 1) (sm : Int32) (f_sm : S.1 0 47 = .int sm) (b_sm : 0 ≤ (sm).toInt ∧ (sm).toInt ≤ 1) (cb : Int32) (f_cb : S.2.1 2 (bk : Int32).toNatClampNeg = cb) (b_cb : 0 ≤ (cb).toInt ∧ (cb).toInt ≤ 7) (rb : Int32) (f_rb : S.2.1 3 (bk : Int32).toNatClampNeg = rb) (b_rb : 0 ≤ (rb).toInt ∧ (rb).toInt ≤ 7) (mi : Int32) (f_mi : S.2.1 8 (bk : Int32).toNatClampNeg = mi) (b_mi : 0 ≤ (mi).toInt ∧ (mi).toInt ≤ 6) (pl : Int32) (f_pl : S.2.1 9 (bk : Int32).toNatClampNeg = pl) (b_pl : 0 ≤ (pl).toInt ∧ (pl).toInt ≤ 16) (od : Int32) (f_od : S.2.1 12 (bk : Int32).toNatClampNeg = od) (b_od : 0 ≤ (od).toInt ∧ (od).toInt ≤ 5) (hsm : (sm).toInt = 1 ↔ 0 < (cb).toInt) (ZB : ZBM S) (I : CM o S) (sz : Nat) : Met l yX12_image (bw yX12_image cX12_image 3 (some .int)) ({ frames := 4, cells := 0, slots := 0, locals := 97 } : Room) (dk_Pc g D (dg_w g shM o rfM S) sz [.ref (o + 0)]) (va_Qi (fun (r : Int32) S' => CM o S' ∧ dg_sm shM [(0, 76)] [50] S S' ∧ (0 ≤ (r).toInt ∧ (r).toInt ≤ 150) ∧ ((r).toInt = 16 + IMm (rb).toInt (cb).toInt + (mi).toInt + 3 * (pl).toInt + (od).toInt) ∧ True) (dg_B g D shM o rfM) (dg_A o shM.length sz)) 0 0 (dg_A o shM.length sz) := by
  refine dg_met (cc := cX12_image) (maxL := 3) (ret := (some .int)) (by decide) rfl (Nat.le_of_ble_eq_true rfl) ?_
  intro p e s m args below meth c A hAe harg hx hb hr hml hts hown hlocks hin hP K hS hA1 hA ST hsz ls hl
  rw [← hAe]
  have F : CallFix p m c cX12_image 3 s args (bw yX12_image cX12_image 3 (some .int)) RX12 := ⟨hx, hb, hml, hown, hts⟩
  have hl : lv_has ls 3 [(0, .ref (o + 0))] := hl
  have M_0 : dg_sm shM [(0, 76)] [50] S S := dg_sm.rf
  refine lv_aload_n hx hb dX12_image_0 rfl (lv_at hl 0 rfl) ?_
  refine lv_iconst (v := 0) hx hb dX12_image_1 (by decide +kernel) ?_
  have hz_1 : (0 : Int32).toInt = 0 := by decide +kernel
  refine dg_put (ci := 12) (v := .int 0) (ty := tyX12 76) (C := RX12) (T := TX12) (N := 77) hx hb hts (fun w h => bw_mem (wU_X12 w h)) tyX12 tyX12_ok nmX12 hown K hP hS hA1 sM_0 rfl 76 (by decide) (hts _ (bw_mem wB_1255)) (fun _ h9 => h9) rfl (by decide +kernel) rfl rfl dX12_image_2 (fun S_2 e_2 H locs hP hS => ?_)
  have I_2 := dg_I.uFi (lo := 0) (hi := 150) I e_2 sM_0 (by decide +kernel) (show 0 ≤ ((0 : Int32)).toInt ∧ ((0 : Int32)).toInt ≤ 150 from (by decide +kernel))
  have M_2 := dg_sm.uF M_0 e_2 sM_0 (by decide)
  refine lv_aload_n hx hb dX12_image_5 rfl (lv_at hl 0 rfl) ?_
  refine lv_aload_n hx hb dX12_image_6 rfl (lv_at hl 0 rfl) ?_
  refine dg_get (C := RX12) (T := TX12) (N := 77) hx hb hts (fun w h => bw_mem (wU_X12 w h)) hown K hP sM_0 rfl 49 (by decide) (hts _ (bw_mem wB_1108)) (fun _ h9 => h9) (v := .ref (o + 29)) (show S_2.1 0 49 = .ref (o + 29) from dg_I.rel (d := 29) I_2 sM_0 (by decide +kernel)) dX12_image_7 ?_
  refine lv_iconst (v := 0) hx hb dX12_image_10 (by decide +kernel) ?_
  have hin_3 : vp_in (0 : Int32) 22 := (dk_in (by decide +kernel))
  refine dg_iald hx hb K hP sM_29 hin_3 dX12_image_11 (fun x_4 ex_4 => ?_)
  have b_x_4 := dk_all_at (dg_I.row (lo := 0) (hi := 2000) I_2 sM_29 (by decide +kernel)) hin_3 ex_4
  refine lv_bipush (v := 8) hx hb dX12_image_12 (by decide +kernel) ?_
  refine lv_ishr hx hb dX12_image_14 ?_
  refine lv_topi (fun x_5 ex_5 => ?_)
  have hz_6 : (0 : Int32).toInt = 0 := by decide +kernel
  refine dg_callv hS hA1 hA (va_runV (As := [.int x_5]) (rest := []) F (c_m_writes l g D o S_2 x_5 0 (dg_uF_at e_2) (by decide +kernel) I_2 H.size) (cwV 1 hts (bw_V wB_1287 wB_1288 wB_1289 wB_297 wB_1286) rfl rfl rfl (by decide +kernel) ⟨Nat.le_of_ble_eq_true rfl, Nat.le_of_ble_eq_true rfl⟩) (dg_preV sM_0 rfl K ST hP hS hA1 hA) rfl rfl hl.1 rfl (lv_room (Nat.le_of_ble_eq_true rfl)) dX12_image_15 ⟨Nat.le_of_ble_eq_true rfl, Nat.le_of_ble_eq_true rfl⟩) (fun S_7 hw_7 H locs hP hS => ?_)
  obtain ⟨I_7, m_7, w_7_0, -⟩ := hw_7
  have M_7 := dg_sm.tr M_2 m_7 (by decide) (by decide)
  have hz_8 : (0 : Int32).toInt = 0 := by decide +kernel
  obtain ⟨y_9, f_y_9, w_7_0⟩ := w_7_0
  have w_7_0 : (y_9).toInt = ((0 : Int32)).toInt + 1 := w_7_0
  have b_y_9 : 0 ≤ (y_9).toInt ∧ (y_9).toInt ≤ 150 := dg_I.intb (lo := 0) (hi := 150) I_7 sM_0 (by decide +kernel) f_y_9
  refine lv_aload_n hx hb dX12_image_18 rfl (lv_at hl 0 rfl) ?_
  refine lv_aload_n hx hb dX12_image_19 rfl (lv_at hl 0 rfl) ?_
  refine dg_get (C := RX12) (T := TX12) (N := 77) hx hb hts (fun w h => bw_mem (wU_X12 w h)) hown K hP sM_0 rfl 49 (by decide) (hts _ (bw_mem wB_1108)) (fun _ h9 => h9) (v := .ref (o + 29)) (show S_7.1 0 49 = .ref (o + 29) from dg_I.rel (d := 29) I_7 sM_0 (by decide +kernel)) dX12_image_20 ?_
  refine lv_iconst (v := 0) hx hb dX12_image_23 (by decide +kernel) ?_
  have hin_10 : vp_in (0 : Int32) 22 := (dk_in (by decide +kernel))
  refine dg_iald hx hb K hP sM_29 hin_10 dX12_image_24 (fun y_11 ey_11 => ?_)
  obtain rfl : x_4 = y_11 := ((ey_11.trans (congrFun (m_7.2 29 _ sM_29 (by decide)).1 _)).trans ex_4.symm).symm
  refine dg_callv hS hA1 hA (va_runV (As := [.int x_4]) (rest := []) F (c_m_writes l g D o S_7 x_4 y_9 f_y_9 (by omega) I_7 H.size) (cwV 1 hts (bw_V wB_1287 wB_1288 wB_1289 wB_297 wB_1286) rfl rfl rfl (by decide +kernel) ⟨Nat.le_of_ble_eq_true rfl, Nat.le_of_ble_eq_true rfl⟩) (dg_preV sM_0 rfl K ST hP hS hA1 hA) rfl rfl hl.1 rfl (lv_room (Nat.le_of_ble_eq_true rfl)) dX12_image_25 ⟨Nat.le_of_ble_eq_true rfl, Nat.le_of_ble_eq_true rfl⟩) (fun S_12 hw_12 H locs hP hS => ?_)
  obtain ⟨I_12, m_12, w_12_0, -⟩ := hw_12
  have M_12 := dg_sm.tr M_7 m_12 (by decide) (by decide)
  obtain ⟨y_13, f_y_13, w_12_0⟩ := w_12_0
  have w_12_0 : (y_13).toInt = (y_9).toInt + 1 := w_12_0
  have b_y_13 : 0 ≤ (y_13).toInt ∧ (y_13).toInt ≤ 150 := dg_I.intb (lo := 0) (hi := 150) I_12 sM_0 (by decide +kernel) f_y_13
  refine lv_aload_n hx hb dX12_image_28 rfl (lv_at hl 0 rfl) ?_
  refine lv_aload_n hx hb dX12_image_29 rfl (lv_at hl 0 rfl) ?_
  refine dg_get (C := RX12) (T := TX12) (N := 77) hx hb hts (fun w h => bw_mem (wU_X12 w h)) hown K hP sM_0 rfl 50 (by decide) (hts _ (bw_mem wB_1129)) (fun _ h9 => h9) (v := .ref (o + 30)) (show S_12.1 0 50 = .ref (o + 30) from dg_I.rel (d := 30) I_12 sM_0 (by decide +kernel)) dX12_image_30 ?_
  refine lv_iconst (v := 0) hx hb dX12_image_33 (by decide +kernel) ?_
  have hin_14 : vp_in (0 : Int32) 22 := (dk_in (by decide +kernel))
  refine dg_iald hx hb K hP sM_30 hin_14 dX12_image_34 (fun x_15 ex_15 => ?_)
  refine lv_bipush (v := 16) hx hb dX12_image_35 (by decide +kernel) ?_
  refine lv_ishr hx hb dX12_image_37 ?_
  refine lv_topi (fun x_16 ex_16 => ?_)
  refine dg_callv hS hA1 hA (va_runV (As := [.int x_16]) (rest := []) F (c_m_writes l g D o S_12 x_16 y_13 f_y_13 (by omega) I_12 H.size) (cwV 1 hts (bw_V wB_1287 wB_1288 wB_1289 wB_297 wB_1286) rfl rfl rfl (by decide +kernel) ⟨Nat.le_of_ble_eq_true rfl, Nat.le_of_ble_eq_true rfl⟩) (dg_preV sM_0 rfl K ST hP hS hA1 hA) rfl rfl hl.1 rfl (lv_room (Nat.le_of_ble_eq_true rfl)) dX12_image_38 ⟨Nat.le_of_ble_eq_true rfl, Nat.le_of_ble_eq_true rfl⟩) (fun S_17 hw_17 H locs hP hS => ?_)
  obtain ⟨I_17, m_17, w_17_0, -⟩ := hw_17
  have M_17 := dg_sm.tr M_12 m_17 (by decide) (by decide)
  obtain ⟨y_18, f_y_18, w_17_0⟩ := w_17_0
  have w_17_0 : (y_18).toInt = (y_13).toInt + 1 := w_17_0
  have b_y_18 : 0 ≤ (y_18).toInt ∧ (y_18).toInt ≤ 150 := dg_I.intb (lo := 0) (hi := 150) I_17 sM_0 (by decide +kernel) f_y_18
  refine lv_aload_n hx hb dX12_image_41 rfl (lv_at hl 0 rfl) ?_
  refine lv_aload_n hx hb dX12_image_42 rfl (lv_at hl 0 rfl) ?_
  refine dg_get (C := RX12) (T := TX12) (N := 77) hx hb hts (fun w h => bw_mem (wU_X12 w h)) hown K hP sM_0 rfl 50 (by decide) (hts _ (bw_mem wB_1129)) (fun _ h9 => h9) (v := .ref (o + 30)) (show S_17.1 0 50 = .ref (o + 30) from dg_I.rel (d := 30) I_17 sM_0 (by decide +kernel)) dX12_image_43 ?_
  refine lv_iconst (v := 0) hx hb dX12_image_46 (by decide +kernel) ?_
  have hin_19 : vp_in (0 : Int32) 22 := (dk_in (by decide +kernel))
  refine dg_iald hx hb K hP sM_30 hin_19 dX12_image_47 (fun y_20 ey_20 => ?_)
  obtain rfl : x_15 = y_20 := ((ey_20.trans (congrFun (m_17.2 30 _ sM_30 (by decide)).1 _)).trans ex_15.symm).symm
  refine lv_bipush (v := 8) hx hb dX12_image_48 (by decide +kernel) ?_
  refine lv_ishr hx hb dX12_image_50 ?_
  refine lv_topi (fun x_21 ex_21 => ?_)
  refine dg_callv hS hA1 hA (va_runV (As := [.int x_21]) (rest := []) F (c_m_writes l g D o S_17 x_21 y_18 f_y_18 (by omega) I_17 H.size) (cwV 1 hts (bw_V wB_1287 wB_1288 wB_1289 wB_297 wB_1286) rfl rfl rfl (by decide +kernel) ⟨Nat.le_of_ble_eq_true rfl, Nat.le_of_ble_eq_true rfl⟩) (dg_preV sM_0 rfl K ST hP hS hA1 hA) rfl rfl hl.1 rfl (lv_room (Nat.le_of_ble_eq_true rfl)) dX12_image_51 ⟨Nat.le_of_ble_eq_true rfl, Nat.le_of_ble_eq_true rfl⟩) (fun S_22 hw_22 H locs hP hS => ?_)
  obtain ⟨I_22, m_22, w_22_0, -⟩ := hw_22
  have M_22 := dg_sm.tr M_17 m_22 (by decide) (by decide)
  obtain ⟨y_23, f_y_23, w_22_0⟩ := w_22_0
  have w_22_0 : (y_23).toInt = (y_18).toInt + 1 := w_22_0
  have b_y_23 : 0 ≤ (y_23).toInt ∧ (y_23).toInt ≤ 150 := dg_I.intb (lo := 0) (hi := 150) I_22 sM_0 (by decide +kernel) f_y_23
  refine lv_aload_n hx hb dX12_image_54 rfl (lv_at hl 0 rfl) ?_
  refine lv_aload_n hx hb dX12_image_55 rfl (lv_at hl 0 rfl) ?_
  refine dg_get (C := RX12) (T := TX12) (N := 77) hx hb hts (fun w h => bw_mem (wU_X12 w h)) hown K hP sM_0 rfl 50 (by decide) (hts _ (bw_mem wB_1129)) (fun _ h9 => h9) (v := .ref (o + 30)) (show S_22.1 0 50 = .ref (o + 30) from dg_I.rel (d := 30) I_22 sM_0 (by decide +kernel)) dX12_image_56 ?_
  refine lv_iconst (v := 0) hx hb dX12_image_59 (by decide +kernel) ?_
  have hin_24 : vp_in (0 : Int32) 22 := (dk_in (by decide +kernel))
  refine dg_iald hx hb K hP sM_30 hin_24 dX12_image_60 (fun y_25 ey_25 => ?_)
  obtain rfl : x_15 = y_25 := ((ey_25.trans (congrFun ((m_22.2 30 _ sM_30 (by decide)).1.trans (m_17.2 30 _ sM_30 (by decide)).1) _)).trans ex_15.symm).symm
  refine dg_callv hS hA1 hA (va_runV (As := [.int x_15]) (rest := []) F (c_m_writes l g D o S_22 x_15 y_23 f_y_23 (by omega) I_22 H.size) (cwV 1 hts (bw_V wB_1287 wB_1288 wB_1289 wB_297 wB_1286) rfl rfl rfl (by decide +kernel) ⟨Nat.le_of_ble_eq_true rfl, Nat.le_of_ble_eq_true rfl⟩) (dg_preV sM_0 rfl K ST hP hS hA1 hA) rfl rfl hl.1 rfl (lv_room (Nat.le_of_ble_eq_true rfl)) dX12_image_61 ⟨Nat.le_of_ble_eq_true rfl, Nat.le_of_ble_eq_true rfl⟩) (fun S_26 hw_26 H locs hP hS => ?_)
  obtain ⟨I_26, m_26, w_26_0, -⟩ := hw_26
  have M_26 := dg_sm.tr M_22 m_26 (by decide) (by decide)
  obtain ⟨y_27, f_y_27, w_26_0⟩ := w_26_0
  have w_26_0 : (y_27).toInt = (y_23).toInt + 1 := w_26_0
  have b_y_27 : 0 ≤ (y_27).toInt ∧ (y_27).toInt ≤ 150 := dg_I.intb (lo := 0) (hi := 150) I_26 sM_0 (by decide +kernel) f_y_27
  refine lv_iconst (v := 0) hx hb dX12_image_64 (by decide +kernel) ?_
  refine lv_istore_n (lv' := [(1, .int 0), (0, .ref (o + 0))]) hx hb dX12_image_65 rfl hl (by decide) rfl (fun ls hl => ?_)
  have J_355 : ∀ (x_83 : Int32) (x_84 : Int32), (64 ≤ (x_83).toInt ∧ (x_83).toInt ≤ 64) → (0 ≤ (x_84).toInt ∧ (x_84).toInt ≤ 150) → ∀ S_354 : dg_S, CM o S_354 → dg_sm shM [(0, 76)] [50] S S_354 → S_354.1 0 76 = .int x_84 → ((x_84).toInt ≤ 69) → ((x_84).toInt = 5 + IMm (rb).toInt (cb).toInt) → ∀ (H : Heap) (locs : List Loc), va_P D vwCl (dg_w g shM o rfM S_354) H → va_S A s.heap H locs → ∀ ls : Array Slot, lv_has ls 3 [(1, .int x_83), (0, .ref (o + 0))] → W p l e ({ frames := 4, cells := 0, slots := 0, locals := 97 } : Room) s m args below meth c H locs 0 0 (MQ below (va_Qi (fun (r : Int32) S' => CM o S' ∧ dg_sm shM [(0, 76)] [50] S S' ∧ (0 ≤ (r).toInt ∧ (r).toInt ≤ 150) ∧ ((r).toInt = 16 + IMm (rb).toInt (cb).toInt + (mi).toInt + 3 * (pl).toInt + (od).toInt) ∧ True) (dg_B g D shM o rfM) A) args s 0 0 A) (F0 m 112 ls []) := by
    intro x_83 x_84 b_x_83 b_x_84 S_354 I_354 M_354 ff_354_76_0 srel_354_0 srel_354_1 H locs hP hS ls hl
    refine lv_iconst (v := 0) hx hb dX12_image_112 (by decide +kernel) ?_
    refine lv_istore_n (lv' := [(1, .int 0), (0, .ref (o + 0))]) hx hb dX12_image_113 rfl hl (by decide) rfl (fun ls hl => ?_)
    have J_625 : ∀ (x_408 : Int32) (x_409 : Int32), (0 ≤ (x_408).toInt ∧ (x_408).toInt ≤ 6) → (0 ≤ (x_409).toInt ∧ (x_409).toInt ≤ 150) → ∀ S_624 : dg_S, CM o S_624 → dg_sm shM [(0, 76)] [50] S S_624 → S_624.1 0 76 = .int x_409 → ((x_409).toInt ≤ 75) → ((x_409).toInt = 5 + IMm (rb).toInt (cb).toInt + (mi).toInt) → ∀ (H : Heap) (locs : List Loc), va_P D vwCl (dg_w g shM o rfM S_624) H → va_S A s.heap H locs → ∀ ls : Array Slot, lv_has ls 3 [(1, .int x_408), (0, .ref (o + 0))] → W p l e ({ frames := 4, cells := 0, slots := 0, locals := 97 } : Room) s m args below meth c H locs 0 0 (MQ below (va_Qi (fun (r : Int32) S' => CM o S' ∧ dg_sm shM [(0, 76)] [50] S S' ∧ (0 ≤ (r).toInt ∧ (r).toInt ≤ 150) ∧ ((r).toInt = 16 + IMm (rb).toInt (cb).toInt + (mi).toInt + 3 * (pl).toInt + (od).toInt) ∧ True) (dg_B g D shM o rfM) A) args s 0 0 A) (F0 m 155 ls []) := by
      intro x_408 x_409 b_x_408 b_x_409 S_624 I_624 M_624 ff_624_76_0 srel_624_0 srel_624_1 H locs hP hS ls hl
      refine lv_iconst (v := 0) hx hb dX12_image_155 (by decide +kernel) ?_
      refine lv_istore_n (lv' := [(1, .int 0), (0, .ref (o + 0))]) hx hb dX12_image_156 rfl hl (by decide) rfl (fun ls hl => ?_)
      have J_840 : ∀ (x_691 : Int32) (x_692 : Int32), (0 ≤ (x_691).toInt ∧ (x_691).toInt ≤ 16) → (0 ≤ (x_692).toInt ∧ (x_692).toInt ≤ 150) → ∀ S_839 : dg_S, CM o S_839 → dg_sm shM [(0, 76)] [50] S S_839 → S_839.1 0 76 = .int x_692 → ((x_692).toInt ≤ 123) → ((x_692).toInt = 5 + IMm (rb).toInt (cb).toInt + (mi).toInt + 3 * (pl).toInt) → ∀ (H : Heap) (locs : List Loc), va_P D vwCl (dg_w g shM o rfM S_839) H → va_S A s.heap H locs → ∀ ls : Array Slot, lv_has ls 3 [(1, .int x_691), (0, .ref (o + 0))] → W p l e ({ frames := 4, cells := 0, slots := 0, locals := 97 } : Room) s m args below meth c H locs 0 0 (MQ below (va_Qi (fun (r : Int32) S' => CM o S' ∧ dg_sm shM [(0, 76)] [50] S S' ∧ (0 ≤ (r).toInt ∧ (r).toInt ≤ 150) ∧ ((r).toInt = 16 + IMm (rb).toInt (cb).toInt + (mi).toInt + 3 * (pl).toInt + (od).toInt) ∧ True) (dg_B g D shM o rfM) A) args s 0 0 A) (F0 m 214 ls []) := by
        intro x_691 x_692 b_x_691 b_x_692 S_839 I_839 M_839 ff_839_76_0 srel_839_0 srel_839_1 H locs hP hS ls hl
        refine lv_iconst (v := 0) hx hb dX12_image_214 (by decide +kernel) ?_
        refine lv_istore_n (lv' := [(1, .int 0), (0, .ref (o + 0))]) hx hb dX12_image_215 rfl hl (by decide) rfl (fun ls hl => ?_)
        have J_987 : ∀ (x_893 : Int32) (x_894 : Int32), (0 ≤ (x_893).toInt ∧ (x_893).toInt ≤ 5) → (0 ≤ (x_894).toInt ∧ (x_894).toInt ≤ 150) → ∀ S_986 : dg_S, CM o S_986 → dg_sm shM [(0, 76)] [50] S S_986 → S_986.1 0 76 = .int x_894 → ((x_894).toInt ≤ 128) → ((x_894).toInt = 5 + IMm (rb).toInt (cb).toInt + (mi).toInt + 3 * (pl).toInt + (od).toInt) → ∀ (H : Heap) (locs : List Loc), va_P D vwCl (dg_w g shM o rfM S_986) H → va_S A s.heap H locs → ∀ ls : Array Slot, lv_has ls 3 [(1, .int x_893), (0, .ref (o + 0))] → W p l e ({ frames := 4, cells := 0, slots := 0, locals := 97 } : Room) s m args below meth c H locs 0 0 (MQ below (va_Qi (fun (r : Int32) S' => CM o S' ∧ dg_sm shM [(0, 76)] [50] S S' ∧ (0 ≤ (r).toInt ∧ (r).toInt ≤ 150) ∧ ((r).toInt = 16 + IMm (rb).toInt (cb).toInt + (mi).toInt + 3 * (pl).toInt + (od).toInt) ∧ True) (dg_B g D shM o rfM) A) args s 0 0 A) (F0 m 257 ls []) := by
          intro x_893 x_894 b_x_893 b_x_894 S_986 I_986 M_986 ff_986_76_0 srel_986_0 srel_986_1 H locs hP hS ls hl
          refine lv_iconst (v := 0) hx hb dX12_image_257 (by decide +kernel) ?_
          refine lv_istore_n (lv' := [(1, .int 0), (0, .ref (o + 0))]) hx hb dX12_image_258 rfl hl (by decide) rfl (fun ls hl => ?_)
          have J_1079 : ∀ (x_1010 : Int32) (x_1011 : Int32), (10 ≤ (x_1010).toInt ∧ (x_1010).toInt ≤ 10) → (0 ≤ (x_1011).toInt ∧ (x_1011).toInt ≤ 150) → ∀ S_1078 : dg_S, CM o S_1078 → dg_sm shM [(0, 76)] [50] S S_1078 → S_1078.1 0 76 = .int x_1011 → ((x_1011).toInt ≤ 138) → ((x_1011).toInt = 15 + IMm (rb).toInt (cb).toInt + (mi).toInt + 3 * (pl).toInt + (od).toInt) → ∀ (H : Heap) (locs : List Loc), va_P D vwCl (dg_w g shM o rfM S_1078) H → va_S A s.heap H locs → ∀ ls : Array Slot, lv_has ls 3 [(1, .int x_1010), (0, .ref (o + 0))] → W p l e ({ frames := 4, cells := 0, slots := 0, locals := 97 } : Room) s m args below meth c H locs 0 0 (MQ below (va_Qi (fun (r : Int32) S' => CM o S' ∧ dg_sm shM [(0, 76)] [50] S S' ∧ (0 ≤ (r).toInt ∧ (r).toInt ≤ 150) ∧ ((r).toInt = 16 + IMm (rb).toInt (cb).toInt + (mi).toInt + 3 * (pl).toInt + (od).toInt) ∧ True) (dg_B g D shM o rfM) A) args s 0 0 A) (F0 m 281 ls []) := by
            intro x_1010 x_1011 b_x_1010 b_x_1011 S_1078 I_1078 M_1078 ff_1078_76_0 srel_1078_0 srel_1078_1 H locs hP hS ls hl
            refine lv_sipush (v := 233) hx hb dX12_image_281 (by decide +kernel) ?_
            refine lv_istore_n (lv' := [(1, .int 233), (0, .ref (o + 0))]) hx hb dX12_image_284 rfl hl (by decide) rfl (fun ls hl => ?_)
            refine lv_iconst (v := 0) hx hb dX12_image_285 (by decide +kernel) ?_
            refine lv_istore_n (lv' := [(2, .int 0), (1, .int 233), (0, .ref (o + 0))]) hx hb dX12_image_286 rfl hl (by decide) rfl (fun ls hl => ?_)
            have L_1136 : ∀ (n : Nat) (x_1134 : Int32) (x_1135 : Int32), (0 ≤ (x_1134).toInt ∧ (x_1134).toInt ≤ 150) → ((151 - (x_1134).toInt).toNat < n) → ∀ (H : Heap) (locs : List Loc), va_P D vwCl (dg_w g shM o rfM S_1078) H → va_S A s.heap H locs → ∀ ls : Array Slot, lv_has ls 3 [(2, .int x_1134), (1, .int x_1135), (0, .ref (o + 0))] → W p l e ({ frames := 4, cells := 0, slots := 0, locals := 97 } : Room) s m args below meth c H locs 0 0 (MQ below (va_Qi (fun (r : Int32) S' => CM o S' ∧ dg_sm shM [(0, 76)] [50] S S' ∧ (0 ≤ (r).toInt ∧ (r).toInt ≤ 150) ∧ ((r).toInt = 16 + IMm (rb).toInt (cb).toInt + (mi).toInt + 3 * (pl).toInt + (od).toInt) ∧ True) (dg_B g D shM o rfM) A) args s 0 0 A) (F0 m 287 ls []) := by
              intro n
              induction n with
              | zero =>
                intro x_1134 x_1135 b_x_1134 hmu H locs hP hS ls hl
                omega
              | succ n ih =>
                intro x_1134 x_1135 b_x_1134 hmu H locs hP hS ls hl
                refine lv_iload_n hx hb dX12_image_287 rfl (lv_at hl 0 rfl) ?_
                refine lv_aload_n hx hb dX12_image_288 rfl (lv_at hl 2 rfl) ?_
                refine dg_get (C := RX12) (T := TX12) (N := 77) hx hb hts (fun w h => bw_mem (wU_X12 w h)) hown K hP sM_0 rfl 76 (by decide) (hts _ (bw_mem wB_1255)) (fun _ h9 => h9) (v := .int x_1011) ff_1078_76_0 dX12_image_289 ?_
                refine lv_icmp_ge (tgt := 316) hx hb dX12_image_292 (by decide) (fun c_1137 => ?_) (fun c_1137 => ?_)
                · have jc_1137 := dk_gec (k := (x_1011).toInt) rfl c_1137
                  refine lv_aload_n hx hb dX12_image_316 rfl (lv_at hl 2 rfl) ?_
                  refine lv_iload_n hx hb dX12_image_317 rfl (lv_at hl 1 rfl) ?_
                  refine dg_callv hS hA1 hA (va_runV (As := [.int x_1135]) (rest := []) F (c_m_writes l g D o S_1078 x_1135 x_1011 ff_1078_76_0 (by omega) I_1078 H.size) (cwV 1 hts (bw_V wB_1287 wB_1288 wB_1289 wB_297 wB_1286) rfl rfl rfl (by decide +kernel) ⟨Nat.le_of_ble_eq_true rfl, Nat.le_of_ble_eq_true rfl⟩) (dg_preV sM_0 rfl K ST hP hS hA1 hA) rfl rfl hl.1 rfl (lv_room (Nat.le_of_ble_eq_true rfl)) dX12_image_318 ⟨Nat.le_of_ble_eq_true rfl, Nat.le_of_ble_eq_true rfl⟩) (fun S_1138 hw_1138 H locs hP hS => ?_)
                  obtain ⟨I_1138, m_1138, w_1138_0, -⟩ := hw_1138
                  have M_1138 := dg_sm.tr M_1078 m_1138 (by decide) (by decide)
                  obtain ⟨y_1139, f_y_1139, w_1138_0⟩ := w_1138_0
                  have w_1138_0 : (y_1139).toInt = (x_1011).toInt + 1 := w_1138_0
                  have b_y_1139 : 0 ≤ (y_1139).toInt ∧ (y_1139).toInt ≤ 150 := dg_I.intb (lo := 0) (hi := 150) I_1138 sM_0 (by decide +kernel) f_y_1139
                  refine lv_aload_n hx hb dX12_image_321 rfl (lv_at hl 2 rfl) ?_
                  refine dg_get (C := RX12) (T := TX12) (N := 77) hx hb hts (fun w h => bw_mem (wU_X12 w h)) hown K hP sM_0 rfl 76 (by decide) (hts _ (bw_mem wB_1255)) (fun _ h9 => h9) (v := .int y_1139) f_y_1139 dX12_image_322 ?_
                  refine W.widen (k := 0) (n := 0) (Nat.le_of_ble_eq_true rfl) (Nat.le_of_ble_eq_true rfl) ?_
                  exact dg_iret hx hb hr hlocks rfl hP hS ⟨I_1138, M_1138, (by omega), (by omega), trivial⟩ dX12_image_325
                · have jc_1137 := dk_ngec (k := (x_1011).toInt) rfl c_1137
                  refine lv_iconst (v := 5) hx hb dX12_image_295 (by decide +kernel) ?_
                  refine lv_iload_n hx hb dX12_image_296 rfl (lv_at hl 1 rfl) ?_
                  refine lv_imul hx hb dX12_image_297 ?_
                  refine lv_topi (fun x_1140 ex_1140 => ?_)
                  refine lv_aload_n hx hb dX12_image_298 rfl (lv_at hl 2 rfl) ?_
                  refine dg_get (C := RX12) (T := TX12) (N := 77) hx hb hts (fun w h => bw_mem (wU_X12 w h)) hown K hP sM_0 rfl 75 (by decide) (hts _ (bw_mem wB_1254)) (fun _ h9 => h9) (v := .ref (o + 50)) (show S_1078.1 0 75 = .ref (o + 50) from dg_I.rel (d := 50) I_1078 sM_0 (by decide +kernel)) dX12_image_299 ?_
                  refine lv_iload_n hx hb dX12_image_302 rfl (lv_at hl 0 rfl) ?_
                  have hin_1141 : vp_in x_1134 150 := (dk_inv (by omega) (by omega))
                  refine dg_iald hx hb K hP sM_50 hin_1141 dX12_image_303 (fun x_1142 ex_1142 => ?_)
                  refine lv_iadd hx hb dX12_image_304 ?_
                  refine lv_topi (fun x_1143 ex_1143 => ?_)
                  refine lv_sipush (v := 251) hx hb dX12_image_305 (by decide +kernel) ?_
                  refine lv_irem hx hb dX12_image_308 (by decide +kernel) ?_
                  refine lv_topi (fun x_1144 ex_1144 => ?_)
                  refine lv_istore_n (lv' := [(1, .int x_1144), (2, .int x_1134), (0, .ref (o + 0))]) hx hb dX12_image_309 rfl hl (by decide) rfl (fun ls hl => ?_)
                  obtain ⟨x_1145, ex_1145⟩ : ∃ z, z = x_1134 + 1 := ⟨_, rfl⟩
                  have jx_1145 : (x_1145).toInt = (x_1134).toInt + 1 := by rw [ex_1145]; exact dk_addT rfl (by decide +kernel) (by omega) (by omega)
                  refine lv_iinc (v := x_1145) (lv' := [(2, .int x_1145), (1, .int x_1144), (0, .ref (o + 0))]) hx hb dX12_image_310 hl (k := 1) rfl (by rw [ex_1145]; rfl) (by decide) rfl (fun ls hl => ?_)
                  refine lv_goto (tgt := 287) hx hb dX12_image_313 (by decide) ?_
                  exact ih x_1145 x_1144 (by omega) (by omega) _ _ hP hS _ (lv_sub hl [0, 1, 2] rfl)
            have hz_1146 : (0 : Int32).toInt = 0 := by decide +kernel
            have hz_1147 : (0 : Int32).toInt = 0 := by decide +kernel
            have hz_1148 : (233 : Int32).toInt = 233 := by decide +kernel
            exact L_1136 ((151 - ((0 : Int32)).toInt).toNat + 1) 0 233 (by decide +kernel) (by omega) _ _ hP hS _ (lv_sub hl [0, 1, 2] rfl)
          have L_1165 : ∀ (n : Nat) (x_1162 : Int32) (x_1163 : Int32), (0 ≤ (x_1162).toInt ∧ (x_1162).toInt ≤ 10) → (0 ≤ (x_1163).toInt ∧ (x_1163).toInt ≤ 150) → ((11 - (x_1162).toInt).toNat < n) → ∀ S_1164 : dg_S, CM o S_1164 → dg_sm shM [(0, 76)] [50] S S_1164 → S_1164.1 0 76 = .int x_1163 → ((x_1163).toInt ≤ 128 + (x_1162).toInt) → ((x_1163).toInt = 5 + IMm (rb).toInt (cb).toInt + (mi).toInt + 3 * (pl).toInt + (od).toInt + (x_1162 : Int32).toInt) → ((x_1162 : Int32).toInt ≤ 10) → ∀ (H : Heap) (locs : List Loc), va_P D vwCl (dg_w g shM o rfM S_1164) H → va_S A s.heap H locs → ∀ ls : Array Slot, lv_has ls 3 [(1, .int x_1162), (0, .ref (o + 0))] → W p l e ({ frames := 4, cells := 0, slots := 0, locals := 97 } : Room) s m args below meth c H locs 0 0 (MQ below (va_Qi (fun (r : Int32) S' => CM o S' ∧ dg_sm shM [(0, 76)] [50] S S' ∧ (0 ≤ (r).toInt ∧ (r).toInt ≤ 150) ∧ ((r).toInt = 16 + IMm (rb).toInt (cb).toInt + (mi).toInt + 3 * (pl).toInt + (od).toInt) ∧ True) (dg_B g D shM o rfM) A) args s 0 0 A) (F0 m 259 ls []) := by
            intro n
            induction n with
            | zero =>
              intro x_1162 x_1163 b_x_1162 b_x_1163 hmu S_1164 I_1164 M_1164 ff_1164_76_0 srel_1164_0 srel_1164_1 srel_1164_2 H locs hP hS ls hl
              omega
            | succ n ih =>
              intro x_1162 x_1163 b_x_1162 b_x_1163 hmu S_1164 I_1164 M_1164 ff_1164_76_0 srel_1164_0 srel_1164_1 srel_1164_2 H locs hP hS ls hl
              refine lv_iload_n hx hb dX12_image_259 rfl (lv_at hl 0 rfl) ?_
              refine lv_bipush (v := 10) hx hb dX12_image_260 (by decide +kernel) ?_
              refine lv_icmp_ge (tgt := 281) hx hb dX12_image_262 (by decide) (fun c_1166 => ?_) (fun c_1166 => ?_)
              · have jc_1166 := dk_gec (k := 10) (by decide +kernel) c_1166
                exact J_1079 x_1162 x_1163 (by omega) (by omega) S_1164 I_1164 M_1164 ff_1164_76_0 (by omega) (by omega) _ _ hP hS _ (lv_sub hl [0, 1] rfl)
              · have jc_1166 := dk_ngec (k := 10) (by decide +kernel) c_1166
                refine lv_aload_n hx hb dX12_image_265 rfl (lv_at hl 1 rfl) ?_
                refine lv_aload_n hx hb dX12_image_266 rfl (lv_at hl 1 rfl) ?_
                refine dg_get (C := RX12) (T := TX12) (N := 77) hx hb hts (fun w h => bw_mem (wU_X12 w h)) hown K hP sM_0 rfl 57 (by decide) (hts _ (bw_mem wB_1117)) (fun _ h9 => h9) (v := .ref (o + 37)) (show S_1164.1 0 57 = .ref (o + 37) from dg_I.rel (d := 37) I_1164 sM_0 (by decide +kernel)) dX12_image_267 ?_
                refine lv_iload_n hx hb dX12_image_270 rfl (lv_at hl 0 rfl) ?_
                have hin_1167 : vp_in x_1162 220 := (dk_inv (by omega) (by omega))
                refine dg_iald hx hb K hP sM_37 hin_1167 dX12_image_271 (fun x_1168 ex_1168 => ?_)
                refine dg_callv hS hA1 hA (va_runV (As := [.int x_1168]) (rest := []) F (c_m_writes l g D o S_1164 x_1168 x_1163 ff_1164_76_0 (by omega) I_1164 H.size) (cwV 1 hts (bw_V wB_1287 wB_1288 wB_1289 wB_297 wB_1286) rfl rfl rfl (by decide +kernel) ⟨Nat.le_of_ble_eq_true rfl, Nat.le_of_ble_eq_true rfl⟩) (dg_preV sM_0 rfl K ST hP hS hA1 hA) rfl rfl hl.1 rfl (lv_room (Nat.le_of_ble_eq_true rfl)) dX12_image_272 ⟨Nat.le_of_ble_eq_true rfl, Nat.le_of_ble_eq_true rfl⟩) (fun S_1169 hw_1169 H locs hP hS => ?_)
                obtain ⟨I_1169, m_1169, w_1169_0, -⟩ := hw_1169
                have M_1169 := dg_sm.tr M_1164 m_1169 (by decide) (by decide)
                obtain ⟨y_1170, f_y_1170, w_1169_0⟩ := w_1169_0
                have w_1169_0 : (y_1170).toInt = (x_1163).toInt + 1 := w_1169_0
                have b_y_1170 : 0 ≤ (y_1170).toInt ∧ (y_1170).toInt ≤ 150 := dg_I.intb (lo := 0) (hi := 150) I_1169 sM_0 (by decide +kernel) f_y_1170
                obtain ⟨x_1171, ex_1171⟩ : ∃ z, z = x_1162 + 1 := ⟨_, rfl⟩
                have jx_1171 : (x_1171).toInt = (x_1162).toInt + 1 := by rw [ex_1171]; exact dk_addT rfl (by decide +kernel) (by omega) (by omega)
                refine lv_iinc (v := x_1171) (lv' := [(1, .int x_1171), (0, .ref (o + 0))]) hx hb dX12_image_275 hl (k := 0) rfl (by rw [ex_1171]; rfl) (by decide) rfl (fun ls hl => ?_)
                refine lv_goto (tgt := 259) hx hb dX12_image_278 (by decide) ?_
                exact ih x_1171 y_1170 (by omega) (by omega) (by omega) S_1169 I_1169 M_1169 f_y_1170 (by omega) (by omega) (by omega) _ _ hP hS _ (lv_sub hl [0, 1] rfl)
          have hz_1172 : (0 : Int32).toInt = 0 := by decide +kernel
          have hz_1173 : (0 : Int32).toInt = 0 := by decide +kernel
          exact L_1165 ((11 - ((0 : Int32)).toInt).toNat + 1) 0 x_894 (by decide +kernel) (by omega) (by omega) S_986 I_986 M_986 ff_986_76_0 (by omega) (by omega) (by omega) _ _ hP hS _ (lv_sub hl [0, 1] rfl)
        have L_1211 : ∀ (n : Nat) (x_1208 : Int32) (x_1209 : Int32), (0 ≤ (x_1208).toInt ∧ (x_1208).toInt ≤ 5) → (0 ≤ (x_1209).toInt ∧ (x_1209).toInt ≤ 150) → ((6 - (x_1208).toInt).toNat < n) → ∀ S_1210 : dg_S, CM o S_1210 → dg_sm shM [(0, 76)] [50] S S_1210 → S_1210.1 0 76 = .int x_1209 → ((x_1209).toInt ≤ 123 + (x_1208).toInt) → ((x_1209).toInt = 5 + IMm (rb).toInt (cb).toInt + (mi).toInt + 3 * (pl).toInt + (x_1208 : Int32).toInt) → ((x_1208 : Int32).toInt ≤ (od).toInt) → ∀ (H : Heap) (locs : List Loc), va_P D vwCl (dg_w g shM o rfM S_1210) H → va_S A s.heap H locs → ∀ ls : Array Slot, lv_has ls 3 [(1, .int x_1208), (0, .ref (o + 0))] → W p l e ({ frames := 4, cells := 0, slots := 0, locals := 97 } : Room) s m args below meth c H locs 0 0 (MQ below (va_Qi (fun (r : Int32) S' => CM o S' ∧ dg_sm shM [(0, 76)] [50] S S' ∧ (0 ≤ (r).toInt ∧ (r).toInt ≤ 150) ∧ ((r).toInt = 16 + IMm (rb).toInt (cb).toInt + (mi).toInt + 3 * (pl).toInt + (od).toInt) ∧ True) (dg_B g D shM o rfM) A) args s 0 0 A) (F0 m 216 ls []) := by
          intro n
          induction n with
          | zero =>
            intro x_1208 x_1209 b_x_1208 b_x_1209 hmu S_1210 I_1210 M_1210 ff_1210_76_0 srel_1210_0 srel_1210_1 srel_1210_2 H locs hP hS ls hl
            omega
          | succ n ih =>
            intro x_1208 x_1209 b_x_1208 b_x_1209 hmu S_1210 I_1210 M_1210 ff_1210_76_0 srel_1210_0 srel_1210_1 srel_1210_2 H locs hP hS ls hl
            refine lv_iload_n hx hb dX12_image_216 rfl (lv_at hl 0 rfl) ?_
            refine lv_aload_n hx hb dX12_image_217 rfl (lv_at hl 1 rfl) ?_
            refine dg_get (C := RX12) (T := TX12) (N := 77) hx hb hts (fun w h => bw_mem (wU_X12 w h)) hown K hP sM_0 rfl 24 (by decide) (hts _ (bw_mem wB_355)) (fun _ h9 => h9) (v := .ref (o + 12)) (show S_1210.1 0 24 = .ref (o + 12) from dg_I.rel (d := 12) I_1210 sM_0 (by decide +kernel)) dX12_image_218 ?_
            refine lv_aload_n hx hb dX12_image_221 rfl (lv_at hl 1 rfl) ?_
            refine dg_get (C := RX12) (T := TX12) (N := 77) hx hb hts (fun w h => bw_mem (wU_X12 w h)) hown K hP sM_0 rfl 13 (by decide) (hts _ (bw_mem wB_1085)) (fun _ h9 => h9) (v := .int bk) ((M_1210.1 0 13 _ sM_0 (by decide)).trans f_bk) dX12_image_222 ?_
            have hin_1212 : vp_in bk 2 := (dk_inv (by omega) (by omega))
            refine dg_iald hx hb K hP sM_12 hin_1212 dX12_image_225 (fun y_1213 ey_1213 => ?_)
            obtain rfl : od = y_1213 := ((ey_1213.trans (congrFun (M_1210.2 12 _ sM_12 (by decide)).1 _)).trans f_od).symm
            refine lv_icmp_ge (tgt := 257) hx hb dX12_image_226 (by decide) (fun c_1214 => ?_) (fun c_1214 => ?_)
            · have jc_1214 := dk_gec (k := (od).toInt) rfl c_1214
              exact J_987 x_1208 x_1209 (by omega) (by omega) S_1210 I_1210 M_1210 ff_1210_76_0 (by omega) (by omega) _ _ hP hS _ (lv_sub hl [0, 1] rfl)
            · have jc_1214 := dk_ngec (k := (od).toInt) rfl c_1214
              refine lv_aload_n hx hb dX12_image_229 rfl (lv_at hl 1 rfl) ?_
              refine lv_aload_n hx hb dX12_image_230 rfl (lv_at hl 1 rfl) ?_
              refine dg_get (C := RX12) (T := TX12) (N := 77) hx hb hts (fun w h => bw_mem (wU_X12 w h)) hown K hP sM_0 rfl 54 (by decide) (hts _ (bw_mem wB_1131)) (fun _ h9 => h9) (v := .ref (o + 34)) (show S_1210.1 0 54 = .ref (o + 34) from dg_I.rel (d := 34) I_1210 sM_0 (by decide +kernel)) dX12_image_231 ?_
              refine lv_iconst (v := 0) hx hb dX12_image_234 (by decide +kernel) ?_
              have hin_1215 : vp_in (0 : Int32) 22 := (dk_in (by decide +kernel))
              refine dg_iald hx hb K hP sM_34 hin_1215 dX12_image_235 (fun x_1216 ex_1216 => ?_)
              refine lv_iload_n hx hb dX12_image_236 rfl (lv_at hl 0 rfl) ?_
              refine dg_calli hS hA1 hA (va_runS (As := [.int x_1216, .int x_1208]) (rest := [.ref (o + 0)]) F (c_m_has2 l g D o S_1210 x_1216 x_1208 I_1210 H.size) (va_cwS 2 hts (bw_S wB_1165 wB_1166 wB_297 wB_1164) rfl rfl rfl (by decide +kernel) ⟨Nat.le_of_ble_eq_true rfl, Nat.le_of_ble_eq_true rfl⟩) (dg_preS K ST hP hS hA1 hA) rfl rfl hl.1 rfl (lv_room (Nat.le_of_ble_eq_true rfl)) dX12_image_237 ⟨Nat.le_of_ble_eq_true rfl, Nat.le_of_ble_eq_true rfl⟩) (fun x_1217 S_1218 hw_1218 H locs hP hS => ?_)
              rw [hw_1218.1] at hP
              obtain ⟨hq_1218, w_1218_0, -⟩ := hw_1218
              have w_1218_0 : 0 ≤ (x_1217).toInt ∧ (x_1217).toInt ≤ 1 := w_1218_0
              refine lv_if_eq (tgt := 247) hx hb dX12_image_240 (by decide) (fun c_1219 => ?_) (fun c_1219 => ?_)
              · have jc_1219 := dk_eqc (k := 0) (by decide +kernel) c_1219
                refine lv_iconst (v := 0) hx hb dX12_image_247 (by decide +kernel) ?_
                refine dg_callv hS hA1 hA (va_runV (As := [.int 0]) (rest := []) F (c_m_writes l g D o S_1210 0 x_1209 ff_1210_76_0 (by omega) I_1210 H.size) (cwV 1 hts (bw_V wB_1287 wB_1288 wB_1289 wB_297 wB_1286) rfl rfl rfl (by decide +kernel) ⟨Nat.le_of_ble_eq_true rfl, Nat.le_of_ble_eq_true rfl⟩) (dg_preV sM_0 rfl K ST hP hS hA1 hA) rfl rfl hl.1 rfl (lv_room (Nat.le_of_ble_eq_true rfl)) dX12_image_248 ⟨Nat.le_of_ble_eq_true rfl, Nat.le_of_ble_eq_true rfl⟩) (fun S_1220 hw_1220 H locs hP hS => ?_)
                obtain ⟨I_1220, m_1220, w_1220_0, -⟩ := hw_1220
                have M_1220 := dg_sm.tr M_1210 m_1220 (by decide) (by decide)
                have hz_1221 : (0 : Int32).toInt = 0 := by decide +kernel
                obtain ⟨y_1222, f_y_1222, w_1220_0⟩ := w_1220_0
                have w_1220_0 : (y_1222).toInt = (x_1209).toInt + 1 := w_1220_0
                have b_y_1222 : 0 ≤ (y_1222).toInt ∧ (y_1222).toInt ≤ 150 := dg_I.intb (lo := 0) (hi := 150) I_1220 sM_0 (by decide +kernel) f_y_1222
                obtain ⟨x_1223, ex_1223⟩ : ∃ z, z = x_1208 + 1 := ⟨_, rfl⟩
                have jx_1223 : (x_1223).toInt = (x_1208).toInt + 1 := by rw [ex_1223]; exact dk_addT rfl (by decide +kernel) (by omega) (by omega)
                refine lv_iinc (v := x_1223) (lv' := [(1, .int x_1223), (0, .ref (o + 0))]) hx hb dX12_image_251 hl (k := 0) rfl (by rw [ex_1223]; rfl) (by decide) rfl (fun ls hl => ?_)
                refine lv_goto (tgt := 216) hx hb dX12_image_254 (by decide) ?_
                exact ih x_1223 y_1222 (by omega) (by omega) (by omega) S_1220 I_1220 M_1220 f_y_1222 (by omega) (by omega) (by omega) _ _ hP hS _ (lv_sub hl [0, 1] rfl)
              · have jc_1219 := dk_neqc (k := 0) (by decide +kernel) c_1219
                refine lv_iconst (v := 1) hx hb dX12_image_243 (by decide +kernel) ?_
                refine lv_goto (tgt := 248) hx hb dX12_image_244 (by decide) ?_
                refine dg_callv hS hA1 hA (va_runV (As := [.int 1]) (rest := []) F (c_m_writes l g D o S_1210 1 x_1209 ff_1210_76_0 (by omega) I_1210 H.size) (cwV 1 hts (bw_V wB_1287 wB_1288 wB_1289 wB_297 wB_1286) rfl rfl rfl (by decide +kernel) ⟨Nat.le_of_ble_eq_true rfl, Nat.le_of_ble_eq_true rfl⟩) (dg_preV sM_0 rfl K ST hP hS hA1 hA) rfl rfl hl.1 rfl (lv_room (Nat.le_of_ble_eq_true rfl)) dX12_image_248 ⟨Nat.le_of_ble_eq_true rfl, Nat.le_of_ble_eq_true rfl⟩) (fun S_1224 hw_1224 H locs hP hS => ?_)
                obtain ⟨I_1224, m_1224, w_1224_0, -⟩ := hw_1224
                have M_1224 := dg_sm.tr M_1210 m_1224 (by decide) (by decide)
                have hz_1225 : (1 : Int32).toInt = 1 := by decide +kernel
                obtain ⟨y_1226, f_y_1226, w_1224_0⟩ := w_1224_0
                have w_1224_0 : (y_1226).toInt = (x_1209).toInt + 1 := w_1224_0
                have b_y_1226 : 0 ≤ (y_1226).toInt ∧ (y_1226).toInt ≤ 150 := dg_I.intb (lo := 0) (hi := 150) I_1224 sM_0 (by decide +kernel) f_y_1226
                obtain ⟨x_1227, ex_1227⟩ : ∃ z, z = x_1208 + 1 := ⟨_, rfl⟩
                have jx_1227 : (x_1227).toInt = (x_1208).toInt + 1 := by rw [ex_1227]; exact dk_addT rfl (by decide +kernel) (by omega) (by omega)
                refine lv_iinc (v := x_1227) (lv' := [(1, .int x_1227), (0, .ref (o + 0))]) hx hb dX12_image_251 hl (k := 0) rfl (by rw [ex_1227]; rfl) (by decide) rfl (fun ls hl => ?_)
                refine lv_goto (tgt := 216) hx hb dX12_image_254 (by decide) ?_
                exact ih x_1227 y_1226 (by omega) (by omega) (by omega) S_1224 I_1224 M_1224 f_y_1226 (by omega) (by omega) (by omega) _ _ hP hS _ (lv_sub hl [0, 1] rfl)
        have hz_1228 : (0 : Int32).toInt = 0 := by decide +kernel
        have hz_1229 : (0 : Int32).toInt = 0 := by decide +kernel
        exact L_1211 ((6 - ((0 : Int32)).toInt).toNat + 1) 0 x_692 (by decide +kernel) (by omega) (by omega) S_839 I_839 M_839 ff_839_76_0 (by omega) (by omega) (by omega) _ _ hP hS _ (lv_sub hl [0, 1] rfl)
      have L_1276 : ∀ (n : Nat) (x_1273 : Int32) (x_1274 : Int32), (0 ≤ (x_1273).toInt ∧ (x_1273).toInt ≤ 16) → (0 ≤ (x_1274).toInt ∧ (x_1274).toInt ≤ 150) → ((17 - (x_1273).toInt).toNat < n) → ∀ S_1275 : dg_S, CM o S_1275 → dg_sm shM [(0, 76)] [50] S S_1275 → S_1275.1 0 76 = .int x_1274 → ((x_1274).toInt ≤ 75 + 3 * (x_1273).toInt) → ((x_1274).toInt = 5 + IMm (rb).toInt (cb).toInt + (mi).toInt + 3 * (x_1273 : Int32).toInt) → ((x_1273 : Int32).toInt ≤ (pl).toInt) → ∀ (H : Heap) (locs : List Loc), va_P D vwCl (dg_w g shM o rfM S_1275) H → va_S A s.heap H locs → ∀ ls : Array Slot, lv_has ls 3 [(1, .int x_1273), (0, .ref (o + 0))] → W p l e ({ frames := 4, cells := 0, slots := 0, locals := 97 } : Room) s m args below meth c H locs 0 0 (MQ below (va_Qi (fun (r : Int32) S' => CM o S' ∧ dg_sm shM [(0, 76)] [50] S S' ∧ (0 ≤ (r).toInt ∧ (r).toInt ≤ 150) ∧ ((r).toInt = 16 + IMm (rb).toInt (cb).toInt + (mi).toInt + 3 * (pl).toInt + (od).toInt) ∧ True) (dg_B g D shM o rfM) A) args s 0 0 A) (F0 m 157 ls []) := by
        intro n
        induction n with
        | zero =>
          intro x_1273 x_1274 b_x_1273 b_x_1274 hmu S_1275 I_1275 M_1275 ff_1275_76_0 srel_1275_0 srel_1275_1 srel_1275_2 H locs hP hS ls hl
          omega
        | succ n ih =>
          intro x_1273 x_1274 b_x_1273 b_x_1274 hmu S_1275 I_1275 M_1275 ff_1275_76_0 srel_1275_0 srel_1275_1 srel_1275_2 H locs hP hS ls hl
          refine lv_iload_n hx hb dX12_image_157 rfl (lv_at hl 0 rfl) ?_
          refine lv_aload_n hx hb dX12_image_158 rfl (lv_at hl 1 rfl) ?_
          refine dg_get (C := RX12) (T := TX12) (N := 77) hx hb hts (fun w h => bw_mem (wU_X12 w h)) hown K hP sM_0 rfl 21 (by decide) (hts _ (bw_mem wB_391)) (fun _ h9 => h9) (v := .ref (o + 9)) (show S_1275.1 0 21 = .ref (o + 9) from dg_I.rel (d := 9) I_1275 sM_0 (by decide +kernel)) dX12_image_159 ?_
          refine lv_aload_n hx hb dX12_image_162 rfl (lv_at hl 1 rfl) ?_
          refine dg_get (C := RX12) (T := TX12) (N := 77) hx hb hts (fun w h => bw_mem (wU_X12 w h)) hown K hP sM_0 rfl 13 (by decide) (hts _ (bw_mem wB_1085)) (fun _ h9 => h9) (v := .int bk) ((M_1275.1 0 13 _ sM_0 (by decide)).trans f_bk) dX12_image_163 ?_
          have hin_1277 : vp_in bk 2 := (dk_inv (by omega) (by omega))
          refine dg_iald hx hb K hP sM_9 hin_1277 dX12_image_166 (fun y_1278 ey_1278 => ?_)
          obtain rfl : pl = y_1278 := ((ey_1278.trans (congrFun (M_1275.2 9 _ sM_9 (by decide)).1 _)).trans f_pl).symm
          refine lv_icmp_ge (tgt := 214) hx hb dX12_image_167 (by decide) (fun c_1279 => ?_) (fun c_1279 => ?_)
          · have jc_1279 := dk_gec (k := (pl).toInt) rfl c_1279
            exact J_840 x_1273 x_1274 (by omega) (by omega) S_1275 I_1275 M_1275 ff_1275_76_0 (by omega) (by omega) _ _ hP hS _ (lv_sub hl [0, 1] rfl)
          · have jc_1279 := dk_ngec (k := (pl).toInt) rfl c_1279
            refine lv_aload_n hx hb dX12_image_170 rfl (lv_at hl 1 rfl) ?_
            refine lv_aload_n hx hb dX12_image_171 rfl (lv_at hl 1 rfl) ?_
            refine dg_get (C := RX12) (T := TX12) (N := 77) hx hb hts (fun w h => bw_mem (wU_X12 w h)) hown K hP sM_0 rfl 55 (by decide) (hts _ (bw_mem wB_1132)) (fun _ h9 => h9) (v := .ref (o + 35)) (show S_1275.1 0 55 = .ref (o + 35) from dg_I.rel (d := 35) I_1275 sM_0 (by decide +kernel)) dX12_image_172 ?_
            refine lv_iload_n hx hb dX12_image_175 rfl (lv_at hl 0 rfl) ?_
            have hin_1280 : vp_in x_1273 352 := (dk_inv (by omega) (by omega))
            refine dg_iald hx hb K hP sM_35 hin_1280 dX12_image_176 (fun x_1281 ex_1281 => ?_)
            refine dg_callv hS hA1 hA (va_runV (As := [.int x_1281]) (rest := []) F (c_m_writes l g D o S_1275 x_1281 x_1274 ff_1275_76_0 (by omega) I_1275 H.size) (cwV 1 hts (bw_V wB_1287 wB_1288 wB_1289 wB_297 wB_1286) rfl rfl rfl (by decide +kernel) ⟨Nat.le_of_ble_eq_true rfl, Nat.le_of_ble_eq_true rfl⟩) (dg_preV sM_0 rfl K ST hP hS hA1 hA) rfl rfl hl.1 rfl (lv_room (Nat.le_of_ble_eq_true rfl)) dX12_image_177 ⟨Nat.le_of_ble_eq_true rfl, Nat.le_of_ble_eq_true rfl⟩) (fun S_1282 hw_1282 H locs hP hS => ?_)
            obtain ⟨I_1282, m_1282, w_1282_0, -⟩ := hw_1282
            have M_1282 := dg_sm.tr M_1275 m_1282 (by decide) (by decide)
            obtain ⟨y_1283, f_y_1283, w_1282_0⟩ := w_1282_0
            have w_1282_0 : (y_1283).toInt = (x_1274).toInt + 1 := w_1282_0
            have b_y_1283 : 0 ≤ (y_1283).toInt ∧ (y_1283).toInt ≤ 150 := dg_I.intb (lo := 0) (hi := 150) I_1282 sM_0 (by decide +kernel) f_y_1283
            refine lv_aload_n hx hb dX12_image_180 rfl (lv_at hl 1 rfl) ?_
            refine lv_aload_n hx hb dX12_image_181 rfl (lv_at hl 1 rfl) ?_
            refine dg_get (C := RX12) (T := TX12) (N := 77) hx hb hts (fun w h => bw_mem (wU_X12 w h)) hown K hP sM_0 rfl 56 (by decide) (hts _ (bw_mem wB_1133)) (fun _ h9 => h9) (v := .ref (o + 36)) (show S_1282.1 0 56 = .ref (o + 36) from dg_I.rel (d := 36) I_1282 sM_0 (by decide +kernel)) dX12_image_182 ?_
            refine lv_iload_n hx hb dX12_image_185 rfl (lv_at hl 0 rfl) ?_
            have hin_1284 : vp_in x_1273 352 := (dk_inv (by omega) (by omega))
            refine dg_iald hx hb K hP sM_36 hin_1284 dX12_image_186 (fun x_1285 ex_1285 => ?_)
            have b_x_1285 := dk_all_at (dg_I.row (lo := 0) (hi := 63) I_1282 sM_36 (by decide +kernel)) hin_1284 ex_1285
            refine lv_iconst (v := 0) hx hb dX12_image_187 (by decide +kernel) ?_
            refine dg_calli hS hA1 hA (va_runS (As := [.int x_1285, .int 0]) (rest := [.ref (o + 0)]) F (c_m_partOf l g D o S_1282 x_1285 0 I_1282 H.size) (va_cwS 2 hts (bw_S wB_1212 wB_1213 wB_297 wB_1211) rfl rfl rfl (by decide +kernel) ⟨Nat.le_of_ble_eq_true rfl, Nat.le_of_ble_eq_true rfl⟩) (dg_preS K ST hP hS hA1 hA) rfl rfl hl.1 rfl (lv_room (Nat.le_of_ble_eq_true rfl)) dX12_image_188 ⟨Nat.le_of_ble_eq_true rfl, Nat.le_of_ble_eq_true rfl⟩) (fun x_1286 S_1287 hw_1287 H locs hP hS => ?_)
            rw [hw_1287.1] at hP
            refine dg_callv hS hA1 hA (va_runV (As := [.int x_1286]) (rest := []) F (c_m_writes l g D o S_1282 x_1286 y_1283 f_y_1283 (by omega) I_1282 H.size) (cwV 1 hts (bw_V wB_1287 wB_1288 wB_1289 wB_297 wB_1286) rfl rfl rfl (by decide +kernel) ⟨Nat.le_of_ble_eq_true rfl, Nat.le_of_ble_eq_true rfl⟩) (dg_preV sM_0 rfl K ST hP hS hA1 hA) rfl rfl hl.1 rfl (lv_room (Nat.le_of_ble_eq_true rfl)) dX12_image_191 ⟨Nat.le_of_ble_eq_true rfl, Nat.le_of_ble_eq_true rfl⟩) (fun S_1288 hw_1288 H locs hP hS => ?_)
            obtain ⟨I_1288, m_1288, w_1288_0, -⟩ := hw_1288
            have M_1288 := dg_sm.tr M_1282 m_1288 (by decide) (by decide)
            obtain ⟨y_1289, f_y_1289, w_1288_0⟩ := w_1288_0
            have w_1288_0 : (y_1289).toInt = (y_1283).toInt + 1 := w_1288_0
            have b_y_1289 : 0 ≤ (y_1289).toInt ∧ (y_1289).toInt ≤ 150 := dg_I.intb (lo := 0) (hi := 150) I_1288 sM_0 (by decide +kernel) f_y_1289
            refine lv_aload_n hx hb dX12_image_194 rfl (lv_at hl 1 rfl) ?_
            refine lv_aload_n hx hb dX12_image_195 rfl (lv_at hl 1 rfl) ?_
            refine dg_get (C := RX12) (T := TX12) (N := 77) hx hb hts (fun w h => bw_mem (wU_X12 w h)) hown K hP sM_0 rfl 56 (by decide) (hts _ (bw_mem wB_1133)) (fun _ h9 => h9) (v := .ref (o + 36)) (show S_1288.1 0 56 = .ref (o + 36) from dg_I.rel (d := 36) I_1288 sM_0 (by decide +kernel)) dX12_image_196 ?_
            refine lv_iload_n hx hb dX12_image_199 rfl (lv_at hl 0 rfl) ?_
            have hin_1290 : vp_in x_1273 352 := (dk_inv (by omega) (by omega))
            refine dg_iald hx hb K hP sM_36 hin_1290 dX12_image_200 (fun y_1291 ey_1291 => ?_)
            obtain rfl : x_1285 = y_1291 := ((ey_1291.trans (congrFun (m_1288.2 36 _ sM_36 (by decide)).1 _)).trans ex_1285.symm).symm
            refine lv_iconst (v := 1) hx hb dX12_image_201 (by decide +kernel) ?_
            refine dg_calli hS hA1 hA (va_runS (As := [.int x_1285, .int 1]) (rest := [.ref (o + 0)]) F (c_m_partOf l g D o S_1288 x_1285 1 I_1288 H.size) (va_cwS 2 hts (bw_S wB_1212 wB_1213 wB_297 wB_1211) rfl rfl rfl (by decide +kernel) ⟨Nat.le_of_ble_eq_true rfl, Nat.le_of_ble_eq_true rfl⟩) (dg_preS K ST hP hS hA1 hA) rfl rfl hl.1 rfl (lv_room (Nat.le_of_ble_eq_true rfl)) dX12_image_202 ⟨Nat.le_of_ble_eq_true rfl, Nat.le_of_ble_eq_true rfl⟩) (fun x_1292 S_1293 hw_1293 H locs hP hS => ?_)
            rw [hw_1293.1] at hP
            refine dg_callv hS hA1 hA (va_runV (As := [.int x_1292]) (rest := []) F (c_m_writes l g D o S_1288 x_1292 y_1289 f_y_1289 (by omega) I_1288 H.size) (cwV 1 hts (bw_V wB_1287 wB_1288 wB_1289 wB_297 wB_1286) rfl rfl rfl (by decide +kernel) ⟨Nat.le_of_ble_eq_true rfl, Nat.le_of_ble_eq_true rfl⟩) (dg_preV sM_0 rfl K ST hP hS hA1 hA) rfl rfl hl.1 rfl (lv_room (Nat.le_of_ble_eq_true rfl)) dX12_image_205 ⟨Nat.le_of_ble_eq_true rfl, Nat.le_of_ble_eq_true rfl⟩) (fun S_1294 hw_1294 H locs hP hS => ?_)
            obtain ⟨I_1294, m_1294, w_1294_0, -⟩ := hw_1294
            have M_1294 := dg_sm.tr M_1288 m_1294 (by decide) (by decide)
            obtain ⟨y_1295, f_y_1295, w_1294_0⟩ := w_1294_0
            have w_1294_0 : (y_1295).toInt = (y_1289).toInt + 1 := w_1294_0
            have b_y_1295 : 0 ≤ (y_1295).toInt ∧ (y_1295).toInt ≤ 150 := dg_I.intb (lo := 0) (hi := 150) I_1294 sM_0 (by decide +kernel) f_y_1295
            obtain ⟨x_1296, ex_1296⟩ : ∃ z, z = x_1273 + 1 := ⟨_, rfl⟩
            have jx_1296 : (x_1296).toInt = (x_1273).toInt + 1 := by rw [ex_1296]; exact dk_addT rfl (by decide +kernel) (by omega) (by omega)
            refine lv_iinc (v := x_1296) (lv' := [(1, .int x_1296), (0, .ref (o + 0))]) hx hb dX12_image_208 hl (k := 0) rfl (by rw [ex_1296]; rfl) (by decide) rfl (fun ls hl => ?_)
            refine lv_goto (tgt := 157) hx hb dX12_image_211 (by decide) ?_
            exact ih x_1296 y_1295 (by omega) (by omega) (by omega) S_1294 I_1294 M_1294 f_y_1295 (by omega) (by omega) (by omega) _ _ hP hS _ (lv_sub hl [0, 1] rfl)
      have hz_1297 : (0 : Int32).toInt = 0 := by decide +kernel
      have hz_1298 : (0 : Int32).toInt = 0 := by decide +kernel
      exact L_1276 ((17 - ((0 : Int32)).toInt).toNat + 1) 0 x_409 (by decide +kernel) (by omega) (by omega) S_624 I_624 M_624 ff_624_76_0 (by omega) (by omega) (by omega) _ _ hP hS _ (lv_sub hl [0, 1] rfl)
    have L_1336 : ∀ (n : Nat) (x_1333 : Int32) (x_1334 : Int32), (0 ≤ (x_1333).toInt ∧ (x_1333).toInt ≤ 6) → (0 ≤ (x_1334).toInt ∧ (x_1334).toInt ≤ 150) → ((7 - (x_1333).toInt).toNat < n) → ∀ S_1335 : dg_S, CM o S_1335 → dg_sm shM [(0, 76)] [50] S S_1335 → S_1335.1 0 76 = .int x_1334 → ((x_1334).toInt ≤ 69 + (x_1333).toInt) → ((x_1334).toInt = 5 + IMm (rb).toInt (cb).toInt + (x_1333 : Int32).toInt) → ((x_1333 : Int32).toInt ≤ (mi).toInt) → ∀ (H : Heap) (locs : List Loc), va_P D vwCl (dg_w g shM o rfM S_1335) H → va_S A s.heap H locs → ∀ ls : Array Slot, lv_has ls 3 [(1, .int x_1333), (0, .ref (o + 0))] → W p l e ({ frames := 4, cells := 0, slots := 0, locals := 97 } : Room) s m args below meth c H locs 0 0 (MQ below (va_Qi (fun (r : Int32) S' => CM o S' ∧ dg_sm shM [(0, 76)] [50] S S' ∧ (0 ≤ (r).toInt ∧ (r).toInt ≤ 150) ∧ ((r).toInt = 16 + IMm (rb).toInt (cb).toInt + (mi).toInt + 3 * (pl).toInt + (od).toInt) ∧ True) (dg_B g D shM o rfM) A) args s 0 0 A) (F0 m 114 ls []) := by
      intro n
      induction n with
      | zero =>
        intro x_1333 x_1334 b_x_1333 b_x_1334 hmu S_1335 I_1335 M_1335 ff_1335_76_0 srel_1335_0 srel_1335_1 srel_1335_2 H locs hP hS ls hl
        omega
      | succ n ih =>
        intro x_1333 x_1334 b_x_1333 b_x_1334 hmu S_1335 I_1335 M_1335 ff_1335_76_0 srel_1335_0 srel_1335_1 srel_1335_2 H locs hP hS ls hl
        refine lv_iload_n hx hb dX12_image_114 rfl (lv_at hl 0 rfl) ?_
        refine lv_aload_n hx hb dX12_image_115 rfl (lv_at hl 1 rfl) ?_
        refine dg_get (C := RX12) (T := TX12) (N := 77) hx hb hts (fun w h => bw_mem (wU_X12 w h)) hown K hP sM_0 rfl 20 (by decide) (hts _ (bw_mem wB_352)) (fun _ h9 => h9) (v := .ref (o + 8)) (show S_1335.1 0 20 = .ref (o + 8) from dg_I.rel (d := 8) I_1335 sM_0 (by decide +kernel)) dX12_image_116 ?_
        refine lv_aload_n hx hb dX12_image_119 rfl (lv_at hl 1 rfl) ?_
        refine dg_get (C := RX12) (T := TX12) (N := 77) hx hb hts (fun w h => bw_mem (wU_X12 w h)) hown K hP sM_0 rfl 13 (by decide) (hts _ (bw_mem wB_1085)) (fun _ h9 => h9) (v := .int bk) ((M_1335.1 0 13 _ sM_0 (by decide)).trans f_bk) dX12_image_120 ?_
        have hin_1337 : vp_in bk 2 := (dk_inv (by omega) (by omega))
        refine dg_iald hx hb K hP sM_8 hin_1337 dX12_image_123 (fun y_1338 ey_1338 => ?_)
        obtain rfl : mi = y_1338 := ((ey_1338.trans (congrFun (M_1335.2 8 _ sM_8 (by decide)).1 _)).trans f_mi).symm
        refine lv_icmp_ge (tgt := 155) hx hb dX12_image_124 (by decide) (fun c_1339 => ?_) (fun c_1339 => ?_)
        · have jc_1339 := dk_gec (k := (mi).toInt) rfl c_1339
          exact J_625 x_1333 x_1334 (by omega) (by omega) S_1335 I_1335 M_1335 ff_1335_76_0 (by omega) (by omega) _ _ hP hS _ (lv_sub hl [0, 1] rfl)
        · have jc_1339 := dk_ngec (k := (mi).toInt) rfl c_1339
          refine lv_aload_n hx hb dX12_image_127 rfl (lv_at hl 1 rfl) ?_
          refine lv_aload_n hx hb dX12_image_128 rfl (lv_at hl 1 rfl) ?_
          refine dg_get (C := RX12) (T := TX12) (N := 77) hx hb hts (fun w h => bw_mem (wU_X12 w h)) hown K hP sM_0 rfl 53 (by decide) (hts _ (bw_mem wB_1130)) (fun _ h9 => h9) (v := .ref (o + 33)) (show S_1335.1 0 53 = .ref (o + 33) from dg_I.rel (d := 33) I_1335 sM_0 (by decide +kernel)) dX12_image_129 ?_
          refine lv_iconst (v := 0) hx hb dX12_image_132 (by decide +kernel) ?_
          have hin_1340 : vp_in (0 : Int32) 22 := (dk_in (by decide +kernel))
          refine dg_iald hx hb K hP sM_33 hin_1340 dX12_image_133 (fun x_1341 ex_1341 => ?_)
          refine lv_iload_n hx hb dX12_image_134 rfl (lv_at hl 0 rfl) ?_
          refine dg_calli hS hA1 hA (va_runS (As := [.int x_1341, .int x_1333]) (rest := [.ref (o + 0)]) F (c_m_has2 l g D o S_1335 x_1341 x_1333 I_1335 H.size) (va_cwS 2 hts (bw_S wB_1165 wB_1166 wB_297 wB_1164) rfl rfl rfl (by decide +kernel) ⟨Nat.le_of_ble_eq_true rfl, Nat.le_of_ble_eq_true rfl⟩) (dg_preS K ST hP hS hA1 hA) rfl rfl hl.1 rfl (lv_room (Nat.le_of_ble_eq_true rfl)) dX12_image_135 ⟨Nat.le_of_ble_eq_true rfl, Nat.le_of_ble_eq_true rfl⟩) (fun x_1342 S_1343 hw_1343 H locs hP hS => ?_)
          rw [hw_1343.1] at hP
          obtain ⟨hq_1343, w_1343_0, -⟩ := hw_1343
          have w_1343_0 : 0 ≤ (x_1342).toInt ∧ (x_1342).toInt ≤ 1 := w_1343_0
          refine lv_if_eq (tgt := 145) hx hb dX12_image_138 (by decide) (fun c_1344 => ?_) (fun c_1344 => ?_)
          · have jc_1344 := dk_eqc (k := 0) (by decide +kernel) c_1344
            refine lv_iconst (v := 0) hx hb dX12_image_145 (by decide +kernel) ?_
            refine dg_callv hS hA1 hA (va_runV (As := [.int 0]) (rest := []) F (c_m_writes l g D o S_1335 0 x_1334 ff_1335_76_0 (by omega) I_1335 H.size) (cwV 1 hts (bw_V wB_1287 wB_1288 wB_1289 wB_297 wB_1286) rfl rfl rfl (by decide +kernel) ⟨Nat.le_of_ble_eq_true rfl, Nat.le_of_ble_eq_true rfl⟩) (dg_preV sM_0 rfl K ST hP hS hA1 hA) rfl rfl hl.1 rfl (lv_room (Nat.le_of_ble_eq_true rfl)) dX12_image_146 ⟨Nat.le_of_ble_eq_true rfl, Nat.le_of_ble_eq_true rfl⟩) (fun S_1345 hw_1345 H locs hP hS => ?_)
            obtain ⟨I_1345, m_1345, w_1345_0, -⟩ := hw_1345
            have M_1345 := dg_sm.tr M_1335 m_1345 (by decide) (by decide)
            have hz_1346 : (0 : Int32).toInt = 0 := by decide +kernel
            obtain ⟨y_1347, f_y_1347, w_1345_0⟩ := w_1345_0
            have w_1345_0 : (y_1347).toInt = (x_1334).toInt + 1 := w_1345_0
            have b_y_1347 : 0 ≤ (y_1347).toInt ∧ (y_1347).toInt ≤ 150 := dg_I.intb (lo := 0) (hi := 150) I_1345 sM_0 (by decide +kernel) f_y_1347
            obtain ⟨x_1348, ex_1348⟩ : ∃ z, z = x_1333 + 1 := ⟨_, rfl⟩
            have jx_1348 : (x_1348).toInt = (x_1333).toInt + 1 := by rw [ex_1348]; exact dk_addT rfl (by decide +kernel) (by omega) (by omega)
            refine lv_iinc (v := x_1348) (lv' := [(1, .int x_1348), (0, .ref (o + 0))]) hx hb dX12_image_149 hl (k := 0) rfl (by rw [ex_1348]; rfl) (by decide) rfl (fun ls hl => ?_)
            refine lv_goto (tgt := 114) hx hb dX12_image_152 (by decide) ?_
            exact ih x_1348 y_1347 (by omega) (by omega) (by omega) S_1345 I_1345 M_1345 f_y_1347 (by omega) (by omega) (by omega) _ _ hP hS _ (lv_sub hl [0, 1] rfl)
          · have jc_1344 := dk_neqc (k := 0) (by decide +kernel) c_1344
            refine lv_iconst (v := 1) hx hb dX12_image_141 (by decide +kernel) ?_
            refine lv_goto (tgt := 146) hx hb dX12_image_142 (by decide) ?_
            refine dg_callv hS hA1 hA (va_runV (As := [.int 1]) (rest := []) F (c_m_writes l g D o S_1335 1 x_1334 ff_1335_76_0 (by omega) I_1335 H.size) (cwV 1 hts (bw_V wB_1287 wB_1288 wB_1289 wB_297 wB_1286) rfl rfl rfl (by decide +kernel) ⟨Nat.le_of_ble_eq_true rfl, Nat.le_of_ble_eq_true rfl⟩) (dg_preV sM_0 rfl K ST hP hS hA1 hA) rfl rfl hl.1 rfl (lv_room (Nat.le_of_ble_eq_true rfl)) dX12_image_146 ⟨Nat.le_of_ble_eq_true rfl, Nat.le_of_ble_eq_true rfl⟩) (fun S_1349 hw_1349 H locs hP hS => ?_)
            obtain ⟨I_1349, m_1349, w_1349_0, -⟩ := hw_1349
            have M_1349 := dg_sm.tr M_1335 m_1349 (by decide) (by decide)
            have hz_1350 : (1 : Int32).toInt = 1 := by decide +kernel
            obtain ⟨y_1351, f_y_1351, w_1349_0⟩ := w_1349_0
            have w_1349_0 : (y_1351).toInt = (x_1334).toInt + 1 := w_1349_0
            have b_y_1351 : 0 ≤ (y_1351).toInt ∧ (y_1351).toInt ≤ 150 := dg_I.intb (lo := 0) (hi := 150) I_1349 sM_0 (by decide +kernel) f_y_1351
            obtain ⟨x_1352, ex_1352⟩ : ∃ z, z = x_1333 + 1 := ⟨_, rfl⟩
            have jx_1352 : (x_1352).toInt = (x_1333).toInt + 1 := by rw [ex_1352]; exact dk_addT rfl (by decide +kernel) (by omega) (by omega)
            refine lv_iinc (v := x_1352) (lv' := [(1, .int x_1352), (0, .ref (o + 0))]) hx hb dX12_image_149 hl (k := 0) rfl (by rw [ex_1352]; rfl) (by decide) rfl (fun ls hl => ?_)
            refine lv_goto (tgt := 114) hx hb dX12_image_152 (by decide) ?_
            exact ih x_1352 y_1351 (by omega) (by omega) (by omega) S_1349 I_1349 M_1349 f_y_1351 (by omega) (by omega) (by omega) _ _ hP hS _ (lv_sub hl [0, 1] rfl)
    have hz_1353 : (0 : Int32).toInt = 0 := by decide +kernel
    have hz_1354 : (0 : Int32).toInt = 0 := by decide +kernel
    exact L_1336 ((7 - ((0 : Int32)).toInt).toNat + 1) 0 x_84 (by decide +kernel) (by omega) (by omega) S_354 I_354 M_354 ff_354_76_0 (by omega) (by omega) (by omega) _ _ hP hS _ (lv_sub hl [0, 1] rfl)
  have L_1393 : ∀ (n : Nat) (x_1390 : Int32) (x_1391 : Int32), (0 ≤ (x_1390).toInt ∧ (x_1390).toInt ≤ 64) → (0 ≤ (x_1391).toInt ∧ (x_1391).toInt ≤ 150) → ((65 - (x_1390).toInt).toNat < n) → ∀ S_1392 : dg_S, CM o S_1392 → dg_sm shM [(0, 76)] [50] S S_1392 → S_1392.1 0 76 = .int x_1391 → ((x_1391).toInt ≤ 5 + (x_1390).toInt) → ((x_1391).toInt = 5 + CNm (cb).toInt (rb).toInt (x_1390 : Int32).toNatClampNeg) → ((x_1390 : Int32).toInt ≤ 64) → ∀ (H : Heap) (locs : List Loc), va_P D vwCl (dg_w g shM o rfM S_1392) H → va_S A s.heap H locs → ∀ ls : Array Slot, lv_has ls 3 [(1, .int x_1390), (0, .ref (o + 0))] → W p l e ({ frames := 4, cells := 0, slots := 0, locals := 97 } : Room) s m args below meth c H locs 0 0 (MQ below (va_Qi (fun (r : Int32) S' => CM o S' ∧ dg_sm shM [(0, 76)] [50] S S' ∧ (0 ≤ (r).toInt ∧ (r).toInt ≤ 150) ∧ ((r).toInt = 16 + IMm (rb).toInt (cb).toInt + (mi).toInt + 3 * (pl).toInt + (od).toInt) ∧ True) (dg_B g D shM o rfM) A) args s 0 0 A) (F0 m 66 ls []) := by
    intro n
    induction n with
    | zero =>
      intro x_1390 x_1391 b_x_1390 b_x_1391 hmu S_1392 I_1392 M_1392 ff_1392_76_0 srel_1392_0 srel_1392_1 srel_1392_2 H locs hP hS ls hl
      omega
    | succ n ih =>
      intro x_1390 x_1391 b_x_1390 b_x_1391 hmu S_1392 I_1392 M_1392 ff_1392_76_0 srel_1392_0 srel_1392_1 srel_1392_2 H locs hP hS ls hl
      refine lv_iload_n hx hb dX12_image_66 rfl (lv_at hl 0 rfl) ?_
      refine lv_bipush (v := 64) hx hb dX12_image_67 (by decide +kernel) ?_
      refine lv_icmp_ge (tgt := 112) hx hb dX12_image_69 (by decide) (fun c_1394 => ?_) (fun c_1394 => ?_)
      · have jc_1394 := dk_gec (k := 64) (by decide +kernel) c_1394
        exact J_355 x_1390 x_1391 (by omega) (by omega) S_1392 I_1392 M_1392 ff_1392_76_0 (by omega) (by have h9 := CNm.all (cx := (cb).toInt) (ry := (rb).toInt) (by omega) (by omega) (by omega) (by omega); rw [show (x_1390 : Int32).toNatClampNeg = 64 from by have h8 := dk_clN x_1390; omega] at *; omega) _ _ hP hS _ (lv_sub hl [0, 1] rfl)
      · have jc_1394 := dk_ngec (k := 64) (by decide +kernel) c_1394
        refine lv_aload_n hx hb dX12_image_72 rfl (lv_at hl 1 rfl) ?_
        refine lv_iload_n hx hb dX12_image_73 rfl (lv_at hl 0 rfl) ?_
        refine dg_calli hS hA1 hA (va_runV (As := [.int x_1390]) (rest := []) F (c_m_isCellOf l g D o S_1392 x_1390 (by omega) bk ((M_1392.1 0 13 _ sM_0 (by decide)).trans f_bk) (by omega) sm ((M_1392.1 0 47 _ sM_0 (by decide)).trans f_sm) (by omega) cb ((congrFun (M_1392.2 2 _ sM_2 (by decide)).1 _).trans f_cb) (by omega) rb ((congrFun (M_1392.2 3 _ sM_3 (by decide)).1 _).trans f_rb) (by omega) (ZBM.keep ZB M_1392 (by decide) (by decide) (by decide) (by decide) (by decide)) I_1392 H.size) (cwV 1 hts (bw_V wB_1123 wB_1124 wB_1125 wB_297 wB_1122) rfl rfl rfl (by decide +kernel) ⟨Nat.le_of_ble_eq_true rfl, Nat.le_of_ble_eq_true rfl⟩) (dg_preV sM_0 rfl K ST hP hS hA1 hA) rfl rfl hl.1 rfl (lv_room (Nat.le_of_ble_eq_true rfl)) dX12_image_74 ⟨Nat.le_of_ble_eq_true rfl, Nat.le_of_ble_eq_true rfl⟩) (fun x_1395 S_1396 hw_1396 H locs hP hS => ?_)
        rw [hw_1396.1] at hP
        obtain ⟨hq_1396, w_1396_0, w_1396_1, w_1396_2, -⟩ := hw_1396
        have w_1396_0 : 0 ≤ (x_1395).toInt ∧ (x_1395).toInt ≤ 1 := w_1396_0
        have w_1396_1 : (x_1395).toInt = 1 → 0 ≤ (x_1390).toInt := w_1396_1
        have w_1396_2 : (x_1395).toInt = 1 ↔ ((sm).toInt = 1 ∧ 0 ≤ (x_1390).toInt ∧ (x_1390).toInt % 8 < (cb).toInt ∧ (x_1390).toInt / 8 < (rb).toInt) := w_1396_2
        refine lv_if_eq (tgt := 106) hx hb dX12_image_77 (by decide) (fun c_1397 => ?_) (fun c_1397 => ?_)
        · have jc_1397 := dk_eqc (k := 0) (by decide +kernel) c_1397
          obtain ⟨x_1398, ex_1398⟩ : ∃ z, z = x_1390 + 1 := ⟨_, rfl⟩
          have jx_1398 : (x_1398).toInt = (x_1390).toInt + 1 := by rw [ex_1398]; exact dk_addT rfl (by decide +kernel) (by omega) (by omega)
          refine lv_iinc (v := x_1398) (lv' := [(1, .int x_1398), (0, .ref (o + 0))]) hx hb dX12_image_106 hl (k := 0) rfl (by rw [ex_1398]; rfl) (by decide) rfl (fun ls hl => ?_)
          refine lv_goto (tgt := 66) hx hb dX12_image_109 (by decide) ?_
          exact ih x_1398 x_1391 (by omega) (by omega) (by omega) S_1392 I_1392 M_1392 ff_1392_76_0 (by omega) (by rw [CNm.st (x := x_1390) (by omega) (by omega)]; split <;> omega) (by omega) _ _ hP hS _ (lv_sub hl [0, 1] rfl)
        · have jc_1397 := dk_neqc (k := 0) (by decide +kernel) c_1397
          refine lv_aload_n hx hb dX12_image_80 rfl (lv_at hl 1 rfl) ?_
          refine lv_aload_n hx hb dX12_image_81 rfl (lv_at hl 1 rfl) ?_
          refine dg_get (C := RX12) (T := TX12) (N := 77) hx hb hts (fun w h => bw_mem (wU_X12 w h)) hown K hP sM_0 rfl 52 (by decide) (hts _ (bw_mem wB_1097)) (fun _ h9 => h9) (v := .ref (o + 32)) (show S_1392.1 0 52 = .ref (o + 32) from dg_I.rel (d := 32) I_1392 sM_0 (by decide +kernel)) dX12_image_82 ?_
          refine lv_iload_n hx hb dX12_image_85 rfl (lv_at hl 0 rfl) ?_
          have hin_1399 : vp_in x_1390 1408 := (dk_inv (by omega) (by omega))
          refine dg_iald hx hb K hP sM_32 hin_1399 dX12_image_86 (fun x_1400 ex_1400 => ?_)
          refine lv_iconst (v := 1) hx hb dX12_image_87 (by decide +kernel) ?_
          refine lv_icmp_ne (tgt := 97) hx hb dX12_image_88 (by decide) (fun c_1401 => ?_) (fun c_1401 => ?_)
          · have jc_1401 := dk_neqc (k := 1) (by decide +kernel) c_1401
            refine lv_aload_n hx hb dX12_image_97 rfl (lv_at hl 1 rfl) ?_
            refine dg_get (C := RX12) (T := TX12) (N := 77) hx hb hts (fun w h => bw_mem (wU_X12 w h)) hown K hP sM_0 rfl 51 (by decide) (hts _ (bw_mem wB_1090)) (fun _ h9 => h9) (v := .ref (o + 31)) (show S_1392.1 0 51 = .ref (o + 31) from dg_I.rel (d := 31) I_1392 sM_0 (by decide +kernel)) dX12_image_98 ?_
            refine lv_iload_n hx hb dX12_image_101 rfl (lv_at hl 0 rfl) ?_
            have hin_1402 : vp_in x_1390 1408 := (dk_inv (by omega) (by omega))
            refine dg_iald hx hb K hP sM_31 hin_1402 dX12_image_102 (fun x_1403 ex_1403 => ?_)
            have b_x_1403 := dk_all_at (dg_I.row (lo := (-1)) (hi := 9) I_1392 sM_31 (by decide +kernel)) hin_1402 ex_1403
            refine dg_callv hS hA1 hA (va_runV (As := [.int x_1403]) (rest := []) F (c_m_writes l g D o S_1392 x_1403 x_1391 ff_1392_76_0 (by omega) I_1392 H.size) (cwV 1 hts (bw_V wB_1287 wB_1288 wB_1289 wB_297 wB_1286) rfl rfl rfl (by decide +kernel) ⟨Nat.le_of_ble_eq_true rfl, Nat.le_of_ble_eq_true rfl⟩) (dg_preV sM_0 rfl K ST hP hS hA1 hA) rfl rfl hl.1 rfl (lv_room (Nat.le_of_ble_eq_true rfl)) dX12_image_103 ⟨Nat.le_of_ble_eq_true rfl, Nat.le_of_ble_eq_true rfl⟩) (fun S_1404 hw_1404 H locs hP hS => ?_)
            obtain ⟨I_1404, m_1404, w_1404_0, -⟩ := hw_1404
            have M_1404 := dg_sm.tr M_1392 m_1404 (by decide) (by decide)
            obtain ⟨y_1405, f_y_1405, w_1404_0⟩ := w_1404_0
            have w_1404_0 : (y_1405).toInt = (x_1391).toInt + 1 := w_1404_0
            have b_y_1405 : 0 ≤ (y_1405).toInt ∧ (y_1405).toInt ≤ 150 := dg_I.intb (lo := 0) (hi := 150) I_1404 sM_0 (by decide +kernel) f_y_1405
            obtain ⟨x_1406, ex_1406⟩ : ∃ z, z = x_1390 + 1 := ⟨_, rfl⟩
            have jx_1406 : (x_1406).toInt = (x_1390).toInt + 1 := by rw [ex_1406]; exact dk_addT rfl (by decide +kernel) (by omega) (by omega)
            refine lv_iinc (v := x_1406) (lv' := [(1, .int x_1406), (0, .ref (o + 0))]) hx hb dX12_image_106 hl (k := 0) rfl (by rw [ex_1406]; rfl) (by decide) rfl (fun ls hl => ?_)
            refine lv_goto (tgt := 66) hx hb dX12_image_109 (by decide) ?_
            exact ih x_1406 y_1405 (by omega) (by omega) (by omega) S_1404 I_1404 M_1404 f_y_1405 (by omega) (by rw [CNm.st (x := x_1390) (by omega) (by omega)]; split <;> omega) (by omega) _ _ hP hS _ (lv_sub hl [0, 1] rfl)
          · have jc_1401 := dk_eqc (k := 1) (by decide +kernel) c_1401
            refine lv_sipush (v := 254) hx hb dX12_image_91 (by decide +kernel) ?_
            refine lv_goto (tgt := 103) hx hb dX12_image_94 (by decide) ?_
            refine dg_callv hS hA1 hA (va_runV (As := [.int 254]) (rest := []) F (c_m_writes l g D o S_1392 254 x_1391 ff_1392_76_0 (by omega) I_1392 H.size) (cwV 1 hts (bw_V wB_1287 wB_1288 wB_1289 wB_297 wB_1286) rfl rfl rfl (by decide +kernel) ⟨Nat.le_of_ble_eq_true rfl, Nat.le_of_ble_eq_true rfl⟩) (dg_preV sM_0 rfl K ST hP hS hA1 hA) rfl rfl hl.1 rfl (lv_room (Nat.le_of_ble_eq_true rfl)) dX12_image_103 ⟨Nat.le_of_ble_eq_true rfl, Nat.le_of_ble_eq_true rfl⟩) (fun S_1407 hw_1407 H locs hP hS => ?_)
            obtain ⟨I_1407, m_1407, w_1407_0, -⟩ := hw_1407
            have M_1407 := dg_sm.tr M_1392 m_1407 (by decide) (by decide)
            have hz_1408 : (254 : Int32).toInt = 254 := by decide +kernel
            obtain ⟨y_1409, f_y_1409, w_1407_0⟩ := w_1407_0
            have w_1407_0 : (y_1409).toInt = (x_1391).toInt + 1 := w_1407_0
            have b_y_1409 : 0 ≤ (y_1409).toInt ∧ (y_1409).toInt ≤ 150 := dg_I.intb (lo := 0) (hi := 150) I_1407 sM_0 (by decide +kernel) f_y_1409
            obtain ⟨x_1410, ex_1410⟩ : ∃ z, z = x_1390 + 1 := ⟨_, rfl⟩
            have jx_1410 : (x_1410).toInt = (x_1390).toInt + 1 := by rw [ex_1410]; exact dk_addT rfl (by decide +kernel) (by omega) (by omega)
            refine lv_iinc (v := x_1410) (lv' := [(1, .int x_1410), (0, .ref (o + 0))]) hx hb dX12_image_106 hl (k := 0) rfl (by rw [ex_1410]; rfl) (by decide) rfl (fun ls hl => ?_)
            refine lv_goto (tgt := 66) hx hb dX12_image_109 (by decide) ?_
            exact ih x_1410 y_1409 (by omega) (by omega) (by omega) S_1407 I_1407 M_1407 f_y_1409 (by omega) (by rw [CNm.st (x := x_1390) (by omega) (by omega)]; split <;> omega) (by omega) _ _ hP hS _ (lv_sub hl [0, 1] rfl)
  have hz_1411 : (0 : Int32).toInt = 0 := by decide +kernel
  have hz_1412 : (0 : Int32).toInt = 0 := by decide +kernel
  exact L_1393 ((65 - ((0 : Int32)).toInt).toNat + 1) 0 y_27 (by decide +kernel) (by omega) (by omega) S_26 I_26 M_26 f_y_27 (by omega) (by rw [show (0 : Int32).toNatClampNeg = 0 from by decide +kernel]; show _ = 5 + (0 : Int); omega) (by omega) _ _ hP hS _ (lv_sub hl [0, 1] rfl)
