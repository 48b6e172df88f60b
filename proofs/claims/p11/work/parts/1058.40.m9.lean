/-! 40.m9.lean.txt -/
theorem dX12_reachBits_0 : decode cX12_reachBits 0 = .ok (.iconst 0, 1) := dk_o3 (by decide +kernel)
theorem dX12_reachBits_1 : decode cX12_reachBits 1 = .ok (.istore_n 1, 1) := dk_o60 (by decide +kernel)
theorem dX12_reachBits_2 : decode cX12_reachBits 2 = .ok (.iconst 0, 1) := dk_o3 (by decide +kernel)
theorem dX12_reachBits_3 : decode cX12_reachBits 3 = .ok (.istore_n 2, 1) := dk_o61 (by decide +kernel)
theorem dX12_reachBits_4 : decode cX12_reachBits 4 = .ok (.iload_n 2, 1) := dk_o28 (by decide +kernel)
theorem dX12_reachBits_5 : decode cX12_reachBits 5 = .ok (.bipush 20, 2) := dk_o16 (by decide +kernel)
theorem dX12_reachBits_7 : decode cX12_reachBits 7 = .ok (.if_icmp .gt 174, 3) := dk_o163 (by decide +kernel)
theorem dX12_reachBits_10 : decode cX12_reachBits 10 = .ok (.aload_n 0, 1) := dk_o42 (by decide +kernel)
theorem dX12_reachBits_11 : decode cX12_reachBits 11 = .ok (.iconst 1, 1) := dk_o4 (by decide +kernel)
theorem dX12_reachBits_12 : decode cX12_reachBits 12 = .ok (.iconst 0, 1) := dk_o3 (by decide +kernel)
theorem dX12_reachBits_13 : decode cX12_reachBits 13 = .ok (.invokevirtual 433, 3) := dk_o182 (by decide +kernel)
theorem dX12_reachBits_16 : decode cX12_reachBits 16 = .ok (.aload_n 0, 1) := dk_o42 (by decide +kernel)
theorem dX12_reachBits_17 : decode cX12_reachBits 17 = .ok (.iload_n 2, 1) := dk_o28 (by decide +kernel)
theorem dX12_reachBits_18 : decode cX12_reachBits 18 = .ok (.putfield 204, 3) := dk_o181 (by decide +kernel)
theorem dX12_reachBits_21 : decode cX12_reachBits 21 = .ok (.iconst 0, 1) := dk_o3 (by decide +kernel)
theorem dX12_reachBits_22 : decode cX12_reachBits 22 = .ok (.istore_n 3, 1) := dk_o62 (by decide +kernel)
theorem dX12_reachBits_23 : decode cX12_reachBits 23 = .ok (.iconst 0, 1) := dk_o3 (by decide +kernel)
theorem dX12_reachBits_24 : decode cX12_reachBits 24 = .ok (.istore 4, 2) := dk_o54 (by decide +kernel)
theorem dX12_reachBits_26 : decode cX12_reachBits 26 = .ok (.aload_n 0, 1) := dk_o42 (by decide +kernel)
theorem dX12_reachBits_27 : decode cX12_reachBits 27 = .ok (.iload 4, 2) := dk_o21 (by decide +kernel)
theorem dX12_reachBits_29 : decode cX12_reachBits 29 = .ok (.iconst 0, 1) := dk_o3 (by decide +kernel)
theorem dX12_reachBits_30 : decode cX12_reachBits 30 = .ok (.bipush 30, 2) := dk_o16 (by decide +kernel)
theorem dX12_reachBits_32 : decode cX12_reachBits 32 = .ok (.invokevirtual 541, 3) := dk_o182 (by decide +kernel)
theorem dX12_reachBits_35 : decode cX12_reachBits 35 = .ok (.ifCond .eq 122, 3) := dk_o153 (by decide +kernel)
theorem dX12_reachBits_38 : decode cX12_reachBits 38 = .ok (.iconst 0, 1) := dk_o3 (by decide +kernel)
theorem dX12_reachBits_39 : decode cX12_reachBits 39 = .ok (.istore 5, 2) := dk_o54 (by decide +kernel)
theorem dX12_reachBits_41 : decode cX12_reachBits 41 = .ok (.iload 5, 2) := dk_o21 (by decide +kernel)
theorem dX12_reachBits_43 : decode cX12_reachBits 43 = .ok (.bipush 64, 2) := dk_o16 (by decide +kernel)
theorem dX12_reachBits_45 : decode cX12_reachBits 45 = .ok (.if_icmp .ge 37, 3) := dk_o162 (by decide +kernel)
theorem dX12_reachBits_48 : decode cX12_reachBits 48 = .ok (.aload_n 0, 1) := dk_o42 (by decide +kernel)
theorem dX12_reachBits_49 : decode cX12_reachBits 49 = .ok (.getfield 235, 3) := dk_o180 (by decide +kernel)
theorem dX12_reachBits_52 : decode cX12_reachBits 52 = .ok (.bipush 64, 2) := dk_o16 (by decide +kernel)
theorem dX12_reachBits_54 : decode cX12_reachBits 54 = .ok (.bipush 31, 2) := dk_o16 (by decide +kernel)
theorem dX12_reachBits_56 : decode cX12_reachBits 56 = .ok (.iload_n 2, 1) := dk_o28 (by decide +kernel)
theorem dX12_reachBits_57 : decode cX12_reachBits 57 = .ok (.imul, 1) := dk_o104 (by decide +kernel)
theorem dX12_reachBits_58 : decode cX12_reachBits 58 = .ok (.iload 4, 2) := dk_o21 (by decide +kernel)
theorem dX12_reachBits_60 : decode cX12_reachBits 60 = .ok (.iadd, 1) := dk_o96 (by decide +kernel)
theorem dX12_reachBits_61 : decode cX12_reachBits 61 = .ok (.imul, 1) := dk_o104 (by decide +kernel)
theorem dX12_reachBits_62 : decode cX12_reachBits 62 = .ok (.iload 5, 2) := dk_o21 (by decide +kernel)
theorem dX12_reachBits_64 : decode cX12_reachBits 64 = .ok (.iadd, 1) := dk_o96 (by decide +kernel)
theorem dX12_reachBits_65 : decode cX12_reachBits 65 = .ok (.aload_n 0, 1) := dk_o42 (by decide +kernel)
theorem dX12_reachBits_66 : decode cX12_reachBits 66 = .ok (.getfield 168, 3) := dk_o180 (by decide +kernel)
theorem dX12_reachBits_69 : decode cX12_reachBits 69 = .ok (.bipush 64, 2) := dk_o16 (by decide +kernel)
theorem dX12_reachBits_71 : decode cX12_reachBits 71 = .ok (.iload 5, 2) := dk_o21 (by decide +kernel)
theorem dX12_reachBits_73 : decode cX12_reachBits 73 = .ok (.iadd, 1) := dk_o96 (by decide +kernel)
theorem dX12_reachBits_74 : decode cX12_reachBits 74 = .ok (.iaload, 1) := dk_o46 (by decide +kernel)
theorem dX12_reachBits_75 : decode cX12_reachBits 75 = .ok (.iastore, 1) := dk_o79 (by decide +kernel)
theorem dX12_reachBits_76 : decode cX12_reachBits 76 = .ok (.iinc 5 1, 3) := dk_o132 (by decide +kernel)
theorem dX12_reachBits_79 : decode cX12_reachBits 79 = .ok (.goto (-38), 3) := dk_o167 (by decide +kernel)
theorem dX12_reachBits_82 : decode cX12_reachBits 82 = .ok (.iconst 0, 1) := dk_o3 (by decide +kernel)
theorem dX12_reachBits_83 : decode cX12_reachBits 83 = .ok (.istore 5, 2) := dk_o54 (by decide +kernel)
theorem dX12_reachBits_85 : decode cX12_reachBits 85 = .ok (.iload 5, 2) := dk_o21 (by decide +kernel)
theorem dX12_reachBits_87 : decode cX12_reachBits 87 = .ok (.aload_n 0, 1) := dk_o42 (by decide +kernel)
theorem dX12_reachBits_88 : decode cX12_reachBits 88 = .ok (.getfield 222, 3) := dk_o180 (by decide +kernel)
theorem dX12_reachBits_91 : decode cX12_reachBits 91 = .ok (.if_icmp .ge 54, 3) := dk_o162 (by decide +kernel)
theorem dX12_reachBits_94 : decode cX12_reachBits 94 = .ok (.iload_n 3, 1) := dk_o29 (by decide +kernel)
theorem dX12_reachBits_95 : decode cX12_reachBits 95 = .ok (.aload_n 0, 1) := dk_o42 (by decide +kernel)
theorem dX12_reachBits_96 : decode cX12_reachBits 96 = .ok (.getfield 225, 3) := dk_o180 (by decide +kernel)
theorem dX12_reachBits_99 : decode cX12_reachBits 99 = .ok (.iload 5, 2) := dk_o21 (by decide +kernel)
theorem dX12_reachBits_101 : decode cX12_reachBits 101 = .ok (.iaload, 1) := dk_o46 (by decide +kernel)
theorem dX12_reachBits_102 : decode cX12_reachBits 102 = .ok (.iload 4, 2) := dk_o21 (by decide +kernel)
theorem dX12_reachBits_104 : decode cX12_reachBits 104 = .ok (.if_icmp .ne 32, 3) := dk_o160 (by decide +kernel)
theorem dX12_reachBits_107 : decode cX12_reachBits 107 = .ok (.aload_n 0, 1) := dk_o42 (by decide +kernel)
theorem dX12_reachBits_108 : decode cX12_reachBits 108 = .ok (.getfield 168, 3) := dk_o180 (by decide +kernel)
theorem dX12_reachBits_111 : decode cX12_reachBits 111 = .ok (.bipush 64, 2) := dk_o16 (by decide +kernel)
theorem dX12_reachBits_113 : decode cX12_reachBits 113 = .ok (.aload_n 0, 1) := dk_o42 (by decide +kernel)
theorem dX12_reachBits_114 : decode cX12_reachBits 114 = .ok (.getfield 228, 3) := dk_o180 (by decide +kernel)
theorem dX12_reachBits_117 : decode cX12_reachBits 117 = .ok (.iload 5, 2) := dk_o21 (by decide +kernel)
theorem dX12_reachBits_119 : decode cX12_reachBits 119 = .ok (.iaload, 1) := dk_o46 (by decide +kernel)
theorem dX12_reachBits_120 : decode cX12_reachBits 120 = .ok (.iadd, 1) := dk_o96 (by decide +kernel)
theorem dX12_reachBits_121 : decode cX12_reachBits 121 = .ok (.iaload, 1) := dk_o46 (by decide +kernel)
theorem dX12_reachBits_122 : decode cX12_reachBits 122 = .ok (.aload_n 0, 1) := dk_o42 (by decide +kernel)
theorem dX12_reachBits_123 : decode cX12_reachBits 123 = .ok (.getfield 231, 3) := dk_o180 (by decide +kernel)
theorem dX12_reachBits_126 : decode cX12_reachBits 126 = .ok (.iload 5, 2) := dk_o21 (by decide +kernel)
theorem dX12_reachBits_128 : decode cX12_reachBits 128 = .ok (.iaload, 1) := dk_o46 (by decide +kernel)
theorem dX12_reachBits_129 : decode cX12_reachBits 129 = .ok (.if_icmp .ne 7, 3) := dk_o160 (by decide +kernel)
theorem dX12_reachBits_132 : decode cX12_reachBits 132 = .ok (.iconst 1, 1) := dk_o4 (by decide +kernel)
theorem dX12_reachBits_133 : decode cX12_reachBits 133 = .ok (.goto 4, 3) := dk_o167 (by decide +kernel)
theorem dX12_reachBits_136 : decode cX12_reachBits 136 = .ok (.iconst 0, 1) := dk_o3 (by decide +kernel)
theorem dX12_reachBits_137 : decode cX12_reachBits 137 = .ok (.iadd, 1) := dk_o96 (by decide +kernel)
theorem dX12_reachBits_138 : decode cX12_reachBits 138 = .ok (.istore_n 3, 1) := dk_o62 (by decide +kernel)
theorem dX12_reachBits_139 : decode cX12_reachBits 139 = .ok (.iinc 5 1, 3) := dk_o132 (by decide +kernel)
theorem dX12_reachBits_142 : decode cX12_reachBits 142 = .ok (.goto (-57), 3) := dk_o167 (by decide +kernel)
theorem dX12_reachBits_145 : decode cX12_reachBits 145 = .ok (.aload_n 0, 1) := dk_o42 (by decide +kernel)
theorem dX12_reachBits_146 : decode cX12_reachBits 146 = .ok (.iconst 1, 1) := dk_o4 (by decide +kernel)
theorem dX12_reachBits_147 : decode cX12_reachBits 147 = .ok (.invokevirtual 538, 3) := dk_o182 (by decide +kernel)
theorem dX12_reachBits_150 : decode cX12_reachBits 150 = .ok (.pop, 1) := dk_o87 (by decide +kernel)
theorem dX12_reachBits_151 : decode cX12_reachBits 151 = .ok (.iinc 4 1, 3) := dk_o132 (by decide +kernel)
theorem dX12_reachBits_154 : decode cX12_reachBits 154 = .ok (.goto (-128), 3) := dk_o167 (by decide +kernel)
theorem dX12_reachBits_157 : decode cX12_reachBits 157 = .ok (.iload_n 1, 1) := dk_o27 (by decide +kernel)
theorem dX12_reachBits_158 : decode cX12_reachBits 158 = .ok (.iload_n 3, 1) := dk_o29 (by decide +kernel)
theorem dX12_reachBits_159 : decode cX12_reachBits 159 = .ok (.aload_n 0, 1) := dk_o42 (by decide +kernel)
theorem dX12_reachBits_160 : decode cX12_reachBits 160 = .ok (.getfield 222, 3) := dk_o180 (by decide +kernel)
theorem dX12_reachBits_163 : decode cX12_reachBits 163 = .ok (.if_icmp .ne 9, 3) := dk_o160 (by decide +kernel)
theorem dX12_reachBits_166 : decode cX12_reachBits 166 = .ok (.iconst 1, 1) := dk_o4 (by decide +kernel)
theorem dX12_reachBits_167 : decode cX12_reachBits 167 = .ok (.iload_n 2, 1) := dk_o28 (by decide +kernel)
theorem dX12_reachBits_168 : decode cX12_reachBits 168 = .ok (.ishl, 1) := dk_o120 (by decide +kernel)
theorem dX12_reachBits_169 : decode cX12_reachBits 169 = .ok (.goto 4, 3) := dk_o167 (by decide +kernel)
theorem dX12_reachBits_172 : decode cX12_reachBits 172 = .ok (.iconst 0, 1) := dk_o3 (by decide +kernel)
theorem dX12_reachBits_173 : decode cX12_reachBits 173 = .ok (.ior, 1) := dk_o128 (by decide +kernel)
theorem dX12_reachBits_174 : decode cX12_reachBits 174 = .ok (.istore_n 1, 1) := dk_o60 (by decide +kernel)
theorem dX12_reachBits_175 : decode cX12_reachBits 175 = .ok (.iinc 2 1, 3) := dk_o132 (by decide +kernel)
theorem dX12_reachBits_178 : decode cX12_reachBits 178 = .ok (.goto (-174), 3) := dk_o167 (by decide +kernel)
theorem dX12_reachBits_181 : decode cX12_reachBits 181 = .ok (.aload_n 0, 1) := dk_o42 (by decide +kernel)
theorem dX12_reachBits_182 : decode cX12_reachBits 182 = .ok (.aload_n 0, 1) := dk_o42 (by decide +kernel)
theorem dX12_reachBits_183 : decode cX12_reachBits 183 = .ok (.getfield 63, 3) := dk_o180 (by decide +kernel)
theorem dX12_reachBits_186 : decode cX12_reachBits 186 = .ok (.aload_n 0, 1) := dk_o42 (by decide +kernel)
theorem dX12_reachBits_187 : decode cX12_reachBits 187 = .ok (.getfield 51, 3) := dk_o180 (by decide +kernel)
theorem dX12_reachBits_190 : decode cX12_reachBits 190 = .ok (.iaload, 1) := dk_o46 (by decide +kernel)
theorem dX12_reachBits_191 : decode cX12_reachBits 191 = .ok (.putfield 204, 3) := dk_o181 (by decide +kernel)
theorem dX12_reachBits_194 : decode cX12_reachBits 194 = .ok (.iload_n 1, 1) := dk_o27 (by decide +kernel)
theorem dX12_reachBits_195 : decode cX12_reachBits 195 = .ok (.ireturn, 1) := dk_o172 (by decide +kernel)
theorem dX12_reaches_0 : decode cX12_reaches 0 = .ok (.aload_n 0, 1) := dk_o42 (by decide +kernel)
theorem dX12_reaches_1 : decode cX12_reaches 1 = .ok (.getfield 156, 3) := dk_o180 (by decide +kernel)
theorem dX12_reaches_4 : decode cX12_reaches 4 = .ok (.ifCond .eq 10, 3) := dk_o153 (by decide +kernel)
theorem dX12_reaches_7 : decode cX12_reaches 7 = .ok (.aload_n 0, 1) := dk_o42 (by decide +kernel)
theorem dX12_reaches_8 : decode cX12_reaches 8 = .ok (.invokevirtual 559, 3) := dk_o182 (by decide +kernel)
theorem dX12_reaches_11 : decode cX12_reaches 11 = .ok (.goto 4, 3) := dk_o167 (by decide +kernel)
theorem dX12_reaches_14 : decode cX12_reaches 14 = .ok (.iconst (-1), 1) := dk_o2 (by decide +kernel)
theorem dX12_reaches_15 : decode cX12_reaches 15 = .ok (.ireturn, 1) := dk_o172 (by decide +kernel)
theorem dX12_tells_0 : decode cX12_tells 0 = .ok (.aload_n 0, 1) := dk_o42 (by decide +kernel)
theorem dX12_tells_1 : decode cX12_tells 1 = .ok (.getfield 156, 3) := dk_o180 (by decide +kernel)
theorem dX12_tells_4 : decode cX12_tells 4 = .ok (.ifCond .eq 12, 3) := dk_o153 (by decide +kernel)
theorem dX12_tells_7 : decode cX12_tells 7 = .ok (.iload_n 1, 1) := dk_o27 (by decide +kernel)
theorem dX12_tells_8 : decode cX12_tells 8 = .ok (.iconst 0, 1) := dk_o3 (by decide +kernel)
theorem dX12_tells_9 : decode cX12_tells 9 = .ok (.iconst 2, 1) := dk_o5 (by decide +kernel)
theorem dX12_tells_10 : decode cX12_tells 10 = .ok (.invokestatic 333, 3) := dk_o184 (by decide +kernel)
theorem dX12_tells_13 : decode cX12_tells 13 = .ok (.ifCond .ne 5, 3) := dk_o154 (by decide +kernel)
theorem dX12_tells_16 : decode cX12_tells 16 = .ok (.iconst (-1), 1) := dk_o2 (by decide +kernel)
theorem dX12_tells_17 : decode cX12_tells 17 = .ok (.ireturn, 1) := dk_o172 (by decide +kernel)
theorem dX12_tells_18 : decode cX12_tells 18 = .ok (.aload_n 0, 1) := dk_o42 (by decide +kernel)
theorem dX12_tells_19 : decode cX12_tells 19 = .ok (.invokevirtual 559, 3) := dk_o182 (by decide +kernel)
theorem dX12_tells_22 : decode cX12_tells 22 = .ok (.istore_n 2, 1) := dk_o61 (by decide +kernel)
theorem dX12_tells_23 : decode cX12_tells 23 = .ok (.iconst (-1), 1) := dk_o2 (by decide +kernel)
theorem dX12_tells_24 : decode cX12_tells 24 = .ok (.istore_n 3, 1) := dk_o62 (by decide +kernel)
theorem dX12_tells_25 : decode cX12_tells 25 = .ok (.ldc_w 456, 3) := dk_o19 (by decide +kernel)
theorem dX12_tells_28 : decode cX12_tells 28 = .ok (.istore 4, 2) := dk_o54 (by decide +kernel)
theorem dX12_tells_30 : decode cX12_tells 30 = .ok (.iconst 1, 1) := dk_o4 (by decide +kernel)
theorem dX12_tells_31 : decode cX12_tells 31 = .ok (.istore 5, 2) := dk_o54 (by decide +kernel)
theorem dX12_tells_33 : decode cX12_tells 33 = .ok (.aload_n 0, 1) := dk_o42 (by decide +kernel)
theorem dX12_tells_34 : decode cX12_tells 34 = .ok (.iload 5, 2) := dk_o21 (by decide +kernel)
theorem dX12_tells_36 : decode cX12_tells 36 = .ok (.iconst 1, 1) := dk_o4 (by decide +kernel)
theorem dX12_tells_37 : decode cX12_tells 37 = .ok (.bipush 30, 2) := dk_o16 (by decide +kernel)
theorem dX12_tells_39 : decode cX12_tells 39 = .ok (.invokevirtual 541, 3) := dk_o182 (by decide +kernel)
theorem dX12_tells_42 : decode cX12_tells 42 = .ok (.ifCond .eq 78, 3) := dk_o153 (by decide +kernel)
theorem dX12_tells_45 : decode cX12_tells 45 = .ok (.iload_n 2, 1) := dk_o28 (by decide +kernel)
theorem dX12_tells_46 : decode cX12_tells 46 = .ok (.ifCond .eq 74, 3) := dk_o153 (by decide +kernel)
theorem dX12_tells_49 : decode cX12_tells 49 = .ok (.iconst 0, 1) := dk_o3 (by decide +kernel)
theorem dX12_tells_50 : decode cX12_tells 50 = .ok (.istore 6, 2) := dk_o54 (by decide +kernel)
theorem dX12_tells_52 : decode cX12_tells 52 = .ok (.iload 6, 2) := dk_o21 (by decide +kernel)
theorem dX12_tells_54 : decode cX12_tells 54 = .ok (.bipush 64, 2) := dk_o16 (by decide +kernel)
theorem dX12_tells_56 : decode cX12_tells 56 = .ok (.if_icmp .ge 58, 3) := dk_o162 (by decide +kernel)
theorem dX12_tells_59 : decode cX12_tells 59 = .ok (.aload_n 0, 1) := dk_o42 (by decide +kernel)
theorem dX12_tells_60 : decode cX12_tells 60 = .ok (.iload 6, 2) := dk_o21 (by decide +kernel)
theorem dX12_tells_62 : decode cX12_tells 62 = .ok (.invokevirtual 503, 3) := dk_o182 (by decide +kernel)
theorem dX12_tells_65 : decode cX12_tells 65 = .ok (.ifCond .eq 15, 3) := dk_o153 (by decide +kernel)
theorem dX12_tells_68 : decode cX12_tells 68 = .ok (.aload_n 0, 1) := dk_o42 (by decide +kernel)
theorem dX12_tells_69 : decode cX12_tells 69 = .ok (.iload_n 2, 1) := dk_o28 (by decide +kernel)
theorem dX12_tells_70 : decode cX12_tells 70 = .ok (.iload 5, 2) := dk_o21 (by decide +kernel)
theorem dX12_tells_72 : decode cX12_tells 72 = .ok (.iload 6, 2) := dk_o21 (by decide +kernel)
theorem dX12_tells_74 : decode cX12_tells 74 = .ok (.invokevirtual 562, 3) := dk_o182 (by decide +kernel)
theorem dX12_tells_77 : decode cX12_tells 77 = .ok (.goto 6, 3) := dk_o167 (by decide +kernel)
theorem dX12_tells_80 : decode cX12_tells 80 = .ok (.ldc_w 456, 3) := dk_o19 (by decide +kernel)
theorem dX12_tells_83 : decode cX12_tells 83 = .ok (.istore 7, 2) := dk_o54 (by decide +kernel)
theorem dX12_tells_85 : decode cX12_tells 85 = .ok (.iload 7, 2) := dk_o21 (by decide +kernel)
theorem dX12_tells_87 : decode cX12_tells 87 = .ok (.iload 4, 2) := dk_o21 (by decide +kernel)
theorem dX12_tells_89 : decode cX12_tells 89 = .ok (.if_icmp .lt 6, 3) := dk_o161 (by decide +kernel)
theorem dX12_tells_92 : decode cX12_tells 92 = .ok (.goto 16, 3) := dk_o167 (by decide +kernel)
theorem dX12_tells_95 : decode cX12_tells 95 = .ok (.iload 7, 2) := dk_o21 (by decide +kernel)
theorem dX12_tells_97 : decode cX12_tells 97 = .ok (.istore 4, 2) := dk_o54 (by decide +kernel)
theorem dX12_tells_99 : decode cX12_tells 99 = .ok (.bipush 64, 2) := dk_o16 (by decide +kernel)
theorem dX12_tells_101 : decode cX12_tells 101 = .ok (.iload 5, 2) := dk_o21 (by decide +kernel)
theorem dX12_tells_103 : decode cX12_tells 103 = .ok (.imul, 1) := dk_o104 (by decide +kernel)
theorem dX12_tells_104 : decode cX12_tells 104 = .ok (.iload 6, 2) := dk_o21 (by decide +kernel)
theorem dX12_tells_106 : decode cX12_tells 106 = .ok (.iadd, 1) := dk_o96 (by decide +kernel)
theorem dX12_tells_107 : decode cX12_tells 107 = .ok (.istore_n 3, 1) := dk_o62 (by decide +kernel)
theorem dX12_tells_108 : decode cX12_tells 108 = .ok (.iinc 6 1, 3) := dk_o132 (by decide +kernel)
theorem dX12_tells_111 : decode cX12_tells 111 = .ok (.goto (-59), 3) := dk_o167 (by decide +kernel)
theorem dX12_tells_114 : decode cX12_tells 114 = .ok (.iinc 5 1, 3) := dk_o132 (by decide +kernel)
theorem dX12_tells_117 : decode cX12_tells 117 = .ok (.goto (-84), 3) := dk_o167 (by decide +kernel)
theorem dX12_tells_120 : decode cX12_tells 120 = .ok (.iload_n 3, 1) := dk_o29 (by decide +kernel)
theorem dX12_tells_121 : decode cX12_tells 121 = .ok (.iconst (-1), 1) := dk_o2 (by decide +kernel)
theorem dX12_tells_122 : decode cX12_tells 122 = .ok (.if_icmp .ne 7, 3) := dk_o160 (by decide +kernel)
theorem dX12_tells_125 : decode cX12_tells 125 = .ok (.iconst (-1), 1) := dk_o2 (by decide +kernel)
theorem dX12_tells_126 : decode cX12_tells 126 = .ok (.goto 28, 3) := dk_o167 (by decide +kernel)
theorem dX12_tells_129 : decode cX12_tells 129 = .ok (.iload_n 1, 1) := dk_o27 (by decide +kernel)
theorem dX12_tells_130 : decode cX12_tells 130 = .ok (.ifCond .ne 10, 3) := dk_o154 (by decide +kernel)
theorem dX12_tells_133 : decode cX12_tells 133 = .ok (.iload_n 3, 1) := dk_o29 (by decide +kernel)
theorem dX12_tells_134 : decode cX12_tells 134 = .ok (.bipush 64, 2) := dk_o16 (by decide +kernel)
theorem dX12_tells_136 : decode cX12_tells 136 = .ok (.idiv, 1) := dk_o108 (by decide +kernel)
theorem dX12_tells_137 : decode cX12_tells 137 = .ok (.goto 17, 3) := dk_o167 (by decide +kernel)
theorem dX12_tells_140 : decode cX12_tells 140 = .ok (.iload_n 1, 1) := dk_o27 (by decide +kernel)
theorem dX12_tells_141 : decode cX12_tells 141 = .ok (.iconst 1, 1) := dk_o4 (by decide +kernel)
theorem dX12_tells_142 : decode cX12_tells 142 = .ok (.if_icmp .ne 10, 3) := dk_o160 (by decide +kernel)
theorem dX12_tells_145 : decode cX12_tells 145 = .ok (.iload_n 3, 1) := dk_o29 (by decide +kernel)
theorem dX12_tells_146 : decode cX12_tells 146 = .ok (.bipush 64, 2) := dk_o16 (by decide +kernel)
theorem dX12_tells_148 : decode cX12_tells 148 = .ok (.irem, 1) := dk_o112 (by decide +kernel)
theorem dX12_tells_149 : decode cX12_tells 149 = .ok (.goto 5, 3) := dk_o167 (by decide +kernel)
theorem dX12_tells_152 : decode cX12_tells 152 = .ok (.iload 4, 2) := dk_o21 (by decide +kernel)
theorem dX12_tells_154 : decode cX12_tells 154 = .ok (.ireturn, 1) := dk_o172 (by decide +kernel)
theorem dX12_shifts_0 : decode cX12_shifts 0 = .ok (.aload_n 0, 1) := dk_o42 (by decide +kernel)
theorem dX12_shifts_1 : decode cX12_shifts 1 = .ok (.iload_n 1, 1) := dk_o27 (by decide +kernel)
theorem dX12_shifts_2 : decode cX12_shifts 2 = .ok (.iconst 1, 1) := dk_o4 (by decide +kernel)
theorem dX12_shifts_3 : decode cX12_shifts 3 = .ok (.bipush 40, 2) := dk_o16 (by decide +kernel)
theorem dX12_shifts_5 : decode cX12_shifts 5 = .ok (.invokevirtual 541, 3) := dk_o182 (by decide +kernel)
theorem dX12_shifts_8 : decode cX12_shifts 8 = .ok (.ifCond .ne 9, 3) := dk_o154 (by decide +kernel)
theorem dX12_shifts_11 : decode cX12_shifts 11 = .ok (.aload_n 0, 1) := dk_o42 (by decide +kernel)
theorem dX12_shifts_12 : decode cX12_shifts 12 = .ok (.iconst 2, 1) := dk_o5 (by decide +kernel)
theorem dX12_shifts_13 : decode cX12_shifts 13 = .ok (.invokevirtual 247, 3) := dk_o182 (by decide +kernel)
theorem dX12_shifts_16 : decode cX12_shifts 16 = .ok (.ireturn, 1) := dk_o172 (by decide +kernel)
theorem dX12_shifts_17 : decode cX12_shifts 17 = .ok (.aload_n 0, 1) := dk_o42 (by decide +kernel)
theorem dX12_shifts_18 : decode cX12_shifts 18 = .ok (.invokevirtual 566, 3) := dk_o182 (by decide +kernel)
theorem dX12_shifts_21 : decode cX12_shifts 21 = .ok (.iconst 0, 1) := dk_o3 (by decide +kernel)
theorem dX12_shifts_22 : decode cX12_shifts 22 = .ok (.istore_n 2, 1) := dk_o61 (by decide +kernel)
theorem dX12_shifts_23 : decode cX12_shifts 23 = .ok (.iconst 0, 1) := dk_o3 (by decide +kernel)
theorem dX12_shifts_24 : decode cX12_shifts 24 = .ok (.istore_n 3, 1) := dk_o62 (by decide +kernel)
theorem dX12_shifts_25 : decode cX12_shifts 25 = .ok (.iload_n 3, 1) := dk_o29 (by decide +kernel)
theorem dX12_shifts_26 : decode cX12_shifts 26 = .ok (.iload_n 1, 1) := dk_o27 (by decide +kernel)
theorem dX12_shifts_27 : decode cX12_shifts 27 = .ok (.if_icmp .ge 17, 3) := dk_o162 (by decide +kernel)
theorem dX12_shifts_30 : decode cX12_shifts 30 = .ok (.iload_n 2, 1) := dk_o28 (by decide +kernel)
theorem dX12_shifts_31 : decode cX12_shifts 31 = .ok (.aload_n 0, 1) := dk_o42 (by decide +kernel)
theorem dX12_shifts_32 : decode cX12_shifts 32 = .ok (.iconst 0, 1) := dk_o3 (by decide +kernel)
theorem dX12_shifts_33 : decode cX12_shifts 33 = .ok (.invokevirtual 538, 3) := dk_o182 (by decide +kernel)
theorem dX12_shifts_36 : decode cX12_shifts 36 = .ok (.iadd, 1) := dk_o96 (by decide +kernel)
theorem dX12_shifts_37 : decode cX12_shifts 37 = .ok (.istore_n 2, 1) := dk_o61 (by decide +kernel)
theorem dX12_shifts_38 : decode cX12_shifts 38 = .ok (.iinc 3 1, 3) := dk_o132 (by decide +kernel)
theorem dX12_shifts_41 : decode cX12_shifts 41 = .ok (.goto (-16), 3) := dk_o167 (by decide +kernel)
theorem dX12_shifts_44 : decode cX12_shifts 44 = .ok (.iload_n 2, 1) := dk_o28 (by decide +kernel)
theorem dX12_shifts_45 : decode cX12_shifts 45 = .ok (.ireturn, 1) := dk_o172 (by decide +kernel)
theorem dX12_draw_0 : decode cX12_draw 0 = .ok (.aload_n 0, 1) := dk_o42 (by decide +kernel)
theorem dX12_draw_1 : decode cX12_draw 1 = .ok (.ldc2_w 569, 3) := dk_o20 (by decide +kernel)
theorem dX12_draw_4 : decode cX12_draw 4 = .ok (.aload_n 0, 1) := dk_o42 (by decide +kernel)
theorem dX12_draw_5 : decode cX12_draw 5 = .ok (.getfield 201, 3) := dk_o180 (by decide +kernel)
theorem dX12_draw_8 : decode cX12_draw 8 = .ok (.lmul, 1) := dk_o105 (by decide +kernel)
theorem dX12_draw_9 : decode cX12_draw 9 = .ok (.ldc2_w 571, 3) := dk_o20 (by decide +kernel)
theorem dX12_draw_12 : decode cX12_draw 12 = .ok (.ladd, 1) := dk_o97 (by decide +kernel)
theorem dX12_draw_13 : decode cX12_draw 13 = .ok (.ldc2_w 573, 3) := dk_o20 (by decide +kernel)
theorem dX12_draw_16 : decode cX12_draw 16 = .ok (.lrem, 1) := dk_o113 (by decide +kernel)
theorem dX12_draw_17 : decode cX12_draw 17 = .ok (.putfield 201, 3) := dk_o181 (by decide +kernel)
theorem dX12_draw_20 : decode cX12_draw 20 = .ok (.aload_n 0, 1) := dk_o42 (by decide +kernel)
theorem dX12_draw_21 : decode cX12_draw 21 = .ok (.getfield 201, 3) := dk_o180 (by decide +kernel)
theorem dX12_draw_24 : decode cX12_draw 24 = .ok (.ldc2_w 575, 3) := dk_o20 (by decide +kernel)
theorem dX12_draw_27 : decode cX12_draw 27 = .ok (.ldiv, 1) := dk_o109 (by decide +kernel)
theorem dX12_draw_28 : decode cX12_draw 28 = .ok (.iload_n 1, 1) := dk_o27 (by decide +kernel)
theorem dX12_draw_29 : decode cX12_draw 29 = .ok (.i2l, 1) := dk_o133 (by decide +kernel)
theorem dX12_draw_30 : decode cX12_draw 30 = .ok (.lrem, 1) := dk_o113 (by decide +kernel)
theorem dX12_draw_31 : decode cX12_draw 31 = .ok (.l2i, 1) := dk_o136 (by decide +kernel)
theorem dX12_draw_32 : decode cX12_draw 32 = .ok (.ireturn, 1) := dk_o172 (by decide +kernel)
theorem dX12_chance_0 : decode cX12_chance 0 = .ok (.aload_n 0, 1) := dk_o42 (by decide +kernel)
theorem dX12_chance_1 : decode cX12_chance 1 = .ok (.iload_n 1, 1) := dk_o27 (by decide +kernel)
theorem dX12_chance_2 : decode cX12_chance 2 = .ok (.iconst 1, 1) := dk_o4 (by decide +kernel)
theorem dX12_chance_3 : decode cX12_chance 3 = .ok (.bipush 40, 2) := dk_o16 (by decide +kernel)
theorem dX12_chance_5 : decode cX12_chance 5 = .ok (.invokevirtual 541, 3) := dk_o182 (by decide +kernel)
theorem dX12_chance_8 : decode cX12_chance 8 = .ok (.ifCond .ne 9, 3) := dk_o154 (by decide +kernel)
theorem dX12_chance_11 : decode cX12_chance 11 = .ok (.aload_n 0, 1) := dk_o42 (by decide +kernel)
theorem dX12_chance_12 : decode cX12_chance 12 = .ok (.iconst 2, 1) := dk_o5 (by decide +kernel)
theorem dX12_chance_13 : decode cX12_chance 13 = .ok (.invokevirtual 247, 3) := dk_o182 (by decide +kernel)
theorem dX12_chance_16 : decode cX12_chance 16 = .ok (.ireturn, 1) := dk_o172 (by decide +kernel)
theorem dX12_chance_17 : decode cX12_chance 17 = .ok (.aload_n 0, 1) := dk_o42 (by decide +kernel)
theorem dX12_chance_18 : decode cX12_chance 18 = .ok (.invokevirtual 566, 3) := dk_o182 (by decide +kernel)
theorem dX12_chance_21 : decode cX12_chance 21 = .ok (.iconst 0, 1) := dk_o3 (by decide +kernel)
theorem dX12_chance_22 : decode cX12_chance 22 = .ok (.istore_n 2, 1) := dk_o61 (by decide +kernel)
theorem dX12_chance_23 : decode cX12_chance 23 = .ok (.iconst 0, 1) := dk_o3 (by decide +kernel)
theorem dX12_chance_24 : decode cX12_chance 24 = .ok (.istore_n 3, 1) := dk_o62 (by decide +kernel)
theorem dX12_chance_25 : decode cX12_chance 25 = .ok (.iload_n 3, 1) := dk_o29 (by decide +kernel)
theorem dX12_chance_26 : decode cX12_chance 26 = .ok (.iload_n 1, 1) := dk_o27 (by decide +kernel)
theorem dX12_chance_27 : decode cX12_chance 27 = .ok (.if_icmp .ge 83, 3) := dk_o162 (by decide +kernel)
theorem dX12_chance_30 : decode cX12_chance 30 = .ok (.aload_n 0, 1) := dk_o42 (by decide +kernel)
theorem dX12_chance_31 : decode cX12_chance 31 = .ok (.bipush 100, 2) := dk_o16 (by decide +kernel)
theorem dX12_chance_33 : decode cX12_chance 33 = .ok (.invokevirtual 577, 3) := dk_o182 (by decide +kernel)
theorem dX12_chance_36 : decode cX12_chance 36 = .ok (.aload_n 0, 1) := dk_o42 (by decide +kernel)
theorem dX12_chance_37 : decode cX12_chance 37 = .ok (.getfield 66, 3) := dk_o180 (by decide +kernel)
theorem dX12_chance_40 : decode cX12_chance 40 = .ok (.aload_n 0, 1) := dk_o42 (by decide +kernel)
theorem dX12_chance_41 : decode cX12_chance 41 = .ok (.getfield 51, 3) := dk_o180 (by decide +kernel)
theorem dX12_chance_44 : decode cX12_chance 44 = .ok (.iaload, 1) := dk_o46 (by decide +kernel)
theorem dX12_chance_45 : decode cX12_chance 45 = .ok (.if_icmp .ge 53, 3) := dk_o162 (by decide +kernel)
theorem dX12_chance_48 : decode cX12_chance 48 = .ok (.aload_n 0, 1) := dk_o42 (by decide +kernel)
theorem dX12_chance_49 : decode cX12_chance 49 = .ok (.aload_n 0, 1) := dk_o42 (by decide +kernel)
theorem dX12_chance_50 : decode cX12_chance 50 = .ok (.getfield 54, 3) := dk_o180 (by decide +kernel)
theorem dX12_chance_53 : decode cX12_chance 53 = .ok (.aload_n 0, 1) := dk_o42 (by decide +kernel)
theorem dX12_chance_54 : decode cX12_chance 54 = .ok (.getfield 51, 3) := dk_o180 (by decide +kernel)
theorem dX12_chance_57 : decode cX12_chance 57 = .ok (.iaload, 1) := dk_o46 (by decide +kernel)
theorem dX12_chance_58 : decode cX12_chance 58 = .ok (.invokevirtual 577, 3) := dk_o182 (by decide +kernel)
theorem dX12_chance_61 : decode cX12_chance 61 = .ok (.istore 4, 2) := dk_o54 (by decide +kernel)
theorem dX12_chance_63 : decode cX12_chance 63 = .ok (.iload_n 2, 1) := dk_o28 (by decide +kernel)
theorem dX12_chance_64 : decode cX12_chance 64 = .ok (.aload_n 0, 1) := dk_o42 (by decide +kernel)
theorem dX12_chance_65 : decode cX12_chance 65 = .ok (.iconst 0, 1) := dk_o3 (by decide +kernel)
theorem dX12_chance_66 : decode cX12_chance 66 = .ok (.bipush 8, 2) := dk_o16 (by decide +kernel)
theorem dX12_chance_68 : decode cX12_chance 68 = .ok (.aload_n 0, 1) := dk_o42 (by decide +kernel)
theorem dX12_chance_69 : decode cX12_chance 69 = .ok (.aload_n 0, 1) := dk_o42 (by decide +kernel)
theorem dX12_chance_70 : decode cX12_chance 70 = .ok (.getfield 57, 3) := dk_o180 (by decide +kernel)
theorem dX12_chance_73 : decode cX12_chance 73 = .ok (.aload_n 0, 1) := dk_o42 (by decide +kernel)
theorem dX12_chance_74 : decode cX12_chance 74 = .ok (.getfield 51, 3) := dk_o180 (by decide +kernel)
theorem dX12_chance_77 : decode cX12_chance 77 = .ok (.iaload, 1) := dk_o46 (by decide +kernel)
theorem dX12_chance_78 : decode cX12_chance 78 = .ok (.invokevirtual 577, 3) := dk_o182 (by decide +kernel)
theorem dX12_chance_81 : decode cX12_chance 81 = .ok (.imul, 1) := dk_o104 (by decide +kernel)
theorem dX12_chance_82 : decode cX12_chance 82 = .ok (.iload 4, 2) := dk_o21 (by decide +kernel)
theorem dX12_chance_84 : decode cX12_chance 84 = .ok (.iadd, 1) := dk_o96 (by decide +kernel)
theorem dX12_chance_85 : decode cX12_chance 85 = .ok (.invokevirtual 556, 3) := dk_o182 (by decide +kernel)
theorem dX12_chance_88 : decode cX12_chance 88 = .ok (.ifCond .eq 7, 3) := dk_o153 (by decide +kernel)
theorem dX12_chance_91 : decode cX12_chance 91 = .ok (.iconst 1, 1) := dk_o4 (by decide +kernel)
theorem dX12_chance_92 : decode cX12_chance 92 = .ok (.goto 4, 3) := dk_o167 (by decide +kernel)
theorem dX12_chance_95 : decode cX12_chance 95 = .ok (.iconst 0, 1) := dk_o3 (by decide +kernel)
theorem dX12_chance_96 : decode cX12_chance 96 = .ok (.iadd, 1) := dk_o96 (by decide +kernel)
theorem dX12_chance_97 : decode cX12_chance 97 = .ok (.istore_n 2, 1) := dk_o61 (by decide +kernel)
theorem dX12_chance_98 : decode cX12_chance 98 = .ok (.aload_n 0, 1) := dk_o42 (by decide +kernel)
theorem dX12_chance_99 : decode cX12_chance 99 = .ok (.iconst 0, 1) := dk_o3 (by decide +kernel)
theorem dX12_chance_100 : decode cX12_chance 100 = .ok (.invokevirtual 538, 3) := dk_o182 (by decide +kernel)
theorem dX12_chance_103 : decode cX12_chance 103 = .ok (.pop, 1) := dk_o87 (by decide +kernel)
theorem dX12_chance_104 : decode cX12_chance 104 = .ok (.iinc 3 1, 3) := dk_o132 (by decide +kernel)
theorem dX12_chance_107 : decode cX12_chance 107 = .ok (.goto (-82), 3) := dk_o167 (by decide +kernel)
theorem dX12_chance_110 : decode cX12_chance 110 = .ok (.iload_n 2, 1) := dk_o28 (by decide +kernel)
theorem dX12_chance_111 : decode cX12_chance 111 = .ok (.ireturn, 1) := dk_o172 (by decide +kernel)
theorem dX12_image_0 : decode cX12_image 0 = .ok (.aload_n 0, 1) := dk_o42 (by decide +kernel)
theorem dX12_image_1 : decode cX12_image 1 = .ok (.iconst 0, 1) := dk_o3 (by decide +kernel)
theorem dX12_image_2 : decode cX12_image 2 = .ok (.putfield 244, 3) := dk_o181 (by decide +kernel)
theorem dX12_image_5 : decode cX12_image 5 = .ok (.aload_n 0, 1) := dk_o42 (by decide +kernel)
theorem dX12_image_6 : decode cX12_image 6 = .ok (.aload_n 0, 1) := dk_o42 (by decide +kernel)
theorem dX12_image_7 : decode cX12_image 7 = .ok (.getfield 162, 3) := dk_o180 (by decide +kernel)
theorem dX12_image_10 : decode cX12_image 10 = .ok (.iconst 0, 1) := dk_o3 (by decide +kernel)
theorem dX12_image_11 : decode cX12_image 11 = .ok (.iaload, 1) := dk_o46 (by decide +kernel)
theorem dX12_image_12 : decode cX12_image 12 = .ok (.bipush 8, 2) := dk_o16 (by decide +kernel)
theorem dX12_image_14 : decode cX12_image 14 = .ok (.ishr, 1) := dk_o122 (by decide +kernel)
theorem dX12_image_15 : decode cX12_image 15 = .ok (.invokevirtual 581, 3) := dk_o182 (by decide +kernel)
theorem dX12_image_18 : decode cX12_image 18 = .ok (.aload_n 0, 1) := dk_o42 (by decide +kernel)
theorem dX12_image_19 : decode cX12_image 19 = .ok (.aload_n 0, 1) := dk_o42 (by decide +kernel)
theorem dX12_image_20 : decode cX12_image 20 = .ok (.getfield 162, 3) := dk_o180 (by decide +kernel)
theorem dX12_image_23 : decode cX12_image 23 = .ok (.iconst 0, 1) := dk_o3 (by decide +kernel)
theorem dX12_image_24 : decode cX12_image 24 = .ok (.iaload, 1) := dk_o46 (by decide +kernel)
theorem dX12_image_25 : decode cX12_image 25 = .ok (.invokevirtual 581, 3) := dk_o182 (by decide +kernel)
theorem dX12_image_28 : decode cX12_image 28 = .ok (.aload_n 0, 1) := dk_o42 (by decide +kernel)
theorem dX12_image_29 : decode cX12_image 29 = .ok (.aload_n 0, 1) := dk_o42 (by decide +kernel)
theorem dX12_image_30 : decode cX12_image 30 = .ok (.getfield 165, 3) := dk_o180 (by decide +kernel)
theorem dX12_image_33 : decode cX12_image 33 = .ok (.iconst 0, 1) := dk_o3 (by decide +kernel)
theorem dX12_image_34 : decode cX12_image 34 = .ok (.iaload, 1) := dk_o46 (by decide +kernel)
theorem dX12_image_35 : decode cX12_image 35 = .ok (.bipush 16, 2) := dk_o16 (by decide +kernel)
theorem dX12_image_37 : decode cX12_image 37 = .ok (.ishr, 1) := dk_o122 (by decide +kernel)
theorem dX12_image_38 : decode cX12_image 38 = .ok (.invokevirtual 581, 3) := dk_o182 (by decide +kernel)
theorem dX12_image_41 : decode cX12_image 41 = .ok (.aload_n 0, 1) := dk_o42 (by decide +kernel)
theorem dX12_image_42 : decode cX12_image 42 = .ok (.aload_n 0, 1) := dk_o42 (by decide +kernel)
theorem dX12_image_43 : decode cX12_image 43 = .ok (.getfield 165, 3) := dk_o180 (by decide +kernel)
theorem dX12_image_46 : decode cX12_image 46 = .ok (.iconst 0, 1) := dk_o3 (by decide +kernel)
theorem dX12_image_47 : decode cX12_image 47 = .ok (.iaload, 1) := dk_o46 (by decide +kernel)
theorem dX12_image_48 : decode cX12_image 48 = .ok (.bipush 8, 2) := dk_o16 (by decide +kernel)
theorem dX12_image_50 : decode cX12_image 50 = .ok (.ishr, 1) := dk_o122 (by decide +kernel)
theorem dX12_image_51 : decode cX12_image 51 = .ok (.invokevirtual 581, 3) := dk_o182 (by decide +kernel)
theorem dX12_image_54 : decode cX12_image 54 = .ok (.aload_n 0, 1) := dk_o42 (by decide +kernel)
theorem dX12_image_55 : decode cX12_image 55 = .ok (.aload_n 0, 1) := dk_o42 (by decide +kernel)
theorem dX12_image_56 : decode cX12_image 56 = .ok (.getfield 165, 3) := dk_o180 (by decide +kernel)
theorem dX12_image_59 : decode cX12_image 59 = .ok (.iconst 0, 1) := dk_o3 (by decide +kernel)
theorem dX12_image_60 : decode cX12_image 60 = .ok (.iaload, 1) := dk_o46 (by decide +kernel)
theorem dX12_image_61 : decode cX12_image 61 = .ok (.invokevirtual 581, 3) := dk_o182 (by decide +kernel)
theorem dX12_image_64 : decode cX12_image 64 = .ok (.iconst 0, 1) := dk_o3 (by decide +kernel)
theorem dX12_image_65 : decode cX12_image 65 = .ok (.istore_n 1, 1) := dk_o60 (by decide +kernel)
theorem dX12_image_66 : decode cX12_image 66 = .ok (.iload_n 1, 1) := dk_o27 (by decide +kernel)
theorem dX12_image_67 : decode cX12_image 67 = .ok (.bipush 64, 2) := dk_o16 (by decide +kernel)
theorem dX12_image_69 : decode cX12_image 69 = .ok (.if_icmp .ge 43, 3) := dk_o162 (by decide +kernel)
theorem dX12_image_72 : decode cX12_image 72 = .ok (.aload_n 0, 1) := dk_o42 (by decide +kernel)
theorem dX12_image_73 : decode cX12_image 73 = .ok (.iload_n 1, 1) := dk_o27 (by decide +kernel)
theorem dX12_image_74 : decode cX12_image 74 = .ok (.invokevirtual 503, 3) := dk_o182 (by decide +kernel)
theorem dX12_image_77 : decode cX12_image 77 = .ok (.ifCond .eq 29, 3) := dk_o153 (by decide +kernel)
theorem dX12_image_80 : decode cX12_image 80 = .ok (.aload_n 0, 1) := dk_o42 (by decide +kernel)
theorem dX12_image_81 : decode cX12_image 81 = .ok (.aload_n 0, 1) := dk_o42 (by decide +kernel)
theorem dX12_image_82 : decode cX12_image 82 = .ok (.getfield 171, 3) := dk_o180 (by decide +kernel)
theorem dX12_image_85 : decode cX12_image 85 = .ok (.iload_n 1, 1) := dk_o27 (by decide +kernel)
theorem dX12_image_86 : decode cX12_image 86 = .ok (.iaload, 1) := dk_o46 (by decide +kernel)
theorem dX12_image_87 : decode cX12_image 87 = .ok (.iconst 1, 1) := dk_o4 (by decide +kernel)
theorem dX12_image_88 : decode cX12_image 88 = .ok (.if_icmp .ne 9, 3) := dk_o160 (by decide +kernel)
theorem dX12_image_91 : decode cX12_image 91 = .ok (.sipush 254, 3) := dk_o17 (by decide +kernel)
theorem dX12_image_94 : decode cX12_image 94 = .ok (.goto 9, 3) := dk_o167 (by decide +kernel)
theorem dX12_image_97 : decode cX12_image 97 = .ok (.aload_n 0, 1) := dk_o42 (by decide +kernel)
theorem dX12_image_98 : decode cX12_image 98 = .ok (.getfield 168, 3) := dk_o180 (by decide +kernel)
theorem dX12_image_101 : decode cX12_image 101 = .ok (.iload_n 1, 1) := dk_o27 (by decide +kernel)
theorem dX12_image_102 : decode cX12_image 102 = .ok (.iaload, 1) := dk_o46 (by decide +kernel)
theorem dX12_image_103 : decode cX12_image 103 = .ok (.invokevirtual 581, 3) := dk_o182 (by decide +kernel)
theorem dX12_image_106 : decode cX12_image 106 = .ok (.iinc 1 1, 3) := dk_o132 (by decide +kernel)
theorem dX12_image_109 : decode cX12_image 109 = .ok (.goto (-43), 3) := dk_o167 (by decide +kernel)
theorem dX12_image_112 : decode cX12_image 112 = .ok (.iconst 0, 1) := dk_o3 (by decide +kernel)
theorem dX12_image_113 : decode cX12_image 113 = .ok (.istore_n 1, 1) := dk_o60 (by decide +kernel)
theorem dX12_image_114 : decode cX12_image 114 = .ok (.iload_n 1, 1) := dk_o27 (by decide +kernel)
theorem dX12_image_115 : decode cX12_image 115 = .ok (.aload_n 0, 1) := dk_o42 (by decide +kernel)
theorem dX12_image_116 : decode cX12_image 116 = .ok (.getfield 72, 3) := dk_o180 (by decide +kernel)
theorem dX12_image_119 : decode cX12_image 119 = .ok (.aload_n 0, 1) := dk_o42 (by decide +kernel)
theorem dX12_image_120 : decode cX12_image 120 = .ok (.getfield 51, 3) := dk_o180 (by decide +kernel)
theorem dX12_image_123 : decode cX12_image 123 = .ok (.iaload, 1) := dk_o46 (by decide +kernel)
theorem dX12_image_124 : decode cX12_image 124 = .ok (.if_icmp .ge 31, 3) := dk_o162 (by decide +kernel)
theorem dX12_image_127 : decode cX12_image 127 = .ok (.aload_n 0, 1) := dk_o42 (by decide +kernel)
theorem dX12_image_128 : decode cX12_image 128 = .ok (.aload_n 0, 1) := dk_o42 (by decide +kernel)
theorem dX12_image_129 : decode cX12_image 129 = .ok (.getfield 174, 3) := dk_o180 (by decide +kernel)
theorem dX12_image_132 : decode cX12_image 132 = .ok (.iconst 0, 1) := dk_o3 (by decide +kernel)
theorem dX12_image_133 : decode cX12_image 133 = .ok (.iaload, 1) := dk_o46 (by decide +kernel)
theorem dX12_image_134 : decode cX12_image 134 = .ok (.iload_n 1, 1) := dk_o27 (by decide +kernel)
theorem dX12_image_135 : decode cX12_image 135 = .ok (.invokestatic 487, 3) := dk_o184 (by decide +kernel)
theorem dX12_image_138 : decode cX12_image 138 = .ok (.ifCond .eq 7, 3) := dk_o153 (by decide +kernel)
theorem dX12_image_141 : decode cX12_image 141 = .ok (.iconst 1, 1) := dk_o4 (by decide +kernel)
theorem dX12_image_142 : decode cX12_image 142 = .ok (.goto 4, 3) := dk_o167 (by decide +kernel)
theorem dX12_image_145 : decode cX12_image 145 = .ok (.iconst 0, 1) := dk_o3 (by decide +kernel)
theorem dX12_image_146 : decode cX12_image 146 = .ok (.invokevirtual 581, 3) := dk_o182 (by decide +kernel)
theorem dX12_image_149 : decode cX12_image 149 = .ok (.iinc 1 1, 3) := dk_o132 (by decide +kernel)
theorem dX12_image_152 : decode cX12_image 152 = .ok (.goto (-38), 3) := dk_o167 (by decide +kernel)
theorem dX12_image_155 : decode cX12_image 155 = .ok (.iconst 0, 1) := dk_o3 (by decide +kernel)
theorem dX12_image_156 : decode cX12_image 156 = .ok (.istore_n 1, 1) := dk_o60 (by decide +kernel)
theorem dX12_image_157 : decode cX12_image 157 = .ok (.iload_n 1, 1) := dk_o27 (by decide +kernel)
theorem dX12_image_158 : decode cX12_image 158 = .ok (.aload_n 0, 1) := dk_o42 (by decide +kernel)
theorem dX12_image_159 : decode cX12_image 159 = .ok (.getfield 75, 3) := dk_o180 (by decide +kernel)
theorem dX12_image_162 : decode cX12_image 162 = .ok (.aload_n 0, 1) := dk_o42 (by decide +kernel)
theorem dX12_image_163 : decode cX12_image 163 = .ok (.getfield 51, 3) := dk_o180 (by decide +kernel)
theorem dX12_image_166 : decode cX12_image 166 = .ok (.iaload, 1) := dk_o46 (by decide +kernel)
theorem dX12_image_167 : decode cX12_image 167 = .ok (.if_icmp .ge 47, 3) := dk_o162 (by decide +kernel)
theorem dX12_image_170 : decode cX12_image 170 = .ok (.aload_n 0, 1) := dk_o42 (by decide +kernel)
theorem dX12_image_171 : decode cX12_image 171 = .ok (.aload_n 0, 1) := dk_o42 (by decide +kernel)
theorem dX12_image_172 : decode cX12_image 172 = .ok (.getfield 180, 3) := dk_o180 (by decide +kernel)
theorem dX12_image_175 : decode cX12_image 175 = .ok (.iload_n 1, 1) := dk_o27 (by decide +kernel)
theorem dX12_image_176 : decode cX12_image 176 = .ok (.iaload, 1) := dk_o46 (by decide +kernel)
theorem dX12_image_177 : decode cX12_image 177 = .ok (.invokevirtual 581, 3) := dk_o182 (by decide +kernel)
theorem dX12_image_180 : decode cX12_image 180 = .ok (.aload_n 0, 1) := dk_o42 (by decide +kernel)
theorem dX12_image_181 : decode cX12_image 181 = .ok (.aload_n 0, 1) := dk_o42 (by decide +kernel)
theorem dX12_image_182 : decode cX12_image 182 = .ok (.getfield 183, 3) := dk_o180 (by decide +kernel)
theorem dX12_image_185 : decode cX12_image 185 = .ok (.iload_n 1, 1) := dk_o27 (by decide +kernel)
theorem dX12_image_186 : decode cX12_image 186 = .ok (.iaload, 1) := dk_o46 (by decide +kernel)
theorem dX12_image_187 : decode cX12_image 187 = .ok (.iconst 0, 1) := dk_o3 (by decide +kernel)
theorem dX12_image_188 : decode cX12_image 188 = .ok (.invokestatic 529, 3) := dk_o184 (by decide +kernel)
theorem dX12_image_191 : decode cX12_image 191 = .ok (.invokevirtual 581, 3) := dk_o182 (by decide +kernel)
theorem dX12_image_194 : decode cX12_image 194 = .ok (.aload_n 0, 1) := dk_o42 (by decide +kernel)
theorem dX12_image_195 : decode cX12_image 195 = .ok (.aload_n 0, 1) := dk_o42 (by decide +kernel)
theorem dX12_image_196 : decode cX12_image 196 = .ok (.getfield 183, 3) := dk_o180 (by decide +kernel)
theorem dX12_image_199 : decode cX12_image 199 = .ok (.iload_n 1, 1) := dk_o27 (by decide +kernel)
theorem dX12_image_200 : decode cX12_image 200 = .ok (.iaload, 1) := dk_o46 (by decide +kernel)
theorem dX12_image_201 : decode cX12_image 201 = .ok (.iconst 1, 1) := dk_o4 (by decide +kernel)
theorem dX12_image_202 : decode cX12_image 202 = .ok (.invokestatic 529, 3) := dk_o184 (by decide +kernel)
theorem dX12_image_205 : decode cX12_image 205 = .ok (.invokevirtual 581, 3) := dk_o182 (by decide +kernel)
theorem dX12_image_208 : decode cX12_image 208 = .ok (.iinc 1 1, 3) := dk_o132 (by decide +kernel)
theorem dX12_image_211 : decode cX12_image 211 = .ok (.goto (-54), 3) := dk_o167 (by decide +kernel)
theorem dX12_image_214 : decode cX12_image 214 = .ok (.iconst 0, 1) := dk_o3 (by decide +kernel)
theorem dX12_image_215 : decode cX12_image 215 = .ok (.istore_n 1, 1) := dk_o60 (by decide +kernel)
theorem dX12_image_216 : decode cX12_image 216 = .ok (.iload_n 1, 1) := dk_o27 (by decide +kernel)
theorem dX12_image_217 : decode cX12_image 217 = .ok (.aload_n 0, 1) := dk_o42 (by decide +kernel)
theorem dX12_image_218 : decode cX12_image 218 = .ok (.getfield 84, 3) := dk_o180 (by decide +kernel)
theorem dX12_image_221 : decode cX12_image 221 = .ok (.aload_n 0, 1) := dk_o42 (by decide +kernel)
theorem dX12_image_222 : decode cX12_image 222 = .ok (.getfield 51, 3) := dk_o180 (by decide +kernel)
theorem dX12_image_225 : decode cX12_image 225 = .ok (.iaload, 1) := dk_o46 (by decide +kernel)
theorem dX12_image_226 : decode cX12_image 226 = .ok (.if_icmp .ge 31, 3) := dk_o162 (by decide +kernel)
theorem dX12_image_229 : decode cX12_image 229 = .ok (.aload_n 0, 1) := dk_o42 (by decide +kernel)
theorem dX12_image_230 : decode cX12_image 230 = .ok (.aload_n 0, 1) := dk_o42 (by decide +kernel)
theorem dX12_image_231 : decode cX12_image 231 = .ok (.getfield 177, 3) := dk_o180 (by decide +kernel)
theorem dX12_image_234 : decode cX12_image 234 = .ok (.iconst 0, 1) := dk_o3 (by decide +kernel)
theorem dX12_image_235 : decode cX12_image 235 = .ok (.iaload, 1) := dk_o46 (by decide +kernel)
theorem dX12_image_236 : decode cX12_image 236 = .ok (.iload_n 1, 1) := dk_o27 (by decide +kernel)
theorem dX12_image_237 : decode cX12_image 237 = .ok (.invokestatic 487, 3) := dk_o184 (by decide +kernel)
theorem dX12_image_240 : decode cX12_image 240 = .ok (.ifCond .eq 7, 3) := dk_o153 (by decide +kernel)
theorem dX12_image_243 : decode cX12_image 243 = .ok (.iconst 1, 1) := dk_o4 (by decide +kernel)
theorem dX12_image_244 : decode cX12_image 244 = .ok (.goto 4, 3) := dk_o167 (by decide +kernel)
theorem dX12_image_247 : decode cX12_image 247 = .ok (.iconst 0, 1) := dk_o3 (by decide +kernel)
theorem dX12_image_248 : decode cX12_image 248 = .ok (.invokevirtual 581, 3) := dk_o182 (by decide +kernel)
theorem dX12_image_251 : decode cX12_image 251 = .ok (.iinc 1 1, 3) := dk_o132 (by decide +kernel)
theorem dX12_image_254 : decode cX12_image 254 = .ok (.goto (-38), 3) := dk_o167 (by decide +kernel)
theorem dX12_image_257 : decode cX12_image 257 = .ok (.iconst 0, 1) := dk_o3 (by decide +kernel)
theorem dX12_image_258 : decode cX12_image 258 = .ok (.istore_n 1, 1) := dk_o60 (by decide +kernel)
theorem dX12_image_259 : decode cX12_image 259 = .ok (.iload_n 1, 1) := dk_o27 (by decide +kernel)
theorem dX12_image_260 : decode cX12_image 260 = .ok (.bipush 10, 2) := dk_o16 (by decide +kernel)
theorem dX12_image_262 : decode cX12_image 262 = .ok (.if_icmp .ge 19, 3) := dk_o162 (by decide +kernel)
theorem dX12_image_265 : decode cX12_image 265 = .ok (.aload_n 0, 1) := dk_o42 (by decide +kernel)
theorem dX12_image_266 : decode cX12_image 266 = .ok (.aload_n 0, 1) := dk_o42 (by decide +kernel)
theorem dX12_image_267 : decode cX12_image 267 = .ok (.getfield 186, 3) := dk_o180 (by decide +kernel)
theorem dX12_image_270 : decode cX12_image 270 = .ok (.iload_n 1, 1) := dk_o27 (by decide +kernel)
theorem dX12_image_271 : decode cX12_image 271 = .ok (.iaload, 1) := dk_o46 (by decide +kernel)
theorem dX12_image_272 : decode cX12_image 272 = .ok (.invokevirtual 581, 3) := dk_o182 (by decide +kernel)
theorem dX12_image_275 : decode cX12_image 275 = .ok (.iinc 1 1, 3) := dk_o132 (by decide +kernel)
theorem dX12_image_278 : decode cX12_image 278 = .ok (.goto (-19), 3) := dk_o167 (by decide +kernel)
theorem dX12_image_281 : decode cX12_image 281 = .ok (.sipush 233, 3) := dk_o17 (by decide +kernel)
theorem dX12_image_284 : decode cX12_image 284 = .ok (.istore_n 1, 1) := dk_o60 (by decide +kernel)
theorem dX12_image_285 : decode cX12_image 285 = .ok (.iconst 0, 1) := dk_o3 (by decide +kernel)
theorem dX12_image_286 : decode cX12_image 286 = .ok (.istore_n 2, 1) := dk_o61 (by decide +kernel)
theorem dX12_image_287 : decode cX12_image 287 = .ok (.iload_n 2, 1) := dk_o28 (by decide +kernel)
theorem dX12_image_288 : decode cX12_image 288 = .ok (.aload_n 0, 1) := dk_o42 (by decide +kernel)
theorem dX12_image_289 : decode cX12_image 289 = .ok (.getfield 244, 3) := dk_o180 (by decide +kernel)
theorem dX12_image_292 : decode cX12_image 292 = .ok (.if_icmp .ge 24, 3) := dk_o162 (by decide +kernel)
theorem dX12_image_295 : decode cX12_image 295 = .ok (.iconst 5, 1) := dk_o8 (by decide +kernel)
theorem dX12_image_296 : decode cX12_image 296 = .ok (.iload_n 1, 1) := dk_o27 (by decide +kernel)
theorem dX12_image_297 : decode cX12_image 297 = .ok (.imul, 1) := dk_o104 (by decide +kernel)
theorem dX12_image_298 : decode cX12_image 298 = .ok (.aload_n 0, 1) := dk_o42 (by decide +kernel)
theorem dX12_image_299 : decode cX12_image 299 = .ok (.getfield 241, 3) := dk_o180 (by decide +kernel)
theorem dX12_image_302 : decode cX12_image 302 = .ok (.iload_n 2, 1) := dk_o28 (by decide +kernel)
theorem dX12_image_303 : decode cX12_image 303 = .ok (.iaload, 1) := dk_o46 (by decide +kernel)
theorem dX12_image_304 : decode cX12_image 304 = .ok (.iadd, 1) := dk_o96 (by decide +kernel)
theorem dX12_image_305 : decode cX12_image 305 = .ok (.sipush 251, 3) := dk_o17 (by decide +kernel)
theorem dX12_image_308 : decode cX12_image 308 = .ok (.irem, 1) := dk_o112 (by decide +kernel)
theorem dX12_image_309 : decode cX12_image 309 = .ok (.istore_n 1, 1) := dk_o60 (by decide +kernel)
theorem dX12_image_310 : decode cX12_image 310 = .ok (.iinc 2 1, 3) := dk_o132 (by decide +kernel)
theorem dX12_image_313 : decode cX12_image 313 = .ok (.goto (-26), 3) := dk_o167 (by decide +kernel)
theorem dX12_image_316 : decode cX12_image 316 = .ok (.aload_n 0, 1) := dk_o42 (by decide +kernel)
theorem dX12_image_317 : decode cX12_image 317 = .ok (.iload_n 1, 1) := dk_o27 (by decide +kernel)
theorem dX12_image_318 : decode cX12_image 318 = .ok (.invokevirtual 581, 3) := dk_o182 (by decide +kernel)
theorem dX12_image_321 : decode cX12_image 321 = .ok (.aload_n 0, 1) := dk_o42 (by decide +kernel)
theorem dX12_image_322 : decode cX12_image 322 = .ok (.getfield 244, 3) := dk_o180 (by decide +kernel)
theorem dX12_image_325 : decode cX12_image 325 = .ok (.ireturn, 1) := dk_o172 (by decide +kernel)
theorem wB_1267 : Cond.constantLong RX12 569 (1103515245) ∈ dgB := List.mem_filter.mpr ⟨tbl_9 _ (List.mem_of_getElem? (i := 122) (by decide +kernel)), by decide +kernel⟩
theorem wB_1268 : Cond.constantLong RX12 571 (12345) ∈ dgB := List.mem_filter.mpr ⟨tbl_9 _ (List.mem_of_getElem? (i := 123) (by decide +kernel)), by decide +kernel⟩
theorem wB_1269 : Cond.constantLong RX12 573 (2147483648) ∈ dgB := List.mem_filter.mpr ⟨tbl_9 _ (List.mem_of_getElem? (i := 124) (by decide +kernel)), by decide +kernel⟩
theorem wB_1270 : Cond.constantLong RX12 575 (64) ∈ dgB := List.mem_filter.mpr ⟨tbl_9 _ (List.mem_of_getElem? (i := 125) (by decide +kernel)), by decide +kernel⟩
theorem wB_1271 : Cond.code yX12_draw cX12_draw 2 (some .int) ∈ dgB := List.mem_filter.mpr ⟨tbl_9 _ (List.mem_of_getElem? (i := 121) rfl), rfl⟩
theorem wB_1272 : Cond.methodLink RX12 577 yX12_draw ∈ dgB := List.mem_filter.mpr ⟨tbl_9 _ (List.mem_of_getElem? (i := 118) (by decide +kernel)), by decide +kernel⟩
theorem wB_1273 : Cond.instanceMethod yX12_draw ∈ dgB := List.mem_filter.mpr ⟨tbl_9 _ (List.mem_of_getElem? (i := 120) (by decide +kernel)), by decide +kernel⟩
theorem wB_1274 : Cond.selects RX12 yX12_draw yX12_draw ∈ dgB := List.mem_filter.mpr ⟨List.mem_of_getElem? (i := 150) (by decide +kernel), by decide +kernel⟩
theorem wB_1275 : Cond.fieldLink RX12 225 "DarkMineModel" "feltShifts" "[I" ∈ dgB := List.mem_filter.mpr ⟨tbl_6 _ (List.mem_of_getElem? (i := 233) (by decide +kernel)), by decide +kernel⟩
theorem wB_1276 : Cond.fieldLink RX12 228 "DarkMineModel" "feltCell" "[I" ∈ dgB := List.mem_filter.mpr ⟨tbl_6 _ (List.mem_of_getElem? (i := 234) (by decide +kernel)), by decide +kernel⟩
theorem wB_1277 : Cond.fieldLink RX12 231 "DarkMineModel" "feltGrade" "[I" ∈ dgB := List.mem_filter.mpr ⟨tbl_6 _ (List.mem_of_getElem? (i := 235) (by decide +kernel)), by decide +kernel⟩
theorem wB_1278 : Cond.code yX12_reachBits cX12_reachBits 6 (some .int) ∈ dgB := List.mem_filter.mpr ⟨tbl_9 _ (List.mem_of_getElem? (i := 97) rfl), rfl⟩
theorem wB_1279 : Cond.methodLink RX12 559 yX12_reachBits ∈ dgB := List.mem_filter.mpr ⟨tbl_9 _ (List.mem_of_getElem? (i := 94) (by decide +kernel)), by decide +kernel⟩
theorem wB_1280 : Cond.instanceMethod yX12_reachBits ∈ dgB := List.mem_filter.mpr ⟨tbl_9 _ (List.mem_of_getElem? (i := 96) (by decide +kernel)), by decide +kernel⟩
theorem wB_1281 : Cond.selects RX12 yX12_reachBits yX12_reachBits ∈ dgB := List.mem_filter.mpr ⟨List.mem_of_getElem? (i := 147) (by decide +kernel), by decide +kernel⟩
theorem wB_1282 : Cond.code yX12_mostBy cX12_mostBy 7 (some .int) ∈ dgB := List.mem_filter.mpr ⟨tbl_9 _ (List.mem_of_getElem? (i := 105) rfl), rfl⟩
theorem wB_1283 : Cond.methodLink RX12 562 yX12_mostBy ∈ dgB := List.mem_filter.mpr ⟨tbl_9 _ (List.mem_of_getElem? (i := 102) (by decide +kernel)), by decide +kernel⟩
theorem wB_1284 : Cond.instanceMethod yX12_mostBy ∈ dgB := List.mem_filter.mpr ⟨tbl_9 _ (List.mem_of_getElem? (i := 104) (by decide +kernel)), by decide +kernel⟩
theorem wB_1285 : Cond.selects RX12 yX12_mostBy yX12_mostBy ∈ dgB := List.mem_filter.mpr ⟨List.mem_of_getElem? (i := 148) (by decide +kernel), by decide +kernel⟩
theorem wB_1286 : Cond.code yX12_writes cX12_writes 2 none ∈ dgB := List.mem_filter.mpr ⟨tbl_9 _ (List.mem_of_getElem? (i := 158) rfl), rfl⟩
theorem wB_1287 : Cond.methodLink RX12 581 yX12_writes ∈ dgB := List.mem_filter.mpr ⟨tbl_9 _ (List.mem_of_getElem? (i := 155) (by decide +kernel)), by decide +kernel⟩
theorem wB_1288 : Cond.instanceMethod yX12_writes ∈ dgB := List.mem_filter.mpr ⟨tbl_9 _ (List.mem_of_getElem? (i := 157) (by decide +kernel)), by decide +kernel⟩
theorem wB_1289 : Cond.selects RX12 yX12_writes yX12_writes ∈ dgB := List.mem_filter.mpr ⟨List.mem_of_getElem? (i := 151) (by decide +kernel), by decide +kernel⟩
noncomputable def F_m_shifts_B1 (a1 : Int32) (o : Nat) : (Int32 × Int32 × Int32 × dg_S) → (Int32 × Int32 × Int32 × dg_S) ⊕ (dg_S × Int32) := fun w9 => match w9 with | (x_75, x_76, rw_77_0, S_77) => (if a1 ≤ x_75 then (Sum.inr ((S_77, x_76))) else let S_82 : dg_S := (F_m_ticks o S_77 (0 : Int32)).1; let x_81 : Int32 := (F_m_ticks o S_77 (0 : Int32)).2; let x_84 : Int32 := S_82.2.1 29 (0 : Int32).toNatClampNeg; let x_87 : Int32 := x_76 + x_81; let x_88 : Int32 := x_75 + 1; (Sum.inl (x_88, x_87, x_84, S_82)))
noncomputable def F_m_shifts (o : Nat) (S : dg_S) (a1 : Int32) : dg_S × Int32 := let x_3 : Int32 := zI S 0 47; let x_4 : Int32 := S.2.1 29 (0 : Int32).toNatClampNeg; let x_7 : Int32 := F_m_isAhead o S a1 (1 : Int32) (40 : Int32); (if x_7 = (0 : Int32) then let S_94 : dg_S := (F_m_refuses o S (2 : Int32)).1; let x_93 : Int32 := (F_m_refuses o S (2 : Int32)).2; (S_94, x_93) else let S_12 : dg_S := F_m_keeps o S; let x_13 : Int32 := S_12.2.1 29 (0 : Int32).toNatClampNeg; (lp (F_m_shifts_B1 a1 o) (S, (0 : Int32)) ((41 - ((0 : Int32)).toInt).toNat + 1) ((0 : Int32), (0 : Int32), x_13, S_12)))
theorem F_m_shifts_p0 {a1 : Int32} {o : Nat} {x_75 : Int32} {x_76 : Int32} {rw_77_0 : Int32} {S_77 : dg_S} (h0 : a1 ≤ x_75) : (F_m_shifts_B1 a1 o) (x_75, x_76, rw_77_0, S_77) = Sum.inr ((S_77, x_76)) := (Eq.trans (if_pos h0) rfl)
theorem F_m_shifts_p1 {a1 : Int32} {o : Nat} {x_75 : Int32} {x_76 : Int32} {rw_77_0 : Int32} {S_77 : dg_S} {x_88 : Int32} {x_87 : Int32} {x_84 : Int32} {S_82 : dg_S} {x_81 : Int32} (h0 : ¬ (a1 ≤ x_75)) (h1 : S_82 = (F_m_ticks o S_77 (0 : Int32)).1) (h2 : x_81 = (F_m_ticks o S_77 (0 : Int32)).2) (h3 : x_84 = S_82.2.1 29 (0 : Int32).toNatClampNeg) (h4 : x_87 = x_76 + x_81) (h5 : x_88 = x_75 + 1) : (F_m_shifts_B1 a1 o) (x_75, x_76, rw_77_0, S_77) = Sum.inl (x_88, x_87, x_84, S_82) := by
  replace h1 := Eq.symm h1
  subst h1
  replace h2 := Eq.symm h2
  subst h2
  replace h3 := Eq.symm h3
  subst h3
  replace h4 := Eq.symm h4
  subst h4
  replace h5 := Eq.symm h5
  subst h5
  exact (Eq.trans (if_neg h0) rfl)
theorem F_m_shifts_p2 {o : Nat} {S : dg_S} {a1 : Int32} {x_13 : Int32} {S_12 : dg_S} {x_7 : Int32} (h0 : x_7 = F_m_isAhead o S a1 (1 : Int32) (40 : Int32)) (h1 : ¬ (x_7 = (0 : Int32))) (h2 : S_12 = F_m_keeps o S) (h3 : x_13 = S_12.2.1 29 (0 : Int32).toNatClampNeg) : F_m_shifts o S a1 = lp (F_m_shifts_B1 a1 o) (S, (0 : Int32)) ((41 - ((0 : Int32)).toInt).toNat + 1) ((0 : Int32), (0 : Int32), x_13, S_12) := by
  replace h0 := Eq.symm h0
  subst h0
  replace h2 := Eq.symm h2
  subst h2
  replace h3 := Eq.symm h3
  subst h3
  exact (Eq.trans (if_neg h1) rfl)
theorem F_m_shifts_p3 {o : Nat} {S : dg_S} {a1 : Int32} {S_94 : dg_S} {x_93 : Int32} {x_7 : Int32} (h0 : x_7 = F_m_isAhead o S a1 (1 : Int32) (40 : Int32)) (h1 : x_7 = (0 : Int32)) (h2 : S_94 = (F_m_refuses o S (2 : Int32)).1) (h3 : x_93 = (F_m_refuses o S (2 : Int32)).2) : F_m_shifts o S a1 = (S_94, x_93) := by
  replace h0 := Eq.symm h0
  subst h0
  replace h2 := Eq.symm h2
  subst h2
  replace h3 := Eq.symm h3
  subst h3
  exact (Eq.trans (if_pos h1) rfl)
set_option maxHeartbeats 8000000 in
set_option maxRecDepth 100000 in
theorem c_m_shifts (l : Launch) (g : Nat → ClassId) (D : va_G) (o : Nat) (S : dg_S) (a1 : Int32) (ZB : ZBM S) (ZS : ZSM S) (ZW : ZWM S) (I : CM o S) (sz : Nat) : Met l yX12_shifts (bw yX12_shifts cX12_shifts 4 (some .int)) ({ frames := 9, cells := 0, slots := 0, locals := 217 } : Room) (dk_Pc g D (dg_w g shM o rfM S) sz [.ref (o + 0), .int a1]) (va_Qi (fun (r : Int32) S' => CM o S' ∧ dg_sm shM [(0, 60), (0, 61)] [28, 29, 30, 31, 32, 33, 34, 35, 36, 37, 38, 39, 40, 41, 42, 43, 44] S S' ∧ (m_hid ((S' = (F_m_refuses o S (2 : Int32)).1 ∧ (r).toInt = -1) ∨ S'.2.1 28 = S.2.1 28)) ∧ ZSM S' ∧ (S' = (F_m_shifts o S a1).1 ∧ r = (F_m_shifts o S a1).2) ∧ True) (dg_B g D shM o rfM) (dg_A o shM.length sz)) 0 0 (dg_A o shM.length sz) := by
  refine dg_met (cc := cX12_shifts) (maxL := 4) (ret := (some .int)) (dk_dq rfl) rfl (Nat.le_of_ble_eq_true rfl) ?_
  intro p e s m args below meth c A hAe harg hx hb hr hml hts hown hlocks hin hP K hS hA1 hA ST hsz ls hl
  rw [← hAe]
  have F : CallFix p m c cX12_shifts 4 s args (bw yX12_shifts cX12_shifts 4 (some .int)) RX12 := ⟨hx, hb, hml, hown, hts⟩
  have hl : lv_has ls 4 [(0, .ref (o + 0)), (1, .int a1)] := hl
  have M_0 : dg_sm shM [(0, 60), (0, 61)] [28, 29, 30, 31, 32, 33, 34, 35, 36, 37, 38, 39, 40, 41, 42, 43, 44] S S := dg_sm.rf
  refine lv_aload_n hx hb dX12_shifts_0 rfl (lv_at hl 0 rfl) ?_
  refine lv_iload_n hx hb dX12_shifts_1 rfl (lv_at hl 1 rfl) ?_
  refine lv_iconst (v := 1) hx hb dX12_shifts_2 (by decide +kernel) ?_
  refine lv_bipush (v := 40) hx hb dX12_shifts_3 (by decide +kernel) ?_
  have hz_1 : (1 : Int32).toInt = 1 := by decide +kernel
  have hz_2 : (40 : Int32).toInt = 40 := by decide +kernel
  obtain ⟨x_3, f_x_3, b_x_3⟩ := dg_I.int (i := 0) (k := 47) (lo := 0) (hi := 1) I sM_0 (by decide +kernel)
  obtain ⟨x_4, f_x_4⟩ : ∃ x, S.2.1 29 (0 : Int32).toNatClampNeg = x := ⟨_, rfl⟩
  have hin_5 : vp_in (0 : Int32) 22 := (dk_in (by decide +kernel))
  have b_x_4 := dk_all_at (dg_I.row (lo := 0) (hi := 2000) I sM_29 (by decide +kernel)) hin_5 f_x_4.symm
  have ex_4 := f_x_4.symm
  have hz_6 : (0 : Int32).toInt = 0 := by decide +kernel
  have zs_x_4 : (0 : Int32).toInt ≠ 1 → (x_4).toInt ≤ 999 := fun h => by rw [ex_4]; exact ZS _ (dk_inT hin_5).2 (fun q => by have h9 := (dk_inT hin_5).1; omega)
  refine dg_calli hS hA1 hA (va_runV (As := [.int a1, .int 1, .int 40]) (rest := []) F (c_m_isAhead l g D o S a1 1 (by decide +kernel) 40 (by decide +kernel) x_3 f_x_3 (by omega) x_4 f_x_4 (by omega) I s.heap.size) (cwV 3 hts (bw_V wB_1235 wB_1236 wB_1237 wB_297 wB_1234) rfl rfl rfl (by decide +kernel) ⟨Nat.le_of_ble_eq_true rfl, Nat.le_of_ble_eq_true rfl⟩) (dg_preV sM_0 rfl K ST hP hS hA1 hA) rfl rfl hl.1 rfl (lv_room (Nat.le_of_ble_eq_true rfl)) dX12_shifts_5 ⟨Nat.le_of_ble_eq_true rfl, Nat.le_of_ble_eq_true rfl⟩) (fun x_7 S_8 hw_8 H locs hP hS => ?_)
  rw [hw_8.1] at hP
  obtain ⟨hq_8, w_8_0, w_8_1, w_8_2, -⟩ := hw_8
  have hz_9 : (1 : Int32).toInt = 1 := by decide +kernel
  have hz_10 : (40 : Int32).toInt = 40 := by decide +kernel
  have w_8_0 : 0 ≤ (x_7).toInt ∧ (x_7).toInt ≤ 1 := w_8_0
  have w_8_1 : (x_7).toInt = 1 → ((x_3).toInt = 1 ∧ ((1 : Int32)).toInt ≤ (a1).toInt ∧ (a1).toInt ≤ ((40 : Int32)).toInt ∧ (x_4).toInt ≤ 999 - (a1).toInt) := w_8_1
  refine lv_if_ne (tgt := 17) hx hb dX12_shifts_8 (dk_dq rfl) (fun c_11 => ?_) (fun c_11 => ?_)
  · as_aux_lemma =>
      have jc_11 := dk_neqc (k := 0) (by decide +kernel) c_11
      refine lv_aload_n hx hb dX12_shifts_17 rfl (lv_at hl 0 rfl) ?_
      refine dg_callv hS hA1 hA (va_runV (As := []) (rest := []) F (c_m_keeps l g D o S x_4 f_x_4 (by omega) ZB ZS I H.size) (cwV 0 hts (bw_V wB_1257 wB_1258 wB_1259 wB_297 wB_1256) rfl rfl rfl (by decide +kernel) ⟨Nat.le_of_ble_eq_true rfl, Nat.le_of_ble_eq_true rfl⟩) (dg_preV sM_0 rfl K ST hP hS hA1 hA) rfl rfl hl.1 rfl (lv_room (Nat.le_of_ble_eq_true rfl)) dX12_shifts_18 ⟨Nat.le_of_ble_eq_true rfl, Nat.le_of_ble_eq_true rfl⟩) (fun S_12 hw_12 H locs hP hS => ?_)
      obtain ⟨I_12, m_12, w_12_0, w_12_1, w_12_2, -⟩ := hw_12
      have M_12 := dg_sm.tr M_0 m_12 (dk_dq rfl) (dk_dq rfl)
      obtain ⟨x_13, f_x_13⟩ : ∃ x, S_12.2.1 29 (0 : Int32).toNatClampNeg = x := ⟨_, rfl⟩
      have hin_14 : vp_in (0 : Int32) 22 := (dk_in (by decide +kernel))
      have b_x_13 := dk_all_at (dg_I.row (lo := 0) (hi := 2000) I_12 sM_29 (by decide +kernel)) hin_14 f_x_13.symm
      have ex_13 := f_x_13.symm
      have hz_15 : (0 : Int32).toInt = 0 := by decide +kernel
      have zs_x_13 : (0 : Int32).toInt ≠ 1 → (x_13).toInt ≤ 999 := fun h => by rw [ex_13]; exact w_12_1 _ (dk_inT hin_14).2 (fun q => by have h9 := (dk_inT hin_14).1; omega)
      have w_12_0 : (x_13).toInt = (x_4).toInt := w_12_0 x_13 f_x_13
      refine lv_iconst (v := 0) hx hb dX12_shifts_21 (by decide +kernel) ?_
      refine lv_istore_n (lv' := [(2, .int 0), (0, .ref (o + 0)), (1, .int a1)]) hx hb dX12_shifts_22 rfl hl (dk_dq rfl) rfl (fun ls hl => ?_)
      refine lv_iconst (v := 0) hx hb dX12_shifts_23 (by decide +kernel) ?_
      refine lv_istore_n (lv' := [(3, .int 0), (2, .int 0), (0, .ref (o + 0)), (1, .int a1)]) hx hb dX12_shifts_24 rfl hl (dk_dq rfl) rfl (fun ls hl => ?_)
      have L_78 : ∀ (n : Nat) (x_75 : Int32) (x_76 : Int32), (0 ≤ (x_75).toInt ∧ (x_75).toInt ≤ 40) → ((41 - (x_75).toInt).toNat < n) → ∀ S_77 : dg_S, CM o S_77 → dg_sm shM [(0, 60), (0, 61)] [28, 29, 30, 31, 32, 33, 34, 35, 36, 37, 38, 39, 40, 41, 42, 43, 44] S S_77 → ∀ rw_77_0 : Int32, S_77.2.1 29 (0 : Int32).toNatClampNeg = rw_77_0 → (0 ≤ (rw_77_0).toInt ∧ (rw_77_0).toInt ≤ 2000) → ZSM S_77 → ((rw_77_0).toInt = (x_13).toInt + (x_75).toInt ∧ (x_75).toInt ≤ (a1).toInt) → (S_77.2.1 28 = S.2.1 28) → (F_m_shifts o S a1 = lp (F_m_shifts_B1 a1 o) (S, (0 : Int32)) n (x_75, x_76, rw_77_0, S_77)) → ∀ (H : Heap) (locs : List Loc), va_P D vwCl (dg_w g shM o rfM S_77) H → va_S A s.heap H locs → ∀ ls : Array Slot, lv_has ls 4 [(3, .int x_75), (2, .int x_76), (0, .ref (o + 0)), (1, .int a1)] → W p l e ({ frames := 9, cells := 0, slots := 0, locals := 217 } : Room) s m args below meth c H locs 0 0 (MQ below (va_Qi (fun (r : Int32) S' => CM o S' ∧ dg_sm shM [(0, 60), (0, 61)] [28, 29, 30, 31, 32, 33, 34, 35, 36, 37, 38, 39, 40, 41, 42, 43, 44] S S' ∧ (m_hid ((S' = (F_m_refuses o S (2 : Int32)).1 ∧ (r).toInt = -1) ∨ S'.2.1 28 = S.2.1 28)) ∧ ZSM S' ∧ (S' = (F_m_shifts o S a1).1 ∧ r = (F_m_shifts o S a1).2) ∧ True) (dg_B g D shM o rfM) A) args s 0 0 A) (F0 m 25 ls []) := by
        as_aux_lemma =>
          intro n
          induction n with
          | zero =>
            intro x_75 x_76 b_x_75 hmu S_77 I_77 M_77 rw_77_0 frw_77_0 brw_77_0 ZS_77 srel_77_0 srel_77_1 hF_1 H locs hP hS ls hl
            omega
          | succ n ih =>
            as_aux_lemma =>
              intro x_75 x_76 b_x_75 hmu S_77 I_77 M_77 rw_77_0 frw_77_0 brw_77_0 ZS_77 srel_77_0 srel_77_1 hF_1 H locs hP hS ls hl
              refine lv_iload_n hx hb dX12_shifts_25 rfl (lv_at hl 0 rfl) ?_
              refine lv_iload_n hx hb dX12_shifts_26 rfl (lv_at hl 3 rfl) ?_
              refine lv_icmp_ge (tgt := 44) hx hb dX12_shifts_27 (dk_dq rfl) (fun c_79 => ?_) (fun c_79 => ?_)
              · have jc_79 := dk_gec (k := (a1).toInt) rfl c_79
                refine lv_iload_n hx hb dX12_shifts_44 rfl (lv_at hl 1 rfl) ?_
                refine W.widen (k := 0) (n := 0) (Nat.le_of_ble_eq_true rfl) (Nat.le_of_ble_eq_true rfl) ?_
                exact dg_iret hx hb hr hlocks rfl hP hS ⟨I_77, M_77, (m_hid.mk (Or.inr srel_77_1)), ZS_77, ⟨congrArg Prod.fst (Eq.symm (lp_r hF_1 (F_m_shifts_p0 c_79))), congrArg Prod.snd (Eq.symm (lp_r hF_1 (F_m_shifts_p0 c_79)))⟩, trivial⟩ dX12_shifts_45
              · as_aux_lemma =>
                  have jc_79 := dk_ngec (k := (a1).toInt) rfl c_79
                  refine lv_iload_n hx hb dX12_shifts_30 rfl (lv_at hl 1 rfl) ?_
                  refine lv_aload_n hx hb dX12_shifts_31 rfl (lv_at hl 2 rfl) ?_
                  refine lv_iconst (v := 0) hx hb dX12_shifts_32 (by decide +kernel) ?_
                  have hz_80 : (0 : Int32).toInt = 0 := by decide +kernel
                  refine dg_calli hS hA1 hA (va_runV (As := [.int 0]) (rest := [.int x_76]) F (c_m_ticks l g D o S_77 0 (by decide +kernel) rw_77_0 frw_77_0 (by omega) (by omega) (ZBM.keep ZB M_77 (dk_dq rfl) (dk_dq rfl) (dk_dq rfl) (dk_dq rfl) (dk_dq rfl)) ZS_77 (ZWM.keep ZW M_77 (dk_dq rfl) (dk_dq rfl) (dk_dq rfl) (dk_dq rfl)) I_77 H.size) (cwV 1 hts (bw_V wB_1231 wB_1232 wB_1233 wB_297 wB_1230) rfl rfl rfl (by decide +kernel) ⟨Nat.le_of_ble_eq_true rfl, Nat.le_of_ble_eq_true rfl⟩) (dg_preV sM_0 rfl K ST hP hS hA1 hA) rfl rfl hl.1 rfl (lv_room (Nat.le_of_ble_eq_true rfl)) dX12_shifts_33 ⟨Nat.le_of_ble_eq_true rfl, Nat.le_of_ble_eq_true rfl⟩) (fun x_81 S_82 hw_82 H locs hP hS => ?_)
                  obtain ⟨I_82, m_82, w_82_0, w_82_1, w_82_2, w_82_3, -⟩ := hw_82
                  have M_82 := dg_sm.tr M_77 m_82 (dk_dq rfl) (dk_dq rfl)
                  have hz_83 : (0 : Int32).toInt = 0 := by decide +kernel
                  have w_82_0 : 0 ≤ (x_81).toInt ∧ (x_81).toInt ≤ 1 := w_82_0
                  obtain ⟨x_84, f_x_84⟩ : ∃ x, S_82.2.1 29 (0 : Int32).toNatClampNeg = x := ⟨_, rfl⟩
                  have hin_85 : vp_in (0 : Int32) 22 := (dk_in (by decide +kernel))
                  have b_x_84 := dk_all_at (dg_I.row (lo := 0) (hi := 2000) I_82 sM_29 (by decide +kernel)) hin_85 f_x_84.symm
                  have ex_84 := f_x_84.symm
                  have hz_86 : (0 : Int32).toInt = 0 := by decide +kernel
                  have zs_x_84 : (0 : Int32).toInt ≠ 1 → (x_84).toInt ≤ 999 := fun h => by rw [ex_84]; exact w_82_2 _ (dk_inT hin_85).2 (fun q => by have h9 := (dk_inT hin_85).1; omega)
                  have w_82_1 : (x_84).toInt = (rw_77_0).toInt + 1 := w_82_1 x_84 f_x_84
                  refine lv_iadd hx hb dX12_shifts_36 ?_
                  refine lv_topi (fun x_87 ex_87 => ?_)
                  refine lv_istore_n (lv' := [(2, .int x_87), (3, .int x_75), (0, .ref (o + 0)), (1, .int a1)]) hx hb dX12_shifts_37 rfl hl (dk_dq rfl) rfl (fun ls hl => ?_)
                  obtain ⟨x_88, ex_88⟩ : ∃ z, z = x_75 + 1 := ⟨_, rfl⟩
                  have jx_88 : (x_88).toInt = (x_75).toInt + 1 := by rw [ex_88]; exact dk_addT2 rfl (by decide +kernel) (by omega)
                  refine lv_iinc (v := x_88) (lv' := [(3, .int x_88), (2, .int x_87), (0, .ref (o + 0)), (1, .int a1)]) hx hb dX12_shifts_38 hl (k := 1) rfl (by rw [ex_88]; rfl) (dk_dq rfl) rfl (fun ls hl => ?_)
                  refine lv_goto (tgt := 25) hx hb dX12_shifts_41 (dk_dq rfl) ?_
                  exact ih x_88 x_87 (by omega) (by first | exact mu_lt hmu (by omega) (by omega) | omega) S_82 I_82 M_82 x_84 f_x_84 (by omega) w_82_2 (by omega) ((m_82.2 28 _ sM_28 (dk_dq rfl)).1.trans srel_77_1) (lp_l hF_1 (F_m_shifts_p1 c_79 w_82_3.1 w_82_3.2 (Eq.symm f_x_84) ex_87 ex_88)) _ _ hP hS _ (lv_sub hl [0, 1, 2, 3] rfl)
      have hz_89 : (0 : Int32).toInt = 0 := by decide +kernel
      have hz_90 : (0 : Int32).toInt = 0 := by decide +kernel
      have hz_91 : (0 : Int32).toInt = 0 := by decide +kernel
      exact L_78 ((41 - ((0 : Int32)).toInt).toNat + 1) 0 0 (by decide +kernel) (by first | exact mu_lt hmu (by omega) (by omega) | omega) S_12 I_12 M_12 x_13 f_x_13 (by omega) w_12_1 (by omega) (m_12.2 28 _ sM_28 (dk_dq rfl)).1 (F_m_shifts_p2 w_8_2 c_11 w_12_2 (Eq.symm f_x_13)) _ _ hP hS _ (lv_sub hl [0, 1, 2, 3] rfl)
  · have jc_11 := dk_eqc (k := 0) (by decide +kernel) c_11
    refine lv_aload_n hx hb dX12_shifts_11 rfl (lv_at hl 0 rfl) ?_
    refine lv_iconst (v := 2) hx hb dX12_shifts_12 (by decide +kernel) ?_
    have hz_92 : (2 : Int32).toInt = 2 := by decide +kernel
    refine dg_calli hS hA1 hA (va_runV (As := [.int 2]) (rest := []) F (c_m_refuses l g D o S 2 (by decide +kernel) I H.size) (cwV 1 hts (bw_V wB_1079 wB_1080 wB_1081 wB_297 wB_1078) rfl rfl rfl (by decide +kernel) ⟨Nat.le_of_ble_eq_true rfl, Nat.le_of_ble_eq_true rfl⟩) (dg_preV sM_0 rfl K ST hP hS hA1 hA) rfl rfl hl.1 rfl (lv_room (Nat.le_of_ble_eq_true rfl)) dX12_shifts_13 ⟨Nat.le_of_ble_eq_true rfl, Nat.le_of_ble_eq_true rfl⟩) (fun x_93 S_94 hw_94 H locs hP hS => ?_)
    obtain ⟨I_94, m_94, w_94_0, w_94_1, -⟩ := hw_94
    have M_94 := dg_sm.tr M_0 m_94 (dk_dq rfl) (dk_dq rfl)
    have w_94_0 : (-1) ≤ (x_93).toInt ∧ (x_93).toInt ≤ (-1) := w_94_0
    refine W.widen (k := 0) (n := 0) (Nat.le_of_ble_eq_true rfl) (Nat.le_of_ble_eq_true rfl) ?_
    exact dg_iret hx hb hr hlocks rfl hP hS ⟨I_94, M_94, (m_hid.mk (Or.inl ⟨w_94_1.1, by first | omega | decide +kernel⟩)), (ZSM.keep ZS m_94 (dk_dq rfl)), ⟨congrArg Prod.fst (Eq.symm (F_m_shifts_p3 w_8_2 c_11 w_94_1.1 w_94_1.2)), congrArg Prod.snd (Eq.symm (F_m_shifts_p3 w_8_2 c_11 w_94_1.1 w_94_1.2))⟩, trivial⟩ dX12_shifts_16
noncomputable def F_m_draw (o : Nat) (S : dg_S) (a1 : Int32) : dg_S × Int32 := let x_1 : Int64 := zL S 0 62; let x_2 : Int64 := (1103515245 : Int64) * x_1; let x_3 : Int64 := x_2 + (12345 : Int64); let x_4 : Int64 := x_3 - x_3 / (2147483648 : Int64) * (2147483648 : Int64); let S_5 : dg_S := dg_uF S 0 62 (.long x_4); let x_6 : Int64 := x_4 / (64 : Int64); let x_7 : Int64 := Int32.toInt64 a1; let x_8 : Int64 := x_6 - x_6 / x_7 * x_7; let x_9 : Int32 := Int64.toInt32 x_8; (S_5, x_9)
theorem F_m_draw_p0 {o : Nat} {S : dg_S} {a1 : Int32} {S_5 : dg_S} {x_9 : Int32} {x_1 : Int64} {x_2 : Int64} {x_3 : Int64} {x_4 : Int64} {x_6 : Int64} {x_7 : Int64} {x_8 : Int64} (h0 : x_1 = zL S 0 62) (h1 : x_2 = (1103515245 : Int64) * x_1) (h2 : x_3 = x_2 + (12345 : Int64)) (h3 : x_4 = x_3 - x_3 / (2147483648 : Int64) * (2147483648 : Int64)) (h4 : S_5 = dg_uF S 0 62 (.long x_4)) (h5 : x_6 = x_4 / (64 : Int64)) (h6 : x_7 = Int32.toInt64 a1) (h7 : x_8 = x_6 - x_6 / x_7 * x_7) (h8 : x_9 = Int64.toInt32 x_8) : F_m_draw o S a1 = (S_5, x_9) := by
  replace h0 := Eq.symm h0
  subst h0
  replace h1 := Eq.symm h1
  subst h1
  replace h2 := Eq.symm h2
  subst h2
  replace h3 := Eq.symm h3
  subst h3
  replace h4 := Eq.symm h4
  subst h4
  replace h5 := Eq.symm h5
  subst h5
  replace h6 := Eq.symm h6
  subst h6
  replace h7 := Eq.symm h7
  subst h7
  replace h8 := Eq.symm h8
  subst h8
  exact rfl
set_option maxHeartbeats 8000000 in
set_option maxRecDepth 100000 in
theorem c_m_draw (l : Launch) (g : Nat → ClassId) (D : va_G) (o : Nat) (S : dg_S) (a1 : Int32) (b_a1 : 1 ≤ (a1).toInt ∧ (a1).toInt ≤ 100) (ZD : ZDM S) (I : CM o S) (sz : Nat) : Met l yX12_draw (bw yX12_draw cX12_draw 2 (some .int)) ({ frames := 1, cells := 0, slots := 0, locals := 32 } : Room) (dk_Pc g D (dg_w g shM o rfM S) sz [.ref (o + 0), .int a1]) (va_Qi (fun (r : Int32) S' => CM o S' ∧ dg_sm shM [(0, 62)] [] S S' ∧ (0 ≤ (r).toInt ∧ (r).toInt ≤ 99) ∧ ((r).toInt < (a1).toInt) ∧ ZDM S' ∧ (S' = (F_m_draw o S a1).1 ∧ r = (F_m_draw o S a1).2) ∧ True) (dg_B g D shM o rfM) (dg_A o shM.length sz)) 0 0 (dg_A o shM.length sz) := by
  refine dg_met (cc := cX12_draw) (maxL := 2) (ret := (some .int)) (dk_dq rfl) rfl (Nat.le_of_ble_eq_true rfl) ?_
  intro p e s m args below meth c A hAe harg hx hb hr hml hts hown hlocks hin hP K hS hA1 hA ST hsz ls hl
  rw [← hAe]
  have F : CallFix p m c cX12_draw 2 s args (bw yX12_draw cX12_draw 2 (some .int)) RX12 := ⟨hx, hb, hml, hown, hts⟩
  have hl : lv_has ls 2 [(0, .ref (o + 0)), (1, .int a1)] := hl
  have M_0 : dg_sm shM [(0, 62)] [] S S := dg_sm.rf
  refine lv_aload_n hx hb dX12_draw_0 rfl (lv_at hl 0 rfl) ?_
  refine lv_ldc2 hx hb hown (hts _ (bw_mem wB_1267)) dX12_draw_1 ?_
  refine lv_aload_n hx hb dX12_draw_4 rfl (lv_at hl 0 rfl) ?_
  obtain ⟨x_1, f_x_1⟩ := dg_I.long (i := 0) (k := 62) I sM_0 (by decide +kernel)
  refine dg_get (C := RX12) (T := TX12) (N := 77) hx hb hts (fun w h => bw_mem (wU_X12 w h)) hown K hP sM_0 rfl 62 (dk_dq rfl) (hts _ (bw_mem wB_1201)) (fun _ h9 => h9) (v := .long x_1) f_x_1 dX12_draw_5 ?_
  refine lv_lmul hx hb dX12_draw_8 ?_
  refine lv_topl (fun x_2 ex_2 => ?_)
  refine lv_ldc2 hx hb hown (hts _ (bw_mem wB_1268)) dX12_draw_9 ?_
  refine lv_ladd hx hb dX12_draw_12 ?_
  refine lv_topl (fun x_3 ex_3 => ?_)
  refine lv_ldc2 hx hb hown (hts _ (bw_mem wB_1269)) dX12_draw_13 ?_
  refine lv_lrem hx hb dX12_draw_16 (by decide +kernel) ?_
  refine lv_topl (fun x_4 ex_4 => ?_)
  have hd_x_4 := dk_drawA (ZD _ f_x_1) ex_2 ex_3 ex_4
  refine dg_put (ci := 12) (v := .long x_4) (ty := tyX12 62) (C := RX12) (T := TX12) (N := 77) hx hb hts (fun w h => bw_mem (wU_X12 w h)) tyX12 tyX12_ok nmX12 hown K hP hS hA1 sM_0 rfl 62 (dk_dq rfl) (hts _ (bw_mem wB_1201)) (fun _ h9 => h9) rfl (by decide +kernel) rfl rfl dX12_draw_17 (fun S_5 e_5 H locs hP hS => ?_)
  have I_5 := dg_I.uFl I e_5 sM_0 (by decide +kernel)
  have M_5 := dg_sm.uF M_0 e_5 sM_0 (dk_dq rfl)
  have ZD_5 : ZDM S_5 := ZDM.put e_5 (by omega)
  refine lv_aload_n hx hb dX12_draw_20 rfl (lv_at hl 0 rfl) ?_
  refine dg_get (C := RX12) (T := TX12) (N := 77) hx hb hts (fun w h => bw_mem (wU_X12 w h)) hown K hP sM_0 rfl 62 (dk_dq rfl) (hts _ (bw_mem wB_1201)) (fun _ h9 => h9) (v := .long x_4) (dg_uF_at e_5) dX12_draw_21 ?_
  refine lv_ldc2 hx hb hown (hts _ (bw_mem wB_1270)) dX12_draw_24 ?_
  refine lv_ldiv hx hb dX12_draw_27 (by decide +kernel) ?_
  refine lv_topl (fun x_6 ex_6 => ?_)
  have hd_x_6 := dk_div64 (by omega) ex_6
  refine lv_iload_n hx hb dX12_draw_28 rfl (lv_at hl 1 rfl) ?_
  obtain ⟨x_7, ex_7⟩ : ∃ z, (a1 : Int32).toInt64 = z := ⟨_, rfl⟩
  refine lv_i2l (v := x_7) hx hb dX12_draw_29 ex_7 ?_
  refine lv_lrem hx hb dX12_draw_30 (fun q => absurd (show (a1 : Int32).toInt = 0 by rw [← Int32.toInt_toInt64, ex_7, q]; decide +kernel) (by omega)) ?_
  refine lv_topl (fun x_8 ex_8 => ?_)
  have hd_x_8 := dk_remB (u := x_6) (q := x_7) (by omega) (by rw [← ex_7, Int32.toInt_toInt64]; omega) ex_8
  rw [← ex_7, Int32.toInt_toInt64] at hd_x_8
  obtain ⟨x_9, ex_9⟩ : ∃ z, (x_8 : Int64).toInt32 = z := ⟨_, rfl⟩
  refine lv_l2i (v := x_9) hx hb dX12_draw_31 ex_9 ?_
  have hli_x_9 := dk_l2i ex_9
  refine W.widen (k := 0) (n := 0) (Nat.le_of_ble_eq_true rfl) (Nat.le_of_ble_eq_true rfl) ?_
  exact dg_iret hx hb hr hlocks rfl hP hS ⟨I_5, M_5, (by omega), (by omega), ZD_5, ⟨congrArg Prod.fst (Eq.symm (F_m_draw_p0 (zL_eq f_x_1) ex_2 ex_3 ex_4 e_5 ex_6 (Eq.symm ex_7) ex_8 (Eq.symm ex_9))), congrArg Prod.snd (Eq.symm (F_m_draw_p0 (zL_eq f_x_1) ex_2 ex_3 ex_4 e_5 ex_6 (Eq.symm ex_7) ex_8 (Eq.symm ex_9)))⟩, trivial⟩ dX12_draw_32
noncomputable def F_m_chance_J2 (x_297 : Int32) (o : Nat) (S_298 : dg_S) (x_265 : Int32) (x_266 : Int32) : (Int32 × Int32 × Int32 × dg_S) ⊕ (dg_S × Int32) := (if x_297 = (0 : Int32) then let S_303 : dg_S := (F_m_ticks o S_298 (0 : Int32)).1; let x_302 : Int32 := (F_m_ticks o S_298 (0 : Int32)).2; let x_305 : Int32 := S_303.2.1 29 (0 : Int32).toNatClampNeg; let x_308 : Int32 := x_265 + 1; (Sum.inl (x_308, x_266, x_305, S_303)) else let x_309 : Int32 := x_266 + (1 : Int32); let S_312 : dg_S := (F_m_ticks o S_298 (0 : Int32)).1; let x_311 : Int32 := (F_m_ticks o S_298 (0 : Int32)).2; let x_314 : Int32 := S_312.2.1 29 (0 : Int32).toNatClampNeg; let x_317 : Int32 := x_265 + 1; (Sum.inl (x_317, x_309, x_314, S_312)))
noncomputable def F_m_chance_B1 (a1 : Int32) (o : Nat) (S : dg_S) : (Int32 × Int32 × Int32 × dg_S) → (Int32 × Int32 × Int32 × dg_S) ⊕ (dg_S × Int32) := fun w9 => match w9 with | (x_265, x_266, rw_267_0, S_267) => (if a1 ≤ x_265 then (Sum.inr ((S_267, x_266))) else let S_272 : dg_S := (F_m_draw o S_267 (100 : Int32)).1; let x_271 : Int32 := (F_m_draw o S_267 (100 : Int32)).2; let x_274 : Int32 := zI S 0 13; let x_276 : Int32 := S_272.2.1 6 (x_274 : Int32).toNatClampNeg; (if x_276 ≤ x_271 then let S_280 : dg_S := (F_m_ticks o S_272 (0 : Int32)).1; let x_279 : Int32 := (F_m_ticks o S_272 (0 : Int32)).2; let x_282 : Int32 := S_280.2.1 29 (0 : Int32).toNatClampNeg; let x_285 : Int32 := x_265 + 1; (Sum.inl (x_285, x_266, x_282, S_280)) else let x_287 : Int32 := S_272.2.1 2 (x_274 : Int32).toNatClampNeg; let S_289 : dg_S := (F_m_draw o S_272 x_287).1; let x_288 : Int32 := (F_m_draw o S_272 x_287).2; let x_291 : Int32 := S_289.2.1 3 (x_274 : Int32).toNatClampNeg; let S_293 : dg_S := (F_m_draw o S_289 x_291).1; let x_292 : Int32 := (F_m_draw o S_289 x_291).2; let x_294 : Int32 := (8 : Int32) * x_292; let x_295 : Int32 := x_294 + x_288; let S_298 : dg_S := (F_m_isSolidBy o S_293 (0 : Int32) x_295).1; let x_297 : Int32 := (F_m_isSolidBy o S_293 (0 : Int32) x_295).2; (F_m_chance_J2 x_297 o S_298 x_265 x_266)))
noncomputable def F_m_chance (o : Nat) (S : dg_S) (a1 : Int32) : dg_S × Int32 := let x_3 : Int32 := zI S 0 47; let x_4 : Int32 := S.2.1 29 (0 : Int32).toNatClampNeg; let x_7 : Int32 := F_m_isAhead o S a1 (1 : Int32) (40 : Int32); (if x_7 = (0 : Int32) then let S_323 : dg_S := (F_m_refuses o S (2 : Int32)).1; let x_322 : Int32 := (F_m_refuses o S (2 : Int32)).2; (S_323, x_322) else let S_12 : dg_S := F_m_keeps o S; let x_13 : Int32 := S_12.2.1 29 (0 : Int32).toNatClampNeg; (lp (F_m_chance_B1 a1 o S) (S, (0 : Int32)) ((41 - ((0 : Int32)).toInt).toNat + 1) ((0 : Int32), (0 : Int32), x_13, S_12)))
theorem F_m_chance_p0 {a1 : Int32} {o : Nat} {S : dg_S} {x_265 : Int32} {x_266 : Int32} {rw_267_0 : Int32} {S_267 : dg_S} (h0 : a1 ≤ x_265) : (F_m_chance_B1 a1 o S) (x_265, x_266, rw_267_0, S_267) = Sum.inr ((S_267, x_266)) := (Eq.trans (if_pos h0) rfl)
theorem F_m_chance_p1 {a1 : Int32} {o : Nat} {S : dg_S} {x_265 : Int32} {x_266 : Int32} {rw_267_0 : Int32} {S_267 : dg_S} {x_285 : Int32} {x_282 : Int32} {S_280 : dg_S} {S_272 : dg_S} {x_271 : Int32} {x_274 : Int32} {x_276 : Int32} (h0 : ¬ (a1 ≤ x_265)) (h1 : S_272 = (F_m_draw o S_267 (100 : Int32)).1) (h2 : x_271 = (F_m_draw o S_267 (100 : Int32)).2) (h3 : x_274 = zI S 0 13) (h4 : x_276 = S_272.2.1 6 (x_274 : Int32).toNatClampNeg) (h5 : x_276 ≤ x_271) (h6 : S_280 = (F_m_ticks o S_272 (0 : Int32)).1) (h7 : x_282 = S_280.2.1 29 (0 : Int32).toNatClampNeg) (h8 : x_285 = x_265 + 1) : (F_m_chance_B1 a1 o S) (x_265, x_266, rw_267_0, S_267) = Sum.inl (x_285, x_266, x_282, S_280) := by
  replace h1 := Eq.symm h1
  subst h1
  replace h2 := Eq.symm h2
  subst h2
  replace h3 := Eq.symm h3
  subst h3
  replace h4 := Eq.symm h4
  subst h4
  replace h6 := Eq.symm h6
  subst h6
  replace h7 := Eq.symm h7
  subst h7
  replace h8 := Eq.symm h8
  subst h8
  exact (Eq.trans (if_neg h0) (Eq.trans (if_pos h5) rfl))
theorem F_m_chance_p2 {x_297 : Int32} {o : Nat} {S_298 : dg_S} {x_265 : Int32} {x_266 : Int32} {x_308 : Int32} {x_305 : Int32} {S_303 : dg_S} (h0 : x_297 = (0 : Int32)) (h1 : S_303 = (F_m_ticks o S_298 (0 : Int32)).1) (h2 : x_305 = S_303.2.1 29 (0 : Int32).toNatClampNeg) (h3 : x_308 = x_265 + 1) : F_m_chance_J2 x_297 o S_298 x_265 x_266 = Sum.inl (x_308, x_266, x_305, S_303) := by
  replace h1 := Eq.symm h1
  subst h1
  replace h2 := Eq.symm h2
  subst h2
  replace h3 := Eq.symm h3
  subst h3
  exact (Eq.trans (if_pos h0) rfl)
theorem F_m_chance_p3 {x_297 : Int32} {o : Nat} {S_298 : dg_S} {x_265 : Int32} {x_266 : Int32} {x_317 : Int32} {x_309 : Int32} {x_314 : Int32} {S_312 : dg_S} (h0 : ¬ (x_297 = (0 : Int32))) (h1 : x_309 = x_266 + (1 : Int32)) (h2 : S_312 = (F_m_ticks o S_298 (0 : Int32)).1) (h3 : x_314 = S_312.2.1 29 (0 : Int32).toNatClampNeg) (h4 : x_317 = x_265 + 1) : F_m_chance_J2 x_297 o S_298 x_265 x_266 = Sum.inl (x_317, x_309, x_314, S_312) := by
  replace h1 := Eq.symm h1
  subst h1
  replace h2 := Eq.symm h2
  subst h2
  replace h3 := Eq.symm h3
  subst h3
  replace h4 := Eq.symm h4
  subst h4
  exact (Eq.trans (if_neg h0) rfl)
theorem F_m_chance_p4 {a1 : Int32} {o : Nat} {S : dg_S} {x_265 : Int32} {x_266 : Int32} {rw_267_0 : Int32} {S_267 : dg_S} {x_297 : Int32} {S_298 : dg_S} {S_272 : dg_S} {x_271 : Int32} {x_274 : Int32} {x_276 : Int32} {x_287 : Int32} {S_289 : dg_S} {x_288 : Int32} {x_291 : Int32} {S_293 : dg_S} {x_292 : Int32} {x_294 : Int32} {x_295 : Int32} (h0 : ¬ (a1 ≤ x_265)) (h1 : S_272 = (F_m_draw o S_267 (100 : Int32)).1) (h2 : x_271 = (F_m_draw o S_267 (100 : Int32)).2) (h3 : x_274 = zI S 0 13) (h4 : x_276 = S_272.2.1 6 (x_274 : Int32).toNatClampNeg) (h5 : ¬ (x_276 ≤ x_271)) (h6 : x_287 = S_272.2.1 2 (x_274 : Int32).toNatClampNeg) (h7 : S_289 = (F_m_draw o S_272 x_287).1) (h8 : x_288 = (F_m_draw o S_272 x_287).2) (h9 : x_291 = S_289.2.1 3 (x_274 : Int32).toNatClampNeg) (h10 : S_293 = (F_m_draw o S_289 x_291).1) (h11 : x_292 = (F_m_draw o S_289 x_291).2) (h12 : x_294 = (8 : Int32) * x_292) (h13 : x_295 = x_294 + x_288) (h14 : S_298 = (F_m_isSolidBy o S_293 (0 : Int32) x_295).1) (h15 : x_297 = (F_m_isSolidBy o S_293 (0 : Int32) x_295).2) : (F_m_chance_B1 a1 o S) (x_265, x_266, rw_267_0, S_267) = F_m_chance_J2 x_297 o S_298 x_265 x_266 := by
  replace h1 := Eq.symm h1
  subst h1
  replace h2 := Eq.symm h2
  subst h2
  replace h3 := Eq.symm h3
  subst h3
  replace h4 := Eq.symm h4
  subst h4
  replace h6 := Eq.symm h6
  subst h6
  replace h7 := Eq.symm h7
  subst h7
  replace h8 := Eq.symm h8
  subst h8
  replace h9 := Eq.symm h9
  subst h9
  replace h10 := Eq.symm h10
  subst h10
  replace h11 := Eq.symm h11
  subst h11
  replace h12 := Eq.symm h12
  subst h12
  replace h13 := Eq.symm h13
  subst h13
  replace h14 := Eq.symm h14
  subst h14
  replace h15 := Eq.symm h15
  subst h15
  exact (Eq.trans (if_neg h0) (Eq.trans (if_neg h5) rfl))
theorem F_m_chance_p5 {o : Nat} {S : dg_S} {a1 : Int32} {x_13 : Int32} {S_12 : dg_S} {x_7 : Int32} (h0 : x_7 = F_m_isAhead o S a1 (1 : Int32) (40 : Int32)) (h1 : ¬ (x_7 = (0 : Int32))) (h2 : S_12 = F_m_keeps o S) (h3 : x_13 = S_12.2.1 29 (0 : Int32).toNatClampNeg) : F_m_chance o S a1 = lp (F_m_chance_B1 a1 o S) (S, (0 : Int32)) ((41 - ((0 : Int32)).toInt).toNat + 1) ((0 : Int32), (0 : Int32), x_13, S_12) := by
  replace h0 := Eq.symm h0
  subst h0
  replace h2 := Eq.symm h2
  subst h2
  replace h3 := Eq.symm h3
  subst h3
  exact (Eq.trans (if_neg h1) rfl)
theorem F_m_chance_p6 {o : Nat} {S : dg_S} {a1 : Int32} {S_323 : dg_S} {x_322 : Int32} {x_7 : Int32} (h0 : x_7 = F_m_isAhead o S a1 (1 : Int32) (40 : Int32)) (h1 : x_7 = (0 : Int32)) (h2 : S_323 = (F_m_refuses o S (2 : Int32)).1) (h3 : x_322 = (F_m_refuses o S (2 : Int32)).2) : F_m_chance o S a1 = (S_323, x_322) := by
  replace h0 := Eq.symm h0
  subst h0
  replace h2 := Eq.symm h2
  subst h2
  replace h3 := Eq.symm h3
  subst h3
  exact (Eq.trans (if_pos h1) rfl)
set_option maxHeartbeats 8000000 in
set_option maxRecDepth 100000 in
theorem c_m_chance (l : Launch) (g : Nat → ClassId) (D : va_G) (o : Nat) (S : dg_S) (a1 : Int32) (ZB : ZBM S) (ZS : ZSM S) (ZW : ZWM S) (ZD : ZDM S) (I : CM o S) (sz : Nat) : Met l yX12_chance (bw yX12_chance cX12_chance 5 (some .int)) ({ frames := 9, cells := 0, slots := 0, locals := 217 } : Room) (dk_Pc g D (dg_w g shM o rfM S) sz [.ref (o + 0), .int a1]) (va_Qi (fun (r : Int32) S' => CM o S' ∧ dg_sm shM [(0, 60), (0, 61), (0, 62)] [28, 29, 30, 31, 32, 33, 34, 35, 36, 37, 38, 39, 40, 41, 42, 43, 44] S S' ∧ (m_hid ((S' = (F_m_refuses o S (2 : Int32)).1 ∧ (r).toInt = -1) ∨ S'.2.1 28 = S.2.1 28)) ∧ ZSM S' ∧ ZDM S' ∧ (S' = (F_m_chance o S a1).1 ∧ r = (F_m_chance o S a1).2) ∧ True) (dg_B g D shM o rfM) (dg_A o shM.length sz)) 0 0 (dg_A o shM.length sz) := by
  refine dg_met (cc := cX12_chance) (maxL := 5) (ret := (some .int)) (dk_dq rfl) rfl (Nat.le_of_ble_eq_true rfl) ?_
  intro p e s m args below meth c A hAe harg hx hb hr hml hts hown hlocks hin hP K hS hA1 hA ST hsz ls hl
  rw [← hAe]
  have F : CallFix p m c cX12_chance 5 s args (bw yX12_chance cX12_chance 5 (some .int)) RX12 := ⟨hx, hb, hml, hown, hts⟩
  have hl : lv_has ls 5 [(0, .ref (o + 0)), (1, .int a1)] := hl
  have M_0 : dg_sm shM [(0, 60), (0, 61), (0, 62)] [28, 29, 30, 31, 32, 33, 34, 35, 36, 37, 38, 39, 40, 41, 42, 43, 44] S S := dg_sm.rf
  refine lv_aload_n hx hb dX12_chance_0 rfl (lv_at hl 0 rfl) ?_
  refine lv_iload_n hx hb dX12_chance_1 rfl (lv_at hl 1 rfl) ?_
  refine lv_iconst (v := 1) hx hb dX12_chance_2 (by decide +kernel) ?_
  refine lv_bipush (v := 40) hx hb dX12_chance_3 (by decide +kernel) ?_
  have hz_1 : (1 : Int32).toInt = 1 := by decide +kernel
  have hz_2 : (40 : Int32).toInt = 40 := by decide +kernel
  obtain ⟨x_3, f_x_3, b_x_3⟩ := dg_I.int (i := 0) (k := 47) (lo := 0) (hi := 1) I sM_0 (by decide +kernel)
  obtain ⟨x_4, f_x_4⟩ : ∃ x, S.2.1 29 (0 : Int32).toNatClampNeg = x := ⟨_, rfl⟩
  have hin_5 : vp_in (0 : Int32) 22 := (dk_in (by decide +kernel))
  have b_x_4 := dk_all_at (dg_I.row (lo := 0) (hi := 2000) I sM_29 (by decide +kernel)) hin_5 f_x_4.symm
  have ex_4 := f_x_4.symm
  have hz_6 : (0 : Int32).toInt = 0 := by decide +kernel
  have zs_x_4 : (0 : Int32).toInt ≠ 1 → (x_4).toInt ≤ 999 := fun h => by rw [ex_4]; exact ZS _ (dk_inT hin_5).2 (fun q => by have h9 := (dk_inT hin_5).1; omega)
  refine dg_calli hS hA1 hA (va_runV (As := [.int a1, .int 1, .int 40]) (rest := []) F (c_m_isAhead l g D o S a1 1 (by decide +kernel) 40 (by decide +kernel) x_3 f_x_3 (by omega) x_4 f_x_4 (by omega) I s.heap.size) (cwV 3 hts (bw_V wB_1235 wB_1236 wB_1237 wB_297 wB_1234) rfl rfl rfl (by decide +kernel) ⟨Nat.le_of_ble_eq_true rfl, Nat.le_of_ble_eq_true rfl⟩) (dg_preV sM_0 rfl K ST hP hS hA1 hA) rfl rfl hl.1 rfl (lv_room (Nat.le_of_ble_eq_true rfl)) dX12_chance_5 ⟨Nat.le_of_ble_eq_true rfl, Nat.le_of_ble_eq_true rfl⟩) (fun x_7 S_8 hw_8 H locs hP hS => ?_)
  rw [hw_8.1] at hP
  obtain ⟨hq_8, w_8_0, w_8_1, w_8_2, -⟩ := hw_8
  have hz_9 : (1 : Int32).toInt = 1 := by decide +kernel
  have hz_10 : (40 : Int32).toInt = 40 := by decide +kernel
  have w_8_0 : 0 ≤ (x_7).toInt ∧ (x_7).toInt ≤ 1 := w_8_0
  have w_8_1 : (x_7).toInt = 1 → ((x_3).toInt = 1 ∧ ((1 : Int32)).toInt ≤ (a1).toInt ∧ (a1).toInt ≤ ((40 : Int32)).toInt ∧ (x_4).toInt ≤ 999 - (a1).toInt) := w_8_1
  refine lv_if_ne (tgt := 17) hx hb dX12_chance_8 (dk_dq rfl) (fun c_11 => ?_) (fun c_11 => ?_)
  · as_aux_lemma =>
      have jc_11 := dk_neqc (k := 0) (by decide +kernel) c_11
      refine lv_aload_n hx hb dX12_chance_17 rfl (lv_at hl 0 rfl) ?_
      refine dg_callv hS hA1 hA (va_runV (As := []) (rest := []) F (c_m_keeps l g D o S x_4 f_x_4 (by omega) ZB ZS I H.size) (cwV 0 hts (bw_V wB_1257 wB_1258 wB_1259 wB_297 wB_1256) rfl rfl rfl (by decide +kernel) ⟨Nat.le_of_ble_eq_true rfl, Nat.le_of_ble_eq_true rfl⟩) (dg_preV sM_0 rfl K ST hP hS hA1 hA) rfl rfl hl.1 rfl (lv_room (Nat.le_of_ble_eq_true rfl)) dX12_chance_18 ⟨Nat.le_of_ble_eq_true rfl, Nat.le_of_ble_eq_true rfl⟩) (fun S_12 hw_12 H locs hP hS => ?_)
      obtain ⟨I_12, m_12, w_12_0, w_12_1, w_12_2, -⟩ := hw_12
      have M_12 := dg_sm.tr M_0 m_12 (dk_dq rfl) (dk_dq rfl)
      obtain ⟨x_13, f_x_13⟩ : ∃ x, S_12.2.1 29 (0 : Int32).toNatClampNeg = x := ⟨_, rfl⟩
      have hin_14 : vp_in (0 : Int32) 22 := (dk_in (by decide +kernel))
      have b_x_13 := dk_all_at (dg_I.row (lo := 0) (hi := 2000) I_12 sM_29 (by decide +kernel)) hin_14 f_x_13.symm
      have ex_13 := f_x_13.symm
      have hz_15 : (0 : Int32).toInt = 0 := by decide +kernel
      have zs_x_13 : (0 : Int32).toInt ≠ 1 → (x_13).toInt ≤ 999 := fun h => by rw [ex_13]; exact w_12_1 _ (dk_inT hin_14).2 (fun q => by have h9 := (dk_inT hin_14).1; omega)
      have w_12_0 : (x_13).toInt = (x_4).toInt := w_12_0 x_13 f_x_13
      refine lv_iconst (v := 0) hx hb dX12_chance_21 (by decide +kernel) ?_
      refine lv_istore_n (lv' := [(2, .int 0), (0, .ref (o + 0)), (1, .int a1)]) hx hb dX12_chance_22 rfl hl (dk_dq rfl) rfl (fun ls hl => ?_)
      refine lv_iconst (v := 0) hx hb dX12_chance_23 (by decide +kernel) ?_
      refine lv_istore_n (lv' := [(3, .int 0), (2, .int 0), (0, .ref (o + 0)), (1, .int a1)]) hx hb dX12_chance_24 rfl hl (dk_dq rfl) rfl (fun ls hl => ?_)
      have L_268 : ∀ (n : Nat) (x_265 : Int32) (x_266 : Int32), (0 ≤ (x_265).toInt ∧ (x_265).toInt ≤ 40) → ((41 - (x_265).toInt).toNat < n) → ∀ S_267 : dg_S, CM o S_267 → dg_sm shM [(0, 60), (0, 61), (0, 62)] [28, 29, 30, 31, 32, 33, 34, 35, 36, 37, 38, 39, 40, 41, 42, 43, 44] S S_267 → ∀ rw_267_0 : Int32, S_267.2.1 29 (0 : Int32).toNatClampNeg = rw_267_0 → (0 ≤ (rw_267_0).toInt ∧ (rw_267_0).toInt ≤ 2000) → ZSM S_267 → ZDM S_267 → ((rw_267_0).toInt = (x_13).toInt + (x_265).toInt ∧ (x_265).toInt ≤ (a1).toInt) → (S_267.2.1 28 = S.2.1 28) → (F_m_chance o S a1 = lp (F_m_chance_B1 a1 o S) (S, (0 : Int32)) n (x_265, x_266, rw_267_0, S_267)) → ∀ (H : Heap) (locs : List Loc), va_P D vwCl (dg_w g shM o rfM S_267) H → va_S A s.heap H locs → ∀ ls : Array Slot, lv_has ls 5 [(3, .int x_265), (2, .int x_266), (0, .ref (o + 0)), (1, .int a1)] → W p l e ({ frames := 9, cells := 0, slots := 0, locals := 217 } : Room) s m args below meth c H locs 0 0 (MQ below (va_Qi (fun (r : Int32) S' => CM o S' ∧ dg_sm shM [(0, 60), (0, 61), (0, 62)] [28, 29, 30, 31, 32, 33, 34, 35, 36, 37, 38, 39, 40, 41, 42, 43, 44] S S' ∧ (m_hid ((S' = (F_m_refuses o S (2 : Int32)).1 ∧ (r).toInt = -1) ∨ S'.2.1 28 = S.2.1 28)) ∧ ZSM S' ∧ ZDM S' ∧ (S' = (F_m_chance o S a1).1 ∧ r = (F_m_chance o S a1).2) ∧ True) (dg_B g D shM o rfM) A) args s 0 0 A) (F0 m 25 ls []) := by
        as_aux_lemma =>
          intro n
          induction n with
          | zero =>
            intro x_265 x_266 b_x_265 hmu S_267 I_267 M_267 rw_267_0 frw_267_0 brw_267_0 ZS_267 ZD_267 srel_267_0 srel_267_1 hF_1 H locs hP hS ls hl
            omega
          | succ n ih =>
            as_aux_lemma =>
              intro x_265 x_266 b_x_265 hmu S_267 I_267 M_267 rw_267_0 frw_267_0 brw_267_0 ZS_267 ZD_267 srel_267_0 srel_267_1 hF_1 H locs hP hS ls hl
              refine lv_iload_n hx hb dX12_chance_25 rfl (lv_at hl 0 rfl) ?_
              refine lv_iload_n hx hb dX12_chance_26 rfl (lv_at hl 3 rfl) ?_
              refine lv_icmp_ge (tgt := 110) hx hb dX12_chance_27 (dk_dq rfl) (fun c_269 => ?_) (fun c_269 => ?_)
              · have jc_269 := dk_gec (k := (a1).toInt) rfl c_269
                refine lv_iload_n hx hb dX12_chance_110 rfl (lv_at hl 1 rfl) ?_
                refine W.widen (k := 0) (n := 0) (Nat.le_of_ble_eq_true rfl) (Nat.le_of_ble_eq_true rfl) ?_
                exact dg_iret hx hb hr hlocks rfl hP hS ⟨I_267, M_267, (m_hid.mk (Or.inr srel_267_1)), ZS_267, ZD_267, ⟨congrArg Prod.fst (Eq.symm (lp_r hF_1 (F_m_chance_p0 c_269))), congrArg Prod.snd (Eq.symm (lp_r hF_1 (F_m_chance_p0 c_269)))⟩, trivial⟩ dX12_chance_111
              · as_aux_lemma =>
                  have jc_269 := dk_ngec (k := (a1).toInt) rfl c_269
                  refine lv_aload_n hx hb dX12_chance_30 rfl (lv_at hl 2 rfl) ?_
                  refine lv_bipush (v := 100) hx hb dX12_chance_31 (by decide +kernel) ?_
                  have hz_270 : (100 : Int32).toInt = 100 := by decide +kernel
                  refine dg_calli hS hA1 hA (va_runV (As := [.int 100]) (rest := []) F (c_m_draw l g D o S_267 100 (by decide +kernel) ZD_267 I_267 H.size) (cwV 1 hts (bw_V wB_1272 wB_1273 wB_1274 wB_297 wB_1271) rfl rfl rfl (by decide +kernel) ⟨Nat.le_of_ble_eq_true rfl, Nat.le_of_ble_eq_true rfl⟩) (dg_preV sM_0 rfl K ST hP hS hA1 hA) rfl rfl hl.1 rfl (lv_room (Nat.le_of_ble_eq_true rfl)) dX12_chance_33 ⟨Nat.le_of_ble_eq_true rfl, Nat.le_of_ble_eq_true rfl⟩) (fun x_271 S_272 hw_272 H locs hP hS => ?_)
                  obtain ⟨I_272, m_272, w_272_0, w_272_1, w_272_2, w_272_3, -⟩ := hw_272
                  have M_272 := dg_sm.tr M_267 m_272 (dk_dq rfl) (dk_dq rfl)
                  have hz_273 : (100 : Int32).toInt = 100 := by decide +kernel
                  have w_272_0 : 0 ≤ (x_271).toInt ∧ (x_271).toInt ≤ 99 := w_272_0
                  have w_272_1 : (x_271).toInt < ((100 : Int32)).toInt := w_272_1
                  refine lv_aload_n hx hb dX12_chance_36 rfl (lv_at hl 2 rfl) ?_
                  refine dg_get (C := RX12) (T := TX12) (N := 77) hx hb hts (fun w h => bw_mem (wU_X12 w h)) hown K hP sM_0 rfl 18 (dk_dq rfl) (hts _ (bw_mem wB_475)) (fun _ h9 => h9) (v := .ref (o + 6)) (show S_272.1 0 18 = .ref (o + 6) from dg_I.rel (d := 6) I_272 sM_0 (by decide +kernel)) dX12_chance_37 ?_
                  refine lv_aload_n hx hb dX12_chance_40 rfl (lv_at hl 2 rfl) ?_
                  obtain ⟨x_274, f_x_274, b_x_274⟩ := dg_I.int (i := 0) (k := 13) (lo := 0) (hi := 1) I sM_0 (by decide +kernel)
                  refine dg_get (C := RX12) (T := TX12) (N := 77) hx hb hts (fun w h => bw_mem (wU_X12 w h)) hown K hP sM_0 rfl 13 (dk_dq rfl) (hts _ (bw_mem wB_1085)) (fun _ h9 => h9) (v := .int x_274) (((m_272.1 0 13 _ sM_0 (dk_dq rfl)).trans (M_267.1 0 13 _ sM_0 (dk_dq rfl))).trans f_x_274) dX12_chance_41 ?_
                  have hin_275 : vp_in x_274 2 := (dk_inv2 (by omega))
                  refine dg_iald hx hb K hP sM_6 hin_275 dX12_chance_44 (fun x_276 ex_276 => ?_)
                  have b_x_276 := dk_all_at (dg_I.row (lo := 0) (hi := 9999) I_272 sM_6 (by decide +kernel)) hin_275 ex_276
                  refine lv_icmp_ge (tgt := 98) hx hb dX12_chance_45 (dk_dq rfl) (fun c_277 => ?_) (fun c_277 => ?_)
                  · as_aux_lemma =>
                      have jc_277 := dk_gec (k := (x_276).toInt) rfl c_277
                      refine lv_aload_n hx hb dX12_chance_98 rfl (lv_at hl 2 rfl) ?_
                      refine lv_iconst (v := 0) hx hb dX12_chance_99 (by decide +kernel) ?_
                      have hz_278 : (0 : Int32).toInt = 0 := by decide +kernel
                      refine dg_calli hS hA1 hA (va_runV (As := [.int 0]) (rest := []) F (c_m_ticks l g D o S_272 0 (by decide +kernel) rw_267_0 ((congrFun (m_272.2 29 _ sM_29 (dk_dq rfl)).1 _).trans frw_267_0) (by omega) (by omega) (ZBM.keep (ZBM.keep ZB M_267 (dk_dq rfl) (dk_dq rfl) (dk_dq rfl) (dk_dq rfl) (dk_dq rfl)) m_272 (dk_dq rfl) (dk_dq rfl) (dk_dq rfl) (dk_dq rfl) (dk_dq rfl)) (ZSM.keep ZS_267 m_272 (dk_dq rfl)) (ZWM.keep (ZWM.keep ZW M_267 (dk_dq rfl) (dk_dq rfl) (dk_dq rfl) (dk_dq rfl)) m_272 (dk_dq rfl) (dk_dq rfl) (dk_dq rfl) (dk_dq rfl)) I_272 H.size) (cwV 1 hts (bw_V wB_1231 wB_1232 wB_1233 wB_297 wB_1230) rfl rfl rfl (by decide +kernel) ⟨Nat.le_of_ble_eq_true rfl, Nat.le_of_ble_eq_true rfl⟩) (dg_preV sM_0 rfl K ST hP hS hA1 hA) rfl rfl hl.1 rfl (lv_room (Nat.le_of_ble_eq_true rfl)) dX12_chance_100 ⟨Nat.le_of_ble_eq_true rfl, Nat.le_of_ble_eq_true rfl⟩) (fun x_279 S_280 hw_280 H locs hP hS => ?_)
                      obtain ⟨I_280, m_280, w_280_0, w_280_1, w_280_2, w_280_3, -⟩ := hw_280
                      have M_280 := dg_sm.tr M_272 m_280 (dk_dq rfl) (dk_dq rfl)
                      have hz_281 : (0 : Int32).toInt = 0 := by decide +kernel
                      have w_280_0 : 0 ≤ (x_279).toInt ∧ (x_279).toInt ≤ 1 := w_280_0
                      obtain ⟨x_282, f_x_282⟩ : ∃ x, S_280.2.1 29 (0 : Int32).toNatClampNeg = x := ⟨_, rfl⟩
                      have hin_283 : vp_in (0 : Int32) 22 := (dk_in (by decide +kernel))
                      have b_x_282 := dk_all_at (dg_I.row (lo := 0) (hi := 2000) I_280 sM_29 (by decide +kernel)) hin_283 f_x_282.symm
                      have ex_282 := f_x_282.symm
                      have hz_284 : (0 : Int32).toInt = 0 := by decide +kernel
                      have zs_x_282 : (0 : Int32).toInt ≠ 1 → (x_282).toInt ≤ 999 := fun h => by rw [ex_282]; exact w_280_2 _ (dk_inT hin_283).2 (fun q => by have h9 := (dk_inT hin_283).1; omega)
                      have w_280_1 : (x_282).toInt = (rw_267_0).toInt + 1 := w_280_1 x_282 f_x_282
                      refine lv_pop hx hb dX12_chance_103 rfl ?_
                      obtain ⟨x_285, ex_285⟩ : ∃ z, z = x_265 + 1 := ⟨_, rfl⟩
                      have jx_285 : (x_285).toInt = (x_265).toInt + 1 := by rw [ex_285]; exact dk_addT2 rfl (by decide +kernel) (by omega)
                      refine lv_iinc (v := x_285) (lv' := [(3, .int x_285), (2, .int x_266), (0, .ref (o + 0)), (1, .int a1)]) hx hb dX12_chance_104 hl (k := 0) rfl (by rw [ex_285]; rfl) (dk_dq rfl) rfl (fun ls hl => ?_)
                      refine lv_goto (tgt := 25) hx hb dX12_chance_107 (dk_dq rfl) ?_
                      exact ih x_285 x_266 (by omega) (by first | exact mu_lt hmu (by omega) (by omega) | omega) S_280 I_280 M_280 x_282 f_x_282 (by omega) w_280_2 (ZDM.keep w_272_2 m_280 (dk_dq rfl)) (by omega) (((m_280.2 28 _ sM_28 (dk_dq rfl)).1.trans (m_272.2 28 _ sM_28 (dk_dq rfl)).1).trans srel_267_1) (lp_l hF_1 (F_m_chance_p1 c_269 w_272_3.1 w_272_3.2 (zI_eq f_x_274) (Eq.symm ex_276.symm) c_277 w_280_3.1 (Eq.symm f_x_282) ex_285)) _ _ hP hS _ (lv_sub hl [0, 1, 2, 3] rfl)
                  · as_aux_lemma =>
                      have jc_277 := dk_ngec (k := (x_276).toInt) rfl c_277
                      refine lv_aload_n hx hb dX12_chance_48 rfl (lv_at hl 2 rfl) ?_
                      refine lv_aload_n hx hb dX12_chance_49 rfl (lv_at hl 2 rfl) ?_
                      refine dg_get (C := RX12) (T := TX12) (N := 77) hx hb hts (fun w h => bw_mem (wU_X12 w h)) hown K hP sM_0 rfl 14 (dk_dq rfl) (hts _ (bw_mem wB_372)) (fun _ h9 => h9) (v := .ref (o + 2)) (show S_272.1 0 14 = .ref (o + 2) from dg_I.rel (d := 2) I_272 sM_0 (by decide +kernel)) dX12_chance_50 ?_
                      refine lv_aload_n hx hb dX12_chance_53 rfl (lv_at hl 2 rfl) ?_
                      refine dg_get (C := RX12) (T := TX12) (N := 77) hx hb hts (fun w h => bw_mem (wU_X12 w h)) hown K hP sM_0 rfl 13 (dk_dq rfl) (hts _ (bw_mem wB_1085)) (fun _ h9 => h9) (v := .int x_274) (((m_272.1 0 13 _ sM_0 (dk_dq rfl)).trans (M_267.1 0 13 _ sM_0 (dk_dq rfl))).trans f_x_274) dX12_chance_54 ?_
                      have hin_286 : vp_in x_274 2 := (dk_inv2 (by omega))
                      refine dg_iald hx hb K hP sM_2 hin_286 dX12_chance_57 (fun x_287 ex_287 => ?_)
                      have b_x_287 := dk_all_at (dg_I.row (lo := 0) (hi := 9999) I_272 sM_2 (by decide +kernel)) hin_286 ex_287
                      have zb_x_287 : (x_287).toInt ≤ 7 ∧ ((x_3 : Int32).toInt = 1 → 3 ≤ (x_287).toInt) := by rw [ex_287]; exact ⟨((ZBM.keep (ZBM.keep ZB M_267 (dk_dq rfl) (dk_dq rfl) (dk_dq rfl) (dk_dq rfl) (dk_dq rfl)) m_272 (dk_dq rfl) (dk_dq rfl) (dk_dq rfl) (dk_dq rfl) (dk_dq rfl)) x_274 x_3 (((m_272.1 0 13 _ sM_0 (dk_dq rfl)).trans (M_267.1 0 13 _ sM_0 (dk_dq rfl))).trans f_x_274) (((m_272.1 0 47 _ sM_0 (dk_dq rfl)).trans (M_267.1 0 47 _ sM_0 (dk_dq rfl))).trans f_x_3)).1, fun h9 => (((ZBM.keep (ZBM.keep ZB M_267 (dk_dq rfl) (dk_dq rfl) (dk_dq rfl) (dk_dq rfl) (dk_dq rfl)) m_272 (dk_dq rfl) (dk_dq rfl) (dk_dq rfl) (dk_dq rfl) (dk_dq rfl)) x_274 x_3 (((m_272.1 0 13 _ sM_0 (dk_dq rfl)).trans (M_267.1 0 13 _ sM_0 (dk_dq rfl))).trans f_x_274) (((m_272.1 0 47 _ sM_0 (dk_dq rfl)).trans (M_267.1 0 47 _ sM_0 (dk_dq rfl))).trans f_x_3)).2.2.2 h9).1⟩
                      refine dg_calli hS hA1 hA (va_runV (As := [.int x_287]) (rest := []) F (c_m_draw l g D o S_272 x_287 (by omega) w_272_2 I_272 H.size) (cwV 1 hts (bw_V wB_1272 wB_1273 wB_1274 wB_297 wB_1271) rfl rfl rfl (by decide +kernel) ⟨Nat.le_of_ble_eq_true rfl, Nat.le_of_ble_eq_true rfl⟩) (dg_preV sM_0 rfl K ST hP hS hA1 hA) rfl rfl hl.1 rfl (lv_room (Nat.le_of_ble_eq_true rfl)) dX12_chance_58 ⟨Nat.le_of_ble_eq_true rfl, Nat.le_of_ble_eq_true rfl⟩) (fun x_288 S_289 hw_289 H locs hP hS => ?_)
                      obtain ⟨I_289, m_289, w_289_0, w_289_1, w_289_2, w_289_3, -⟩ := hw_289
                      have M_289 := dg_sm.tr M_272 m_289 (dk_dq rfl) (dk_dq rfl)
                      have w_289_0 : 0 ≤ (x_288).toInt ∧ (x_288).toInt ≤ 99 := w_289_0
                      have w_289_1 : (x_288).toInt < (x_287).toInt := w_289_1
                      refine lv_istore (lv' := [(4, .int x_288), (3, .int x_265), (2, .int x_266), (0, .ref (o + 0)), (1, .int a1)]) hx hb dX12_chance_61 hl (dk_dq rfl) rfl (fun ls hl => ?_)
                      refine lv_iload_n hx hb dX12_chance_63 rfl (lv_at hl 2 rfl) ?_
                      refine lv_aload_n hx hb dX12_chance_64 rfl (lv_at hl 3 rfl) ?_
                      refine lv_iconst (v := 0) hx hb dX12_chance_65 (by decide +kernel) ?_
                      refine lv_bipush (v := 8) hx hb dX12_chance_66 (by decide +kernel) ?_
                      refine lv_aload_n hx hb dX12_chance_68 rfl (lv_at hl 3 rfl) ?_
                      refine lv_aload_n hx hb dX12_chance_69 rfl (lv_at hl 3 rfl) ?_
                      refine dg_get (C := RX12) (T := TX12) (N := 77) hx hb hts (fun w h => bw_mem (wU_X12 w h)) hown K hP sM_0 rfl 15 (dk_dq rfl) (hts _ (bw_mem wB_377)) (fun _ h9 => h9) (v := .ref (o + 3)) (show S_289.1 0 15 = .ref (o + 3) from dg_I.rel (d := 3) I_289 sM_0 (by decide +kernel)) dX12_chance_70 ?_
                      refine lv_aload_n hx hb dX12_chance_73 rfl (lv_at hl 3 rfl) ?_
                      refine dg_get (C := RX12) (T := TX12) (N := 77) hx hb hts (fun w h => bw_mem (wU_X12 w h)) hown K hP sM_0 rfl 13 (dk_dq rfl) (hts _ (bw_mem wB_1085)) (fun _ h9 => h9) (v := .int x_274) (((m_289.1 0 13 _ sM_0 (dk_dq rfl)).trans ((m_272.1 0 13 _ sM_0 (dk_dq rfl)).trans (M_267.1 0 13 _ sM_0 (dk_dq rfl)))).trans f_x_274) dX12_chance_74 ?_
                      have hin_290 : vp_in x_274 2 := (dk_inv2 (by omega))
                      refine dg_iald hx hb K hP sM_3 hin_290 dX12_chance_77 (fun x_291 ex_291 => ?_)
                      have b_x_291 := dk_all_at (dg_I.row (lo := 0) (hi := 9999) I_289 sM_3 (by decide +kernel)) hin_290 ex_291
                      have zb_x_291 : (x_291).toInt ≤ 7 ∧ ((x_3 : Int32).toInt = 1 → 3 ≤ (x_291).toInt) := by rw [ex_291]; exact ⟨((ZBM.keep (ZBM.keep (ZBM.keep ZB M_267 (dk_dq rfl) (dk_dq rfl) (dk_dq rfl) (dk_dq rfl) (dk_dq rfl)) m_272 (dk_dq rfl) (dk_dq rfl) (dk_dq rfl) (dk_dq rfl) (dk_dq rfl)) m_289 (dk_dq rfl) (dk_dq rfl) (dk_dq rfl) (dk_dq rfl) (dk_dq rfl)) x_274 x_3 (((m_289.1 0 13 _ sM_0 (dk_dq rfl)).trans ((m_272.1 0 13 _ sM_0 (dk_dq rfl)).trans (M_267.1 0 13 _ sM_0 (dk_dq rfl)))).trans f_x_274) (((m_289.1 0 47 _ sM_0 (dk_dq rfl)).trans ((m_272.1 0 47 _ sM_0 (dk_dq rfl)).trans (M_267.1 0 47 _ sM_0 (dk_dq rfl)))).trans f_x_3)).2.1, fun h9 => (((ZBM.keep (ZBM.keep (ZBM.keep ZB M_267 (dk_dq rfl) (dk_dq rfl) (dk_dq rfl) (dk_dq rfl) (dk_dq rfl)) m_272 (dk_dq rfl) (dk_dq rfl) (dk_dq rfl) (dk_dq rfl) (dk_dq rfl)) m_289 (dk_dq rfl) (dk_dq rfl) (dk_dq rfl) (dk_dq rfl) (dk_dq rfl)) x_274 x_3 (((m_289.1 0 13 _ sM_0 (dk_dq rfl)).trans ((m_272.1 0 13 _ sM_0 (dk_dq rfl)).trans (M_267.1 0 13 _ sM_0 (dk_dq rfl)))).trans f_x_274) (((m_289.1 0 47 _ sM_0 (dk_dq rfl)).trans ((m_272.1 0 47 _ sM_0 (dk_dq rfl)).trans (M_267.1 0 47 _ sM_0 (dk_dq rfl)))).trans f_x_3)).2.2.2 h9).2⟩
                      refine dg_calli hS hA1 hA (va_runV (As := [.int x_291]) (rest := [.int 8, .int 0, .ref (o + 0), .int x_266]) F (c_m_draw l g D o S_289 x_291 (by omega) w_289_2 I_289 H.size) (cwV 1 hts (bw_V wB_1272 wB_1273 wB_1274 wB_297 wB_1271) rfl rfl rfl (by decide +kernel) ⟨Nat.le_of_ble_eq_true rfl, Nat.le_of_ble_eq_true rfl⟩) (dg_preV sM_0 rfl K ST hP hS hA1 hA) rfl rfl hl.1 rfl (lv_room (Nat.le_of_ble_eq_true rfl)) dX12_chance_78 ⟨Nat.le_of_ble_eq_true rfl, Nat.le_of_ble_eq_true rfl⟩) (fun x_292 S_293 hw_293 H locs hP hS => ?_)
                      obtain ⟨I_293, m_293, w_293_0, w_293_1, w_293_2, w_293_3, -⟩ := hw_293
                      have M_293 := dg_sm.tr M_289 m_293 (dk_dq rfl) (dk_dq rfl)
                      have w_293_0 : 0 ≤ (x_292).toInt ∧ (x_292).toInt ≤ 99 := w_293_0
                      have w_293_1 : (x_292).toInt < (x_291).toInt := w_293_1
                      refine lv_imul hx hb dX12_chance_81 ?_
                      refine lv_topi (fun x_294 ex_294 => ?_)
                      have jx_294 : (x_294).toInt = 8 * (x_292).toInt := by rw [ex_294]; exact dk_mulT2 (by decide +kernel) rfl (by omega)
                      refine lv_iload hx hb dX12_chance_82 (lv_at hl 0 rfl) ?_
                      refine lv_iadd hx hb dX12_chance_84 ?_
                      refine lv_topi (fun x_295 ex_295 => ?_)
                      have jx_295 : (x_295).toInt = (x_294).toInt + (x_288).toInt := by rw [ex_295]; exact dk_addT2 rfl rfl (by omega)
                      have hz_296 : (0 : Int32).toInt = 0 := by decide +kernel
                      as_aux_lemma =>
                        refine dg_calli hS hA1 hA (va_runV (As := [.int 0, .int x_295]) (rest := [.int x_266]) F (c_m_isSolidBy l g D o S_293 0 (by decide +kernel) x_295 (by omega) I_293 H.size) (cwV 2 hts (bw_V wB_1264 wB_1265 wB_1266 wB_297 wB_1263) rfl rfl rfl (by decide +kernel) ⟨Nat.le_of_ble_eq_true rfl, Nat.le_of_ble_eq_true rfl⟩) (dg_preV sM_0 rfl K ST hP hS hA1 hA) rfl rfl hl.1 rfl (lv_room (Nat.le_of_ble_eq_true rfl)) dX12_chance_85 ⟨Nat.le_of_ble_eq_true rfl, Nat.le_of_ble_eq_true rfl⟩) (fun x_297 S_298 hw_298 H locs hP hS => ?_)
                        obtain ⟨I_298, m_298, w_298_0, w_298_1, -⟩ := hw_298
                        have M_298 := dg_sm.tr M_293 m_298 (dk_dq rfl) (dk_dq rfl)
                        have w_298_0 : 0 ≤ (x_297).toInt ∧ (x_297).toInt ≤ 1 := w_298_0
                        have hF_2 : (F_m_chance_B1 a1 o S) (x_265, x_266, rw_267_0, S_267) = F_m_chance_J2 x_297 o S_298 x_265 x_266 := (F_m_chance_p4 c_269 w_272_3.1 w_272_3.2 (zI_eq f_x_274) (Eq.symm ex_276.symm) c_277 (Eq.symm ex_287.symm) w_289_3.1 w_289_3.2 (Eq.symm ex_291.symm) w_293_3.1 w_293_3.2 ex_294 ex_295 w_298_1.1 w_298_1.2)
                        refine lv_if_eq (tgt := 95) hx hb dX12_chance_88 (dk_dq rfl) (fun c_299 => ?_) (fun c_299 => ?_)
                        · as_aux_lemma =>
                            have jc_299 := dk_eqc (k := 0) (by decide +kernel) c_299
                            refine lv_iconst (v := 0) hx hb dX12_chance_95 (by decide +kernel) ?_
                            have hf_299 := dk_full x_266
                            refine lv_iadd hx hb dX12_chance_96 ?_
                            refine dk_top (y := x_266) (by simp) ?_
                            refine lv_istore_n (lv' := [(2, .int x_266), (4, .int x_288), (3, .int x_265), (0, .ref (o + 0)), (1, .int a1)]) hx hb dX12_chance_97 rfl hl (dk_dq rfl) rfl (fun ls hl => ?_)
                            refine lv_aload_n hx hb dX12_chance_98 rfl (lv_at hl 3 rfl) ?_
                            refine lv_iconst (v := 0) hx hb dX12_chance_99 (by decide +kernel) ?_
                            have hz_301 : (0 : Int32).toInt = 0 := by decide +kernel
                            refine dg_calli hS hA1 hA (va_runV (As := [.int 0]) (rest := []) F (c_m_ticks l g D o S_298 0 (by decide +kernel) rw_267_0 ((congrFun ((m_298.2 29 _ sM_29 (dk_dq rfl)).1.trans ((m_293.2 29 _ sM_29 (dk_dq rfl)).1.trans ((m_289.2 29 _ sM_29 (dk_dq rfl)).1.trans (m_272.2 29 _ sM_29 (dk_dq rfl)).1))) _).trans frw_267_0) (by omega) (by omega) (ZBM.keep (ZBM.keep (ZBM.keep (ZBM.keep (ZBM.keep ZB M_267 (dk_dq rfl) (dk_dq rfl) (dk_dq rfl) (dk_dq rfl) (dk_dq rfl)) m_272 (dk_dq rfl) (dk_dq rfl) (dk_dq rfl) (dk_dq rfl) (dk_dq rfl)) m_289 (dk_dq rfl) (dk_dq rfl) (dk_dq rfl) (dk_dq rfl) (dk_dq rfl)) m_293 (dk_dq rfl) (dk_dq rfl) (dk_dq rfl) (dk_dq rfl) (dk_dq rfl)) m_298 (dk_dq rfl) (dk_dq rfl) (dk_dq rfl) (dk_dq rfl) (dk_dq rfl)) (ZSM.keep (ZSM.keep (ZSM.keep (ZSM.keep ZS_267 m_272 (dk_dq rfl)) m_289 (dk_dq rfl)) m_293 (dk_dq rfl)) m_298 (dk_dq rfl)) (ZWM.keep (ZWM.keep (ZWM.keep (ZWM.keep (ZWM.keep ZW M_267 (dk_dq rfl) (dk_dq rfl) (dk_dq rfl) (dk_dq rfl)) m_272 (dk_dq rfl) (dk_dq rfl) (dk_dq rfl) (dk_dq rfl)) m_289 (dk_dq rfl) (dk_dq rfl) (dk_dq rfl) (dk_dq rfl)) m_293 (dk_dq rfl) (dk_dq rfl) (dk_dq rfl) (dk_dq rfl)) m_298 (dk_dq rfl) (dk_dq rfl) (dk_dq rfl) (dk_dq rfl)) I_298 H.size) (cwV 1 hts (bw_V wB_1231 wB_1232 wB_1233 wB_297 wB_1230) rfl rfl rfl (by decide +kernel) ⟨Nat.le_of_ble_eq_true rfl, Nat.le_of_ble_eq_true rfl⟩) (dg_preV sM_0 rfl K ST hP hS hA1 hA) rfl rfl hl.1 rfl (lv_room (Nat.le_of_ble_eq_true rfl)) dX12_chance_100 ⟨Nat.le_of_ble_eq_true rfl, Nat.le_of_ble_eq_true rfl⟩) (fun x_302 S_303 hw_303 H locs hP hS => ?_)
                            obtain ⟨I_303, m_303, w_303_0, w_303_1, w_303_2, w_303_3, -⟩ := hw_303
                            have M_303 := dg_sm.tr M_298 m_303 (dk_dq rfl) (dk_dq rfl)
                            have hz_304 : (0 : Int32).toInt = 0 := by decide +kernel
                            have w_303_0 : 0 ≤ (x_302).toInt ∧ (x_302).toInt ≤ 1 := w_303_0
                            obtain ⟨x_305, f_x_305⟩ : ∃ x, S_303.2.1 29 (0 : Int32).toNatClampNeg = x := ⟨_, rfl⟩
                            have hin_306 : vp_in (0 : Int32) 22 := (dk_in (by decide +kernel))
                            have b_x_305 := dk_all_at (dg_I.row (lo := 0) (hi := 2000) I_303 sM_29 (by decide +kernel)) hin_306 f_x_305.symm
                            have ex_305 := f_x_305.symm
                            have hz_307 : (0 : Int32).toInt = 0 := by decide +kernel
                            have zs_x_305 : (0 : Int32).toInt ≠ 1 → (x_305).toInt ≤ 999 := fun h => by rw [ex_305]; exact w_303_2 _ (dk_inT hin_306).2 (fun q => by have h9 := (dk_inT hin_306).1; omega)
                            have w_303_1 : (x_305).toInt = (rw_267_0).toInt + 1 := w_303_1 x_305 f_x_305
                            refine lv_pop hx hb dX12_chance_103 rfl ?_
                            obtain ⟨x_308, ex_308⟩ : ∃ z, z = x_265 + 1 := ⟨_, rfl⟩
                            have jx_308 : (x_308).toInt = (x_265).toInt + 1 := by rw [ex_308]; exact dk_addT2 rfl (by decide +kernel) (by omega)
                            refine lv_iinc (v := x_308) (lv' := [(3, .int x_308), (2, .int x_266), (4, .int x_288), (0, .ref (o + 0)), (1, .int a1)]) hx hb dX12_chance_104 hl (k := 2) rfl (by rw [ex_308]; rfl) (dk_dq rfl) rfl (fun ls hl => ?_)
                            refine lv_goto (tgt := 25) hx hb dX12_chance_107 (dk_dq rfl) ?_
                            exact ih x_308 x_266 (by omega) (by first | exact mu_lt hmu (by omega) (by omega) | omega) S_303 I_303 M_303 x_305 f_x_305 (by omega) w_303_2 (ZDM.keep (ZDM.keep w_293_2 m_298 (dk_dq rfl)) m_303 (dk_dq rfl)) (by omega) (((m_303.2 28 _ sM_28 (dk_dq rfl)).1.trans ((m_298.2 28 _ sM_28 (dk_dq rfl)).1.trans ((m_293.2 28 _ sM_28 (dk_dq rfl)).1.trans ((m_289.2 28 _ sM_28 (dk_dq rfl)).1.trans (m_272.2 28 _ sM_28 (dk_dq rfl)).1)))).trans srel_267_1) (lp_l hF_1 (Eq.trans hF_2 (F_m_chance_p2 c_299 w_303_3.1 (Eq.symm f_x_305) ex_308))) _ _ hP hS _ (lv_sub hl [0, 1, 3, 4] rfl)
                        · as_aux_lemma =>
                            have jc_299 := dk_neqc (k := 0) (by decide +kernel) c_299
                            refine lv_iconst (v := 1) hx hb dX12_chance_91 (by decide +kernel) ?_
                            refine lv_goto (tgt := 96) hx hb dX12_chance_92 (dk_dq rfl) ?_
                            refine lv_iadd hx hb dX12_chance_96 ?_
                            refine lv_topi (fun x_309 ex_309 => ?_)
                            refine lv_istore_n (lv' := [(2, .int x_309), (4, .int x_288), (3, .int x_265), (0, .ref (o + 0)), (1, .int a1)]) hx hb dX12_chance_97 rfl hl (dk_dq rfl) rfl (fun ls hl => ?_)
                            refine lv_aload_n hx hb dX12_chance_98 rfl (lv_at hl 3 rfl) ?_
                            refine lv_iconst (v := 0) hx hb dX12_chance_99 (by decide +kernel) ?_
                            have hz_310 : (0 : Int32).toInt = 0 := by decide +kernel
                            refine dg_calli hS hA1 hA (va_runV (As := [.int 0]) (rest := []) F (c_m_ticks l g D o S_298 0 (by decide +kernel) rw_267_0 ((congrFun ((m_298.2 29 _ sM_29 (dk_dq rfl)).1.trans ((m_293.2 29 _ sM_29 (dk_dq rfl)).1.trans ((m_289.2 29 _ sM_29 (dk_dq rfl)).1.trans (m_272.2 29 _ sM_29 (dk_dq rfl)).1))) _).trans frw_267_0) (by omega) (by omega) (ZBM.keep (ZBM.keep (ZBM.keep (ZBM.keep (ZBM.keep ZB M_267 (dk_dq rfl) (dk_dq rfl) (dk_dq rfl) (dk_dq rfl) (dk_dq rfl)) m_272 (dk_dq rfl) (dk_dq rfl) (dk_dq rfl) (dk_dq rfl) (dk_dq rfl)) m_289 (dk_dq rfl) (dk_dq rfl) (dk_dq rfl) (dk_dq rfl) (dk_dq rfl)) m_293 (dk_dq rfl) (dk_dq rfl) (dk_dq rfl) (dk_dq rfl) (dk_dq rfl)) m_298 (dk_dq rfl) (dk_dq rfl) (dk_dq rfl) (dk_dq rfl) (dk_dq rfl)) (ZSM.keep (ZSM.keep (ZSM.keep (ZSM.keep ZS_267 m_272 (dk_dq rfl)) m_289 (dk_dq rfl)) m_293 (dk_dq rfl)) m_298 (dk_dq rfl)) (ZWM.keep (ZWM.keep (ZWM.keep (ZWM.keep (ZWM.keep ZW M_267 (dk_dq rfl) (dk_dq rfl) (dk_dq rfl) (dk_dq rfl)) m_272 (dk_dq rfl) (dk_dq rfl) (dk_dq rfl) (dk_dq rfl)) m_289 (dk_dq rfl) (dk_dq rfl) (dk_dq rfl) (dk_dq rfl)) m_293 (dk_dq rfl) (dk_dq rfl) (dk_dq rfl) (dk_dq rfl)) m_298 (dk_dq rfl) (dk_dq rfl) (dk_dq rfl) (dk_dq rfl)) I_298 H.size) (cwV 1 hts (bw_V wB_1231 wB_1232 wB_1233 wB_297 wB_1230) rfl rfl rfl (by decide +kernel) ⟨Nat.le_of_ble_eq_true rfl, Nat.le_of_ble_eq_true rfl⟩) (dg_preV sM_0 rfl K ST hP hS hA1 hA) rfl rfl hl.1 rfl (lv_room (Nat.le_of_ble_eq_true rfl)) dX12_chance_100 ⟨Nat.le_of_ble_eq_true rfl, Nat.le_of_ble_eq_true rfl⟩) (fun x_311 S_312 hw_312 H locs hP hS => ?_)
                            obtain ⟨I_312, m_312, w_312_0, w_312_1, w_312_2, w_312_3, -⟩ := hw_312
                            have M_312 := dg_sm.tr M_298 m_312 (dk_dq rfl) (dk_dq rfl)
                            have hz_313 : (0 : Int32).toInt = 0 := by decide +kernel
                            have w_312_0 : 0 ≤ (x_311).toInt ∧ (x_311).toInt ≤ 1 := w_312_0
                            obtain ⟨x_314, f_x_314⟩ : ∃ x, S_312.2.1 29 (0 : Int32).toNatClampNeg = x := ⟨_, rfl⟩
                            have hin_315 : vp_in (0 : Int32) 22 := (dk_in (by decide +kernel))
                            have b_x_314 := dk_all_at (dg_I.row (lo := 0) (hi := 2000) I_312 sM_29 (by decide +kernel)) hin_315 f_x_314.symm
                            have ex_314 := f_x_314.symm
                            have hz_316 : (0 : Int32).toInt = 0 := by decide +kernel
                            have zs_x_314 : (0 : Int32).toInt ≠ 1 → (x_314).toInt ≤ 999 := fun h => by rw [ex_314]; exact w_312_2 _ (dk_inT hin_315).2 (fun q => by have h9 := (dk_inT hin_315).1; omega)
                            have w_312_1 : (x_314).toInt = (rw_267_0).toInt + 1 := w_312_1 x_314 f_x_314
                            refine lv_pop hx hb dX12_chance_103 rfl ?_
                            obtain ⟨x_317, ex_317⟩ : ∃ z, z = x_265 + 1 := ⟨_, rfl⟩
                            have jx_317 : (x_317).toInt = (x_265).toInt + 1 := by rw [ex_317]; exact dk_addT2 rfl (by decide +kernel) (by omega)
                            refine lv_iinc (v := x_317) (lv' := [(3, .int x_317), (2, .int x_309), (4, .int x_288), (0, .ref (o + 0)), (1, .int a1)]) hx hb dX12_chance_104 hl (k := 2) rfl (by rw [ex_317]; rfl) (dk_dq rfl) rfl (fun ls hl => ?_)
                            refine lv_goto (tgt := 25) hx hb dX12_chance_107 (dk_dq rfl) ?_
                            exact ih x_317 x_309 (by omega) (by first | exact mu_lt hmu (by omega) (by omega) | omega) S_312 I_312 M_312 x_314 f_x_314 (by omega) w_312_2 (ZDM.keep (ZDM.keep w_293_2 m_298 (dk_dq rfl)) m_312 (dk_dq rfl)) (by omega) (((m_312.2 28 _ sM_28 (dk_dq rfl)).1.trans ((m_298.2 28 _ sM_28 (dk_dq rfl)).1.trans ((m_293.2 28 _ sM_28 (dk_dq rfl)).1.trans ((m_289.2 28 _ sM_28 (dk_dq rfl)).1.trans (m_272.2 28 _ sM_28 (dk_dq rfl)).1)))).trans srel_267_1) (lp_l hF_1 (Eq.trans hF_2 (F_m_chance_p3 c_299 ex_309 w_312_3.1 (Eq.symm f_x_314) ex_317))) _ _ hP hS _ (lv_sub hl [0, 1, 3, 4] rfl)
      have hz_318 : (0 : Int32).toInt = 0 := by decide +kernel
      have hz_319 : (0 : Int32).toInt = 0 := by decide +kernel
      have hz_320 : (0 : Int32).toInt = 0 := by decide +kernel
      exact L_268 ((41 - ((0 : Int32)).toInt).toNat + 1) 0 0 (by decide +kernel) (by first | exact mu_lt hmu (by omega) (by omega) | omega) S_12 I_12 M_12 x_13 f_x_13 (by omega) w_12_1 (ZDM.keep ZD m_12 (dk_dq rfl)) (by omega) (m_12.2 28 _ sM_28 (dk_dq rfl)).1 (F_m_chance_p5 w_8_2 c_11 w_12_2 (Eq.symm f_x_13)) _ _ hP hS _ (lv_sub hl [0, 1, 2, 3] rfl)
  · have jc_11 := dk_eqc (k := 0) (by decide +kernel) c_11
    refine lv_aload_n hx hb dX12_chance_11 rfl (lv_at hl 0 rfl) ?_
    refine lv_iconst (v := 2) hx hb dX12_chance_12 (by decide +kernel) ?_
    have hz_321 : (2 : Int32).toInt = 2 := by decide +kernel
    refine dg_calli hS hA1 hA (va_runV (As := [.int 2]) (rest := []) F (c_m_refuses l g D o S 2 (by decide +kernel) I H.size) (cwV 1 hts (bw_V wB_1079 wB_1080 wB_1081 wB_297 wB_1078) rfl rfl rfl (by decide +kernel) ⟨Nat.le_of_ble_eq_true rfl, Nat.le_of_ble_eq_true rfl⟩) (dg_preV sM_0 rfl K ST hP hS hA1 hA) rfl rfl hl.1 rfl (lv_room (Nat.le_of_ble_eq_true rfl)) dX12_chance_13 ⟨Nat.le_of_ble_eq_true rfl, Nat.le_of_ble_eq_true rfl⟩) (fun x_322 S_323 hw_323 H locs hP hS => ?_)
    obtain ⟨I_323, m_323, w_323_0, w_323_1, -⟩ := hw_323
    have M_323 := dg_sm.tr M_0 m_323 (dk_dq rfl) (dk_dq rfl)
    have w_323_0 : (-1) ≤ (x_322).toInt ∧ (x_322).toInt ≤ (-1) := w_323_0
    refine W.widen (k := 0) (n := 0) (Nat.le_of_ble_eq_true rfl) (Nat.le_of_ble_eq_true rfl) ?_
    exact dg_iret hx hb hr hlocks rfl hP hS ⟨I_323, M_323, (m_hid.mk (Or.inl ⟨w_323_1.1, by first | omega | decide +kernel⟩)), (ZSM.keep ZS m_323 (dk_dq rfl)), (ZDM.keep ZD m_323 (dk_dq rfl)), ⟨congrArg Prod.fst (Eq.symm (F_m_chance_p6 w_8_2 c_11 w_323_1.1 w_323_1.2)), congrArg Prod.snd (Eq.symm (F_m_chance_p6 w_8_2 c_11 w_323_1.1 w_323_1.2))⟩, trivial⟩ dX12_chance_16
noncomputable def F_m_reachBits_J3 (x_1285 : Int32) (x_1958 : Int32) (x_1284 : Int32) (S_1951 : dg_S) : (Int32 × Int32 × dg_S) ⊕ (dg_S × Int32) := let x_1962 : Int32 := x_1285 ||| x_1958; let x_1963 : Int32 := x_1284 + 1; (Sum.inl (x_1963, x_1962, S_1951))
noncomputable def F_m_reachBits_J2 (S : dg_S) (x_1941 : Int32) (x_1284 : Int32) (x_1285 : Int32) (S_1951 : dg_S) : (Int32 × Int32 × dg_S) ⊕ (dg_S × Int32) := let x_1953 : Int32 := zI S 0 69; (if x_1941 = x_1953 then let x_1967 : Int32 := (1 : Int32) <<< (x_1284 &&& 31); (F_m_reachBits_J3 x_1285 x_1967 x_1284 S_1951) else (F_m_reachBits_J3 x_1285 (0 : Int32) x_1284 S_1951))
noncomputable def F_m_reachBits_J6 (o : Nat) (S_2602 : dg_S) (x_2386 : Int32) (x_2724 : Int32) : (Int32 × Int32 × Int32 × dg_S) ⊕ ((Int32 × Int32 × dg_S) ⊕ (dg_S × Int32)) := let S_2736 : dg_S := (F_m_ticks o S_2602 (1 : Int32)).1; let x_2735 : Int32 := (F_m_ticks o S_2602 (1 : Int32)).2; let x_2738 : Int32 := S_2736.2.1 29 (1 : Int32).toNatClampNeg; let x_2741 : Int32 := x_2386 + 1; (Sum.inl (x_2741, x_2724, x_2738, S_2736))
noncomputable def F_m_reachBits_J8 (x_2847 : Int32) (x_2865 : Int32) (x_2846 : Int32) : (Int32 × Int32) ⊕ ((Int32 × Int32 × Int32 × dg_S) ⊕ ((Int32 × Int32 × dg_S) ⊕ (dg_S × Int32))) := let x_2869 : Int32 := x_2847 + x_2865; let x_2870 : Int32 := x_2846 + 1; (Sum.inl (x_2870, x_2869))
noncomputable def F_m_reachBits_J9 (x_2847 : Int32) (x_2846 : Int32) : (Int32 × Int32) ⊕ ((Int32 × Int32 × Int32 × dg_S) ⊕ ((Int32 × Int32 × dg_S) ⊕ (dg_S × Int32))) := (F_m_reachBits_J8 x_2847 (0 : Int32) x_2846)
noncomputable def F_m_reachBits_B7 (S : dg_S) (o : Nat) (S_2602 : dg_S) (x_2386 : Int32) : (Int32 × Int32) → (Int32 × Int32) ⊕ ((Int32 × Int32 × Int32 × dg_S) ⊕ ((Int32 × Int32 × dg_S) ⊕ (dg_S × Int32))) := fun w9 => match w9 with | (x_2846, x_2847) => let x_2849 : Int32 := zI S 0 69; (if x_2849 ≤ x_2846 then (Sum.inr ((F_m_reachBits_J6 o S_2602 x_2386 x_2847))) else let x_2853 : Int32 := S_2602.2.1 45 (x_2846 : Int32).toNatClampNeg; (if x_2853 = x_2386 then let x_2875 : Int32 := S_2602.2.1 46 (x_2846 : Int32).toNatClampNeg; let x_2876 : Int32 := (64 : Int32) + x_2875; let x_2878 : Int32 := S_2602.2.1 31 (x_2876 : Int32).toNatClampNeg; let x_2880 : Int32 := S_2602.2.1 47 (x_2846 : Int32).toNatClampNeg; (if x_2878 = x_2880 then (F_m_reachBits_J8 x_2847 (1 : Int32) x_2846) else (F_m_reachBits_J9 x_2847 x_2846)) else (F_m_reachBits_J9 x_2847 x_2846)))
noncomputable def F_m_reachBits_J5 (S : dg_S) (o : Nat) (S_2602 : dg_S) (x_2386 : Int32) (x_2387 : Int32) : (Int32 × Int32 × Int32 × dg_S) ⊕ ((Int32 × Int32 × dg_S) ⊕ (dg_S × Int32)) := (lp (F_m_reachBits_B7 S o S_2602 x_2386) (Sum.inr (Sum.inr (S, (0 : Int32)))) ((17 - ((0 : Int32)).toInt).toNat + 1) ((0 : Int32), x_2387))
noncomputable def F_m_reachBits_B10 (S : dg_S) (o : Nat) (x_2386 : Int32) (x_2387 : Int32) (x_1284 : Int32) : (Int32 × dg_S) → (Int32 × dg_S) ⊕ ((Int32 × Int32 × Int32 × dg_S) ⊕ ((Int32 × Int32 × dg_S) ⊕ (dg_S × Int32))) := fun w9 => match w9 with | (x_2946, S_2947) => (if (64 : Int32) ≤ x_2946 then (Sum.inr ((F_m_reachBits_J5 S o S_2947 x_2386 x_2387))) else let x_2951 : Int32 := (31 : Int32) * x_1284; let x_2952 : Int32 := x_2951 + x_2386; let x_2953 : Int32 := (64 : Int32) * x_2952; let x_2954 : Int32 := x_2953 + x_2946; let x_2955 : Int32 := (64 : Int32) + x_2946; let x_2957 : Int32 := S_2947.2.1 31 (x_2955 : Int32).toNatClampNeg; let S_2959 : dg_S := dg_uf S_2947 48 (upd (S_2947.2.1 48) (x_2954 : Int32).toNatClampNeg x_2957); let x_2960 : Int32 := x_2946 + 1; (Sum.inl (x_2960, S_2959)))
noncomputable def F_m_reachBits_B4 (S : dg_S) (o : Nat) (x_1284 : Int32) (x_1285 : Int32) : (Int32 × Int32 × Int32 × dg_S) → (Int32 × Int32 × Int32 × dg_S) ⊕ ((Int32 × Int32 × dg_S) ⊕ (dg_S × Int32)) := fun w9 => match w9 with | (x_2386, x_2387, rw_2388_0, S_2388) => let x_2392 : Int32 := zI S 0 47; let x_2393 : Int32 := S_2388.2.1 29 (0 : Int32).toNatClampNeg; let x_2396 : Int32 := F_m_isAhead o S_2388 x_2386 (0 : Int32) (30 : Int32); (if x_2396 = (0 : Int32) then (Sum.inr ((F_m_reachBits_J2 S x_2387 x_1284 x_1285 S_2388))) else (lp (F_m_reachBits_B10 S o x_2386 x_2387 x_1284) (Sum.inr (Sum.inr (S, (0 : Int32)))) ((65 - ((0 : Int32)).toInt).toNat + 1) ((0 : Int32), S_2388)))
noncomputable def F_m_reachBits_B1 (S : dg_S) (o : Nat) : (Int32 × Int32 × dg_S) → (Int32 × Int32 × dg_S) ⊕ (dg_S × Int32) := fun w9 => match w9 with | (x_1284, x_1285, S_1286) => (if (20 : Int32) < x_1284 then (Sum.inr (let x_1289 : Int32 := zI S 0 13; let x_1291 : Int32 := S_1286.2.1 5 (x_1289 : Int32).toNatClampNeg; let S_1292 : dg_S := dg_uF S_1286 0 63 (.int x_1291); (S_1292, x_1285))) else let x_1295 : Int32 := S_1286.2.1 29 (0 : Int32).toNatClampNeg; let S_1298 : dg_S := F_m_copies o S_1286 (1 : Int32) (0 : Int32); let x_1304 : Int32 := S_1298.2.1 29 (0 : Int32).toNatClampNeg; let x_1301 : Int32 := S_1298.2.1 29 (1 : Int32).toNatClampNeg; let S_1307 : dg_S := dg_uF S_1298 0 63 (.int x_1284); (lp (F_m_reachBits_B4 S o x_1284 x_1285) (Sum.inr (S, (0 : Int32))) ((32 - ((0 : Int32)).toInt).toNat + 1) ((0 : Int32), (0 : Int32), x_1301, S_1307)))
noncomputable def F_m_reachBits (o : Nat) (S : dg_S) : dg_S × Int32 := (lp (F_m_reachBits_B1 S o) (S, (0 : Int32)) ((22 - ((0 : Int32)).toInt).toNat + 1) ((0 : Int32), (0 : Int32), S))
theorem F_m_reachBits_p0 {S : dg_S} {o : Nat} {x_1284 : Int32} {x_1285 : Int32} {S_1286 : dg_S} {S_1292 : dg_S} {x_1289 : Int32} {x_1291 : Int32} (h0 : (20 : Int32) < x_1284) (h2 : x_1289 = zI S 0 13) (h3 : x_1291 = S_1286.2.1 5 (x_1289 : Int32).toNatClampNeg) (h4 : S_1292 = dg_uF S_1286 0 63 (.int x_1291)) : (F_m_reachBits_B1 S o) (x_1284, x_1285, S_1286) = Sum.inr ((S_1292, x_1285)) := by
  replace h2 := Eq.symm h2
  subst h2
  replace h3 := Eq.symm h3
  subst h3
  replace h4 := Eq.symm h4
  subst h4
  exact (Eq.trans (if_pos h0) rfl)
theorem F_m_reachBits_p1 {x_1285 : Int32} {x_1958 : Int32} {x_1284 : Int32} {S_1951 : dg_S} {x_1963 : Int32} {x_1962 : Int32} (h0 : x_1962 = x_1285 ||| x_1958) (h1 : x_1963 = x_1284 + 1) : F_m_reachBits_J3 x_1285 x_1958 x_1284 S_1951 = Sum.inl (x_1963, x_1962, S_1951) := by
  replace h0 := Eq.symm h0
  subst h0
  replace h1 := Eq.symm h1
  subst h1
  exact rfl
theorem F_m_reachBits_p2 {S : dg_S} {x_1941 : Int32} {x_1284 : Int32} {x_1285 : Int32} {S_1951 : dg_S} {x_1953 : Int32} (h0 : x_1953 = zI S 0 69) (h1 : ¬ (x_1941 = x_1953)) : F_m_reachBits_J2 S x_1941 x_1284 x_1285 S_1951 = F_m_reachBits_J3 x_1285 (0 : Int32) x_1284 S_1951 := by
  replace h0 := Eq.symm h0
  subst h0
  exact (Eq.trans (if_neg h1) rfl)
theorem F_m_reachBits_p3 {S : dg_S} {x_1941 : Int32} {x_1284 : Int32} {x_1285 : Int32} {S_1951 : dg_S} {x_1967 : Int32} {x_1953 : Int32} (h0 : x_1953 = zI S 0 69) (h1 : x_1941 = x_1953) (h2 : x_1967 = (1 : Int32) <<< (x_1284 &&& 31)) : F_m_reachBits_J2 S x_1941 x_1284 x_1285 S_1951 = F_m_reachBits_J3 x_1285 x_1967 x_1284 S_1951 := by
  replace h0 := Eq.symm h0
  subst h0
  replace h2 := Eq.symm h2
  subst h2
  exact (Eq.trans (if_pos h1) rfl)
theorem F_m_reachBits_p4 {S : dg_S} {o : Nat} {x_1284 : Int32} {x_1285 : Int32} {x_2386 : Int32} {x_2387 : Int32} {rw_2388_0 : Int32} {S_2388 : dg_S} {x_2396 : Int32} (h0 : x_2396 = F_m_isAhead o S_2388 x_2386 (0 : Int32) (30 : Int32)) (h1 : x_2396 = (0 : Int32)) : (F_m_reachBits_B4 S o x_1284 x_1285) (x_2386, x_2387, rw_2388_0, S_2388) = Sum.inr (F_m_reachBits_J2 S x_2387 x_1284 x_1285 S_2388) := by
  replace h0 := Eq.symm h0
  subst h0
  exact (Eq.trans (if_pos h1) rfl)
theorem F_m_reachBits_p5 {o : Nat} {S_2602 : dg_S} {x_2386 : Int32} {x_2724 : Int32} {x_2741 : Int32} {x_2738 : Int32} {S_2736 : dg_S} (h0 : S_2736 = (F_m_ticks o S_2602 (1 : Int32)).1) (h1 : x_2738 = S_2736.2.1 29 (1 : Int32).toNatClampNeg) (h2 : x_2741 = x_2386 + 1) : F_m_reachBits_J6 o S_2602 x_2386 x_2724 = Sum.inl (x_2741, x_2724, x_2738, S_2736) := by
  replace h0 := Eq.symm h0
  subst h0
  replace h1 := Eq.symm h1
  subst h1
  replace h2 := Eq.symm h2
  subst h2
  exact rfl
theorem F_m_reachBits_p6 {S : dg_S} {o : Nat} {S_2602 : dg_S} {x_2386 : Int32} {x_2846 : Int32} {x_2847 : Int32} {x_2849 : Int32} (h0 : x_2849 = zI S 0 69) (h1 : x_2849 ≤ x_2846) : (F_m_reachBits_B7 S o S_2602 x_2386) (x_2846, x_2847) = Sum.inr (F_m_reachBits_J6 o S_2602 x_2386 x_2847) := by
  replace h0 := Eq.symm h0
  subst h0
  exact (Eq.trans (if_pos h1) rfl)
theorem F_m_reachBits_p7 {x_2847 : Int32} {x_2865 : Int32} {x_2846 : Int32} {x_2870 : Int32} {x_2869 : Int32} (h0 : x_2869 = x_2847 + x_2865) (h1 : x_2870 = x_2846 + 1) : F_m_reachBits_J8 x_2847 x_2865 x_2846 = Sum.inl (x_2870, x_2869) := by
  replace h0 := Eq.symm h0
  subst h0
  replace h1 := Eq.symm h1
  subst h1
  exact rfl
theorem F_m_reachBits_p8 {x_2847 : Int32} {x_2846 : Int32}  : F_m_reachBits_J9 x_2847 x_2846 = F_m_reachBits_J8 x_2847 (0 : Int32) x_2846 := rfl
theorem F_m_reachBits_p9 {S : dg_S} {o : Nat} {S_2602 : dg_S} {x_2386 : Int32} {x_2846 : Int32} {x_2847 : Int32} {x_2849 : Int32} {x_2853 : Int32} (h0 : x_2849 = zI S 0 69) (h1 : ¬ (x_2849 ≤ x_2846)) (h2 : x_2853 = S_2602.2.1 45 (x_2846 : Int32).toNatClampNeg) (h3 : ¬ (x_2853 = x_2386)) : (F_m_reachBits_B7 S o S_2602 x_2386) (x_2846, x_2847) = F_m_reachBits_J9 x_2847 x_2846 := by
  replace h0 := Eq.symm h0
  subst h0
  replace h2 := Eq.symm h2
  subst h2
  exact (Eq.trans (if_neg h1) (Eq.trans (if_neg h3) rfl))
theorem F_m_reachBits_p10 {S : dg_S} {o : Nat} {S_2602 : dg_S} {x_2386 : Int32} {x_2846 : Int32} {x_2847 : Int32} {x_2849 : Int32} {x_2853 : Int32} {x_2875 : Int32} {x_2876 : Int32} {x_2878 : Int32} {x_2880 : Int32} (h0 : x_2849 = zI S 0 69) (h1 : ¬ (x_2849 ≤ x_2846)) (h2 : x_2853 = S_2602.2.1 45 (x_2846 : Int32).toNatClampNeg) (h3 : x_2853 = x_2386) (h4 : x_2875 = S_2602.2.1 46 (x_2846 : Int32).toNatClampNeg) (h5 : x_2876 = (64 : Int32) + x_2875) (h6 : x_2878 = S_2602.2.1 31 (x_2876 : Int32).toNatClampNeg) (h7 : x_2880 = S_2602.2.1 47 (x_2846 : Int32).toNatClampNeg) (h8 : ¬ (x_2878 = x_2880)) : (F_m_reachBits_B7 S o S_2602 x_2386) (x_2846, x_2847) = F_m_reachBits_J9 x_2847 x_2846 := by
  replace h0 := Eq.symm h0
  subst h0
  replace h2 := Eq.symm h2
  subst h2
  replace h4 := Eq.symm h4
  subst h4
  replace h5 := Eq.symm h5
  subst h5
  replace h6 := Eq.symm h6
  subst h6
  replace h7 := Eq.symm h7
  subst h7
  exact (Eq.trans (if_neg h1) (Eq.trans (if_pos h3) (Eq.trans (if_neg h8) rfl)))
theorem F_m_reachBits_p11 {S : dg_S} {o : Nat} {S_2602 : dg_S} {x_2386 : Int32} {x_2846 : Int32} {x_2847 : Int32} {x_2849 : Int32} {x_2853 : Int32} {x_2875 : Int32} {x_2876 : Int32} {x_2878 : Int32} {x_2880 : Int32} (h0 : x_2849 = zI S 0 69) (h1 : ¬ (x_2849 ≤ x_2846)) (h2 : x_2853 = S_2602.2.1 45 (x_2846 : Int32).toNatClampNeg) (h3 : x_2853 = x_2386) (h4 : x_2875 = S_2602.2.1 46 (x_2846 : Int32).toNatClampNeg) (h5 : x_2876 = (64 : Int32) + x_2875) (h6 : x_2878 = S_2602.2.1 31 (x_2876 : Int32).toNatClampNeg) (h7 : x_2880 = S_2602.2.1 47 (x_2846 : Int32).toNatClampNeg) (h8 : x_2878 = x_2880) : (F_m_reachBits_B7 S o S_2602 x_2386) (x_2846, x_2847) = F_m_reachBits_J8 x_2847 (1 : Int32) x_2846 := by
  replace h0 := Eq.symm h0
  subst h0
  replace h2 := Eq.symm h2
  subst h2
  replace h4 := Eq.symm h4
  subst h4
  replace h5 := Eq.symm h5
  subst h5
  replace h6 := Eq.symm h6
  subst h6
  replace h7 := Eq.symm h7
  subst h7
  exact (Eq.trans (if_neg h1) (Eq.trans (if_pos h3) (Eq.trans (if_pos h8) rfl)))
theorem F_m_reachBits_p12 {S : dg_S} {o : Nat} {S_2602 : dg_S} {x_2386 : Int32} {x_2387 : Int32}  : F_m_reachBits_J5 S o S_2602 x_2386 x_2387 = lp (F_m_reachBits_B7 S o S_2602 x_2386) (Sum.inr (Sum.inr (S, (0 : Int32)))) ((17 - ((0 : Int32)).toInt).toNat + 1) ((0 : Int32), x_2387) := rfl
theorem F_m_reachBits_p13 {S : dg_S} {o : Nat} {x_2386 : Int32} {x_2387 : Int32} {x_1284 : Int32} {x_2946 : Int32} {S_2947 : dg_S} (h0 : (64 : Int32) ≤ x_2946) : (F_m_reachBits_B10 S o x_2386 x_2387 x_1284) (x_2946, S_2947) = Sum.inr (F_m_reachBits_J5 S o S_2947 x_2386 x_2387) := (Eq.trans (if_pos h0) rfl)
theorem F_m_reachBits_p14 {S : dg_S} {o : Nat} {x_2386 : Int32} {x_2387 : Int32} {x_1284 : Int32} {x_2946 : Int32} {S_2947 : dg_S} {x_2960 : Int32} {S_2959 : dg_S} {x_2951 : Int32} {x_2952 : Int32} {x_2953 : Int32} {x_2954 : Int32} {x_2955 : Int32} {x_2957 : Int32} (h0 : ¬ ((64 : Int32) ≤ x_2946)) (h1 : x_2951 = (31 : Int32) * x_1284) (h2 : x_2952 = x_2951 + x_2386) (h3 : x_2953 = (64 : Int32) * x_2952) (h4 : x_2954 = x_2953 + x_2946) (h5 : x_2955 = (64 : Int32) + x_2946) (h6 : x_2957 = S_2947.2.1 31 (x_2955 : Int32).toNatClampNeg) (h7 : S_2959 = dg_uf S_2947 48 (upd (S_2947.2.1 48) (x_2954 : Int32).toNatClampNeg x_2957)) (h8 : x_2960 = x_2946 + 1) : (F_m_reachBits_B10 S o x_2386 x_2387 x_1284) (x_2946, S_2947) = Sum.inl (x_2960, S_2959) := by
  replace h1 := Eq.symm h1
  subst h1
  replace h2 := Eq.symm h2
  subst h2
  replace h3 := Eq.symm h3
  subst h3
  replace h4 := Eq.symm h4
  subst h4
  replace h5 := Eq.symm h5
  subst h5
  replace h6 := Eq.symm h6
  subst h6
  replace h7 := Eq.symm h7
  subst h7
  replace h8 := Eq.symm h8
  subst h8
  exact (Eq.trans (if_neg h0) rfl)
theorem F_m_reachBits_p15 {S : dg_S} {o : Nat} {x_1284 : Int32} {x_1285 : Int32} {x_2386 : Int32} {x_2387 : Int32} {rw_2388_0 : Int32} {S_2388 : dg_S} {x_2396 : Int32} (h0 : x_2396 = F_m_isAhead o S_2388 x_2386 (0 : Int32) (30 : Int32)) (h1 : ¬ (x_2396 = (0 : Int32))) : (F_m_reachBits_B4 S o x_1284 x_1285) (x_2386, x_2387, rw_2388_0, S_2388) = lp (F_m_reachBits_B10 S o x_2386 x_2387 x_1284) (Sum.inr (Sum.inr (S, (0 : Int32)))) ((65 - ((0 : Int32)).toInt).toNat + 1) ((0 : Int32), S_2388) := by
  replace h0 := Eq.symm h0
  subst h0
  exact (Eq.trans (if_neg h1) rfl)
theorem F_m_reachBits_p16 {S : dg_S} {o : Nat} {x_1284 : Int32} {x_1285 : Int32} {S_1286 : dg_S} {x_1301 : Int32} {S_1307 : dg_S} {S_1298 : dg_S} (h0 : ¬ ((20 : Int32) < x_1284)) (h1 : S_1298 = F_m_copies o S_1286 (1 : Int32) (0 : Int32)) (h2 : x_1301 = S_1298.2.1 29 (1 : Int32).toNatClampNeg) (h3 : S_1307 = dg_uF S_1298 0 63 (.int x_1284)) : (F_m_reachBits_B1 S o) (x_1284, x_1285, S_1286) = lp (F_m_reachBits_B4 S o x_1284 x_1285) (Sum.inr (S, (0 : Int32))) ((32 - ((0 : Int32)).toInt).toNat + 1) ((0 : Int32), (0 : Int32), x_1301, S_1307) := by
  replace h1 := Eq.symm h1
  subst h1
  replace h2 := Eq.symm h2
  subst h2
  replace h3 := Eq.symm h3
  subst h3
  exact (Eq.trans (if_neg h0) rfl)
theorem F_m_reachBits_p17 {o : Nat} {S : dg_S}  : F_m_reachBits o S = lp (F_m_reachBits_B1 S o) (S, (0 : Int32)) ((22 - ((0 : Int32)).toInt).toNat + 1) ((0 : Int32), (0 : Int32), S) := rfl
set_option maxHeartbeats 8000000 in
set_option maxRecDepth 100000 in
theorem c_m_reachBits (l : Launch) (g : Nat → ClassId) (D : va_G) (o : Nat) (S : dg_S) (ZB : ZBM S) (ZS : ZSM S) (ZW : ZWM S) (I : CM o S) (sz : Nat) : Met l yX12_reachBits (bw yX12_reachBits cX12_reachBits 6 (some .int)) ({ frames := 9, cells := 0, slots := 0, locals := 217 } : Room) (dk_Pc g D (dg_w g shM o rfM S) sz [.ref (o + 0)]) (va_Qi (fun (r : Int32) S' => CM o S' ∧ dg_sm shM [(0, 63)] [29, 30, 31, 32, 33, 34, 35, 36, 37, 38, 39, 40, 41, 42, 43, 44, 48] S S' ∧ ZSM S' ∧ (S' = (F_m_reachBits o S).1 ∧ r = (F_m_reachBits o S).2) ∧ True) (dg_B g D shM o rfM) (dg_A o shM.length sz)) 0 0 (dg_A o shM.length sz) := by
  refine dg_met (cc := cX12_reachBits) (maxL := 6) (ret := (some .int)) (dk_dq rfl) rfl (Nat.le_of_ble_eq_true rfl) ?_
  intro p e s m args below meth c A hAe harg hx hb hr hml hts hown hlocks hin hP K hS hA1 hA ST hsz ls hl
  rw [← hAe]
  have F : CallFix p m c cX12_reachBits 6 s args (bw yX12_reachBits cX12_reachBits 6 (some .int)) RX12 := ⟨hx, hb, hml, hown, hts⟩
  have hl : lv_has ls 6 [(0, .ref (o + 0))] := hl
  have M_0 : dg_sm shM [(0, 63)] [29, 30, 31, 32, 33, 34, 35, 36, 37, 38, 39, 40, 41, 42, 43, 44, 48] S S := dg_sm.rf
  refine lv_iconst (v := 0) hx hb dX12_reachBits_0 (by decide +kernel) ?_
  refine lv_istore_n (lv' := [(1, .int 0), (0, .ref (o + 0))]) hx hb dX12_reachBits_1 rfl hl (dk_dq rfl) rfl (fun ls hl => ?_)
  refine lv_iconst (v := 0) hx hb dX12_reachBits_2 (by decide +kernel) ?_
  refine lv_istore_n (lv' := [(2, .int 0), (1, .int 0), (0, .ref (o + 0))]) hx hb dX12_reachBits_3 rfl hl (dk_dq rfl) rfl (fun ls hl => ?_)
  have L_1287 : ∀ (n : Nat) (x_1284 : Int32) (x_1285 : Int32), (0 ≤ (x_1284).toInt ∧ (x_1284).toInt ≤ 21) → ((22 - (x_1284).toInt).toNat < n) → ∀ S_1286 : dg_S, CM o S_1286 → dg_sm shM [(0, 63)] [29, 30, 31, 32, 33, 34, 35, 36, 37, 38, 39, 40, 41, 42, 43, 44, 48] S S_1286 → ZSM S_1286 → (F_m_reachBits o S = lp (F_m_reachBits_B1 S o) (S, (0 : Int32)) n (x_1284, x_1285, S_1286)) → ∀ (H : Heap) (locs : List Loc), va_P D vwCl (dg_w g shM o rfM S_1286) H → va_S A s.heap H locs → ∀ ls : Array Slot, lv_has ls 6 [(2, .int x_1284), (1, .int x_1285), (0, .ref (o + 0))] → W p l e ({ frames := 9, cells := 0, slots := 0, locals := 217 } : Room) s m args below meth c H locs 0 0 (MQ below (va_Qi (fun (r : Int32) S' => CM o S' ∧ dg_sm shM [(0, 63)] [29, 30, 31, 32, 33, 34, 35, 36, 37, 38, 39, 40, 41, 42, 43, 44, 48] S S' ∧ ZSM S' ∧ (S' = (F_m_reachBits o S).1 ∧ r = (F_m_reachBits o S).2) ∧ True) (dg_B g D shM o rfM) A) args s 0 0 A) (F0 m 4 ls []) := by
    as_aux_lemma =>
      intro n
      induction n with
      | zero =>
        intro x_1284 x_1285 b_x_1284 hmu S_1286 I_1286 M_1286 ZS_1286 hF_1 H locs hP hS ls hl
        omega
      | succ n ih =>
        as_aux_lemma =>
          intro x_1284 x_1285 b_x_1284 hmu S_1286 I_1286 M_1286 ZS_1286 hF_1 H locs hP hS ls hl
          refine lv_iload_n hx hb dX12_reachBits_4 rfl (lv_at hl 0 rfl) ?_
          refine lv_bipush (v := 20) hx hb dX12_reachBits_5 (by decide +kernel) ?_
          refine lv_icmp_gt (tgt := 181) hx hb dX12_reachBits_7 (dk_dq rfl) (fun c_1288 => ?_) (fun c_1288 => ?_)
          · as_aux_lemma =>
              have jc_1288 := dk_gtc (k := 20) (by decide +kernel) c_1288
              refine lv_aload_n hx hb dX12_reachBits_181 rfl (lv_at hl 2 rfl) ?_
              refine lv_aload_n hx hb dX12_reachBits_182 rfl (lv_at hl 2 rfl) ?_
              refine dg_get (C := RX12) (T := TX12) (N := 77) hx hb hts (fun w h => bw_mem (wU_X12 w h)) hown K hP sM_0 rfl 17 (dk_dq rfl) (hts _ (bw_mem wB_480)) (fun _ h9 => h9) (v := .ref (o + 5)) (show S_1286.1 0 17 = .ref (o + 5) from dg_I.rel (d := 5) I_1286 sM_0 (by decide +kernel)) dX12_reachBits_183 ?_
              refine lv_aload_n hx hb dX12_reachBits_186 rfl (lv_at hl 2 rfl) ?_
              obtain ⟨x_1289, f_x_1289, b_x_1289⟩ := dg_I.int (i := 0) (k := 13) (lo := 0) (hi := 1) I sM_0 (by decide +kernel)
              refine dg_get (C := RX12) (T := TX12) (N := 77) hx hb hts (fun w h => bw_mem (wU_X12 w h)) hown K hP sM_0 rfl 13 (dk_dq rfl) (hts _ (bw_mem wB_1085)) (fun _ h9 => h9) (v := .int x_1289) ((M_1286.1 0 13 _ sM_0 (dk_dq rfl)).trans f_x_1289) dX12_reachBits_187 ?_
              have hin_1290 : vp_in x_1289 2 := (dk_inv2 (by omega))
              refine dg_iald hx hb K hP sM_5 hin_1290 dX12_reachBits_190 (fun x_1291 ex_1291 => ?_)
              have b_x_1291 := dk_all_at (dg_I.row (lo := 0) (hi := 9999) I_1286 sM_5 (by decide +kernel)) hin_1290 ex_1291
              refine dg_put (ci := 12) (v := .int x_1291) (ty := tyX12 63) (C := RX12) (T := TX12) (N := 77) hx hb hts (fun w h => bw_mem (wU_X12 w h)) tyX12 tyX12_ok nmX12 hown K hP hS hA1 sM_0 rfl 63 (dk_dq rfl) (hts _ (bw_mem wB_1096)) (fun _ h9 => h9) rfl (by decide +kernel) rfl rfl dX12_reachBits_191 (fun S_1292 e_1292 H locs hP hS => ?_)
              have I_1292 := dg_I.uFi (lo := (-2147483648)) (hi := 2147483647) I_1286 e_1292 sM_0 (by decide +kernel) (show (-2147483648) ≤ (x_1291).toInt ∧ (x_1291).toInt ≤ 2147483647 from (dk_full _))
              have M_1292 := dg_sm.uF M_1286 e_1292 sM_0 (dk_dq rfl)
              refine lv_iload_n hx hb dX12_reachBits_194 rfl (lv_at hl 1 rfl) ?_
              refine W.widen (k := 0) (n := 0) (Nat.le_of_ble_eq_true rfl) (Nat.le_of_ble_eq_true rfl) ?_
              exact dg_iret hx hb hr hlocks rfl hP hS ⟨I_1292, M_1292, (ZSM.keep ZS_1286 (dg_sm.uF (WF := [(0, 63)]) (WA := []) dg_sm.rf e_1292 sM_0 (dk_dq rfl)) (dk_dq rfl)), ⟨congrArg Prod.fst (Eq.symm (lp_r hF_1 (F_m_reachBits_p0 c_1288 (zI_eq f_x_1289) (Eq.symm ex_1291.symm) e_1292))), congrArg Prod.snd (Eq.symm (lp_r hF_1 (F_m_reachBits_p0 c_1288 (zI_eq f_x_1289) (Eq.symm ex_1291.symm) e_1292)))⟩, trivial⟩ dX12_reachBits_195
          · as_aux_lemma =>
              have jc_1288 := dk_ngtc (k := 20) (by decide +kernel) c_1288
              refine lv_aload_n hx hb dX12_reachBits_10 rfl (lv_at hl 2 rfl) ?_
              refine lv_iconst (v := 1) hx hb dX12_reachBits_11 (by decide +kernel) ?_
              refine lv_iconst (v := 0) hx hb dX12_reachBits_12 (by decide +kernel) ?_
              have hz_1293 : (1 : Int32).toInt = 1 := by decide +kernel
              have hz_1294 : (0 : Int32).toInt = 0 := by decide +kernel
              obtain ⟨x_1295, f_x_1295⟩ : ∃ x, S_1286.2.1 29 (0 : Int32).toNatClampNeg = x := ⟨_, rfl⟩
              have hin_1296 : vp_in (0 : Int32) 22 := (dk_in (by decide +kernel))
              have b_x_1295 := dk_all_at (dg_I.row (lo := 0) (hi := 2000) I_1286 sM_29 (by decide +kernel)) hin_1296 f_x_1295.symm
              have ex_1295 := f_x_1295.symm
              have hz_1297 : (0 : Int32).toInt = 0 := by decide +kernel
              have zs_x_1295 : (0 : Int32).toInt ≠ 1 → (x_1295).toInt ≤ 999 := fun h => by rw [ex_1295]; exact ZS_1286 _ (dk_inT hin_1296).2 (fun q => by have h9 := (dk_inT hin_1296).1; omega)
              refine dg_callv hS hA1 hA (va_runV (As := [.int 1, .int 0]) (rest := []) F (c_m_copies l g D o S_1286 1 (by decide +kernel) 0 (by decide +kernel) x_1295 f_x_1295 (by omega) x_1295 f_x_1295 (by omega) (by omega) ZS_1286 I_1286 H.size) (cwV 2 hts (bw_V wB_1227 wB_1228 wB_1229 wB_297 wB_1226) rfl rfl rfl (by decide +kernel) ⟨Nat.le_of_ble_eq_true rfl, Nat.le_of_ble_eq_true rfl⟩) (dg_preV sM_0 rfl K ST hP hS hA1 hA) rfl rfl hl.1 rfl (lv_room (Nat.le_of_ble_eq_true rfl)) dX12_reachBits_13 ⟨Nat.le_of_ble_eq_true rfl, Nat.le_of_ble_eq_true rfl⟩) (fun S_1298 hw_1298 H locs hP hS => ?_)
              obtain ⟨I_1298, m_1298, w_1298_0, w_1298_1, w_1298_2, w_1298_3, -⟩ := hw_1298
              have M_1298 := dg_sm.tr M_1286 m_1298 (dk_dq rfl) (dk_dq rfl)
              have hz_1299 : (1 : Int32).toInt = 1 := by decide +kernel
              have hz_1300 : (0 : Int32).toInt = 0 := by decide +kernel
              obtain ⟨x_1301, f_x_1301⟩ : ∃ x, S_1298.2.1 29 (1 : Int32).toNatClampNeg = x := ⟨_, rfl⟩
              have hin_1302 : vp_in (1 : Int32) 22 := (dk_in (by decide +kernel))
              have b_x_1301 := dk_all_at (dg_I.row (lo := 0) (hi := 2000) I_1298 sM_29 (by decide +kernel)) hin_1302 f_x_1301.symm
              have ex_1301 := f_x_1301.symm
              have hz_1303 : (1 : Int32).toInt = 1 := by decide +kernel
              have zs_x_1301 : (1 : Int32).toInt ≠ 1 → (x_1301).toInt ≤ 999 := fun h => by rw [ex_1301]; exact w_1298_2 _ (dk_inT hin_1302).2 (fun q => by have h9 := (dk_inT hin_1302).1; omega)
              have w_1298_0 : (x_1301).toInt = (x_1295).toInt := w_1298_0 x_1301 f_x_1301
              obtain ⟨x_1304, f_x_1304⟩ : ∃ x, S_1298.2.1 29 (0 : Int32).toNatClampNeg = x := ⟨_, rfl⟩
              have hin_1305 : vp_in (0 : Int32) 22 := (dk_in (by decide +kernel))
              have b_x_1304 := dk_all_at (dg_I.row (lo := 0) (hi := 2000) I_1298 sM_29 (by decide +kernel)) hin_1305 f_x_1304.symm
              have ex_1304 := f_x_1304.symm
              have hz_1306 : (0 : Int32).toInt = 0 := by decide +kernel
              have zs_x_1304 : (0 : Int32).toInt ≠ 1 → (x_1304).toInt ≤ 999 := fun h => by rw [ex_1304]; exact w_1298_2 _ (dk_inT hin_1305).2 (fun q => by have h9 := (dk_inT hin_1305).1; omega)
              have w_1298_1 : ((1 : Int32)).toInt ≠ 0 → (x_1304).toInt = (x_1295).toInt := w_1298_1 x_1304 f_x_1304
              refine lv_aload_n hx hb dX12_reachBits_16 rfl (lv_at hl 2 rfl) ?_
              refine lv_iload_n hx hb dX12_reachBits_17 rfl (lv_at hl 0 rfl) ?_
              refine dg_put (ci := 12) (v := .int x_1284) (ty := tyX12 63) (C := RX12) (T := TX12) (N := 77) hx hb hts (fun w h => bw_mem (wU_X12 w h)) tyX12 tyX12_ok nmX12 hown K hP hS hA1 sM_0 rfl 63 (dk_dq rfl) (hts _ (bw_mem wB_1096)) (fun _ h9 => h9) rfl (by decide +kernel) rfl rfl dX12_reachBits_18 (fun S_1307 e_1307 H locs hP hS => ?_)
              have I_1307 := dg_I.uFi (lo := (-2147483648)) (hi := 2147483647) I_1298 e_1307 sM_0 (by decide +kernel) (show (-2147483648) ≤ (x_1284).toInt ∧ (x_1284).toInt ≤ 2147483647 from (dk_full _))
              have M_1307 := dg_sm.uF M_1298 e_1307 sM_0 (dk_dq rfl)
              refine lv_iconst (v := 0) hx hb dX12_reachBits_21 (by decide +kernel) ?_
              refine lv_istore_n (lv' := [(3, .int 0), (2, .int x_1284), (1, .int x_1285), (0, .ref (o + 0))]) hx hb dX12_reachBits_22 rfl hl (dk_dq rfl) rfl (fun ls hl => ?_)
              refine lv_iconst (v := 0) hx hb dX12_reachBits_23 (by decide +kernel) ?_
              refine lv_istore (lv' := [(4, .int 0), (3, .int 0), (2, .int x_1284), (1, .int x_1285), (0, .ref (o + 0))]) hx hb dX12_reachBits_24 hl (dk_dq rfl) rfl (fun ls hl => ?_)
              have J_1952 : ∀ (x_1940 : Int32) (x_1941 : Int32), (0 ≤ (x_1940).toInt ∧ (x_1940).toInt ≤ 31) → ∀ S_1951 : dg_S, CM o S_1951 → dg_sm shM [(0, 63)] [29, 30, 31, 32, 33, 34, 35, 36, 37, 38, 39, 40, 41, 42, 43, 44, 48] S S_1951 → S_1951.1 0 63 = .int x_1284 → ZSM S_1951 → ((F_m_reachBits_B1 S o) (x_1284, x_1285, S_1286) = F_m_reachBits_J2 S x_1941 x_1284 x_1285 S_1951) → ∀ (H : Heap) (locs : List Loc), va_P D vwCl (dg_w g shM o rfM S_1951) H → va_S A s.heap H locs → ∀ ls : Array Slot, lv_has ls 6 [(4, .int x_1940), (3, .int x_1941), (2, .int x_1284), (1, .int x_1285), (0, .ref (o + 0))] → W p l e ({ frames := 9, cells := 0, slots := 0, locals := 217 } : Room) s m args below meth c H locs 0 0 (MQ below (va_Qi (fun (r : Int32) S' => CM o S' ∧ dg_sm shM [(0, 63)] [29, 30, 31, 32, 33, 34, 35, 36, 37, 38, 39, 40, 41, 42, 43, 44, 48] S S' ∧ ZSM S' ∧ (S' = (F_m_reachBits o S).1 ∧ r = (F_m_reachBits o S).2) ∧ True) (dg_B g D shM o rfM) A) args s 0 0 A) (F0 m 157 ls []) := by
                as_aux_lemma =>
                  intro x_1940 x_1941 b_x_1940 S_1951 I_1951 M_1951 ff_1951_63_0 ZS_1951 hF_2 H locs hP hS ls hl
                  refine lv_iload_n hx hb dX12_reachBits_157 rfl (lv_at hl 3 rfl) ?_
                  refine lv_iload_n hx hb dX12_reachBits_158 rfl (lv_at hl 1 rfl) ?_
                  refine lv_aload_n hx hb dX12_reachBits_159 rfl (lv_at hl 4 rfl) ?_
                  obtain ⟨x_1953, f_x_1953, b_x_1953⟩ := dg_I.int (i := 0) (k := 69) (lo := 0) (hi := 16) I sM_0 (by decide +kernel)
                  refine dg_get (C := RX12) (T := TX12) (N := 77) hx hb hts (fun w h => bw_mem (wU_X12 w h)) hown K hP sM_0 rfl 69 (dk_dq rfl) (hts _ (bw_mem wB_1193)) (fun _ h9 => h9) (v := .int x_1953) ((M_1951.1 0 69 _ sM_0 (dk_dq rfl)).trans f_x_1953) dX12_reachBits_160 ?_
                  have J_1961 : ∀ (x_1958 : Int32), ((F_m_reachBits_B1 S o) (x_1284, x_1285, S_1286) = F_m_reachBits_J3 x_1285 x_1958 x_1284 S_1951) → ∀ (H : Heap) (locs : List Loc), va_P D vwCl (dg_w g shM o rfM S_1951) H → va_S A s.heap H locs → ∀ ls : Array Slot, lv_has ls 6 [(4, .int x_1940), (3, .int x_1941), (2, .int x_1284), (1, .int x_1285), (0, .ref (o + 0))] → W p l e ({ frames := 9, cells := 0, slots := 0, locals := 217 } : Room) s m args below meth c H locs 0 0 (MQ below (va_Qi (fun (r : Int32) S' => CM o S' ∧ dg_sm shM [(0, 63)] [29, 30, 31, 32, 33, 34, 35, 36, 37, 38, 39, 40, 41, 42, 43, 44, 48] S S' ∧ ZSM S' ∧ (S' = (F_m_reachBits o S).1 ∧ r = (F_m_reachBits o S).2) ∧ True) (dg_B g D shM o rfM) A) args s 0 0 A) (F0 m 173 ls [.int x_1958, .int x_1285]) := by
                    intro x_1958 hF_3 H locs hP hS ls hl
                    refine lv_ior hx hb dX12_reachBits_173 ?_
                    refine lv_topi (fun x_1962 ex_1962 => ?_)
                    refine lv_istore_n (lv' := [(1, .int x_1962), (4, .int x_1940), (3, .int x_1941), (2, .int x_1284), (0, .ref (o + 0))]) hx hb dX12_reachBits_174 rfl hl (dk_dq rfl) rfl (fun ls hl => ?_)
                    obtain ⟨x_1963, ex_1963⟩ : ∃ z, z = x_1284 + 1 := ⟨_, rfl⟩
                    have jx_1963 : (x_1963).toInt = (x_1284).toInt + 1 := by rw [ex_1963]; exact dk_addT2 rfl (by decide +kernel) (by omega)
                    refine lv_iinc (v := x_1963) (lv' := [(2, .int x_1963), (1, .int x_1962), (4, .int x_1940), (3, .int x_1941), (0, .ref (o + 0))]) hx hb dX12_reachBits_175 hl (k := 3) rfl (by rw [ex_1963]; rfl) (dk_dq rfl) rfl (fun ls hl => ?_)
                    refine lv_goto (tgt := 4) hx hb dX12_reachBits_178 (dk_dq rfl) ?_
                    exact ih x_1963 x_1962 (by omega) (by first | exact mu_lt hmu (by omega) (by omega) | omega) S_1951 I_1951 M_1951 ZS_1951 (lp_l hF_1 (Eq.trans hF_3 (F_m_reachBits_p1 ex_1962 ex_1963))) _ _ hP hS _ (lv_sub hl [0, 1, 4] rfl)
                  refine lv_icmp_ne (tgt := 172) hx hb dX12_reachBits_163 (dk_dq rfl) (fun c_1964 => ?_) (fun c_1964 => ?_)
                  · have hf_1964 := dk_full x_1941
                    have jc_1964 := dk_neqc (k := (x_1953).toInt) rfl c_1964
                    refine lv_iconst (v := 0) hx hb dX12_reachBits_172 (by decide +kernel) ?_
                    exact J_1961 0  (Eq.trans hF_2 (F_m_reachBits_p2 (zI_eq f_x_1953) c_1964)) _ _ hP hS _ (lv_sub hl [0, 1, 2, 3, 4] rfl)
                  · have hf_1965 := dk_full x_1941
                    have jc_1964 := dk_eqc (k := (x_1953).toInt) rfl c_1964
                    refine lv_iconst (v := 1) hx hb dX12_reachBits_166 (by decide +kernel) ?_
                    refine lv_iload_n hx hb dX12_reachBits_167 rfl (lv_at hl 2 rfl) ?_
                    refine lv_ishl hx hb dX12_reachBits_168 ?_
                    refine lv_topi (fun x_1967 ex_1967 => ?_)
                    refine lv_goto (tgt := 173) hx hb dX12_reachBits_169 (dk_dq rfl) ?_
                    exact J_1961 x_1967  (Eq.trans hF_2 (F_m_reachBits_p3 (zI_eq f_x_1953) c_1964 ex_1967)) _ _ hP hS _ (lv_sub hl [0, 1, 2, 3, 4] rfl)
              have L_2389 : ∀ (n : Nat) (x_2386 : Int32) (x_2387 : Int32), (0 ≤ (x_2386).toInt ∧ (x_2386).toInt ≤ 31) → ((32 - (x_2386).toInt).toNat < n) → ∀ S_2388 : dg_S, CM o S_2388 → dg_sm shM [(0, 63)] [29, 30, 31, 32, 33, 34, 35, 36, 37, 38, 39, 40, 41, 42, 43, 44, 48] S S_2388 → S_2388.1 0 63 = .int x_1284 → ∀ rw_2388_0 : Int32, S_2388.2.1 29 (1 : Int32).toNatClampNeg = rw_2388_0 → (0 ≤ (rw_2388_0).toInt ∧ (rw_2388_0).toInt ≤ 2000) → ZSM S_2388 → ((rw_2388_0).toInt ≤ 999 + (x_2386).toInt) → ((F_m_reachBits_B1 S o) (x_1284, x_1285, S_1286) = lp (F_m_reachBits_B4 S o x_1284 x_1285) (Sum.inr (S, (0 : Int32))) n (x_2386, x_2387, rw_2388_0, S_2388)) → ∀ (H : Heap) (locs : List Loc), va_P D vwCl (dg_w g shM o rfM S_2388) H → va_S A s.heap H locs → ∀ ls : Array Slot, lv_has ls 6 [(4, .int x_2386), (3, .int x_2387), (2, .int x_1284), (1, .int x_1285), (0, .ref (o + 0))] → W p l e ({ frames := 9, cells := 0, slots := 0, locals := 217 } : Room) s m args below meth c H locs 0 0 (MQ below (va_Qi (fun (r : Int32) S' => CM o S' ∧ dg_sm shM [(0, 63)] [29, 30, 31, 32, 33, 34, 35, 36, 37, 38, 39, 40, 41, 42, 43, 44, 48] S S' ∧ ZSM S' ∧ (S' = (F_m_reachBits o S).1 ∧ r = (F_m_reachBits o S).2) ∧ True) (dg_B g D shM o rfM) A) args s 0 0 A) (F0 m 26 ls []) := by
                as_aux_lemma =>
                  intro n
                  induction n with
                  | zero =>
                    intro x_2386 x_2387 b_x_2386 hmu S_2388 I_2388 M_2388 ff_2388_63_0 rw_2388_0 frw_2388_0 brw_2388_0 ZS_2388 srel_2388_0 hF_4 H locs hP hS ls hl
                    omega
                  | succ n ih =>
                    as_aux_lemma =>
                      intro x_2386 x_2387 b_x_2386 hmu S_2388 I_2388 M_2388 ff_2388_63_0 rw_2388_0 frw_2388_0 brw_2388_0 ZS_2388 srel_2388_0 hF_4 H locs hP hS ls hl
                      refine lv_aload_n hx hb dX12_reachBits_26 rfl (lv_at hl 4 rfl) ?_
                      refine lv_iload hx hb dX12_reachBits_27 (lv_at hl 0 rfl) ?_
                      refine lv_iconst (v := 0) hx hb dX12_reachBits_29 (by decide +kernel) ?_
                      refine lv_bipush (v := 30) hx hb dX12_reachBits_30 (by decide +kernel) ?_
                      have hz_2390 : (0 : Int32).toInt = 0 := by decide +kernel
                      have hz_2391 : (30 : Int32).toInt = 30 := by decide +kernel
                      obtain ⟨x_2392, f_x_2392, b_x_2392⟩ := dg_I.int (i := 0) (k := 47) (lo := 0) (hi := 1) I sM_0 (by decide +kernel)
                      obtain ⟨x_2393, f_x_2393⟩ : ∃ x, S_2388.2.1 29 (0 : Int32).toNatClampNeg = x := ⟨_, rfl⟩
                      have hin_2394 : vp_in (0 : Int32) 22 := (dk_in (by decide +kernel))
                      have b_x_2393 := dk_all_at (dg_I.row (lo := 0) (hi := 2000) I_2388 sM_29 (by decide +kernel)) hin_2394 f_x_2393.symm
                      have ex_2393 := f_x_2393.symm
                      have hz_2395 : (0 : Int32).toInt = 0 := by decide +kernel
                      have zs_x_2393 : (0 : Int32).toInt ≠ 1 → (x_2393).toInt ≤ 999 := fun h => by rw [ex_2393]; exact ZS_2388 _ (dk_inT hin_2394).2 (fun q => by have h9 := (dk_inT hin_2394).1; omega)
                      refine dg_calli hS hA1 hA (va_runV (As := [.int x_2386, .int 0, .int 30]) (rest := []) F (c_m_isAhead l g D o S_2388 x_2386 0 (by decide +kernel) 30 (by decide +kernel) x_2392 ((M_2388.1 0 47 _ sM_0 (dk_dq rfl)).trans f_x_2392) (by omega) x_2393 f_x_2393 (by omega) I_2388 H.size) (cwV 3 hts (bw_V wB_1235 wB_1236 wB_1237 wB_297 wB_1234) rfl rfl rfl (by decide +kernel) ⟨Nat.le_of_ble_eq_true rfl, Nat.le_of_ble_eq_true rfl⟩) (dg_preV sM_0 rfl K ST hP hS hA1 hA) rfl rfl hl.1 rfl (lv_room (Nat.le_of_ble_eq_true rfl)) dX12_reachBits_32 ⟨Nat.le_of_ble_eq_true rfl, Nat.le_of_ble_eq_true rfl⟩) (fun x_2396 S_2397 hw_2397 H locs hP hS => ?_)
                      rw [hw_2397.1] at hP
                      obtain ⟨hq_2397, w_2397_0, w_2397_1, w_2397_2, -⟩ := hw_2397
                      have hz_2398 : (0 : Int32).toInt = 0 := by decide +kernel
                      have hz_2399 : (30 : Int32).toInt = 30 := by decide +kernel
                      have w_2397_0 : 0 ≤ (x_2396).toInt ∧ (x_2396).toInt ≤ 1 := w_2397_0
                      have w_2397_1 : (x_2396).toInt = 1 → ((x_2392).toInt = 1 ∧ ((0 : Int32)).toInt ≤ (x_2386).toInt ∧ (x_2386).toInt ≤ ((30 : Int32)).toInt ∧ (x_2393).toInt ≤ 999 - (x_2386).toInt) := w_2397_1
                      refine lv_if_eq (tgt := 157) hx hb dX12_reachBits_35 (dk_dq rfl) (fun c_2400 => ?_) (fun c_2400 => ?_)
                      · have jc_2400 := dk_eqc (k := 0) (by decide +kernel) c_2400
                        exact J_1952 x_2386 x_2387 (by omega) S_2388 I_2388 M_2388 ff_2388_63_0 ZS_2388 (lp_r hF_4 (F_m_reachBits_p4 w_2397_2 c_2400)) _ _ hP hS _ (lv_sub hl [0, 1, 2, 3, 4] rfl)
                      · as_aux_lemma =>
                          have jc_2400 := dk_neqc (k := 0) (by decide +kernel) c_2400
                          refine lv_iconst (v := 0) hx hb dX12_reachBits_38 (by decide +kernel) ?_
                          refine lv_istore (lv' := [(5, .int 0), (4, .int x_2386), (3, .int x_2387), (2, .int x_1284), (1, .int x_1285), (0, .ref (o + 0))]) hx hb dX12_reachBits_39 hl (dk_dq rfl) rfl (fun ls hl => ?_)
                          have J_2603 : ∀ (x_2471 : Int32), (64 ≤ (x_2471).toInt ∧ (x_2471).toInt ≤ 2147483647) → ∀ S_2602 : dg_S, CM o S_2602 → dg_sm shM [(0, 63)] [29, 30, 31, 32, 33, 34, 35, 36, 37, 38, 39, 40, 41, 42, 43, 44, 48] S S_2602 → S_2602.1 0 63 = .int x_1284 → S_2602.2.1 29 (1 : Int32).toNatClampNeg = rw_2388_0 → S_2602.2.1 29 (0 : Int32).toNatClampNeg = x_2393 → ZSM S_2602 → ((F_m_reachBits_B4 S o x_1284 x_1285) (x_2386, x_2387, rw_2388_0, S_2388) = F_m_reachBits_J5 S o S_2602 x_2386 x_2387) → ∀ (H : Heap) (locs : List Loc), va_P D vwCl (dg_w g shM o rfM S_2602) H → va_S A s.heap H locs → ∀ ls : Array Slot, lv_has ls 6 [(5, .int x_2471), (4, .int x_2386), (3, .int x_2387), (2, .int x_1284), (1, .int x_1285), (0, .ref (o + 0))] → W p l e ({ frames := 9, cells := 0, slots := 0, locals := 217 } : Room) s m args below meth c H locs 0 0 (MQ below (va_Qi (fun (r : Int32) S' => CM o S' ∧ dg_sm shM [(0, 63)] [29, 30, 31, 32, 33, 34, 35, 36, 37, 38, 39, 40, 41, 42, 43, 44, 48] S S' ∧ ZSM S' ∧ (S' = (F_m_reachBits o S).1 ∧ r = (F_m_reachBits o S).2) ∧ True) (dg_B g D shM o rfM) A) args s 0 0 A) (F0 m 82 ls []) := by
                            as_aux_lemma =>
                              intro x_2471 b_x_2471 S_2602 I_2602 M_2602 ff_2602_63_0 frw_2602_0 frw_2602_1 ZS_2602 hF_5 H locs hP hS ls hl
                              refine lv_iconst (v := 0) hx hb dX12_reachBits_82 (by decide +kernel) ?_
                              refine lv_istore (lv' := [(5, .int 0), (4, .int x_2386), (3, .int x_2387), (2, .int x_1284), (1, .int x_1285), (0, .ref (o + 0))]) hx hb dX12_reachBits_83 hl (dk_dq rfl) rfl (fun ls hl => ?_)
                              have J_2733 : ∀ (x_2723 : Int32) (x_2724 : Int32), (0 ≤ (x_2723).toInt ∧ (x_2723).toInt ≤ 2147483647) → ((F_m_reachBits_B4 S o x_1284 x_1285) (x_2386, x_2387, rw_2388_0, S_2388) = F_m_reachBits_J6 o S_2602 x_2386 x_2724) → ∀ (H : Heap) (locs : List Loc), va_P D vwCl (dg_w g shM o rfM S_2602) H → va_S A s.heap H locs → ∀ ls : Array Slot, lv_has ls 6 [(5, .int x_2723), (4, .int x_2386), (3, .int x_2724), (2, .int x_1284), (1, .int x_1285), (0, .ref (o + 0))] → W p l e ({ frames := 9, cells := 0, slots := 0, locals := 217 } : Room) s m args below meth c H locs 0 0 (MQ below (va_Qi (fun (r : Int32) S' => CM o S' ∧ dg_sm shM [(0, 63)] [29, 30, 31, 32, 33, 34, 35, 36, 37, 38, 39, 40, 41, 42, 43, 44, 48] S S' ∧ ZSM S' ∧ (S' = (F_m_reachBits o S).1 ∧ r = (F_m_reachBits o S).2) ∧ True) (dg_B g D shM o rfM) A) args s 0 0 A) (F0 m 145 ls []) := by
                                as_aux_lemma =>
                                  intro x_2723 x_2724 b_x_2723 hF_6 H locs hP hS ls hl
                                  refine lv_aload_n hx hb dX12_reachBits_145 rfl (lv_at hl 5 rfl) ?_
                                  refine lv_iconst (v := 1) hx hb dX12_reachBits_146 (by decide +kernel) ?_
                                  have hz_2734 : (1 : Int32).toInt = 1 := by decide +kernel
                                  refine dg_calli hS hA1 hA (va_runV (As := [.int 1]) (rest := []) F (c_m_ticks l g D o S_2602 1 (by decide +kernel) rw_2388_0 frw_2602_0 (by omega) (by omega) (ZBM.keep ZB M_2602 (dk_dq rfl) (dk_dq rfl) (dk_dq rfl) (dk_dq rfl) (dk_dq rfl)) ZS_2602 (ZWM.keep ZW M_2602 (dk_dq rfl) (dk_dq rfl) (dk_dq rfl) (dk_dq rfl)) I_2602 H.size) (cwV 1 hts (bw_V wB_1231 wB_1232 wB_1233 wB_297 wB_1230) rfl rfl rfl (by decide +kernel) ⟨Nat.le_of_ble_eq_true rfl, Nat.le_of_ble_eq_true rfl⟩) (dg_preV sM_0 rfl K ST hP hS hA1 hA) rfl rfl hl.1 rfl (lv_room (Nat.le_of_ble_eq_true rfl)) dX12_reachBits_147 ⟨Nat.le_of_ble_eq_true rfl, Nat.le_of_ble_eq_true rfl⟩) (fun x_2735 S_2736 hw_2736 H locs hP hS => ?_)
                                  obtain ⟨I_2736, m_2736, w_2736_0, w_2736_1, w_2736_2, w_2736_3, -⟩ := hw_2736
                                  have M_2736 := dg_sm.tr M_2602 m_2736 (dk_dq rfl) (dk_dq rfl)
                                  have hz_2737 : (1 : Int32).toInt = 1 := by decide +kernel
                                  have w_2736_0 : 0 ≤ (x_2735).toInt ∧ (x_2735).toInt ≤ 1 := w_2736_0
                                  obtain ⟨x_2738, f_x_2738⟩ : ∃ x, S_2736.2.1 29 (1 : Int32).toNatClampNeg = x := ⟨_, rfl⟩
                                  have hin_2739 : vp_in (1 : Int32) 22 := (dk_in (by decide +kernel))
                                  have b_x_2738 := dk_all_at (dg_I.row (lo := 0) (hi := 2000) I_2736 sM_29 (by decide +kernel)) hin_2739 f_x_2738.symm
                                  have ex_2738 := f_x_2738.symm
                                  have hz_2740 : (1 : Int32).toInt = 1 := by decide +kernel
                                  have zs_x_2738 : (1 : Int32).toInt ≠ 1 → (x_2738).toInt ≤ 999 := fun h => by rw [ex_2738]; exact w_2736_2 _ (dk_inT hin_2739).2 (fun q => by have h9 := (dk_inT hin_2739).1; omega)
                                  have w_2736_1 : (x_2738).toInt = (rw_2388_0).toInt + 1 := w_2736_1 x_2738 f_x_2738
                                  refine lv_pop hx hb dX12_reachBits_150 rfl ?_
                                  obtain ⟨x_2741, ex_2741⟩ : ∃ z, z = x_2386 + 1 := ⟨_, rfl⟩
                                  have jx_2741 : (x_2741).toInt = (x_2386).toInt + 1 := by rw [ex_2741]; exact dk_addT2 rfl (by decide +kernel) (by omega)
                                  refine lv_iinc (v := x_2741) (lv' := [(4, .int x_2741), (5, .int x_2723), (3, .int x_2724), (2, .int x_1284), (1, .int x_1285), (0, .ref (o + 0))]) hx hb dX12_reachBits_151 hl (k := 1) rfl (by rw [ex_2741]; rfl) (dk_dq rfl) rfl (fun ls hl => ?_)
                                  refine lv_goto (tgt := 26) hx hb dX12_reachBits_154 (dk_dq rfl) ?_
                                  exact ih x_2741 x_2724 (by omega) (by first | exact mu_lt hmu (by omega) (by omega) | omega) S_2736 I_2736 M_2736 ((m_2736.1 0 63 _ sM_0 (dk_dq rfl)).trans ff_2602_63_0) x_2738 f_x_2738 (by omega) w_2736_2 (by omega) (lp_l hF_4 (Eq.trans hF_6 (F_m_reachBits_p5 w_2736_3.1 (Eq.symm f_x_2738) ex_2741))) _ _ hP hS _ (lv_sub hl [0, 2, 3, 4, 5] rfl)
                              have L_2848 : ∀ (n : Nat) (x_2846 : Int32) (x_2847 : Int32), (0 ≤ (x_2846).toInt ∧ (x_2846).toInt ≤ 16) → ((17 - (x_2846).toInt).toNat < n) → ((F_m_reachBits_B4 S o x_1284 x_1285) (x_2386, x_2387, rw_2388_0, S_2388) = lp (F_m_reachBits_B7 S o S_2602 x_2386) (Sum.inr (Sum.inr (S, (0 : Int32)))) n (x_2846, x_2847)) → ∀ (H : Heap) (locs : List Loc), va_P D vwCl (dg_w g shM o rfM S_2602) H → va_S A s.heap H locs → ∀ ls : Array Slot, lv_has ls 6 [(5, .int x_2846), (4, .int x_2386), (3, .int x_2847), (2, .int x_1284), (1, .int x_1285), (0, .ref (o + 0))] → W p l e ({ frames := 9, cells := 0, slots := 0, locals := 217 } : Room) s m args below meth c H locs 0 0 (MQ below (va_Qi (fun (r : Int32) S' => CM o S' ∧ dg_sm shM [(0, 63)] [29, 30, 31, 32, 33, 34, 35, 36, 37, 38, 39, 40, 41, 42, 43, 44, 48] S S' ∧ ZSM S' ∧ (S' = (F_m_reachBits o S).1 ∧ r = (F_m_reachBits o S).2) ∧ True) (dg_B g D shM o rfM) A) args s 0 0 A) (F0 m 85 ls []) := by
                                as_aux_lemma =>
                                  intro n
                                  induction n with
                                  | zero =>
                                    intro x_2846 x_2847 b_x_2846 hmu hF_7 H locs hP hS ls hl
                                    omega
                                  | succ n ih =>
                                    as_aux_lemma =>
                                      intro x_2846 x_2847 b_x_2846 hmu hF_7 H locs hP hS ls hl
                                      refine lv_iload hx hb dX12_reachBits_85 (lv_at hl 0 rfl) ?_
                                      refine lv_aload_n hx hb dX12_reachBits_87 rfl (lv_at hl 5 rfl) ?_
                                      obtain ⟨x_2849, f_x_2849, b_x_2849⟩ := dg_I.int (i := 0) (k := 69) (lo := 0) (hi := 16) I sM_0 (by decide +kernel)
                                      refine dg_get (C := RX12) (T := TX12) (N := 77) hx hb hts (fun w h => bw_mem (wU_X12 w h)) hown K hP sM_0 rfl 69 (dk_dq rfl) (hts _ (bw_mem wB_1193)) (fun _ h9 => h9) (v := .int x_2849) ((M_2602.1 0 69 _ sM_0 (dk_dq rfl)).trans f_x_2849) dX12_reachBits_88 ?_
                                      refine lv_icmp_ge (tgt := 145) hx hb dX12_reachBits_91 (dk_dq rfl) (fun c_2850 => ?_) (fun c_2850 => ?_)
                                      · have jc_2850 := dk_gec (k := (x_2849).toInt) rfl c_2850
                                        have hf_2850 := dk_full x_2846
                                        exact J_2733 x_2846 x_2847 (by omega) (lp_r hF_7 (F_m_reachBits_p6 (zI_eq f_x_2849) c_2850)) _ _ hP hS _ (lv_sub hl [0, 1, 2, 3, 4, 5] rfl)
                                      · as_aux_lemma =>
                                          have jc_2850 := dk_ngec (k := (x_2849).toInt) rfl c_2850
                                          refine lv_iload_n hx hb dX12_reachBits_94 rfl (lv_at hl 2 rfl) ?_
                                          refine lv_aload_n hx hb dX12_reachBits_95 rfl (lv_at hl 5 rfl) ?_
                                          refine dg_get (C := RX12) (T := TX12) (N := 77) hx hb hts (fun w h => bw_mem (wU_X12 w h)) hown K hP sM_0 rfl 70 (dk_dq rfl) (hts _ (bw_mem wB_1275)) (fun _ h9 => h9) (v := .ref (o + 45)) (show S_2602.1 0 70 = .ref (o + 45) from dg_I.rel (d := 45) I_2602 sM_0 (by decide +kernel)) dX12_reachBits_96 ?_
                                          refine lv_iload hx hb dX12_reachBits_99 (lv_at hl 0 rfl) ?_
                                          have hin_2852 : vp_in x_2846 16 := (dk_inv2 (by omega))
                                          refine dg_iald hx hb K hP sM_45 hin_2852 dX12_reachBits_101 (fun x_2853 ex_2853 => ?_)
                                          have b_x_2853 := dk_all_at (dg_I.row (lo := 0) (hi := 255) I_2602 sM_45 (by decide +kernel)) hin_2852 ex_2853
                                          refine lv_iload hx hb dX12_reachBits_102 (lv_at hl 1 rfl) ?_
                                          have J_2868 : ∀ (x_2865 : Int32), (0 ≤ (x_2865).toInt ∧ (x_2865).toInt ≤ 1) → ((F_m_reachBits_B7 S o S_2602 x_2386) (x_2846, x_2847) = F_m_reachBits_J8 x_2847 x_2865 x_2846) → ∀ (H : Heap) (locs : List Loc), va_P D vwCl (dg_w g shM o rfM S_2602) H → va_S A s.heap H locs → ∀ ls : Array Slot, lv_has ls 6 [(5, .int x_2846), (4, .int x_2386), (3, .int x_2847), (2, .int x_1284), (1, .int x_1285), (0, .ref (o + 0))] → W p l e ({ frames := 9, cells := 0, slots := 0, locals := 217 } : Room) s m args below meth c H locs 0 0 (MQ below (va_Qi (fun (r : Int32) S' => CM o S' ∧ dg_sm shM [(0, 63)] [29, 30, 31, 32, 33, 34, 35, 36, 37, 38, 39, 40, 41, 42, 43, 44, 48] S S' ∧ ZSM S' ∧ (S' = (F_m_reachBits o S).1 ∧ r = (F_m_reachBits o S).2) ∧ True) (dg_B g D shM o rfM) A) args s 0 0 A) (F0 m 137 ls [.int x_2865, .int x_2847]) := by
                                            intro x_2865 b_x_2865 hF_8 H locs hP hS ls hl
                                            refine lv_iadd hx hb dX12_reachBits_137 ?_
                                            refine lv_topi (fun x_2869 ex_2869 => ?_)
                                            refine lv_istore_n (lv' := [(3, .int x_2869), (5, .int x_2846), (4, .int x_2386), (2, .int x_1284), (1, .int x_1285), (0, .ref (o + 0))]) hx hb dX12_reachBits_138 rfl hl (dk_dq rfl) rfl (fun ls hl => ?_)
                                            obtain ⟨x_2870, ex_2870⟩ : ∃ z, z = x_2846 + 1 := ⟨_, rfl⟩
                                            have jx_2870 : (x_2870).toInt = (x_2846).toInt + 1 := by rw [ex_2870]; exact dk_addT2 rfl (by decide +kernel) (by omega)
                                            refine lv_iinc (v := x_2870) (lv' := [(5, .int x_2870), (3, .int x_2869), (4, .int x_2386), (2, .int x_1284), (1, .int x_1285), (0, .ref (o + 0))]) hx hb dX12_reachBits_139 hl (k := 1) rfl (by rw [ex_2870]; rfl) (dk_dq rfl) rfl (fun ls hl => ?_)
                                            refine lv_goto (tgt := 85) hx hb dX12_reachBits_142 (dk_dq rfl) ?_
                                            exact ih x_2870 x_2869 (by omega) (by first | exact mu_lt hmu (by omega) (by omega) | omega) (lp_l hF_7 (Eq.trans hF_8 (F_m_reachBits_p7 ex_2869 ex_2870))) _ _ hP hS _ (lv_sub hl [0, 2, 1, 3, 4, 5] rfl)
                                          have J_2871 : ((F_m_reachBits_B7 S o S_2602 x_2386) (x_2846, x_2847) = F_m_reachBits_J9 x_2847 x_2846) → ∀ (H : Heap) (locs : List Loc), va_P D vwCl (dg_w g shM o rfM S_2602) H → va_S A s.heap H locs → ∀ ls : Array Slot, lv_has ls 6 [(5, .int x_2846), (4, .int x_2386), (3, .int x_2847), (2, .int x_1284), (1, .int x_1285), (0, .ref (o + 0))] → W p l e ({ frames := 9, cells := 0, slots := 0, locals := 217 } : Room) s m args below meth c H locs 0 0 (MQ below (va_Qi (fun (r : Int32) S' => CM o S' ∧ dg_sm shM [(0, 63)] [29, 30, 31, 32, 33, 34, 35, 36, 37, 38, 39, 40, 41, 42, 43, 44, 48] S S' ∧ ZSM S' ∧ (S' = (F_m_reachBits o S).1 ∧ r = (F_m_reachBits o S).2) ∧ True) (dg_B g D shM o rfM) A) args s 0 0 A) (F0 m 136 ls [.int x_2847]) := by
                                            intro hF_9 H locs hP hS ls hl
                                            refine lv_iconst (v := 0) hx hb dX12_reachBits_136 (by decide +kernel) ?_
                                            have hz_2872 : (0 : Int32).toInt = 0 := by decide +kernel
                                            exact J_2868 0 (by decide +kernel) (Eq.trans hF_9 (F_m_reachBits_p8)) _ _ hP hS _ (lv_sub hl [0, 1, 2, 3, 4, 5] rfl)
                                          refine lv_icmp_ne (tgt := 136) hx hb dX12_reachBits_104 (dk_dq rfl) (fun c_2873 => ?_) (fun c_2873 => ?_)
                                          · have jc_2873 := dk_neqc (k := (x_2386).toInt) rfl c_2873
                                            exact J_2871   (F_m_reachBits_p9 (zI_eq f_x_2849) c_2850 (Eq.symm ex_2853.symm) c_2873) _ _ hP hS _ (lv_sub hl [0, 1, 2, 3, 4, 5] rfl)
                                          · as_aux_lemma =>
                                              have jc_2873 := dk_eqc (k := (x_2386).toInt) rfl c_2873
                                              refine lv_aload_n hx hb dX12_reachBits_107 rfl (lv_at hl 5 rfl) ?_
                                              refine dg_get (C := RX12) (T := TX12) (N := 77) hx hb hts (fun w h => bw_mem (wU_X12 w h)) hown K hP sM_0 rfl 51 (dk_dq rfl) (hts _ (bw_mem wB_1090)) (fun _ h9 => h9) (v := .ref (o + 31)) (show S_2602.1 0 51 = .ref (o + 31) from dg_I.rel (d := 31) I_2602 sM_0 (by decide +kernel)) dX12_reachBits_108 ?_
                                              refine lv_bipush (v := 64) hx hb dX12_reachBits_111 (by decide +kernel) ?_
                                              refine lv_aload_n hx hb dX12_reachBits_113 rfl (lv_at hl 5 rfl) ?_
                                              refine dg_get (C := RX12) (T := TX12) (N := 77) hx hb hts (fun w h => bw_mem (wU_X12 w h)) hown K hP sM_0 rfl 71 (dk_dq rfl) (hts _ (bw_mem wB_1276)) (fun _ h9 => h9) (v := .ref (o + 46)) (show S_2602.1 0 71 = .ref (o + 46) from dg_I.rel (d := 46) I_2602 sM_0 (by decide +kernel)) dX12_reachBits_114 ?_
                                              refine lv_iload hx hb dX12_reachBits_117 (lv_at hl 0 rfl) ?_
                                              have hin_2874 : vp_in x_2846 16 := (dk_inv2 (by omega))
                                              refine dg_iald hx hb K hP sM_46 hin_2874 dX12_reachBits_119 (fun x_2875 ex_2875 => ?_)
                                              have b_x_2875 := dk_all_at (dg_I.row (lo := 0) (hi := 63) I_2602 sM_46 (by decide +kernel)) hin_2874 ex_2875
                                              refine lv_iadd hx hb dX12_reachBits_120 ?_
                                              refine lv_topi (fun x_2876 ex_2876 => ?_)
                                              have jx_2876 : (x_2876).toInt = 64 + (x_2875).toInt := by rw [ex_2876]; exact dk_addT2 (by decide +kernel) rfl (by omega)
                                              have hin_2877 : vp_in x_2876 1408 := (dk_inv2 (by omega))
                                              refine dg_iald hx hb K hP sM_31 hin_2877 dX12_reachBits_121 (fun x_2878 ex_2878 => ?_)
                                              have b_x_2878 := dk_all_at (dg_I.row (lo := (-1)) (hi := 9) I_2602 sM_31 (by decide +kernel)) hin_2877 ex_2878
                                              refine lv_aload_n hx hb dX12_reachBits_122 rfl (lv_at hl 5 rfl) ?_
                                              refine dg_get (C := RX12) (T := TX12) (N := 77) hx hb hts (fun w h => bw_mem (wU_X12 w h)) hown K hP sM_0 rfl 72 (dk_dq rfl) (hts _ (bw_mem wB_1277)) (fun _ h9 => h9) (v := .ref (o + 47)) (show S_2602.1 0 72 = .ref (o + 47) from dg_I.rel (d := 47) I_2602 sM_0 (by decide +kernel)) dX12_reachBits_123 ?_
                                              refine lv_iload hx hb dX12_reachBits_126 (lv_at hl 0 rfl) ?_
                                              have hin_2879 : vp_in x_2846 16 := (dk_inv2 (by omega))
                                              refine dg_iald hx hb K hP sM_47 hin_2879 dX12_reachBits_128 (fun x_2880 ex_2880 => ?_)
                                              refine lv_icmp_ne (tgt := 136) hx hb dX12_reachBits_129 (dk_dq rfl) (fun c_2881 => ?_) (fun c_2881 => ?_)
                                              · have hf_2881 := dk_full x_2880
                                                have jc_2881 := dk_neqc (k := (x_2880).toInt) rfl c_2881
                                                exact J_2871   (F_m_reachBits_p10 (zI_eq f_x_2849) c_2850 (Eq.symm ex_2853.symm) c_2873 (Eq.symm ex_2875.symm) ex_2876 (Eq.symm ex_2878.symm) (Eq.symm ex_2880.symm) c_2881) _ _ hP hS _ (lv_sub hl [0, 1, 2, 3, 4, 5] rfl)
                                              · have hf_2882 := dk_full x_2880
                                                have jc_2881 := dk_eqc (k := (x_2880).toInt) rfl c_2881
                                                refine lv_iconst (v := 1) hx hb dX12_reachBits_132 (by decide +kernel) ?_
                                                refine lv_goto (tgt := 137) hx hb dX12_reachBits_133 (dk_dq rfl) ?_
                                                have hz_2884 : (1 : Int32).toInt = 1 := by decide +kernel
                                                exact J_2868 1 (by decide +kernel) (F_m_reachBits_p11 (zI_eq f_x_2849) c_2850 (Eq.symm ex_2853.symm) c_2873 (Eq.symm ex_2875.symm) ex_2876 (Eq.symm ex_2878.symm) (Eq.symm ex_2880.symm) c_2881) _ _ hP hS _ (lv_sub hl [0, 1, 2, 3, 4, 5] rfl)
                              have hz_2885 : (0 : Int32).toInt = 0 := by decide +kernel
                              have hz_2886 : (0 : Int32).toInt = 0 := by decide +kernel
                              exact L_2848 ((17 - ((0 : Int32)).toInt).toNat + 1) 0 x_2387 (by decide +kernel) (by first | exact mu_lt hmu (by omega) (by omega) | omega) (Eq.trans hF_5 (F_m_reachBits_p12)) _ _ hP hS _ (lv_sub hl [0, 1, 2, 3, 4, 5] rfl)
                          have L_2948 : ∀ (n : Nat) (x_2946 : Int32), (0 ≤ (x_2946).toInt ∧ (x_2946).toInt ≤ 64) → ((65 - (x_2946).toInt).toNat < n) → ∀ S_2947 : dg_S, CM o S_2947 → dg_sm shM [(0, 63)] [29, 30, 31, 32, 33, 34, 35, 36, 37, 38, 39, 40, 41, 42, 43, 44, 48] S S_2947 → S_2947.1 0 63 = .int x_1284 → S_2947.2.1 29 (1 : Int32).toNatClampNeg = rw_2388_0 → S_2947.2.1 29 (0 : Int32).toNatClampNeg = x_2393 → ZSM S_2947 → ((F_m_reachBits_B4 S o x_1284 x_1285) (x_2386, x_2387, rw_2388_0, S_2388) = lp (F_m_reachBits_B10 S o x_2386 x_2387 x_1284) (Sum.inr (Sum.inr (S, (0 : Int32)))) n (x_2946, S_2947)) → ∀ (H : Heap) (locs : List Loc), va_P D vwCl (dg_w g shM o rfM S_2947) H → va_S A s.heap H locs → ∀ ls : Array Slot, lv_has ls 6 [(5, .int x_2946), (4, .int x_2386), (3, .int x_2387), (2, .int x_1284), (1, .int x_1285), (0, .ref (o + 0))] → W p l e ({ frames := 9, cells := 0, slots := 0, locals := 217 } : Room) s m args below meth c H locs 0 0 (MQ below (va_Qi (fun (r : Int32) S' => CM o S' ∧ dg_sm shM [(0, 63)] [29, 30, 31, 32, 33, 34, 35, 36, 37, 38, 39, 40, 41, 42, 43, 44, 48] S S' ∧ ZSM S' ∧ (S' = (F_m_reachBits o S).1 ∧ r = (F_m_reachBits o S).2) ∧ True) (dg_B g D shM o rfM) A) args s 0 0 A) (F0 m 41 ls []) := by
                            as_aux_lemma =>
                              intro n
                              induction n with
                              | zero =>
                                intro x_2946 b_x_2946 hmu S_2947 I_2947 M_2947 ff_2947_63_0 frw_2947_0 frw_2947_1 ZS_2947 hF_10 H locs hP hS ls hl
                                omega
                              | succ n ih =>
                                as_aux_lemma =>
                                  intro x_2946 b_x_2946 hmu S_2947 I_2947 M_2947 ff_2947_63_0 frw_2947_0 frw_2947_1 ZS_2947 hF_10 H locs hP hS ls hl
                                  refine lv_iload hx hb dX12_reachBits_41 (lv_at hl 0 rfl) ?_
                                  refine lv_bipush (v := 64) hx hb dX12_reachBits_43 (by decide +kernel) ?_
                                  refine lv_icmp_ge (tgt := 82) hx hb dX12_reachBits_45 (dk_dq rfl) (fun c_2949 => ?_) (fun c_2949 => ?_)
                                  · have jc_2949 := dk_gec (k := 64) (by decide +kernel) c_2949
                                    have hf_2949 := dk_full x_2946
                                    exact J_2603 x_2946 (by omega) S_2947 I_2947 M_2947 ff_2947_63_0 frw_2947_0 frw_2947_1 ZS_2947 (lp_r hF_10 (F_m_reachBits_p13 c_2949)) _ _ hP hS _ (lv_sub hl [0, 1, 2, 3, 4, 5] rfl)
                                  · as_aux_lemma =>
                                      have jc_2949 := dk_ngec (k := 64) (by decide +kernel) c_2949
                                      refine lv_aload_n hx hb dX12_reachBits_48 rfl (lv_at hl 5 rfl) ?_
                                      refine dg_get (C := RX12) (T := TX12) (N := 77) hx hb hts (fun w h => bw_mem (wU_X12 w h)) hown K hP sM_0 rfl 73 (dk_dq rfl) (hts _ (bw_mem wB_1262)) (fun _ h9 => h9) (v := .ref (o + 48)) (show S_2947.1 0 73 = .ref (o + 48) from dg_I.rel (d := 48) I_2947 sM_0 (by decide +kernel)) dX12_reachBits_49 ?_
                                      refine lv_bipush (v := 64) hx hb dX12_reachBits_52 (by decide +kernel) ?_
                                      refine lv_bipush (v := 31) hx hb dX12_reachBits_54 (by decide +kernel) ?_
                                      refine lv_iload_n hx hb dX12_reachBits_56 rfl (lv_at hl 3 rfl) ?_
                                      refine lv_imul hx hb dX12_reachBits_57 ?_
                                      refine lv_topi (fun x_2951 ex_2951 => ?_)
                                      have jx_2951 : (x_2951).toInt = 31 * (x_1284).toInt := by rw [ex_2951]; exact dk_mulT2 (by decide +kernel) rfl (by omega)
                                      refine lv_iload hx hb dX12_reachBits_58 (lv_at hl 1 rfl) ?_
                                      refine lv_iadd hx hb dX12_reachBits_60 ?_
                                      refine lv_topi (fun x_2952 ex_2952 => ?_)
                                      have jx_2952 : (x_2952).toInt = (x_2951).toInt + (x_2386).toInt := by rw [ex_2952]; exact dk_addT2 rfl rfl (by omega)
                                      refine lv_imul hx hb dX12_reachBits_61 ?_
                                      refine lv_topi (fun x_2953 ex_2953 => ?_)
                                      have jx_2953 : (x_2953).toInt = 64 * (x_2952).toInt := by rw [ex_2953]; exact dk_mulT2 (by decide +kernel) rfl (by omega)
                                      refine lv_iload hx hb dX12_reachBits_62 (lv_at hl 0 rfl) ?_
                                      refine lv_iadd hx hb dX12_reachBits_64 ?_
                                      refine lv_topi (fun x_2954 ex_2954 => ?_)
                                      have jx_2954 : (x_2954).toInt = (x_2953).toInt + (x_2946).toInt := by rw [ex_2954]; exact dk_addT2 rfl rfl (by omega)
                                      refine lv_aload_n hx hb dX12_reachBits_65 rfl (lv_at hl 5 rfl) ?_
                                      refine dg_get (C := RX12) (T := TX12) (N := 77) hx hb hts (fun w h => bw_mem (wU_X12 w h)) hown K hP sM_0 rfl 51 (dk_dq rfl) (hts _ (bw_mem wB_1090)) (fun _ h9 => h9) (v := .ref (o + 31)) (show S_2947.1 0 51 = .ref (o + 31) from dg_I.rel (d := 31) I_2947 sM_0 (by decide +kernel)) dX12_reachBits_66 ?_
                                      refine lv_bipush (v := 64) hx hb dX12_reachBits_69 (by decide +kernel) ?_
                                      refine lv_iload hx hb dX12_reachBits_71 (lv_at hl 0 rfl) ?_
                                      refine lv_iadd hx hb dX12_reachBits_73 ?_
                                      refine lv_topi (fun x_2955 ex_2955 => ?_)
                                      have jx_2955 : (x_2955).toInt = 64 + (x_2946).toInt := by rw [ex_2955]; exact dk_addT2 (by decide +kernel) rfl (by omega)
                                      have hin_2956 : vp_in x_2955 1408 := (dk_inv2 (by omega))
                                      refine dg_iald hx hb K hP sM_31 hin_2956 dX12_reachBits_74 (fun x_2957 ex_2957 => ?_)
                                      have b_x_2957 := dk_all_at (dg_I.row (lo := (-1)) (hi := 9) I_2947 sM_31 (by decide +kernel)) hin_2956 ex_2957
                                      have hin_2958 : vp_in x_2954 41664 := (dk_inv2 (by omega))
                                      refine dg_iast hx hb K hP hS hA1 sM_48 hin_2958 dX12_reachBits_75 (fun S_2959 e_2959 H locs hP hS => ?_)
                                      have I_2959 := dg_I.ufu (lo := (-1)) (hi := 9) I_2947 e_2959 sM_48 (by decide +kernel) (show (-1) ≤ (x_2957).toInt ∧ (x_2957).toInt ≤ 9 from (by omega))
                                      have M_2959 := dg_sm.uf M_2947 e_2959 sM_48 (dk_dq rfl)
                                      obtain ⟨x_2960, ex_2960⟩ : ∃ z, z = x_2946 + 1 := ⟨_, rfl⟩
                                      have jx_2960 : (x_2960).toInt = (x_2946).toInt + 1 := by rw [ex_2960]; exact dk_addT2 rfl (by decide +kernel) (by omega)
                                      refine lv_iinc (v := x_2960) (lv' := [(5, .int x_2960), (4, .int x_2386), (3, .int x_2387), (2, .int x_1284), (1, .int x_1285), (0, .ref (o + 0))]) hx hb dX12_reachBits_76 hl (k := 0) rfl (by rw [ex_2960]; rfl) (dk_dq rfl) rfl (fun ls hl => ?_)
                                      refine lv_goto (tgt := 41) hx hb dX12_reachBits_79 (dk_dq rfl) ?_
                                      exact ih x_2960 (by omega) (by first | exact mu_lt hmu (by omega) (by omega) | omega) S_2959 I_2959 M_2959 ((dg_uf_F e_2959 0 63).trans ff_2947_63_0) ((congrFun (dg_uf_ne e_2959 (dk_dq rfl)) _).trans frw_2947_0) ((congrFun (dg_uf_ne e_2959 (dk_dq rfl)) _).trans frw_2947_1) (ZSM.keep ZS_2947 (dg_sm.uf (WF := []) (WA := [48]) dg_sm.rf e_2959 sM_48 (dk_dq rfl)) (dk_dq rfl)) (lp_l hF_10 (F_m_reachBits_p14 c_2949 ex_2951 ex_2952 ex_2953 ex_2954 ex_2955 (Eq.symm ex_2957.symm) e_2959 ex_2960)) _ _ hP hS _ (lv_sub hl [0, 1, 2, 3, 4, 5] rfl)
                          have hz_2961 : (0 : Int32).toInt = 0 := by decide +kernel
                          have hz_2962 : (0 : Int32).toInt = 0 := by decide +kernel
                          exact L_2948 ((65 - ((0 : Int32)).toInt).toNat + 1) 0 (by decide +kernel) (by first | exact mu_lt hmu (by omega) (by omega) | omega) S_2388 I_2388 M_2388 ff_2388_63_0 frw_2388_0 f_x_2393 ZS_2388 (F_m_reachBits_p15 w_2397_2 c_2400) _ _ hP hS _ (lv_sub hl [0, 1, 2, 3, 4, 5] rfl)
              have hz_2963 : (0 : Int32).toInt = 0 := by decide +kernel
              have hz_2964 : (0 : Int32).toInt = 0 := by decide +kernel
              have hz_2965 : (0 : Int32).toInt = 0 := by decide +kernel
              exact L_2389 ((32 - ((0 : Int32)).toInt).toNat + 1) 0 0 (by decide +kernel) (by first | exact mu_lt hmu (by omega) (by omega) | omega) S_1307 I_1307 M_1307 (dg_uF_at e_1307) x_1301 ((congrFun (dg_uF_f e_1307 29) _).trans f_x_1301) (by omega) (ZSM.keep w_1298_2 (dg_sm.uF (WF := [(0, 63)]) (WA := []) dg_sm.rf e_1307 sM_0 (dk_dq rfl)) (dk_dq rfl)) (by omega) (F_m_reachBits_p16 c_1288 w_1298_3 (Eq.symm f_x_1301) e_1307) _ _ hP hS _ (lv_sub hl [0, 1, 2, 3, 4] rfl)
  have hz_2966 : (0 : Int32).toInt = 0 := by decide +kernel
  have hz_2967 : (0 : Int32).toInt = 0 := by decide +kernel
  have hz_2968 : (0 : Int32).toInt = 0 := by decide +kernel
  exact L_1287 ((22 - ((0 : Int32)).toInt).toNat + 1) 0 0 (by decide +kernel) (by first | exact mu_lt hmu (by omega) (by omega) | omega) S I M_0 ZS (F_m_reachBits_p17) _ _ hP hS _ (lv_sub hl [0, 1, 2] rfl)
noncomputable def F_m_reaches (o : Nat) (S : dg_S) : dg_S × Int32 := let x_1 : Int32 := zI S 0 47; (if x_1 = (0 : Int32) then (S, (-1 : Int32)) else let S_4 : dg_S := (F_m_reachBits o S).1; let x_3 : Int32 := (F_m_reachBits o S).2; (S_4, x_3))
theorem F_m_reaches_p0 {o : Nat} {S : dg_S} {x_1 : Int32} (h0 : x_1 = zI S 0 47) (h1 : x_1 = (0 : Int32)) : F_m_reaches o S = (S, (-1 : Int32)) := by
  replace h0 := Eq.symm h0
  subst h0
  exact (Eq.trans (if_pos h1) rfl)
theorem F_m_reaches_p1 {o : Nat} {S : dg_S} {S_4 : dg_S} {x_3 : Int32} {x_1 : Int32} (h0 : x_1 = zI S 0 47) (h1 : ¬ (x_1 = (0 : Int32))) (h2 : S_4 = (F_m_reachBits o S).1) (h3 : x_3 = (F_m_reachBits o S).2) : F_m_reaches o S = (S_4, x_3) := by
  replace h0 := Eq.symm h0
  subst h0
  replace h2 := Eq.symm h2
  subst h2
  replace h3 := Eq.symm h3
  subst h3
  exact (Eq.trans (if_neg h1) rfl)
set_option maxHeartbeats 8000000 in
set_option maxRecDepth 100000 in
theorem c_m_reaches (l : Launch) (g : Nat → ClassId) (D : va_G) (o : Nat) (S : dg_S) (ZB : ZBM S) (ZS : ZSM S) (ZW : ZWM S) (I : CM o S) (sz : Nat) : Met l yX12_reaches (bw yX12_reaches cX12_reaches 1 (some .int)) ({ frames := 10, cells := 0, slots := 0, locals := 242 } : Room) (dk_Pc g D (dg_w g shM o rfM S) sz [.ref (o + 0)]) (va_Qi (fun (r : Int32) S' => CM o S' ∧ dg_sm shM [(0, 63)] [29, 30, 31, 32, 33, 34, 35, 36, 37, 38, 39, 40, 41, 42, 43, 44, 48] S S' ∧ ZSM S' ∧ (S' = (F_m_reaches o S).1 ∧ r = (F_m_reaches o S).2) ∧ True) (dg_B g D shM o rfM) (dg_A o shM.length sz)) 0 0 (dg_A o shM.length sz) := by
  refine dg_met (cc := cX12_reaches) (maxL := 1) (ret := (some .int)) (dk_dq rfl) rfl (Nat.le_of_ble_eq_true rfl) ?_
  intro p e s m args below meth c A hAe harg hx hb hr hml hts hown hlocks hin hP K hS hA1 hA ST hsz ls hl
  rw [← hAe]
  have F : CallFix p m c cX12_reaches 1 s args (bw yX12_reaches cX12_reaches 1 (some .int)) RX12 := ⟨hx, hb, hml, hown, hts⟩
  have hl : lv_has ls 1 [(0, .ref (o + 0))] := hl
  have M_0 : dg_sm shM [(0, 63)] [29, 30, 31, 32, 33, 34, 35, 36, 37, 38, 39, 40, 41, 42, 43, 44, 48] S S := dg_sm.rf
  refine lv_aload_n hx hb dX12_reaches_0 rfl (lv_at hl 0 rfl) ?_
  obtain ⟨x_1, f_x_1, b_x_1⟩ := dg_I.int (i := 0) (k := 47) (lo := 0) (hi := 1) I sM_0 (by decide +kernel)
  refine dg_get (C := RX12) (T := TX12) (N := 77) hx hb hts (fun w h => bw_mem (wU_X12 w h)) hown K hP sM_0 rfl 47 (dk_dq rfl) (hts _ (bw_mem wB_1084)) (fun _ h9 => h9) (v := .int x_1) f_x_1 dX12_reaches_1 ?_
  refine lv_if_eq (tgt := 14) hx hb dX12_reaches_4 (dk_dq rfl) (fun c_2 => ?_) (fun c_2 => ?_)
  · have jc_2 := dk_eqc (k := 0) (by decide +kernel) c_2
    refine lv_iconst (v := (-1)) hx hb dX12_reaches_14 (by decide +kernel) ?_
    refine W.widen (k := 0) (n := 0) (Nat.le_of_ble_eq_true rfl) (Nat.le_of_ble_eq_true rfl) ?_
    exact dg_iret hx hb hr hlocks rfl hP hS ⟨I, M_0, ZS, ⟨congrArg Prod.fst (Eq.symm (F_m_reaches_p0 (zI_eq f_x_1) c_2)), congrArg Prod.snd (Eq.symm (F_m_reaches_p0 (zI_eq f_x_1) c_2))⟩, trivial⟩ dX12_reaches_15
  · have jc_2 := dk_neqc (k := 0) (by decide +kernel) c_2
    refine lv_aload_n hx hb dX12_reaches_7 rfl (lv_at hl 0 rfl) ?_
    refine dg_calli hS hA1 hA (va_runV (As := []) (rest := []) F (c_m_reachBits l g D o S ZB ZS ZW I s.heap.size) (cwV 0 hts (bw_V wB_1279 wB_1280 wB_1281 wB_297 wB_1278) rfl rfl rfl (by decide +kernel) ⟨Nat.le_of_ble_eq_true rfl, Nat.le_of_ble_eq_true rfl⟩) (dg_preV sM_0 rfl K ST hP hS hA1 hA) rfl rfl hl.1 rfl (lv_room (Nat.le_of_ble_eq_true rfl)) dX12_reaches_8 ⟨Nat.le_of_ble_eq_true rfl, Nat.le_of_ble_eq_true rfl⟩) (fun x_3 S_4 hw_4 H locs hP hS => ?_)
    obtain ⟨I_4, m_4, w_4_0, w_4_1, -⟩ := hw_4
    have M_4 := dg_sm.tr M_0 m_4 (dk_dq rfl) (dk_dq rfl)
    refine lv_goto (tgt := 15) hx hb dX12_reaches_11 (dk_dq rfl) ?_
    refine W.widen (k := 0) (n := 0) (Nat.le_of_ble_eq_true rfl) (Nat.le_of_ble_eq_true rfl) ?_
    exact dg_iret hx hb hr hlocks rfl hP hS ⟨I_4, M_4, w_4_0, ⟨congrArg Prod.fst (Eq.symm (F_m_reaches_p1 (zI_eq f_x_1) c_2 w_4_1.1 w_4_1.2)), congrArg Prod.snd (Eq.symm (F_m_reaches_p1 (zI_eq f_x_1) c_2 w_4_1.1 w_4_1.2))⟩, trivial⟩ dX12_reaches_15
noncomputable def F_m_tells_J1 (x_811 : Int32) (S_819 : dg_S) (a1 : Int32) (x_810 : Int32) : dg_S × Int32 := (if x_811 = (-1 : Int32) then (S_819, (-1 : Int32)) else (if a1 = (0 : Int32) then let x_825 : Int32 := x_811 / (64 : Int32); (S_819, x_825) else (if a1 = (1 : Int32) then let x_824 : Int32 := x_811 - x_811 / (64 : Int32) * (64 : Int32); (S_819, x_824) else (S_819, x_810))))
noncomputable def F_m_tells_J3 (x_1513 : Int32) (x_1648 : Int32) (x_1649 : Int32) (S_1653 : dg_S) : (Int32 × Int32 × Int32 × dg_S) ⊕ (dg_S × Int32) := let x_1655 : Int32 := x_1513 + 1; (Sum.inl (x_1655, x_1648, x_1649, S_1653))
noncomputable def F_m_tells_J6 (x_1755 : Int32) (x_1787 : Int32) (x_1786 : Int32) (S_1779 : dg_S) : (Int32 × Int32 × Int32 × dg_S) ⊕ ((Int32 × Int32 × Int32 × dg_S) ⊕ (dg_S × Int32)) := let x_1791 : Int32 := x_1755 + 1; (Sum.inl (x_1791, x_1787, x_1786, S_1779))
noncomputable def F_m_tells_J5 (x_1768 : Int32) (x_1756 : Int32) (x_1513 : Int32) (x_1755 : Int32) (S_1779 : dg_S) (x_1757 : Int32) : (Int32 × Int32 × Int32 × dg_S) ⊕ ((Int32 × Int32 × Int32 × dg_S) ⊕ (dg_S × Int32)) := (if x_1768 < x_1756 then let x_1795 : Int32 := (64 : Int32) * x_1513; let x_1796 : Int32 := x_1795 + x_1755; (F_m_tells_J6 x_1755 x_1768 x_1796 S_1779) else (F_m_tells_J6 x_1755 x_1756 x_1757 S_1779))
noncomputable def F_m_tells_B4 (x_1513 : Int32) (o : Nat) (x_9 : Int32) : (Int32 × Int32 × Int32 × dg_S) → (Int32 × Int32 × Int32 × dg_S) ⊕ ((Int32 × Int32 × Int32 × dg_S) ⊕ (dg_S × Int32)) := fun w9 => match w9 with | (x_1755, x_1756, x_1757, S_1758) => (if (64 : Int32) ≤ x_1755 then (Sum.inr ((F_m_tells_J3 x_1513 x_1756 x_1757 S_1758))) else let x_1763 : Int32 := F_m_isCellOf o S_1758 x_1755; (if x_1763 = (0 : Int32) then (F_m_tells_J5 (100000000 : Int32) x_1756 x_1513 x_1755 S_1758 x_1757) else let S_1803 : dg_S := (F_m_mostBy o S_1758 x_9 x_1513 x_1755).1; let x_1802 : Int32 := (F_m_mostBy o S_1758 x_9 x_1513 x_1755).2; (F_m_tells_J5 x_1802 x_1756 x_1513 x_1755 S_1803 x_1757)))
noncomputable def F_m_tells_B2 (o : Nat) (a1 : Int32) (x_9 : Int32) (S : dg_S) : (Int32 × Int32 × Int32 × dg_S) → (Int32 × Int32 × Int32 × dg_S) ⊕ (dg_S × Int32) := fun w9 => match w9 with | (x_1513, x_1514, x_1515, S_1516) => let x_1520 : Int32 := S_1516.2.1 29 (0 : Int32).toNatClampNeg; let x_1523 : Int32 := F_m_isAhead o S_1516 x_1513 (1 : Int32) (30 : Int32); (if x_1523 = (0 : Int32) then (Sum.inr ((F_m_tells_J1 x_1515 S_1516 a1 x_1514))) else (if x_9 = (0 : Int32) then (Sum.inr ((F_m_tells_J1 x_1515 S_1516 a1 x_1514))) else (lp (F_m_tells_B4 x_1513 o x_9) (Sum.inr (S, (0 : Int32))) ((65 - ((0 : Int32)).toInt).toNat + 1) ((0 : Int32), x_1514, x_1515, S_1516))))
noncomputable def F_m_tells (o : Nat) (S : dg_S) (a1 : Int32) : dg_S × Int32 := let x_1 : Int32 := zI S 0 47; (if x_1 = (0 : Int32) then (S, (-1 : Int32)) else let x_4 : Int32 := F_m_is o S a1 (0 : Int32) (2 : Int32); (if x_4 = (0 : Int32) then (S, (-1 : Int32)) else let S_10 : dg_S := (F_m_reachBits o S).1; let x_9 : Int32 := (F_m_reachBits o S).2; (lp (F_m_tells_B2 o a1 x_9 S) (S, (0 : Int32)) ((32 - ((1 : Int32)).toInt).toNat + 1) ((1 : Int32), (100000000 : Int32), (-1 : Int32), S_10))))
theorem F_m_tells_p0 {o : Nat} {S : dg_S} {a1 : Int32} {x_1 : Int32} (h0 : x_1 = zI S 0 47) (h1 : x_1 = (0 : Int32)) : F_m_tells o S a1 = (S, (-1 : Int32)) := by
  replace h0 := Eq.symm h0
  subst h0
  exact (Eq.trans (if_pos h1) rfl)
theorem F_m_tells_p1 {x_811 : Int32} {S_819 : dg_S} {a1 : Int32} {x_810 : Int32} (h0 : ¬ (x_811 = (-1 : Int32))) (h1 : ¬ (a1 = (0 : Int32))) (h2 : ¬ (a1 = (1 : Int32))) : F_m_tells_J1 x_811 S_819 a1 x_810 = (S_819, x_810) := (Eq.trans (if_neg h0) (Eq.trans (if_neg h1) (Eq.trans (if_neg h2) rfl)))
theorem F_m_tells_p2 {x_811 : Int32} {S_819 : dg_S} {a1 : Int32} {x_810 : Int32} {x_824 : Int32} (h0 : ¬ (x_811 = (-1 : Int32))) (h1 : ¬ (a1 = (0 : Int32))) (h2 : a1 = (1 : Int32)) (h3 : x_824 = x_811 - x_811 / (64 : Int32) * (64 : Int32)) : F_m_tells_J1 x_811 S_819 a1 x_810 = (S_819, x_824) := by
  replace h3 := Eq.symm h3
  subst h3
  exact (Eq.trans (if_neg h0) (Eq.trans (if_neg h1) (Eq.trans (if_pos h2) rfl)))
theorem F_m_tells_p3 {x_811 : Int32} {S_819 : dg_S} {a1 : Int32} {x_810 : Int32} {x_825 : Int32} (h0 : ¬ (x_811 = (-1 : Int32))) (h1 : a1 = (0 : Int32)) (h2 : x_825 = x_811 / (64 : Int32)) : F_m_tells_J1 x_811 S_819 a1 x_810 = (S_819, x_825) := by
  replace h2 := Eq.symm h2
  subst h2
  exact (Eq.trans (if_neg h0) (Eq.trans (if_pos h1) rfl))
theorem F_m_tells_p4 {x_811 : Int32} {S_819 : dg_S} {a1 : Int32} {x_810 : Int32} (h0 : x_811 = (-1 : Int32)) : F_m_tells_J1 x_811 S_819 a1 x_810 = (S_819, (-1 : Int32)) := (Eq.trans (if_pos h0) rfl)
theorem F_m_tells_p5 {o : Nat} {a1 : Int32} {x_9 : Int32} {S : dg_S} {x_1513 : Int32} {x_1514 : Int32} {x_1515 : Int32} {S_1516 : dg_S} {x_1523 : Int32} (h0 : x_1523 = F_m_isAhead o S_1516 x_1513 (1 : Int32) (30 : Int32)) (h1 : x_1523 = (0 : Int32)) : (F_m_tells_B2 o a1 x_9 S) (x_1513, x_1514, x_1515, S_1516) = Sum.inr (F_m_tells_J1 x_1515 S_1516 a1 x_1514) := by
  replace h0 := Eq.symm h0
  subst h0
  exact (Eq.trans (if_pos h1) rfl)
theorem F_m_tells_p6 {o : Nat} {a1 : Int32} {x_9 : Int32} {S : dg_S} {x_1513 : Int32} {x_1514 : Int32} {x_1515 : Int32} {S_1516 : dg_S} {x_1523 : Int32} (h0 : x_1523 = F_m_isAhead o S_1516 x_1513 (1 : Int32) (30 : Int32)) (h1 : ¬ (x_1523 = (0 : Int32))) (h2 : x_9 = (0 : Int32)) : (F_m_tells_B2 o a1 x_9 S) (x_1513, x_1514, x_1515, S_1516) = Sum.inr (F_m_tells_J1 x_1515 S_1516 a1 x_1514) := by
  replace h0 := Eq.symm h0
  subst h0
  exact (Eq.trans (if_neg h1) (Eq.trans (if_pos h2) rfl))
theorem F_m_tells_p7 {x_1513 : Int32} {x_1648 : Int32} {x_1649 : Int32} {S_1653 : dg_S} {x_1655 : Int32} (h0 : x_1655 = x_1513 + 1) : F_m_tells_J3 x_1513 x_1648 x_1649 S_1653 = Sum.inl (x_1655, x_1648, x_1649, S_1653) := by
  replace h0 := Eq.symm h0
  subst h0
  exact rfl
theorem F_m_tells_p8 {x_1513 : Int32} {o : Nat} {x_9 : Int32} {x_1755 : Int32} {x_1756 : Int32} {x_1757 : Int32} {S_1758 : dg_S} (h0 : (64 : Int32) ≤ x_1755) : (F_m_tells_B4 x_1513 o x_9) (x_1755, x_1756, x_1757, S_1758) = Sum.inr (F_m_tells_J3 x_1513 x_1756 x_1757 S_1758) := (Eq.trans (if_pos h0) rfl)
theorem F_m_tells_p9 {x_1755 : Int32} {x_1787 : Int32} {x_1786 : Int32} {S_1779 : dg_S} {x_1791 : Int32} (h0 : x_1791 = x_1755 + 1) : F_m_tells_J6 x_1755 x_1787 x_1786 S_1779 = Sum.inl (x_1791, x_1787, x_1786, S_1779) := by
  replace h0 := Eq.symm h0
  subst h0
  exact rfl
theorem F_m_tells_p10 {x_1768 : Int32} {x_1756 : Int32} {x_1513 : Int32} {x_1755 : Int32} {S_1779 : dg_S} {x_1757 : Int32} {x_1796 : Int32} {x_1795 : Int32} (h0 : x_1768 < x_1756) (h1 : x_1795 = (64 : Int32) * x_1513) (h2 : x_1796 = x_1795 + x_1755) : F_m_tells_J5 x_1768 x_1756 x_1513 x_1755 S_1779 x_1757 = F_m_tells_J6 x_1755 x_1768 x_1796 S_1779 := by
  replace h1 := Eq.symm h1
  subst h1
  replace h2 := Eq.symm h2
  subst h2
  exact (Eq.trans (if_pos h0) rfl)
theorem F_m_tells_p11 {x_1768 : Int32} {x_1756 : Int32} {x_1513 : Int32} {x_1755 : Int32} {S_1779 : dg_S} {x_1757 : Int32} (h0 : ¬ (x_1768 < x_1756)) : F_m_tells_J5 x_1768 x_1756 x_1513 x_1755 S_1779 x_1757 = F_m_tells_J6 x_1755 x_1756 x_1757 S_1779 := (Eq.trans (if_neg h0) rfl)
theorem F_m_tells_p12 {x_1513 : Int32} {o : Nat} {x_9 : Int32} {x_1755 : Int32} {x_1756 : Int32} {x_1757 : Int32} {S_1758 : dg_S} {x_1763 : Int32} (h0 : ¬ ((64 : Int32) ≤ x_1755)) (h1 : x_1763 = F_m_isCellOf o S_1758 x_1755) (h2 : x_1763 = (0 : Int32)) : (F_m_tells_B4 x_1513 o x_9) (x_1755, x_1756, x_1757, S_1758) = F_m_tells_J5 (100000000 : Int32) x_1756 x_1513 x_1755 S_1758 x_1757 := by
  replace h1 := Eq.symm h1
  subst h1
  exact (Eq.trans (if_neg h0) (Eq.trans (if_pos h2) rfl))
theorem F_m_tells_p13 {x_1513 : Int32} {o : Nat} {x_9 : Int32} {x_1755 : Int32} {x_1756 : Int32} {x_1757 : Int32} {S_1758 : dg_S} {x_1802 : Int32} {S_1803 : dg_S} {x_1763 : Int32} (h0 : ¬ ((64 : Int32) ≤ x_1755)) (h1 : x_1763 = F_m_isCellOf o S_1758 x_1755) (h2 : ¬ (x_1763 = (0 : Int32))) (h3 : S_1803 = (F_m_mostBy o S_1758 x_9 x_1513 x_1755).1) (h4 : x_1802 = (F_m_mostBy o S_1758 x_9 x_1513 x_1755).2) : (F_m_tells_B4 x_1513 o x_9) (x_1755, x_1756, x_1757, S_1758) = F_m_tells_J5 x_1802 x_1756 x_1513 x_1755 S_1803 x_1757 := by
  replace h1 := Eq.symm h1
  subst h1
  replace h3 := Eq.symm h3
  subst h3
  replace h4 := Eq.symm h4
  subst h4
  exact (Eq.trans (if_neg h0) (Eq.trans (if_neg h2) rfl))
theorem F_m_tells_p14 {o : Nat} {a1 : Int32} {x_9 : Int32} {S : dg_S} {x_1513 : Int32} {x_1514 : Int32} {x_1515 : Int32} {S_1516 : dg_S} {x_1523 : Int32} (h0 : x_1523 = F_m_isAhead o S_1516 x_1513 (1 : Int32) (30 : Int32)) (h1 : ¬ (x_1523 = (0 : Int32))) (h2 : ¬ (x_9 = (0 : Int32))) : (F_m_tells_B2 o a1 x_9 S) (x_1513, x_1514, x_1515, S_1516) = lp (F_m_tells_B4 x_1513 o x_9) (Sum.inr (S, (0 : Int32))) ((65 - ((0 : Int32)).toInt).toNat + 1) ((0 : Int32), x_1514, x_1515, S_1516) := by
  replace h0 := Eq.symm h0
  subst h0
  exact (Eq.trans (if_neg h1) (Eq.trans (if_neg h2) rfl))
theorem F_m_tells_p15 {o : Nat} {S : dg_S} {a1 : Int32} {x_9 : Int32} {S_10 : dg_S} {x_1 : Int32} {x_4 : Int32} (h0 : x_1 = zI S 0 47) (h1 : ¬ (x_1 = (0 : Int32))) (h2 : x_4 = F_m_is o S a1 (0 : Int32) (2 : Int32)) (h3 : ¬ (x_4 = (0 : Int32))) (h4 : S_10 = (F_m_reachBits o S).1) (h5 : x_9 = (F_m_reachBits o S).2) : F_m_tells o S a1 = lp (F_m_tells_B2 o a1 x_9 S) (S, (0 : Int32)) ((32 - ((1 : Int32)).toInt).toNat + 1) ((1 : Int32), (100000000 : Int32), (-1 : Int32), S_10) := by
  replace h0 := Eq.symm h0
  subst h0
  replace h2 := Eq.symm h2
  subst h2
  replace h4 := Eq.symm h4
  subst h4
  replace h5 := Eq.symm h5
  subst h5
  exact (Eq.trans (if_neg h1) (Eq.trans (if_neg h3) rfl))
theorem F_m_tells_p16 {o : Nat} {S : dg_S} {a1 : Int32} {x_1 : Int32} {x_4 : Int32} (h0 : x_1 = zI S 0 47) (h1 : ¬ (x_1 = (0 : Int32))) (h2 : x_4 = F_m_is o S a1 (0 : Int32) (2 : Int32)) (h3 : x_4 = (0 : Int32)) : F_m_tells o S a1 = (S, (-1 : Int32)) := by
  replace h0 := Eq.symm h0
  subst h0
  replace h2 := Eq.symm h2
  subst h2
  exact (Eq.trans (if_neg h1) (Eq.trans (if_pos h3) rfl))
set_option maxHeartbeats 8000000 in
set_option maxRecDepth 100000 in
theorem c_m_tells (l : Launch) (g : Nat → ClassId) (D : va_G) (o : Nat) (S : dg_S) (a1 : Int32) (ZB : ZBM S) (ZS : ZSM S) (ZW : ZWM S) (I : CM o S) (sz : Nat) : Met l yX12_tells (bw yX12_tells cX12_tells 8 (some .int)) ({ frames := 10, cells := 0, slots := 0, locals := 242 } : Room) (dk_Pc g D (dg_w g shM o rfM S) sz [.ref (o + 0), .int a1]) (va_Qi (fun (r : Int32) S' => CM o S' ∧ dg_sm shM [(0, 63)] [29, 30, 31, 32, 33, 34, 35, 36, 37, 38, 39, 40, 41, 42, 43, 44, 48, 49] S S' ∧ ((-1) ≤ (r).toInt ∧ (r).toInt ≤ 100000000) ∧ ZSM S' ∧ (S' = (F_m_tells o S a1).1 ∧ r = (F_m_tells o S a1).2) ∧ True) (dg_B g D shM o rfM) (dg_A o shM.length sz)) 0 0 (dg_A o shM.length sz) := by
  refine dg_met (cc := cX12_tells) (maxL := 8) (ret := (some .int)) (dk_dq rfl) rfl (Nat.le_of_ble_eq_true rfl) ?_
  intro p e s m args below meth c A hAe harg hx hb hr hml hts hown hlocks hin hP K hS hA1 hA ST hsz ls hl
  rw [← hAe]
  have F : CallFix p m c cX12_tells 8 s args (bw yX12_tells cX12_tells 8 (some .int)) RX12 := ⟨hx, hb, hml, hown, hts⟩
  have hl : lv_has ls 8 [(0, .ref (o + 0)), (1, .int a1)] := hl
  have M_0 : dg_sm shM [(0, 63)] [29, 30, 31, 32, 33, 34, 35, 36, 37, 38, 39, 40, 41, 42, 43, 44, 48, 49] S S := dg_sm.rf
  refine lv_aload_n hx hb dX12_tells_0 rfl (lv_at hl 0 rfl) ?_
  obtain ⟨x_1, f_x_1, b_x_1⟩ := dg_I.int (i := 0) (k := 47) (lo := 0) (hi := 1) I sM_0 (by decide +kernel)
  refine dg_get (C := RX12) (T := TX12) (N := 77) hx hb hts (fun w h => bw_mem (wU_X12 w h)) hown K hP sM_0 rfl 47 (dk_dq rfl) (hts _ (bw_mem wB_1084)) (fun _ h9 => h9) (v := .int x_1) f_x_1 dX12_tells_1 ?_
  refine lv_if_eq (tgt := 16) hx hb dX12_tells_4 (dk_dq rfl) (fun c_2 => ?_) (fun c_2 => ?_)
  · have jc_2 := dk_eqc (k := 0) (by decide +kernel) c_2
    refine lv_iconst (v := (-1)) hx hb dX12_tells_16 (by decide +kernel) ?_
    have hz_3 : (-1 : Int32).toInt = (-1) := by decide +kernel
    refine W.widen (k := 0) (n := 0) (Nat.le_of_ble_eq_true rfl) (Nat.le_of_ble_eq_true rfl) ?_
    exact dg_iret hx hb hr hlocks rfl hP hS ⟨I, M_0, (by decide +kernel), ZS, ⟨congrArg Prod.fst (Eq.symm (F_m_tells_p0 (zI_eq f_x_1) c_2)), congrArg Prod.snd (Eq.symm (F_m_tells_p0 (zI_eq f_x_1) c_2))⟩, trivial⟩ dX12_tells_17
  · as_aux_lemma =>
      have jc_2 := dk_neqc (k := 0) (by decide +kernel) c_2
      refine lv_iload_n hx hb dX12_tells_7 rfl (lv_at hl 1 rfl) ?_
      refine lv_iconst (v := 0) hx hb dX12_tells_8 (by decide +kernel) ?_
      refine lv_iconst (v := 2) hx hb dX12_tells_9 (by decide +kernel) ?_
      refine dg_calli hS hA1 hA (va_runS (As := [.int a1, .int 0, .int 2]) (rest := []) F (c_m_isR l g D o S a1 0 2 I s.heap.size) (va_cwS 3 hts (bw_S wB_362 wB_363 wB_297 wB_361) rfl rfl rfl (by decide +kernel) ⟨Nat.le_of_ble_eq_true rfl, Nat.le_of_ble_eq_true rfl⟩) (dg_preS K ST hP hS hA1 hA) rfl rfl hl.1 rfl (lv_room (Nat.le_of_ble_eq_true rfl)) dX12_tells_10 ⟨Nat.le_of_ble_eq_true rfl, Nat.le_of_ble_eq_true rfl⟩) (fun x_4 S_5 hw_5 H locs hP hS => ?_)
      rw [hw_5.1] at hP
      obtain ⟨hq_5, w_5_0, w_5_1, w_5_2, -⟩ := hw_5
      have hz_6 : (0 : Int32).toInt = 0 := by decide +kernel
      have hz_7 : (2 : Int32).toInt = 2 := by decide +kernel
      have w_5_0 : 0 ≤ (x_4).toInt ∧ (x_4).toInt ≤ 1 := w_5_0
      have w_5_1 : (x_4).toInt = 1 ↔ (((0 : Int32)).toInt ≤ (a1).toInt ∧ (a1).toInt ≤ ((2 : Int32)).toInt) := w_5_1
      refine lv_if_ne (tgt := 18) hx hb dX12_tells_13 (dk_dq rfl) (fun c_8 => ?_) (fun c_8 => ?_)
      · as_aux_lemma =>
          have jc_8 := dk_neqc (k := 0) (by decide +kernel) c_8
          refine lv_aload_n hx hb dX12_tells_18 rfl (lv_at hl 0 rfl) ?_
          refine dg_calli hS hA1 hA (va_runV (As := []) (rest := []) F (c_m_reachBits l g D o S ZB ZS ZW I H.size) (cwV 0 hts (bw_V wB_1279 wB_1280 wB_1281 wB_297 wB_1278) rfl rfl rfl (by decide +kernel) ⟨Nat.le_of_ble_eq_true rfl, Nat.le_of_ble_eq_true rfl⟩) (dg_preV sM_0 rfl K ST hP hS hA1 hA) rfl rfl hl.1 rfl (lv_room (Nat.le_of_ble_eq_true rfl)) dX12_tells_19 ⟨Nat.le_of_ble_eq_true rfl, Nat.le_of_ble_eq_true rfl⟩) (fun x_9 S_10 hw_10 H locs hP hS => ?_)
          obtain ⟨I_10, m_10, w_10_0, w_10_1, -⟩ := hw_10
          have M_10 := dg_sm.tr M_0 m_10 (dk_dq rfl) (dk_dq rfl)
          refine lv_istore_n (lv' := [(2, .int x_9), (0, .ref (o + 0)), (1, .int a1)]) hx hb dX12_tells_22 rfl hl (dk_dq rfl) rfl (fun ls hl => ?_)
          refine lv_iconst (v := (-1)) hx hb dX12_tells_23 (by decide +kernel) ?_
          refine lv_istore_n (lv' := [(3, .int (-1)), (2, .int x_9), (0, .ref (o + 0)), (1, .int a1)]) hx hb dX12_tells_24 rfl hl (dk_dq rfl) rfl (fun ls hl => ?_)
          refine lv_ldcw hx hb hown (hts _ (bw_mem wB_1102)) dX12_tells_25 ?_
          refine lv_istore (lv' := [(4, .int 100000000), (3, .int (-1)), (2, .int x_9), (0, .ref (o + 0)), (1, .int a1)]) hx hb dX12_tells_28 hl (dk_dq rfl) rfl (fun ls hl => ?_)
          refine lv_iconst (v := 1) hx hb dX12_tells_30 (by decide +kernel) ?_
          refine lv_istore (lv' := [(5, .int 1), (4, .int 100000000), (3, .int (-1)), (2, .int x_9), (0, .ref (o + 0)), (1, .int a1)]) hx hb dX12_tells_31 hl (dk_dq rfl) rfl (fun ls hl => ?_)
          have J_820 : ∀ (x_809 : Int32) (x_810 : Int32) (x_811 : Int32), (1 ≤ (x_809).toInt ∧ (x_809).toInt ≤ 2147483647) → (0 ≤ (x_810).toInt ∧ (x_810).toInt ≤ 100000000) → ((-1) ≤ (x_811).toInt ∧ (x_811).toInt ≤ 2147483647) → ∀ S_819 : dg_S, CM o S_819 → dg_sm shM [(0, 63)] [29, 30, 31, 32, 33, 34, 35, 36, 37, 38, 39, 40, 41, 42, 43, 44, 48, 49] S S_819 → ZSM S_819 → (F_m_tells o S a1 = F_m_tells_J1 x_811 S_819 a1 x_810) → ∀ (H : Heap) (locs : List Loc), va_P D vwCl (dg_w g shM o rfM S_819) H → va_S A s.heap H locs → ∀ ls : Array Slot, lv_has ls 8 [(5, .int x_809), (4, .int x_810), (3, .int x_811), (2, .int x_9), (0, .ref (o + 0)), (1, .int a1)] → W p l e ({ frames := 10, cells := 0, slots := 0, locals := 242 } : Room) s m args below meth c H locs 0 0 (MQ below (va_Qi (fun (r : Int32) S' => CM o S' ∧ dg_sm shM [(0, 63)] [29, 30, 31, 32, 33, 34, 35, 36, 37, 38, 39, 40, 41, 42, 43, 44, 48, 49] S S' ∧ ((-1) ≤ (r).toInt ∧ (r).toInt ≤ 100000000) ∧ ZSM S' ∧ (S' = (F_m_tells o S a1).1 ∧ r = (F_m_tells o S a1).2) ∧ True) (dg_B g D shM o rfM) A) args s 0 0 A) (F0 m 120 ls []) := by
            as_aux_lemma =>
              intro x_809 x_810 x_811 b_x_809 b_x_810 b_x_811 S_819 I_819 M_819 ZS_819 hF_1 H locs hP hS ls hl
              refine lv_iload_n hx hb dX12_tells_120 rfl (lv_at hl 2 rfl) ?_
              refine lv_iconst (v := (-1)) hx hb dX12_tells_121 (by decide +kernel) ?_
              refine lv_icmp_ne (tgt := 129) hx hb dX12_tells_122 (dk_dq rfl) (fun c_821 => ?_) (fun c_821 => ?_)
              · as_aux_lemma =>
                  have jc_821 := dk_neqc (k := (-1)) (by decide +kernel) c_821
                  refine lv_iload_n hx hb dX12_tells_129 rfl (lv_at hl 5 rfl) ?_
                  refine lv_if_ne (tgt := 140) hx hb dX12_tells_130 (dk_dq rfl) (fun c_822 => ?_) (fun c_822 => ?_)
                  · as_aux_lemma =>
                      have jc_822 := dk_neqc (k := 0) (by decide +kernel) c_822
                      refine lv_iload_n hx hb dX12_tells_140 rfl (lv_at hl 5 rfl) ?_
                      refine lv_iconst (v := 1) hx hb dX12_tells_141 (by decide +kernel) ?_
                      refine lv_icmp_ne (tgt := 152) hx hb dX12_tells_142 (dk_dq rfl) (fun c_823 => ?_) (fun c_823 => ?_)
                      · have jc_823 := dk_neqc (k := 1) (by decide +kernel) c_823
                        refine lv_iload hx hb dX12_tells_152 (lv_at hl 1 rfl) ?_
                        refine W.widen (k := 0) (n := 0) (Nat.le_of_ble_eq_true rfl) (Nat.le_of_ble_eq_true rfl) ?_
                        exact dg_iret hx hb hr hlocks rfl hP hS ⟨I_819, M_819, (by omega), ZS_819, ⟨congrArg Prod.fst (Eq.symm (Eq.trans hF_1 (F_m_tells_p1 c_821 c_822 c_823))), congrArg Prod.snd (Eq.symm (Eq.trans hF_1 (F_m_tells_p1 c_821 c_822 c_823)))⟩, trivial⟩ dX12_tells_154
                      · have jc_823 := dk_eqc (k := 1) (by decide +kernel) c_823
                        refine lv_iload_n hx hb dX12_tells_145 rfl (lv_at hl 2 rfl) ?_
                        refine lv_bipush (v := 64) hx hb dX12_tells_146 (by decide +kernel) ?_
                        refine lv_irem hx hb dX12_tells_148 (by decide +kernel) ?_
                        refine lv_topi (fun x_824 ex_824 => ?_)
                        have jx_824 : (x_824).toInt = (x_811).toInt % 64 := by rw [ex_824]; exact dk_remL (by omega) (by decide +kernel) (dk_dq rfl)
                        refine lv_goto (tgt := 154) hx hb dX12_tells_149 (dk_dq rfl) ?_
                        refine W.widen (k := 0) (n := 0) (Nat.le_of_ble_eq_true rfl) (Nat.le_of_ble_eq_true rfl) ?_
                        exact dg_iret hx hb hr hlocks rfl hP hS ⟨I_819, M_819, (by omega), ZS_819, ⟨congrArg Prod.fst (Eq.symm (Eq.trans hF_1 (F_m_tells_p2 c_821 c_822 c_823 ex_824))), congrArg Prod.snd (Eq.symm (Eq.trans hF_1 (F_m_tells_p2 c_821 c_822 c_823 ex_824)))⟩, trivial⟩ dX12_tells_154
                  · have jc_822 := dk_eqc (k := 0) (by decide +kernel) c_822
                    refine lv_iload_n hx hb dX12_tells_133 rfl (lv_at hl 2 rfl) ?_
                    refine lv_bipush (v := 64) hx hb dX12_tells_134 (by decide +kernel) ?_
                    refine lv_idiv hx hb dX12_tells_136 (by decide +kernel) ?_
                    refine lv_topi (fun x_825 ex_825 => ?_)
                    have jx_825 : (x_825).toInt = (x_811).toInt / 64 := by rw [ex_825]; exact dk_divL (by omega) (by decide +kernel) (dk_dq rfl)
                    refine lv_goto (tgt := 154) hx hb dX12_tells_137 (dk_dq rfl) ?_
                    refine W.widen (k := 0) (n := 0) (Nat.le_of_ble_eq_true rfl) (Nat.le_of_ble_eq_true rfl) ?_
                    exact dg_iret hx hb hr hlocks rfl hP hS ⟨I_819, M_819, (by omega), ZS_819, ⟨congrArg Prod.fst (Eq.symm (Eq.trans hF_1 (F_m_tells_p3 c_821 c_822 ex_825))), congrArg Prod.snd (Eq.symm (Eq.trans hF_1 (F_m_tells_p3 c_821 c_822 ex_825)))⟩, trivial⟩ dX12_tells_154
              · have jc_821 := dk_eqc (k := (-1)) (by decide +kernel) c_821
                refine lv_iconst (v := (-1)) hx hb dX12_tells_125 (by decide +kernel) ?_
                refine lv_goto (tgt := 154) hx hb dX12_tells_126 (dk_dq rfl) ?_
                have hz_826 : (-1 : Int32).toInt = (-1) := by decide +kernel
                refine W.widen (k := 0) (n := 0) (Nat.le_of_ble_eq_true rfl) (Nat.le_of_ble_eq_true rfl) ?_
                exact dg_iret hx hb hr hlocks rfl hP hS ⟨I_819, M_819, (by decide +kernel), ZS_819, ⟨congrArg Prod.fst (Eq.symm (Eq.trans hF_1 (F_m_tells_p4 c_821))), congrArg Prod.snd (Eq.symm (Eq.trans hF_1 (F_m_tells_p4 c_821)))⟩, trivial⟩ dX12_tells_154
          have L_1517 : ∀ (n : Nat) (x_1513 : Int32) (x_1514 : Int32) (x_1515 : Int32), (1 ≤ (x_1513).toInt ∧ (x_1513).toInt ≤ 31) → (0 ≤ (x_1514).toInt ∧ (x_1514).toInt ≤ 100000000) → ((-1) ≤ (x_1515).toInt ∧ (x_1515).toInt ≤ 2147483647) → ((32 - (x_1513).toInt).toNat < n) → ∀ S_1516 : dg_S, CM o S_1516 → dg_sm shM [(0, 63)] [29, 30, 31, 32, 33, 34, 35, 36, 37, 38, 39, 40, 41, 42, 43, 44, 48, 49] S S_1516 → ZSM S_1516 → (F_m_tells o S a1 = lp (F_m_tells_B2 o a1 x_9 S) (S, (0 : Int32)) n (x_1513, x_1514, x_1515, S_1516)) → ∀ (H : Heap) (locs : List Loc), va_P D vwCl (dg_w g shM o rfM S_1516) H → va_S A s.heap H locs → ∀ ls : Array Slot, lv_has ls 8 [(5, .int x_1513), (4, .int x_1514), (3, .int x_1515), (2, .int x_9), (0, .ref (o + 0)), (1, .int a1)] → W p l e ({ frames := 10, cells := 0, slots := 0, locals := 242 } : Room) s m args below meth c H locs 0 0 (MQ below (va_Qi (fun (r : Int32) S' => CM o S' ∧ dg_sm shM [(0, 63)] [29, 30, 31, 32, 33, 34, 35, 36, 37, 38, 39, 40, 41, 42, 43, 44, 48, 49] S S' ∧ ((-1) ≤ (r).toInt ∧ (r).toInt ≤ 100000000) ∧ ZSM S' ∧ (S' = (F_m_tells o S a1).1 ∧ r = (F_m_tells o S a1).2) ∧ True) (dg_B g D shM o rfM) A) args s 0 0 A) (F0 m 33 ls []) := by
            as_aux_lemma =>
              intro n
              induction n with
              | zero =>
                intro x_1513 x_1514 x_1515 b_x_1513 b_x_1514 b_x_1515 hmu S_1516 I_1516 M_1516 ZS_1516 hF_2 H locs hP hS ls hl
                omega
              | succ n ih =>
                as_aux_lemma =>
                  intro x_1513 x_1514 x_1515 b_x_1513 b_x_1514 b_x_1515 hmu S_1516 I_1516 M_1516 ZS_1516 hF_2 H locs hP hS ls hl
                  refine lv_aload_n hx hb dX12_tells_33 rfl (lv_at hl 4 rfl) ?_
                  refine lv_iload hx hb dX12_tells_34 (lv_at hl 0 rfl) ?_
                  refine lv_iconst (v := 1) hx hb dX12_tells_36 (by decide +kernel) ?_
                  refine lv_bipush (v := 30) hx hb dX12_tells_37 (by decide +kernel) ?_
                  have hz_1518 : (1 : Int32).toInt = 1 := by decide +kernel
                  have hz_1519 : (30 : Int32).toInt = 30 := by decide +kernel
                  obtain ⟨x_1520, f_x_1520⟩ : ∃ x, S_1516.2.1 29 (0 : Int32).toNatClampNeg = x := ⟨_, rfl⟩
                  have hin_1521 : vp_in (0 : Int32) 22 := (dk_in (by decide +kernel))
                  have b_x_1520 := dk_all_at (dg_I.row (lo := 0) (hi := 2000) I_1516 sM_29 (by decide +kernel)) hin_1521 f_x_1520.symm
                  have ex_1520 := f_x_1520.symm
                  have hz_1522 : (0 : Int32).toInt = 0 := by decide +kernel
                  have zs_x_1520 : (0 : Int32).toInt ≠ 1 → (x_1520).toInt ≤ 999 := fun h => by rw [ex_1520]; exact ZS_1516 _ (dk_inT hin_1521).2 (fun q => by have h9 := (dk_inT hin_1521).1; omega)
                  refine dg_calli hS hA1 hA (va_runV (As := [.int x_1513, .int 1, .int 30]) (rest := []) F (c_m_isAhead l g D o S_1516 x_1513 1 (by decide +kernel) 30 (by decide +kernel) x_1 ((M_1516.1 0 47 _ sM_0 (dk_dq rfl)).trans f_x_1) (by omega) x_1520 f_x_1520 (by omega) I_1516 H.size) (cwV 3 hts (bw_V wB_1235 wB_1236 wB_1237 wB_297 wB_1234) rfl rfl rfl (by decide +kernel) ⟨Nat.le_of_ble_eq_true rfl, Nat.le_of_ble_eq_true rfl⟩) (dg_preV sM_0 rfl K ST hP hS hA1 hA) rfl rfl hl.1 rfl (lv_room (Nat.le_of_ble_eq_true rfl)) dX12_tells_39 ⟨Nat.le_of_ble_eq_true rfl, Nat.le_of_ble_eq_true rfl⟩) (fun x_1523 S_1524 hw_1524 H locs hP hS => ?_)
                  rw [hw_1524.1] at hP
                  obtain ⟨hq_1524, w_1524_0, w_1524_1, w_1524_2, -⟩ := hw_1524
                  have hz_1525 : (1 : Int32).toInt = 1 := by decide +kernel
                  have hz_1526 : (30 : Int32).toInt = 30 := by decide +kernel
                  have w_1524_0 : 0 ≤ (x_1523).toInt ∧ (x_1523).toInt ≤ 1 := w_1524_0
                  have w_1524_1 : (x_1523).toInt = 1 → ((x_1).toInt = 1 ∧ ((1 : Int32)).toInt ≤ (x_1513).toInt ∧ (x_1513).toInt ≤ ((30 : Int32)).toInt ∧ (x_1520).toInt ≤ 999 - (x_1513).toInt) := w_1524_1
                  refine lv_if_eq (tgt := 120) hx hb dX12_tells_42 (dk_dq rfl) (fun c_1527 => ?_) (fun c_1527 => ?_)
                  · have jc_1527 := dk_eqc (k := 0) (by decide +kernel) c_1527
                    have hf_1527 := dk_full x_1513
                    have hf_1528 := dk_full x_1515
                    exact J_820 x_1513 x_1514 x_1515 (by omega) (by omega) (by omega) S_1516 I_1516 M_1516 ZS_1516 (lp_r hF_2 (F_m_tells_p5 w_1524_2 c_1527)) _ _ hP hS _ (lv_sub hl [0, 1, 2, 3, 4, 5] rfl)
                  · as_aux_lemma =>
                      have jc_1527 := dk_neqc (k := 0) (by decide +kernel) c_1527
                      refine lv_iload_n hx hb dX12_tells_45 rfl (lv_at hl 3 rfl) ?_
                      refine lv_if_eq (tgt := 120) hx hb dX12_tells_46 (dk_dq rfl) (fun c_1530 => ?_) (fun c_1530 => ?_)
                      · have jc_1530 := dk_eqc (k := 0) (by decide +kernel) c_1530
                        have hf_1530 := dk_full x_1513
                        have hf_1531 := dk_full x_1515
                        exact J_820 x_1513 x_1514 x_1515 (by omega) (by omega) (by omega) S_1516 I_1516 M_1516 ZS_1516 (lp_r hF_2 (F_m_tells_p6 w_1524_2 c_1527 c_1530)) _ _ hP hS _ (lv_sub hl [0, 1, 2, 3, 4, 5] rfl)
                      · as_aux_lemma =>
                          have jc_1530 := dk_neqc (k := 0) (by decide +kernel) c_1530
                          refine lv_iconst (v := 0) hx hb dX12_tells_49 (by decide +kernel) ?_
                          refine lv_istore (lv' := [(6, .int 0), (5, .int x_1513), (4, .int x_1514), (3, .int x_1515), (2, .int x_9), (0, .ref (o + 0)), (1, .int a1)]) hx hb dX12_tells_50 hl (dk_dq rfl) rfl (fun ls hl => ?_)
                          have J_1654 : ∀ (x_1647 : Int32) (x_1648 : Int32) (x_1649 : Int32), (64 ≤ (x_1647).toInt ∧ (x_1647).toInt ≤ 2147483647) → (0 ≤ (x_1648).toInt ∧ (x_1648).toInt ≤ 100000000) → ((-1) ≤ (x_1649).toInt ∧ (x_1649).toInt ≤ 2147483647) → ∀ S_1653 : dg_S, CM o S_1653 → dg_sm shM [(0, 63)] [29, 30, 31, 32, 33, 34, 35, 36, 37, 38, 39, 40, 41, 42, 43, 44, 48, 49] S S_1653 → S_1653.2.1 29 (0 : Int32).toNatClampNeg = x_1520 → ZSM S_1653 → ((F_m_tells_B2 o a1 x_9 S) (x_1513, x_1514, x_1515, S_1516) = F_m_tells_J3 x_1513 x_1648 x_1649 S_1653) → ∀ (H : Heap) (locs : List Loc), va_P D vwCl (dg_w g shM o rfM S_1653) H → va_S A s.heap H locs → ∀ ls : Array Slot, lv_has ls 8 [(6, .int x_1647), (5, .int x_1513), (4, .int x_1648), (3, .int x_1649), (2, .int x_9), (0, .ref (o + 0)), (1, .int a1)] → W p l e ({ frames := 10, cells := 0, slots := 0, locals := 242 } : Room) s m args below meth c H locs 0 0 (MQ below (va_Qi (fun (r : Int32) S' => CM o S' ∧ dg_sm shM [(0, 63)] [29, 30, 31, 32, 33, 34, 35, 36, 37, 38, 39, 40, 41, 42, 43, 44, 48, 49] S S' ∧ ((-1) ≤ (r).toInt ∧ (r).toInt ≤ 100000000) ∧ ZSM S' ∧ (S' = (F_m_tells o S a1).1 ∧ r = (F_m_tells o S a1).2) ∧ True) (dg_B g D shM o rfM) A) args s 0 0 A) (F0 m 114 ls []) := by
                            intro x_1647 x_1648 x_1649 b_x_1647 b_x_1648 b_x_1649 S_1653 I_1653 M_1653 frw_1653_0 ZS_1653 hF_3 H locs hP hS ls hl
                            obtain ⟨x_1655, ex_1655⟩ : ∃ z, z = x_1513 + 1 := ⟨_, rfl⟩
                            have jx_1655 : (x_1655).toInt = (x_1513).toInt + 1 := by rw [ex_1655]; exact dk_addT2 rfl (by decide +kernel) (by omega)
                            refine lv_iinc (v := x_1655) (lv' := [(5, .int x_1655), (6, .int x_1647), (4, .int x_1648), (3, .int x_1649), (2, .int x_9), (0, .ref (o + 0)), (1, .int a1)]) hx hb dX12_tells_114 hl (k := 1) rfl (by rw [ex_1655]; rfl) (dk_dq rfl) rfl (fun ls hl => ?_)
                            refine lv_goto (tgt := 33) hx hb dX12_tells_117 (dk_dq rfl) ?_
                            have hf_1655 := dk_full x_1649
                            exact ih x_1655 x_1648 x_1649 (by omega) (by omega) (by omega) (by first | exact mu_lt hmu (by omega) (by omega) | omega) S_1653 I_1653 M_1653 ZS_1653 (lp_l hF_2 (Eq.trans hF_3 (F_m_tells_p7 ex_1655))) _ _ hP hS _ (lv_sub hl [0, 2, 3, 4, 5, 6] rfl)
                          have L_1759 : ∀ (n : Nat) (x_1755 : Int32) (x_1756 : Int32) (x_1757 : Int32), (0 ≤ (x_1755).toInt ∧ (x_1755).toInt ≤ 64) → (0 ≤ (x_1756).toInt ∧ (x_1756).toInt ≤ 100000000) → ((-1) ≤ (x_1757).toInt ∧ (x_1757).toInt ≤ 2147483647) → ((65 - (x_1755).toInt).toNat < n) → ∀ S_1758 : dg_S, CM o S_1758 → dg_sm shM [(0, 63)] [29, 30, 31, 32, 33, 34, 35, 36, 37, 38, 39, 40, 41, 42, 43, 44, 48, 49] S S_1758 → S_1758.2.1 29 (0 : Int32).toNatClampNeg = x_1520 → ZSM S_1758 → ((F_m_tells_B2 o a1 x_9 S) (x_1513, x_1514, x_1515, S_1516) = lp (F_m_tells_B4 x_1513 o x_9) (Sum.inr (S, (0 : Int32))) n (x_1755, x_1756, x_1757, S_1758)) → ∀ (H : Heap) (locs : List Loc), va_P D vwCl (dg_w g shM o rfM S_1758) H → va_S A s.heap H locs → ∀ ls : Array Slot, lv_has ls 8 [(6, .int x_1755), (5, .int x_1513), (4, .int x_1756), (3, .int x_1757), (2, .int x_9), (0, .ref (o + 0)), (1, .int a1)] → W p l e ({ frames := 10, cells := 0, slots := 0, locals := 242 } : Room) s m args below meth c H locs 0 0 (MQ below (va_Qi (fun (r : Int32) S' => CM o S' ∧ dg_sm shM [(0, 63)] [29, 30, 31, 32, 33, 34, 35, 36, 37, 38, 39, 40, 41, 42, 43, 44, 48, 49] S S' ∧ ((-1) ≤ (r).toInt ∧ (r).toInt ≤ 100000000) ∧ ZSM S' ∧ (S' = (F_m_tells o S a1).1 ∧ r = (F_m_tells o S a1).2) ∧ True) (dg_B g D shM o rfM) A) args s 0 0 A) (F0 m 52 ls []) := by
                            as_aux_lemma =>
                              intro n
                              induction n with
                              | zero =>
                                intro x_1755 x_1756 x_1757 b_x_1755 b_x_1756 b_x_1757 hmu S_1758 I_1758 M_1758 frw_1758_0 ZS_1758 hF_4 H locs hP hS ls hl
                                omega
                              | succ n ih =>
                                as_aux_lemma =>
                                  intro x_1755 x_1756 x_1757 b_x_1755 b_x_1756 b_x_1757 hmu S_1758 I_1758 M_1758 frw_1758_0 ZS_1758 hF_4 H locs hP hS ls hl
                                  refine lv_iload hx hb dX12_tells_52 (lv_at hl 0 rfl) ?_
                                  refine lv_bipush (v := 64) hx hb dX12_tells_54 (by decide +kernel) ?_
                                  refine lv_icmp_ge (tgt := 114) hx hb dX12_tells_56 (dk_dq rfl) (fun c_1760 => ?_) (fun c_1760 => ?_)
                                  · have jc_1760 := dk_gec (k := 64) (by decide +kernel) c_1760
                                    have hf_1760 := dk_full x_1755
                                    have hf_1761 := dk_full x_1757
                                    exact J_1654 x_1755 x_1756 x_1757 (by omega) (by omega) (by omega) S_1758 I_1758 M_1758 frw_1758_0 ZS_1758 (lp_r hF_4 (F_m_tells_p8 c_1760)) _ _ hP hS _ (lv_sub hl [0, 1, 2, 3, 4, 5, 6] rfl)
                                  · as_aux_lemma =>
                                      have jc_1760 := dk_ngec (k := 64) (by decide +kernel) c_1760
                                      refine lv_aload_n hx hb dX12_tells_59 rfl (lv_at hl 5 rfl) ?_
                                      refine lv_iload hx hb dX12_tells_60 (lv_at hl 0 rfl) ?_
                                      refine dg_calli hS hA1 hA (va_runV (As := [.int x_1755]) (rest := []) F (c_m_isCellOf l g D o S_1758 x_1755 (by omega) (ZBM.keep ZB M_1758 (dk_dq rfl) (dk_dq rfl) (dk_dq rfl) (dk_dq rfl) (dk_dq rfl)) I_1758 H.size) (cwV 1 hts (bw_V wB_1123 wB_1124 wB_1125 wB_297 wB_1122) rfl rfl rfl (by decide +kernel) ⟨Nat.le_of_ble_eq_true rfl, Nat.le_of_ble_eq_true rfl⟩) (dg_preV sM_0 rfl K ST hP hS hA1 hA) rfl rfl hl.1 rfl (lv_room (Nat.le_of_ble_eq_true rfl)) dX12_tells_62 ⟨Nat.le_of_ble_eq_true rfl, Nat.le_of_ble_eq_true rfl⟩) (fun x_1763 S_1764 hw_1764 H locs hP hS => ?_)
                                      rw [hw_1764.1] at hP
                                      obtain ⟨hq_1764, w_1764_0, w_1764_1, w_1764_2, -⟩ := hw_1764
                                      have w_1764_0 : 0 ≤ (x_1763).toInt ∧ (x_1763).toInt ≤ 1 := w_1764_0
                                      have w_1764_1 : (x_1763).toInt = 1 → 0 ≤ (x_1755).toInt := w_1764_1
                                      have J_1780 : ∀ (x_1768 : Int32), (0 ≤ (x_1768).toInt ∧ (x_1768).toInt ≤ 2147483647) → ∀ S_1779 : dg_S, CM o S_1779 → dg_sm shM [(0, 63)] [29, 30, 31, 32, 33, 34, 35, 36, 37, 38, 39, 40, 41, 42, 43, 44, 48, 49] S S_1779 → S_1779.2.1 29 (0 : Int32).toNatClampNeg = x_1520 → ZSM S_1779 → ((F_m_tells_B4 x_1513 o x_9) (x_1755, x_1756, x_1757, S_1758) = F_m_tells_J5 x_1768 x_1756 x_1513 x_1755 S_1779 x_1757) → ∀ (H : Heap) (locs : List Loc), va_P D vwCl (dg_w g shM o rfM S_1779) H → va_S A s.heap H locs → ∀ ls : Array Slot, lv_has ls 8 [(6, .int x_1755), (5, .int x_1513), (4, .int x_1756), (3, .int x_1757), (2, .int x_9), (0, .ref (o + 0)), (1, .int a1)] → W p l e ({ frames := 10, cells := 0, slots := 0, locals := 242 } : Room) s m args below meth c H locs 0 0 (MQ below (va_Qi (fun (r : Int32) S' => CM o S' ∧ dg_sm shM [(0, 63)] [29, 30, 31, 32, 33, 34, 35, 36, 37, 38, 39, 40, 41, 42, 43, 44, 48, 49] S S' ∧ ((-1) ≤ (r).toInt ∧ (r).toInt ≤ 100000000) ∧ ZSM S' ∧ (S' = (F_m_tells o S a1).1 ∧ r = (F_m_tells o S a1).2) ∧ True) (dg_B g D shM o rfM) A) args s 0 0 A) (F0 m 83 ls [.int x_1768]) := by
                                        as_aux_lemma =>
                                          intro x_1768 b_x_1768 S_1779 I_1779 M_1779 frw_1779_0 ZS_1779 hF_5 H locs hP hS ls hl
                                          refine lv_istore (lv' := [(7, .int x_1768), (6, .int x_1755), (5, .int x_1513), (4, .int x_1756), (3, .int x_1757), (2, .int x_9), (0, .ref (o + 0)), (1, .int a1)]) hx hb dX12_tells_83 hl (dk_dq rfl) rfl (fun ls hl => ?_)
                                          refine lv_iload hx hb dX12_tells_85 (lv_at hl 0 rfl) ?_
                                          refine lv_iload hx hb dX12_tells_87 (lv_at hl 3 rfl) ?_
                                          have J_1790 : ∀ (x_1786 : Int32) (x_1787 : Int32), ((-1) ≤ (x_1786).toInt ∧ (x_1786).toInt ≤ 2147483647) → (0 ≤ (x_1787).toInt ∧ (x_1787).toInt ≤ 100000000) → ((F_m_tells_B4 x_1513 o x_9) (x_1755, x_1756, x_1757, S_1758) = F_m_tells_J6 x_1755 x_1787 x_1786 S_1779) → ∀ (H : Heap) (locs : List Loc), va_P D vwCl (dg_w g shM o rfM S_1779) H → va_S A s.heap H locs → ∀ ls : Array Slot, lv_has ls 8 [(3, .int x_1786), (4, .int x_1787), (7, .int x_1768), (6, .int x_1755), (5, .int x_1513), (2, .int x_9), (0, .ref (o + 0)), (1, .int a1)] → W p l e ({ frames := 10, cells := 0, slots := 0, locals := 242 } : Room) s m args below meth c H locs 0 0 (MQ below (va_Qi (fun (r : Int32) S' => CM o S' ∧ dg_sm shM [(0, 63)] [29, 30, 31, 32, 33, 34, 35, 36, 37, 38, 39, 40, 41, 42, 43, 44, 48, 49] S S' ∧ ((-1) ≤ (r).toInt ∧ (r).toInt ≤ 100000000) ∧ ZSM S' ∧ (S' = (F_m_tells o S a1).1 ∧ r = (F_m_tells o S a1).2) ∧ True) (dg_B g D shM o rfM) A) args s 0 0 A) (F0 m 108 ls []) := by
                                            intro x_1786 x_1787 b_x_1786 b_x_1787 hF_6 H locs hP hS ls hl
                                            obtain ⟨x_1791, ex_1791⟩ : ∃ z, z = x_1755 + 1 := ⟨_, rfl⟩
                                            have jx_1791 : (x_1791).toInt = (x_1755).toInt + 1 := by rw [ex_1791]; exact dk_addT2 rfl (by decide +kernel) (by omega)
                                            refine lv_iinc (v := x_1791) (lv' := [(6, .int x_1791), (3, .int x_1786), (4, .int x_1787), (7, .int x_1768), (5, .int x_1513), (2, .int x_9), (0, .ref (o + 0)), (1, .int a1)]) hx hb dX12_tells_108 hl (k := 3) rfl (by rw [ex_1791]; rfl) (dk_dq rfl) rfl (fun ls hl => ?_)
                                            refine lv_goto (tgt := 52) hx hb dX12_tells_111 (dk_dq rfl) ?_
                                            have hf_1791 := dk_full x_1786
                                            exact ih x_1791 x_1787 x_1786 (by omega) (by omega) (by omega) (by first | exact mu_lt hmu (by omega) (by omega) | omega) S_1779 I_1779 M_1779 frw_1779_0 ZS_1779 (lp_l hF_4 (Eq.trans hF_6 (F_m_tells_p9 ex_1791))) _ _ hP hS _ (lv_sub hl [0, 4, 2, 1, 5, 6, 7] rfl)
                                          refine lv_icmp_lt (tgt := 95) hx hb dX12_tells_89 (dk_dq rfl) (fun c_1793 => ?_) (fun c_1793 => ?_)
                                          · as_aux_lemma =>
                                              have hf_1793 := dk_full x_1768
                                              have jc_1793 := dk_ltc (k := (x_1756).toInt) rfl c_1793
                                              refine lv_iload hx hb dX12_tells_95 (lv_at hl 0 rfl) ?_
                                              refine lv_istore (lv' := [(4, .int x_1768), (7, .int x_1768), (6, .int x_1755), (5, .int x_1513), (3, .int x_1757), (2, .int x_9), (0, .ref (o + 0)), (1, .int a1)]) hx hb dX12_tells_97 hl (dk_dq rfl) rfl (fun ls hl => ?_)
                                              refine lv_bipush (v := 64) hx hb dX12_tells_99 (by decide +kernel) ?_
                                              refine lv_iload hx hb dX12_tells_101 (lv_at hl 3 rfl) ?_
                                              refine lv_imul hx hb dX12_tells_103 ?_
                                              refine lv_topi (fun x_1795 ex_1795 => ?_)
                                              have jx_1795 : (x_1795).toInt = 64 * (x_1513).toInt := by rw [ex_1795]; exact dk_mulT2 (by decide +kernel) rfl (by omega)
                                              refine lv_iload hx hb dX12_tells_104 (lv_at hl 2 rfl) ?_
                                              refine lv_iadd hx hb dX12_tells_106 ?_
                                              refine lv_topi (fun x_1796 ex_1796 => ?_)
                                              have jx_1796 : (x_1796).toInt = (x_1795).toInt + (x_1755).toInt := by rw [ex_1796]; exact dk_addT2 rfl rfl (by omega)
                                              refine lv_istore_n (lv' := [(3, .int x_1796), (4, .int x_1768), (7, .int x_1768), (6, .int x_1755), (5, .int x_1513), (2, .int x_9), (0, .ref (o + 0)), (1, .int a1)]) hx hb dX12_tells_107 rfl hl (dk_dq rfl) rfl (fun ls hl => ?_)
                                              have hf_1796 := dk_full x_1796
                                              exact J_1790 x_1796 x_1768 (by omega) (by omega) (Eq.trans hF_5 (F_m_tells_p10 c_1793 ex_1795 ex_1796)) _ _ hP hS _ (lv_sub hl [0, 1, 2, 3, 4, 5, 6, 7] rfl)
                                          · have hf_1797 := dk_full x_1768
                                            have jc_1793 := dk_nltc (k := (x_1756).toInt) rfl c_1793
                                            refine lv_goto (tgt := 108) hx hb dX12_tells_92 (dk_dq rfl) ?_
                                            have hf_1798 := dk_full x_1757
                                            exact J_1790 x_1757 x_1756 (by omega) (by omega) (Eq.trans hF_5 (F_m_tells_p11 c_1793)) _ _ hP hS _ (lv_sub hl [4, 3, 0, 1, 2, 5, 6, 7] rfl)
                                      refine lv_if_eq (tgt := 80) hx hb dX12_tells_65 (dk_dq rfl) (fun c_1800 => ?_) (fun c_1800 => ?_)
                                      · have jc_1800 := dk_eqc (k := 0) (by decide +kernel) c_1800
                                        refine lv_ldcw hx hb hown (hts _ (bw_mem wB_1102)) dX12_tells_80 ?_
                                        have hz_1801 : (100000000 : Int32).toInt = 100000000 := by decide +kernel
                                        exact J_1780 100000000 (by decide +kernel) S_1758 I_1758 M_1758 frw_1758_0 ZS_1758 (F_m_tells_p12 c_1760 w_1764_2 c_1800) _ _ hP hS _ (lv_sub hl [0, 1, 2, 3, 4, 5, 6] rfl)
                                      · have jc_1800 := dk_neqc (k := 0) (by decide +kernel) c_1800
                                        refine lv_aload_n hx hb dX12_tells_68 rfl (lv_at hl 5 rfl) ?_
                                        refine lv_iload_n hx hb dX12_tells_69 rfl (lv_at hl 4 rfl) ?_
                                        refine lv_iload hx hb dX12_tells_70 (lv_at hl 1 rfl) ?_
                                        refine lv_iload hx hb dX12_tells_72 (lv_at hl 0 rfl) ?_
                                        refine dg_calli hS hA1 hA (va_runV (As := [.int x_9, .int x_1513, .int x_1755]) (rest := []) F (c_m_mostBy l g D o S_1758 x_9 x_1513 (by omega) x_1755 (by omega) I_1758 H.size) (cwV 3 hts (bw_V wB_1283 wB_1284 wB_1285 wB_297 wB_1282) rfl rfl rfl (by decide +kernel) ⟨Nat.le_of_ble_eq_true rfl, Nat.le_of_ble_eq_true rfl⟩) (dg_preV sM_0 rfl K ST hP hS hA1 hA) rfl rfl hl.1 rfl (lv_room (Nat.le_of_ble_eq_true rfl)) dX12_tells_74 ⟨Nat.le_of_ble_eq_true rfl, Nat.le_of_ble_eq_true rfl⟩) (fun x_1802 S_1803 hw_1803 H locs hP hS => ?_)
                                        obtain ⟨I_1803, m_1803, w_1803_0, w_1803_1, -⟩ := hw_1803
                                        have M_1803 := dg_sm.tr M_1758 m_1803 (dk_dq rfl) (dk_dq rfl)
                                        have w_1803_0 : 0 ≤ (x_1802).toInt ∧ (x_1802).toInt ≤ 2147483647 := w_1803_0
                                        refine lv_goto (tgt := 83) hx hb dX12_tells_77 (dk_dq rfl) ?_
                                        have hf_1803 := dk_full x_1802
                                        exact J_1780 x_1802 (by omega) S_1803 I_1803 M_1803 ((congrFun (m_1803.2 29 _ sM_29 (dk_dq rfl)).1 _).trans frw_1758_0) (ZSM.keep ZS_1758 m_1803 (dk_dq rfl)) (F_m_tells_p13 c_1760 w_1764_2 c_1800 w_1803_1.1 w_1803_1.2) _ _ hP hS _ (lv_sub hl [0, 1, 2, 3, 4, 5, 6] rfl)
                          have hz_1805 : (0 : Int32).toInt = 0 := by decide +kernel
                          have hf_1805 := dk_full x_1515
                          have hz_1807 : (0 : Int32).toInt = 0 := by decide +kernel
                          exact L_1759 ((65 - ((0 : Int32)).toInt).toNat + 1) 0 x_1514 x_1515 (by decide +kernel) (by omega) (by omega) (by first | exact mu_lt hmu (by omega) (by omega) | omega) S_1516 I_1516 M_1516 f_x_1520 ZS_1516 (F_m_tells_p14 w_1524_2 c_1527 c_1530) _ _ hP hS _ (lv_sub hl [0, 1, 2, 3, 4, 5, 6] rfl)
          have hz_1808 : (1 : Int32).toInt = 1 := by decide +kernel
          have hz_1809 : (100000000 : Int32).toInt = 100000000 := by decide +kernel
          have hz_1810 : (-1 : Int32).toInt = (-1) := by decide +kernel
          have hz_1811 : (1 : Int32).toInt = 1 := by decide +kernel
          have hz_1812 : (100000000 : Int32).toInt = 100000000 := by decide +kernel
          have hz_1813 : (-1 : Int32).toInt = (-1) := by decide +kernel
          exact L_1517 ((32 - ((1 : Int32)).toInt).toNat + 1) 1 100000000 (-1) (by decide +kernel) (by decide +kernel) (by decide +kernel) (by first | exact mu_lt hmu (by omega) (by omega) | omega) S_10 I_10 M_10 w_10_0 (F_m_tells_p15 (zI_eq f_x_1) c_2 w_5_2 c_8 w_10_1.1 w_10_1.2) _ _ hP hS _ (lv_sub hl [0, 1, 2, 3, 4, 5] rfl)
      · have jc_8 := dk_eqc (k := 0) (by decide +kernel) c_8
        refine lv_iconst (v := (-1)) hx hb dX12_tells_16 (by decide +kernel) ?_
        have hz_1814 : (-1 : Int32).toInt = (-1) := by decide +kernel
        refine W.widen (k := 0) (n := 0) (Nat.le_of_ble_eq_true rfl) (Nat.le_of_ble_eq_true rfl) ?_
        exact dg_iret hx hb hr hlocks rfl hP hS ⟨I, M_0, (by decide +kernel), ZS, ⟨congrArg Prod.fst (Eq.symm (F_m_tells_p16 (zI_eq f_x_1) c_2 w_5_2 c_8)), congrArg Prod.snd (Eq.symm (F_m_tells_p16 (zI_eq f_x_1) c_2 w_5_2 c_8))⟩, trivial⟩ dX12_tells_17
noncomputable def F_m_image_B7 (x_1038 : Int32) (o : Nat) (S_1105 : dg_S) : (Int32 × Int32) → (Int32 × Int32) ⊕ (dg_S × Int32) := fun w9 => match w9 with | (x_1161, x_1162) => (if x_1038 ≤ x_1161 then (Sum.inr (let S_1165 : dg_S := F_m_writes o S_1105 x_1162; let y_1166 : Int32 := zI S_1165 0 76; (S_1165, y_1166))) else let x_1167 : Int32 := (5 : Int32) * x_1162; let x_1169 : Int32 := S_1105.2.1 50 (x_1161 : Int32).toNatClampNeg; let x_1170 : Int32 := x_1167 + x_1169; let x_1171 : Int32 := x_1170 - x_1170 / (251 : Int32) * (251 : Int32); let x_1172 : Int32 := x_1161 + 1; (Sum.inl (x_1172, x_1171)))
noncomputable def F_m_image_J6 (x_1038 : Int32) (o : Nat) (S_1105 : dg_S) (S : dg_S) : dg_S × Int32 := (lp (F_m_image_B7 x_1038 o S_1105) (S, (0 : Int32)) ((151 - ((0 : Int32)).toInt).toNat + 1) ((0 : Int32), (233 : Int32)))
noncomputable def F_m_image_B8 (o : Nat) (S : dg_S) : (Int32 × Int32 × dg_S) → (Int32 × Int32 × dg_S) ⊕ (dg_S × Int32) := fun w9 => match w9 with | (x_1189, x_1190, S_1191) => (if (10 : Int32) ≤ x_1189 then (Sum.inr ((F_m_image_J6 x_1190 o S_1191 S))) else let x_1195 : Int32 := S_1191.2.1 37 (x_1189 : Int32).toNatClampNeg; let S_1196 : dg_S := F_m_writes o S_1191 x_1195; let y_1197 : Int32 := zI S_1196 0 76; let x_1198 : Int32 := x_1189 + 1; (Sum.inl (x_1198, y_1197, S_1196)))
noncomputable def F_m_image_J5 (o : Nat) (S : dg_S) (x_921 : Int32) (S_1013 : dg_S) : dg_S × Int32 := (lp (F_m_image_B8 o S) (S, (0 : Int32)) ((11 - ((0 : Int32)).toInt).toNat + 1) ((0 : Int32), x_921, S_1013))
noncomputable def F_m_image_B9 (S : dg_S) (o : Nat) : (Int32 × Int32 × dg_S) → (Int32 × Int32 × dg_S) ⊕ (dg_S × Int32) := fun w9 => match w9 with | (x_1237, x_1238, S_1239) => let x_1241 : Int32 := zI S 0 13; let x_1243 : Int32 := S_1239.2.1 12 (x_1241 : Int32).toNatClampNeg; (if x_1243 ≤ x_1237 then (Sum.inr ((F_m_image_J5 o S x_1238 S_1239))) else let x_1246 : Int32 := S_1239.2.1 34 (0 : Int32).toNatClampNeg; let x_1247 : Int32 := F_m_has2 o S_1239 x_1246 x_1237; (if x_1247 = (0 : Int32) then let S_1250 : dg_S := F_m_writes o S_1239 (0 : Int32); let y_1252 : Int32 := zI S_1250 0 76; let x_1253 : Int32 := x_1237 + 1; (Sum.inl (x_1253, y_1252, S_1250)) else let S_1254 : dg_S := F_m_writes o S_1239 (1 : Int32); let y_1256 : Int32 := zI S_1254 0 76; let x_1257 : Int32 := x_1237 + 1; (Sum.inl (x_1257, y_1256, S_1254))))
noncomputable def F_m_image_J4 (S : dg_S) (o : Nat) (x_713 : Int32) (S_863 : dg_S) : dg_S × Int32 := (lp (F_m_image_B9 S o) (S, (0 : Int32)) ((6 - ((0 : Int32)).toInt).toNat + 1) ((0 : Int32), x_713, S_863))
noncomputable def F_m_image_B10 (S : dg_S) (o : Nat) : (Int32 × Int32 × dg_S) → (Int32 × Int32 × dg_S) ⊕ (dg_S × Int32) := fun w9 => match w9 with | (x_1305, x_1306, S_1307) => let x_1309 : Int32 := zI S 0 13; let x_1311 : Int32 := S_1307.2.1 9 (x_1309 : Int32).toNatClampNeg; (if x_1311 ≤ x_1305 then (Sum.inr ((F_m_image_J4 S o x_1306 S_1307))) else let x_1314 : Int32 := S_1307.2.1 35 (x_1305 : Int32).toNatClampNeg; let S_1315 : dg_S := F_m_writes o S_1307 x_1314; let y_1316 : Int32 := zI S_1315 0 76; let x_1318 : Int32 := S_1315.2.1 36 (x_1305 : Int32).toNatClampNeg; let x_1319 : Int32 := F_m_partOf o S_1315 x_1318 (0 : Int32); let S_1321 : dg_S := F_m_writes o S_1315 x_1319; let y_1322 : Int32 := zI S_1321 0 76; let x_1325 : Int32 := F_m_partOf o S_1321 x_1318 (1 : Int32); let S_1327 : dg_S := F_m_writes o S_1321 x_1325; let y_1328 : Int32 := zI S_1327 0 76; let x_1329 : Int32 := x_1305 + 1; (Sum.inl (x_1329, y_1328, S_1327)))
noncomputable def F_m_image_J3 (S : dg_S) (o : Nat) (x_421 : Int32) (S_642 : dg_S) : dg_S × Int32 := (lp (F_m_image_B10 S o) (S, (0 : Int32)) ((17 - ((0 : Int32)).toInt).toNat + 1) ((0 : Int32), x_421, S_642))
noncomputable def F_m_image_B11 (S : dg_S) (o : Nat) : (Int32 × Int32 × dg_S) → (Int32 × Int32 × dg_S) ⊕ (dg_S × Int32) := fun w9 => match w9 with | (x_1368, x_1369, S_1370) => let x_1372 : Int32 := zI S 0 13; let x_1374 : Int32 := S_1370.2.1 8 (x_1372 : Int32).toNatClampNeg; (if x_1374 ≤ x_1368 then (Sum.inr ((F_m_image_J3 S o x_1369 S_1370))) else let x_1377 : Int32 := S_1370.2.1 33 (0 : Int32).toNatClampNeg; let x_1378 : Int32 := F_m_has2 o S_1370 x_1377 x_1368; (if x_1378 = (0 : Int32) then let S_1381 : dg_S := F_m_writes o S_1370 (0 : Int32); let y_1383 : Int32 := zI S_1381 0 76; let x_1384 : Int32 := x_1368 + 1; (Sum.inl (x_1384, y_1383, S_1381)) else let S_1385 : dg_S := F_m_writes o S_1370 (1 : Int32); let y_1387 : Int32 := zI S_1385 0 76; let x_1388 : Int32 := x_1368 + 1; (Sum.inl (x_1388, y_1387, S_1385))))
noncomputable def F_m_image_J2 (S : dg_S) (o : Nat) (x_84 : Int32) (S_363 : dg_S) : dg_S × Int32 := (lp (F_m_image_B11 S o) (S, (0 : Int32)) ((7 - ((0 : Int32)).toInt).toNat + 1) ((0 : Int32), x_84, S_363))
noncomputable def F_m_image_B12 (S : dg_S) (o : Nat) : (Int32 × Int32 × dg_S) → (Int32 × Int32 × dg_S) ⊕ (dg_S × Int32) := fun w9 => match w9 with | (x_1426, x_1427, S_1428) => (if (64 : Int32) ≤ x_1426 then (Sum.inr ((F_m_image_J2 S o x_1427 S_1428))) else let x_1431 : Int32 := F_m_isCellOf o S_1428 x_1426; (if x_1431 = (0 : Int32) then let x_1434 : Int32 := x_1426 + 1; (Sum.inl (x_1434, x_1427, S_1428)) else let x_1436 : Int32 := S_1428.2.1 32 (x_1426 : Int32).toNatClampNeg; (if x_1436 = (1 : Int32) then let S_1443 : dg_S := F_m_writes o S_1428 (254 : Int32); let y_1445 : Int32 := zI S_1443 0 76; let x_1446 : Int32 := x_1426 + 1; (Sum.inl (x_1446, y_1445, S_1443)) else let x_1439 : Int32 := S_1428.2.1 31 (x_1426 : Int32).toNatClampNeg; let S_1440 : dg_S := F_m_writes o S_1428 x_1439; let y_1441 : Int32 := zI S_1440 0 76; let x_1442 : Int32 := x_1426 + 1; (Sum.inl (x_1442, y_1441, S_1440)))))
noncomputable def F_m_image_J1 (x_15 : Int32) (o : Nat) (S_17 : dg_S) (S : dg_S) : dg_S × Int32 := let x_21 : Int32 := x_15 >>> ((8 : Int32) &&& 31); let S_22 : dg_S := F_m_writes o S_17 x_21; let y_23 : Int32 := zI S_22 0 76; let S_26 : dg_S := F_m_writes o S_22 x_15; let y_27 : Int32 := zI S_26 0 76; (lp (F_m_image_B12 S o) (S, (0 : Int32)) ((65 - ((0 : Int32)).toInt).toNat + 1) ((0 : Int32), y_27, S_26))
noncomputable def F_m_image (o : Nat) (S : dg_S) : dg_S × Int32 := let S_2 : dg_S := dg_uF S 0 76 (.int (0 : Int32)); let x_4 : Int32 := S_2.2.1 29 (0 : Int32).toNatClampNeg; let x_5 : Int32 := x_4 >>> ((8 : Int32) &&& 31); let S_7 : dg_S := F_m_writes o S_2 x_5; let y_9 : Int32 := zI S_7 0 76; let S_12 : dg_S := F_m_writes o S_7 x_4; let y_13 : Int32 := zI S_12 0 76; let x_15 : Int32 := S_12.2.1 30 (0 : Int32).toNatClampNeg; let x_16 : Int32 := x_15 >>> ((16 : Int32) &&& 31); let S_17 : dg_S := F_m_writes o S_12 x_16; let y_18 : Int32 := zI S_17 0 76; (F_m_image_J1 x_15 o S_17 S)
theorem F_m_image_p0 {x_1038 : Int32} {o : Nat} {S_1105 : dg_S} {x_1161 : Int32} {x_1162 : Int32} {S_1165 : dg_S} {y_1166 : Int32} (h0 : x_1038 ≤ x_1161) (h2 : S_1165 = F_m_writes o S_1105 x_1162) (h3 : y_1166 = zI S_1165 0 76) : (F_m_image_B7 x_1038 o S_1105) (x_1161, x_1162) = Sum.inr ((S_1165, y_1166)) := by
  replace h2 := Eq.symm h2
  subst h2
  replace h3 := Eq.symm h3
  subst h3
  exact (Eq.trans (if_pos h0) rfl)
theorem F_m_image_p1 {x_1038 : Int32} {o : Nat} {S_1105 : dg_S} {x_1161 : Int32} {x_1162 : Int32} {x_1172 : Int32} {x_1171 : Int32} {x_1167 : Int32} {x_1169 : Int32} {x_1170 : Int32} (h0 : ¬ (x_1038 ≤ x_1161)) (h1 : x_1167 = (5 : Int32) * x_1162) (h2 : x_1169 = S_1105.2.1 50 (x_1161 : Int32).toNatClampNeg) (h3 : x_1170 = x_1167 + x_1169) (h4 : x_1171 = x_1170 - x_1170 / (251 : Int32) * (251 : Int32)) (h5 : x_1172 = x_1161 + 1) : (F_m_image_B7 x_1038 o S_1105) (x_1161, x_1162) = Sum.inl (x_1172, x_1171) := by
  replace h1 := Eq.symm h1
  subst h1
  replace h2 := Eq.symm h2
  subst h2
  replace h3 := Eq.symm h3
  subst h3
  replace h4 := Eq.symm h4
  subst h4
  replace h5 := Eq.symm h5
  subst h5
  exact (Eq.trans (if_neg h0) rfl)
theorem F_m_image_p2 {x_1038 : Int32} {o : Nat} {S_1105 : dg_S} {S : dg_S}  : F_m_image_J6 x_1038 o S_1105 S = lp (F_m_image_B7 x_1038 o S_1105) (S, (0 : Int32)) ((151 - ((0 : Int32)).toInt).toNat + 1) ((0 : Int32), (233 : Int32)) := rfl
theorem F_m_image_p3 {o : Nat} {S : dg_S} {x_1189 : Int32} {x_1190 : Int32} {S_1191 : dg_S} (h0 : (10 : Int32) ≤ x_1189) : (F_m_image_B8 o S) (x_1189, x_1190, S_1191) = Sum.inr (F_m_image_J6 x_1190 o S_1191 S) := (Eq.trans (if_pos h0) rfl)
theorem F_m_image_p4 {o : Nat} {S : dg_S} {x_1189 : Int32} {x_1190 : Int32} {S_1191 : dg_S} {x_1198 : Int32} {y_1197 : Int32} {S_1196 : dg_S} {x_1195 : Int32} (h0 : ¬ ((10 : Int32) ≤ x_1189)) (h1 : x_1195 = S_1191.2.1 37 (x_1189 : Int32).toNatClampNeg) (h2 : S_1196 = F_m_writes o S_1191 x_1195) (h3 : y_1197 = zI S_1196 0 76) (h4 : x_1198 = x_1189 + 1) : (F_m_image_B8 o S) (x_1189, x_1190, S_1191) = Sum.inl (x_1198, y_1197, S_1196) := by
  replace h1 := Eq.symm h1
  subst h1
  replace h2 := Eq.symm h2
  subst h2
  replace h3 := Eq.symm h3
  subst h3
  replace h4 := Eq.symm h4
  subst h4
  exact (Eq.trans (if_neg h0) rfl)
theorem F_m_image_p5 {o : Nat} {S : dg_S} {x_921 : Int32} {S_1013 : dg_S}  : F_m_image_J5 o S x_921 S_1013 = lp (F_m_image_B8 o S) (S, (0 : Int32)) ((11 - ((0 : Int32)).toInt).toNat + 1) ((0 : Int32), x_921, S_1013) := rfl
theorem F_m_image_p6 {S : dg_S} {o : Nat} {x_1237 : Int32} {x_1238 : Int32} {S_1239 : dg_S} {x_1241 : Int32} {x_1243 : Int32} (h0 : x_1241 = zI S 0 13) (h1 : x_1243 = S_1239.2.1 12 (x_1241 : Int32).toNatClampNeg) (h2 : x_1243 ≤ x_1237) : (F_m_image_B9 S o) (x_1237, x_1238, S_1239) = Sum.inr (F_m_image_J5 o S x_1238 S_1239) := by
  replace h0 := Eq.symm h0
  subst h0
  replace h1 := Eq.symm h1
  subst h1
  exact (Eq.trans (if_pos h2) rfl)
theorem F_m_image_p7 {S : dg_S} {o : Nat} {x_1237 : Int32} {x_1238 : Int32} {S_1239 : dg_S} {x_1253 : Int32} {y_1252 : Int32} {S_1250 : dg_S} {x_1241 : Int32} {x_1243 : Int32} {x_1246 : Int32} {x_1247 : Int32} (h0 : x_1241 = zI S 0 13) (h1 : x_1243 = S_1239.2.1 12 (x_1241 : Int32).toNatClampNeg) (h2 : ¬ (x_1243 ≤ x_1237)) (h3 : x_1246 = S_1239.2.1 34 (0 : Int32).toNatClampNeg) (h4 : x_1247 = F_m_has2 o S_1239 x_1246 x_1237) (h5 : x_1247 = (0 : Int32)) (h6 : S_1250 = F_m_writes o S_1239 (0 : Int32)) (h7 : y_1252 = zI S_1250 0 76) (h8 : x_1253 = x_1237 + 1) : (F_m_image_B9 S o) (x_1237, x_1238, S_1239) = Sum.inl (x_1253, y_1252, S_1250) := by
  replace h0 := Eq.symm h0
  subst h0
  replace h1 := Eq.symm h1
  subst h1
  replace h3 := Eq.symm h3
  subst h3
  replace h4 := Eq.symm h4
  subst h4
  replace h6 := Eq.symm h6
  subst h6
  replace h7 := Eq.symm h7
  subst h7
  replace h8 := Eq.symm h8
  subst h8
  exact (Eq.trans (if_neg h2) (Eq.trans (if_pos h5) rfl))
theorem F_m_image_p8 {S : dg_S} {o : Nat} {x_1237 : Int32} {x_1238 : Int32} {S_1239 : dg_S} {x_1257 : Int32} {y_1256 : Int32} {S_1254 : dg_S} {x_1241 : Int32} {x_1243 : Int32} {x_1246 : Int32} {x_1247 : Int32} (h0 : x_1241 = zI S 0 13) (h1 : x_1243 = S_1239.2.1 12 (x_1241 : Int32).toNatClampNeg) (h2 : ¬ (x_1243 ≤ x_1237)) (h3 : x_1246 = S_1239.2.1 34 (0 : Int32).toNatClampNeg) (h4 : x_1247 = F_m_has2 o S_1239 x_1246 x_1237) (h5 : ¬ (x_1247 = (0 : Int32))) (h6 : S_1254 = F_m_writes o S_1239 (1 : Int32)) (h7 : y_1256 = zI S_1254 0 76) (h8 : x_1257 = x_1237 + 1) : (F_m_image_B9 S o) (x_1237, x_1238, S_1239) = Sum.inl (x_1257, y_1256, S_1254) := by
  replace h0 := Eq.symm h0
  subst h0
  replace h1 := Eq.symm h1
  subst h1
  replace h3 := Eq.symm h3
  subst h3
  replace h4 := Eq.symm h4
  subst h4
  replace h6 := Eq.symm h6
  subst h6
  replace h7 := Eq.symm h7
  subst h7
  replace h8 := Eq.symm h8
  subst h8
  exact (Eq.trans (if_neg h2) (Eq.trans (if_neg h5) rfl))
theorem F_m_image_p9 {S : dg_S} {o : Nat} {x_713 : Int32} {S_863 : dg_S}  : F_m_image_J4 S o x_713 S_863 = lp (F_m_image_B9 S o) (S, (0 : Int32)) ((6 - ((0 : Int32)).toInt).toNat + 1) ((0 : Int32), x_713, S_863) := rfl
theorem F_m_image_p10 {S : dg_S} {o : Nat} {x_1305 : Int32} {x_1306 : Int32} {S_1307 : dg_S} {x_1309 : Int32} {x_1311 : Int32} (h0 : x_1309 = zI S 0 13) (h1 : x_1311 = S_1307.2.1 9 (x_1309 : Int32).toNatClampNeg) (h2 : x_1311 ≤ x_1305) : (F_m_image_B10 S o) (x_1305, x_1306, S_1307) = Sum.inr (F_m_image_J4 S o x_1306 S_1307) := by
  replace h0 := Eq.symm h0
  subst h0
  replace h1 := Eq.symm h1
  subst h1
  exact (Eq.trans (if_pos h2) rfl)
theorem F_m_image_p11 {S : dg_S} {o : Nat} {x_1305 : Int32} {x_1306 : Int32} {S_1307 : dg_S} {x_1329 : Int32} {y_1328 : Int32} {S_1327 : dg_S} {x_1309 : Int32} {x_1311 : Int32} {x_1314 : Int32} {S_1315 : dg_S} {x_1318 : Int32} {x_1319 : Int32} {S_1321 : dg_S} {x_1325 : Int32} (h0 : x_1309 = zI S 0 13) (h1 : x_1311 = S_1307.2.1 9 (x_1309 : Int32).toNatClampNeg) (h2 : ¬ (x_1311 ≤ x_1305)) (h3 : x_1314 = S_1307.2.1 35 (x_1305 : Int32).toNatClampNeg) (h4 : S_1315 = F_m_writes o S_1307 x_1314) (h5 : x_1318 = S_1315.2.1 36 (x_1305 : Int32).toNatClampNeg) (h6 : x_1319 = F_m_partOf o S_1315 x_1318 (0 : Int32)) (h7 : S_1321 = F_m_writes o S_1315 x_1319) (h8 : x_1325 = F_m_partOf o S_1321 x_1318 (1 : Int32)) (h9 : S_1327 = F_m_writes o S_1321 x_1325) (h10 : y_1328 = zI S_1327 0 76) (h11 : x_1329 = x_1305 + 1) : (F_m_image_B10 S o) (x_1305, x_1306, S_1307) = Sum.inl (x_1329, y_1328, S_1327) := by
  replace h0 := Eq.symm h0
  subst h0
  replace h1 := Eq.symm h1
  subst h1
  replace h3 := Eq.symm h3
  subst h3
  replace h4 := Eq.symm h4
  subst h4
  replace h5 := Eq.symm h5
  subst h5
  replace h6 := Eq.symm h6
  subst h6
  replace h7 := Eq.symm h7
  subst h7
  replace h8 := Eq.symm h8
  subst h8
  replace h9 := Eq.symm h9
  subst h9
  replace h10 := Eq.symm h10
  subst h10
  replace h11 := Eq.symm h11
  subst h11
  exact (Eq.trans (if_neg h2) rfl)
theorem F_m_image_p12 {S : dg_S} {o : Nat} {x_421 : Int32} {S_642 : dg_S}  : F_m_image_J3 S o x_421 S_642 = lp (F_m_image_B10 S o) (S, (0 : Int32)) ((17 - ((0 : Int32)).toInt).toNat + 1) ((0 : Int32), x_421, S_642) := rfl
theorem F_m_image_p13 {S : dg_S} {o : Nat} {x_1368 : Int32} {x_1369 : Int32} {S_1370 : dg_S} {x_1372 : Int32} {x_1374 : Int32} (h0 : x_1372 = zI S 0 13) (h1 : x_1374 = S_1370.2.1 8 (x_1372 : Int32).toNatClampNeg) (h2 : x_1374 ≤ x_1368) : (F_m_image_B11 S o) (x_1368, x_1369, S_1370) = Sum.inr (F_m_image_J3 S o x_1369 S_1370) := by
  replace h0 := Eq.symm h0
  subst h0
  replace h1 := Eq.symm h1
  subst h1
  exact (Eq.trans (if_pos h2) rfl)
theorem F_m_image_p14 {S : dg_S} {o : Nat} {x_1368 : Int32} {x_1369 : Int32} {S_1370 : dg_S} {x_1384 : Int32} {y_1383 : Int32} {S_1381 : dg_S} {x_1372 : Int32} {x_1374 : Int32} {x_1377 : Int32} {x_1378 : Int32} (h0 : x_1372 = zI S 0 13) (h1 : x_1374 = S_1370.2.1 8 (x_1372 : Int32).toNatClampNeg) (h2 : ¬ (x_1374 ≤ x_1368)) (h3 : x_1377 = S_1370.2.1 33 (0 : Int32).toNatClampNeg) (h4 : x_1378 = F_m_has2 o S_1370 x_1377 x_1368) (h5 : x_1378 = (0 : Int32)) (h6 : S_1381 = F_m_writes o S_1370 (0 : Int32)) (h7 : y_1383 = zI S_1381 0 76) (h8 : x_1384 = x_1368 + 1) : (F_m_image_B11 S o) (x_1368, x_1369, S_1370) = Sum.inl (x_1384, y_1383, S_1381) := by
  replace h0 := Eq.symm h0
  subst h0
  replace h1 := Eq.symm h1
  subst h1
  replace h3 := Eq.symm h3
  subst h3
  replace h4 := Eq.symm h4
  subst h4
  replace h6 := Eq.symm h6
  subst h6
  replace h7 := Eq.symm h7
  subst h7
  replace h8 := Eq.symm h8
  subst h8
  exact (Eq.trans (if_neg h2) (Eq.trans (if_pos h5) rfl))
theorem F_m_image_p15 {S : dg_S} {o : Nat} {x_1368 : Int32} {x_1369 : Int32} {S_1370 : dg_S} {x_1388 : Int32} {y_1387 : Int32} {S_1385 : dg_S} {x_1372 : Int32} {x_1374 : Int32} {x_1377 : Int32} {x_1378 : Int32} (h0 : x_1372 = zI S 0 13) (h1 : x_1374 = S_1370.2.1 8 (x_1372 : Int32).toNatClampNeg) (h2 : ¬ (x_1374 ≤ x_1368)) (h3 : x_1377 = S_1370.2.1 33 (0 : Int32).toNatClampNeg) (h4 : x_1378 = F_m_has2 o S_1370 x_1377 x_1368) (h5 : ¬ (x_1378 = (0 : Int32))) (h6 : S_1385 = F_m_writes o S_1370 (1 : Int32)) (h7 : y_1387 = zI S_1385 0 76) (h8 : x_1388 = x_1368 + 1) : (F_m_image_B11 S o) (x_1368, x_1369, S_1370) = Sum.inl (x_1388, y_1387, S_1385) := by
  replace h0 := Eq.symm h0
  subst h0
  replace h1 := Eq.symm h1
  subst h1
  replace h3 := Eq.symm h3
  subst h3
  replace h4 := Eq.symm h4
  subst h4
  replace h6 := Eq.symm h6
  subst h6
  replace h7 := Eq.symm h7
  subst h7
  replace h8 := Eq.symm h8
  subst h8
  exact (Eq.trans (if_neg h2) (Eq.trans (if_neg h5) rfl))
theorem F_m_image_p16 {S : dg_S} {o : Nat} {x_84 : Int32} {S_363 : dg_S}  : F_m_image_J2 S o x_84 S_363 = lp (F_m_image_B11 S o) (S, (0 : Int32)) ((7 - ((0 : Int32)).toInt).toNat + 1) ((0 : Int32), x_84, S_363) := rfl
theorem F_m_image_p17 {S : dg_S} {o : Nat} {x_1426 : Int32} {x_1427 : Int32} {S_1428 : dg_S} (h0 : (64 : Int32) ≤ x_1426) : (F_m_image_B12 S o) (x_1426, x_1427, S_1428) = Sum.inr (F_m_image_J2 S o x_1427 S_1428) := (Eq.trans (if_pos h0) rfl)
theorem F_m_image_p18 {S : dg_S} {o : Nat} {x_1426 : Int32} {x_1427 : Int32} {S_1428 : dg_S} {x_1434 : Int32} {x_1431 : Int32} (h0 : ¬ ((64 : Int32) ≤ x_1426)) (h1 : x_1431 = F_m_isCellOf o S_1428 x_1426) (h2 : x_1431 = (0 : Int32)) (h3 : x_1434 = x_1426 + 1) : (F_m_image_B12 S o) (x_1426, x_1427, S_1428) = Sum.inl (x_1434, x_1427, S_1428) := by
  replace h1 := Eq.symm h1
  subst h1
  replace h3 := Eq.symm h3
  subst h3
  exact (Eq.trans (if_neg h0) (Eq.trans (if_pos h2) rfl))
theorem F_m_image_p19 {S : dg_S} {o : Nat} {x_1426 : Int32} {x_1427 : Int32} {S_1428 : dg_S} {x_1442 : Int32} {y_1441 : Int32} {S_1440 : dg_S} {x_1431 : Int32} {x_1436 : Int32} {x_1439 : Int32} (h0 : ¬ ((64 : Int32) ≤ x_1426)) (h1 : x_1431 = F_m_isCellOf o S_1428 x_1426) (h2 : ¬ (x_1431 = (0 : Int32))) (h3 : x_1436 = S_1428.2.1 32 (x_1426 : Int32).toNatClampNeg) (h4 : ¬ (x_1436 = (1 : Int32))) (h5 : x_1439 = S_1428.2.1 31 (x_1426 : Int32).toNatClampNeg) (h6 : S_1440 = F_m_writes o S_1428 x_1439) (h7 : y_1441 = zI S_1440 0 76) (h8 : x_1442 = x_1426 + 1) : (F_m_image_B12 S o) (x_1426, x_1427, S_1428) = Sum.inl (x_1442, y_1441, S_1440) := by
  replace h1 := Eq.symm h1
  subst h1
  replace h3 := Eq.symm h3
  subst h3
  replace h5 := Eq.symm h5
  subst h5
  replace h6 := Eq.symm h6
  subst h6
  replace h7 := Eq.symm h7
  subst h7
  replace h8 := Eq.symm h8
  subst h8
  exact (Eq.trans (if_neg h0) (Eq.trans (if_neg h2) (Eq.trans (if_neg h4) rfl)))
theorem F_m_image_p20 {S : dg_S} {o : Nat} {x_1426 : Int32} {x_1427 : Int32} {S_1428 : dg_S} {x_1446 : Int32} {y_1445 : Int32} {S_1443 : dg_S} {x_1431 : Int32} {x_1436 : Int32} (h0 : ¬ ((64 : Int32) ≤ x_1426)) (h1 : x_1431 = F_m_isCellOf o S_1428 x_1426) (h2 : ¬ (x_1431 = (0 : Int32))) (h3 : x_1436 = S_1428.2.1 32 (x_1426 : Int32).toNatClampNeg) (h4 : x_1436 = (1 : Int32)) (h5 : S_1443 = F_m_writes o S_1428 (254 : Int32)) (h6 : y_1445 = zI S_1443 0 76) (h7 : x_1446 = x_1426 + 1) : (F_m_image_B12 S o) (x_1426, x_1427, S_1428) = Sum.inl (x_1446, y_1445, S_1443) := by
  replace h1 := Eq.symm h1
  subst h1
  replace h3 := Eq.symm h3
  subst h3
  replace h5 := Eq.symm h5
  subst h5
  replace h6 := Eq.symm h6
  subst h6
  replace h7 := Eq.symm h7
  subst h7
  exact (Eq.trans (if_neg h0) (Eq.trans (if_neg h2) (Eq.trans (if_pos h4) rfl)))
theorem F_m_image_p21 {x_15 : Int32} {o : Nat} {S_17 : dg_S} {S : dg_S} {y_27 : Int32} {S_26 : dg_S} {x_21 : Int32} {S_22 : dg_S} (h0 : x_21 = x_15 >>> ((8 : Int32) &&& 31)) (h1 : S_22 = F_m_writes o S_17 x_21) (h2 : S_26 = F_m_writes o S_22 x_15) (h3 : y_27 = zI S_26 0 76) : F_m_image_J1 x_15 o S_17 S = lp (F_m_image_B12 S o) (S, (0 : Int32)) ((65 - ((0 : Int32)).toInt).toNat + 1) ((0 : Int32), y_27, S_26) := by
  replace h0 := Eq.symm h0
  subst h0
  replace h1 := Eq.symm h1
  subst h1
  replace h2 := Eq.symm h2
  subst h2
  replace h3 := Eq.symm h3
  subst h3
  exact rfl
theorem F_m_image_p22 {o : Nat} {S : dg_S} {x_15 : Int32} {S_17 : dg_S} {S_2 : dg_S} {x_4 : Int32} {x_5 : Int32} {S_7 : dg_S} {S_12 : dg_S} {x_16 : Int32} (h0 : S_2 = dg_uF S 0 76 (.int (0 : Int32))) (h1 : x_4 = S_2.2.1 29 (0 : Int32).toNatClampNeg) (h2 : x_5 = x_4 >>> ((8 : Int32) &&& 31)) (h3 : S_7 = F_m_writes o S_2 x_5) (h4 : S_12 = F_m_writes o S_7 x_4) (h5 : x_15 = S_12.2.1 30 (0 : Int32).toNatClampNeg) (h6 : x_16 = x_15 >>> ((16 : Int32) &&& 31)) (h7 : S_17 = F_m_writes o S_12 x_16) : F_m_image o S = F_m_image_J1 x_15 o S_17 S := by
  replace h0 := Eq.symm h0
  subst h0
  replace h1 := Eq.symm h1
  subst h1
  replace h2 := Eq.symm h2
  subst h2
  replace h3 := Eq.symm h3
  subst h3
  replace h4 := Eq.symm h4
  subst h4
  replace h5 := Eq.symm h5
  subst h5
  replace h6 := Eq.symm h6
  subst h6
  replace h7 := Eq.symm h7
  subst h7
  exact rfl
set_option maxHeartbeats 8000000 in
set_option maxRecDepth 100000 in
theorem c_m_image (l : Launch) (g : Nat → ClassId) (D : va_G) (o : Nat) (S : dg_S) (ZB : ZBM S) (I : CM o S) (sz : Nat) : Met l yX12_image (bw yX12_image cX12_image 3 (some .int)) ({ frames := 4, cells := 0, slots := 0, locals := 97 } : Room) (dk_Pc g D (dg_w g shM o rfM S) sz [.ref (o + 0)]) (va_Qi (fun (r : Int32) S' => CM o S' ∧ dg_sm shM [(0, 76)] [50] S S' ∧ (0 ≤ (r).toInt ∧ (r).toInt ≤ 150) ∧ (S' = (F_m_image o S).1 ∧ r = (F_m_image o S).2) ∧ True) (dg_B g D shM o rfM) (dg_A o shM.length sz)) 0 0 (dg_A o shM.length sz) := by
  refine dg_met (cc := cX12_image) (maxL := 3) (ret := (some .int)) (dk_dq rfl) rfl (Nat.le_of_ble_eq_true rfl) ?_
  intro p e s m args below meth c A hAe harg hx hb hr hml hts hown hlocks hin hP K hS hA1 hA ST hsz ls hl
  rw [← hAe]
  have F : CallFix p m c cX12_image 3 s args (bw yX12_image cX12_image 3 (some .int)) RX12 := ⟨hx, hb, hml, hown, hts⟩
  have hl : lv_has ls 3 [(0, .ref (o + 0))] := hl
  have M_0 : dg_sm shM [(0, 76)] [50] S S := dg_sm.rf
  refine lv_aload_n hx hb dX12_image_0 rfl (lv_at hl 0 rfl) ?_
  refine lv_iconst (v := 0) hx hb dX12_image_1 (by decide +kernel) ?_
  have hz_1 : (0 : Int32).toInt = 0 := by decide +kernel
  refine dg_put (ci := 12) (v := .int 0) (ty := tyX12 76) (C := RX12) (T := TX12) (N := 77) hx hb hts (fun w h => bw_mem (wU_X12 w h)) tyX12 tyX12_ok nmX12 hown K hP hS hA1 sM_0 rfl 76 (dk_dq rfl) (hts _ (bw_mem wB_1255)) (fun _ h9 => h9) rfl (by decide +kernel) rfl rfl dX12_image_2 (fun S_2 e_2 H locs hP hS => ?_)
  have I_2 := dg_I.uFi (lo := 0) (hi := 150) I e_2 sM_0 (by decide +kernel) (show 0 ≤ ((0 : Int32)).toInt ∧ ((0 : Int32)).toInt ≤ 150 from (by decide +kernel))
  have M_2 := dg_sm.uF M_0 e_2 sM_0 (dk_dq rfl)
  refine lv_aload_n hx hb dX12_image_5 rfl (lv_at hl 0 rfl) ?_
  refine lv_aload_n hx hb dX12_image_6 rfl (lv_at hl 0 rfl) ?_
  refine dg_get (C := RX12) (T := TX12) (N := 77) hx hb hts (fun w h => bw_mem (wU_X12 w h)) hown K hP sM_0 rfl 49 (dk_dq rfl) (hts _ (bw_mem wB_1108)) (fun _ h9 => h9) (v := .ref (o + 29)) (show S_2.1 0 49 = .ref (o + 29) from dg_I.rel (d := 29) I_2 sM_0 (by decide +kernel)) dX12_image_7 ?_
  refine lv_iconst (v := 0) hx hb dX12_image_10 (by decide +kernel) ?_
  have hin_3 : vp_in (0 : Int32) 22 := (dk_in (by decide +kernel))
  refine dg_iald hx hb K hP sM_29 hin_3 dX12_image_11 (fun x_4 ex_4 => ?_)
  have b_x_4 := dk_all_at (dg_I.row (lo := 0) (hi := 2000) I_2 sM_29 (by decide +kernel)) hin_3 ex_4
  refine lv_bipush (v := 8) hx hb dX12_image_12 (by decide +kernel) ?_
  refine lv_ishr hx hb dX12_image_14 ?_
  refine lv_topi (fun x_5 ex_5 => ?_)
  have hz_6 : (0 : Int32).toInt = 0 := by decide +kernel
  refine dg_callv hS hA1 hA (va_runV (As := [.int x_5]) (rest := []) F (c_m_writes l g D o S_2 x_5 0 (dg_uF_at e_2) (by decide +kernel) I_2 H.size) (cwV 1 hts (bw_V wB_1287 wB_1288 wB_1289 wB_297 wB_1286) rfl rfl rfl (by decide +kernel) ⟨Nat.le_of_ble_eq_true rfl, Nat.le_of_ble_eq_true rfl⟩) (dg_preV sM_0 rfl K ST hP hS hA1 hA) rfl rfl hl.1 rfl (lv_room (Nat.le_of_ble_eq_true rfl)) dX12_image_15 ⟨Nat.le_of_ble_eq_true rfl, Nat.le_of_ble_eq_true rfl⟩) (fun S_7 hw_7 H locs hP hS => ?_)
  obtain ⟨I_7, m_7, w_7_0, w_7_1, -⟩ := hw_7
  have M_7 := dg_sm.tr M_2 m_7 (dk_dq rfl) (dk_dq rfl)
  have hz_8 : (0 : Int32).toInt = 0 := by decide +kernel
  obtain ⟨y_9, f_y_9, w_7_0⟩ := w_7_0
  have w_7_0 : (y_9).toInt = ((0 : Int32)).toInt + 1 := w_7_0
  have b_y_9 : 0 ≤ (y_9).toInt ∧ (y_9).toInt ≤ 150 := dg_I.intb (lo := 0) (hi := 150) I_7 sM_0 (by decide +kernel) f_y_9
  refine lv_aload_n hx hb dX12_image_18 rfl (lv_at hl 0 rfl) ?_
  refine lv_aload_n hx hb dX12_image_19 rfl (lv_at hl 0 rfl) ?_
  refine dg_get (C := RX12) (T := TX12) (N := 77) hx hb hts (fun w h => bw_mem (wU_X12 w h)) hown K hP sM_0 rfl 49 (dk_dq rfl) (hts _ (bw_mem wB_1108)) (fun _ h9 => h9) (v := .ref (o + 29)) (show S_7.1 0 49 = .ref (o + 29) from dg_I.rel (d := 29) I_7 sM_0 (by decide +kernel)) dX12_image_20 ?_
  refine lv_iconst (v := 0) hx hb dX12_image_23 (by decide +kernel) ?_
  have hin_10 : vp_in (0 : Int32) 22 := (dk_in (by decide +kernel))
  refine dg_iald hx hb K hP sM_29 hin_10 dX12_image_24 (fun y_11 ey_11 => ?_)
  obtain rfl : x_4 = y_11 := ((ey_11.trans (congrFun (m_7.2 29 _ sM_29 (dk_dq rfl)).1 _)).trans ex_4.symm).symm
  refine dg_callv hS hA1 hA (va_runV (As := [.int x_4]) (rest := []) F (c_m_writes l g D o S_7 x_4 y_9 f_y_9 (by omega) I_7 H.size) (cwV 1 hts (bw_V wB_1287 wB_1288 wB_1289 wB_297 wB_1286) rfl rfl rfl (by decide +kernel) ⟨Nat.le_of_ble_eq_true rfl, Nat.le_of_ble_eq_true rfl⟩) (dg_preV sM_0 rfl K ST hP hS hA1 hA) rfl rfl hl.1 rfl (lv_room (Nat.le_of_ble_eq_true rfl)) dX12_image_25 ⟨Nat.le_of_ble_eq_true rfl, Nat.le_of_ble_eq_true rfl⟩) (fun S_12 hw_12 H locs hP hS => ?_)
  obtain ⟨I_12, m_12, w_12_0, w_12_1, -⟩ := hw_12
  have M_12 := dg_sm.tr M_7 m_12 (dk_dq rfl) (dk_dq rfl)
  obtain ⟨y_13, f_y_13, w_12_0⟩ := w_12_0
  have w_12_0 : (y_13).toInt = (y_9).toInt + 1 := w_12_0
  have b_y_13 : 0 ≤ (y_13).toInt ∧ (y_13).toInt ≤ 150 := dg_I.intb (lo := 0) (hi := 150) I_12 sM_0 (by decide +kernel) f_y_13
  as_aux_lemma =>
    refine lv_aload_n hx hb dX12_image_28 rfl (lv_at hl 0 rfl) ?_
    refine lv_aload_n hx hb dX12_image_29 rfl (lv_at hl 0 rfl) ?_
    refine dg_get (C := RX12) (T := TX12) (N := 77) hx hb hts (fun w h => bw_mem (wU_X12 w h)) hown K hP sM_0 rfl 50 (dk_dq rfl) (hts _ (bw_mem wB_1129)) (fun _ h9 => h9) (v := .ref (o + 30)) (show S_12.1 0 50 = .ref (o + 30) from dg_I.rel (d := 30) I_12 sM_0 (by decide +kernel)) dX12_image_30 ?_
    refine lv_iconst (v := 0) hx hb dX12_image_33 (by decide +kernel) ?_
    have hin_14 : vp_in (0 : Int32) 22 := (dk_in (by decide +kernel))
    refine dg_iald hx hb K hP sM_30 hin_14 dX12_image_34 (fun x_15 ex_15 => ?_)
    refine lv_bipush (v := 16) hx hb dX12_image_35 (by decide +kernel) ?_
    refine lv_ishr hx hb dX12_image_37 ?_
    refine lv_topi (fun x_16 ex_16 => ?_)
    refine dg_callv hS hA1 hA (va_runV (As := [.int x_16]) (rest := []) F (c_m_writes l g D o S_12 x_16 y_13 f_y_13 (by omega) I_12 H.size) (cwV 1 hts (bw_V wB_1287 wB_1288 wB_1289 wB_297 wB_1286) rfl rfl rfl (by decide +kernel) ⟨Nat.le_of_ble_eq_true rfl, Nat.le_of_ble_eq_true rfl⟩) (dg_preV sM_0 rfl K ST hP hS hA1 hA) rfl rfl hl.1 rfl (lv_room (Nat.le_of_ble_eq_true rfl)) dX12_image_38 ⟨Nat.le_of_ble_eq_true rfl, Nat.le_of_ble_eq_true rfl⟩) (fun S_17 hw_17 H locs hP hS => ?_)
    obtain ⟨I_17, m_17, w_17_0, w_17_1, -⟩ := hw_17
    have M_17 := dg_sm.tr M_12 m_17 (dk_dq rfl) (dk_dq rfl)
    obtain ⟨y_18, f_y_18, w_17_0⟩ := w_17_0
    have w_17_0 : (y_18).toInt = (y_13).toInt + 1 := w_17_0
    have b_y_18 : 0 ≤ (y_18).toInt ∧ (y_18).toInt ≤ 150 := dg_I.intb (lo := 0) (hi := 150) I_17 sM_0 (by decide +kernel) f_y_18
    have hF_1 : F_m_image o S = F_m_image_J1 x_15 o S_17 S := (F_m_image_p22 e_2 (Eq.symm ex_4.symm) ex_5 w_7_1 w_12_1 (Eq.symm ex_15.symm) ex_16 w_17_1)
    refine lv_aload_n hx hb dX12_image_41 rfl (lv_at hl 0 rfl) ?_
    refine lv_aload_n hx hb dX12_image_42 rfl (lv_at hl 0 rfl) ?_
    refine dg_get (C := RX12) (T := TX12) (N := 77) hx hb hts (fun w h => bw_mem (wU_X12 w h)) hown K hP sM_0 rfl 50 (dk_dq rfl) (hts _ (bw_mem wB_1129)) (fun _ h9 => h9) (v := .ref (o + 30)) (show S_17.1 0 50 = .ref (o + 30) from dg_I.rel (d := 30) I_17 sM_0 (by decide +kernel)) dX12_image_43 ?_
    refine lv_iconst (v := 0) hx hb dX12_image_46 (by decide +kernel) ?_
    have hin_19 : vp_in (0 : Int32) 22 := (dk_in (by decide +kernel))
    refine dg_iald hx hb K hP sM_30 hin_19 dX12_image_47 (fun y_20 ey_20 => ?_)
    obtain rfl : x_15 = y_20 := ((ey_20.trans (congrFun (m_17.2 30 _ sM_30 (dk_dq rfl)).1 _)).trans ex_15.symm).symm
    refine lv_bipush (v := 8) hx hb dX12_image_48 (by decide +kernel) ?_
    refine lv_ishr hx hb dX12_image_50 ?_
    refine lv_topi (fun x_21 ex_21 => ?_)
    refine dg_callv hS hA1 hA (va_runV (As := [.int x_21]) (rest := []) F (c_m_writes l g D o S_17 x_21 y_18 f_y_18 (by omega) I_17 H.size) (cwV 1 hts (bw_V wB_1287 wB_1288 wB_1289 wB_297 wB_1286) rfl rfl rfl (by decide +kernel) ⟨Nat.le_of_ble_eq_true rfl, Nat.le_of_ble_eq_true rfl⟩) (dg_preV sM_0 rfl K ST hP hS hA1 hA) rfl rfl hl.1 rfl (lv_room (Nat.le_of_ble_eq_true rfl)) dX12_image_51 ⟨Nat.le_of_ble_eq_true rfl, Nat.le_of_ble_eq_true rfl⟩) (fun S_22 hw_22 H locs hP hS => ?_)
    obtain ⟨I_22, m_22, w_22_0, w_22_1, -⟩ := hw_22
    have M_22 := dg_sm.tr M_17 m_22 (dk_dq rfl) (dk_dq rfl)
    obtain ⟨y_23, f_y_23, w_22_0⟩ := w_22_0
    have w_22_0 : (y_23).toInt = (y_18).toInt + 1 := w_22_0
    have b_y_23 : 0 ≤ (y_23).toInt ∧ (y_23).toInt ≤ 150 := dg_I.intb (lo := 0) (hi := 150) I_22 sM_0 (by decide +kernel) f_y_23
    refine lv_aload_n hx hb dX12_image_54 rfl (lv_at hl 0 rfl) ?_
    refine lv_aload_n hx hb dX12_image_55 rfl (lv_at hl 0 rfl) ?_
    refine dg_get (C := RX12) (T := TX12) (N := 77) hx hb hts (fun w h => bw_mem (wU_X12 w h)) hown K hP sM_0 rfl 50 (dk_dq rfl) (hts _ (bw_mem wB_1129)) (fun _ h9 => h9) (v := .ref (o + 30)) (show S_22.1 0 50 = .ref (o + 30) from dg_I.rel (d := 30) I_22 sM_0 (by decide +kernel)) dX12_image_56 ?_
    refine lv_iconst (v := 0) hx hb dX12_image_59 (by decide +kernel) ?_
    have hin_24 : vp_in (0 : Int32) 22 := (dk_in (by decide +kernel))
    refine dg_iald hx hb K hP sM_30 hin_24 dX12_image_60 (fun y_25 ey_25 => ?_)
    obtain rfl : x_15 = y_25 := ((ey_25.trans (congrFun ((m_22.2 30 _ sM_30 (dk_dq rfl)).1.trans (m_17.2 30 _ sM_30 (dk_dq rfl)).1) _)).trans ex_15.symm).symm
    refine dg_callv hS hA1 hA (va_runV (As := [.int x_15]) (rest := []) F (c_m_writes l g D o S_22 x_15 y_23 f_y_23 (by omega) I_22 H.size) (cwV 1 hts (bw_V wB_1287 wB_1288 wB_1289 wB_297 wB_1286) rfl rfl rfl (by decide +kernel) ⟨Nat.le_of_ble_eq_true rfl, Nat.le_of_ble_eq_true rfl⟩) (dg_preV sM_0 rfl K ST hP hS hA1 hA) rfl rfl hl.1 rfl (lv_room (Nat.le_of_ble_eq_true rfl)) dX12_image_61 ⟨Nat.le_of_ble_eq_true rfl, Nat.le_of_ble_eq_true rfl⟩) (fun S_26 hw_26 H locs hP hS => ?_)
    obtain ⟨I_26, m_26, w_26_0, w_26_1, -⟩ := hw_26
    have M_26 := dg_sm.tr M_22 m_26 (dk_dq rfl) (dk_dq rfl)
    obtain ⟨y_27, f_y_27, w_26_0⟩ := w_26_0
    have w_26_0 : (y_27).toInt = (y_23).toInt + 1 := w_26_0
    have b_y_27 : 0 ≤ (y_27).toInt ∧ (y_27).toInt ≤ 150 := dg_I.intb (lo := 0) (hi := 150) I_26 sM_0 (by decide +kernel) f_y_27
    as_aux_lemma =>
      refine lv_iconst (v := 0) hx hb dX12_image_64 (by decide +kernel) ?_
      refine lv_istore_n (lv' := [(1, .int 0), (0, .ref (o + 0))]) hx hb dX12_image_65 rfl hl (dk_dq rfl) rfl (fun ls hl => ?_)
      have J_364 : ∀ (x_83 : Int32) (x_84 : Int32), (64 ≤ (x_83).toInt ∧ (x_83).toInt ≤ 64) → (0 ≤ (x_84).toInt ∧ (x_84).toInt ≤ 150) → ∀ S_363 : dg_S, CM o S_363 → dg_sm shM [(0, 76)] [50] S S_363 → S_363.1 0 76 = .int x_84 → ((x_84).toInt ≤ 69) → (F_m_image o S = F_m_image_J2 S o x_84 S_363) → ∀ (H : Heap) (locs : List Loc), va_P D vwCl (dg_w g shM o rfM S_363) H → va_S A s.heap H locs → ∀ ls : Array Slot, lv_has ls 3 [(1, .int x_83), (0, .ref (o + 0))] → W p l e ({ frames := 4, cells := 0, slots := 0, locals := 97 } : Room) s m args below meth c H locs 0 0 (MQ below (va_Qi (fun (r : Int32) S' => CM o S' ∧ dg_sm shM [(0, 76)] [50] S S' ∧ (0 ≤ (r).toInt ∧ (r).toInt ≤ 150) ∧ (S' = (F_m_image o S).1 ∧ r = (F_m_image o S).2) ∧ True) (dg_B g D shM o rfM) A) args s 0 0 A) (F0 m 112 ls []) := by
        as_aux_lemma =>
          intro x_83 x_84 b_x_83 b_x_84 S_363 I_363 M_363 ff_363_76_0 srel_363_0 hF_2 H locs hP hS ls hl
          refine lv_iconst (v := 0) hx hb dX12_image_112 (by decide +kernel) ?_
          refine lv_istore_n (lv' := [(1, .int 0), (0, .ref (o + 0))]) hx hb dX12_image_113 rfl hl (dk_dq rfl) rfl (fun ls hl => ?_)
          have J_643 : ∀ (x_420 : Int32) (x_421 : Int32), (0 ≤ (x_420).toInt ∧ (x_420).toInt ≤ 6) → (0 ≤ (x_421).toInt ∧ (x_421).toInt ≤ 150) → ∀ S_642 : dg_S, CM o S_642 → dg_sm shM [(0, 76)] [50] S S_642 → S_642.1 0 76 = .int x_421 → ((x_421).toInt ≤ 75) → (F_m_image o S = F_m_image_J3 S o x_421 S_642) → ∀ (H : Heap) (locs : List Loc), va_P D vwCl (dg_w g shM o rfM S_642) H → va_S A s.heap H locs → ∀ ls : Array Slot, lv_has ls 3 [(1, .int x_420), (0, .ref (o + 0))] → W p l e ({ frames := 4, cells := 0, slots := 0, locals := 97 } : Room) s m args below meth c H locs 0 0 (MQ below (va_Qi (fun (r : Int32) S' => CM o S' ∧ dg_sm shM [(0, 76)] [50] S S' ∧ (0 ≤ (r).toInt ∧ (r).toInt ≤ 150) ∧ (S' = (F_m_image o S).1 ∧ r = (F_m_image o S).2) ∧ True) (dg_B g D shM o rfM) A) args s 0 0 A) (F0 m 155 ls []) := by
            as_aux_lemma =>
              intro x_420 x_421 b_x_420 b_x_421 S_642 I_642 M_642 ff_642_76_0 srel_642_0 hF_3 H locs hP hS ls hl
              refine lv_iconst (v := 0) hx hb dX12_image_155 (by decide +kernel) ?_
              refine lv_istore_n (lv' := [(1, .int 0), (0, .ref (o + 0))]) hx hb dX12_image_156 rfl hl (dk_dq rfl) rfl (fun ls hl => ?_)
              have J_864 : ∀ (x_712 : Int32) (x_713 : Int32), (0 ≤ (x_712).toInt ∧ (x_712).toInt ≤ 16) → (0 ≤ (x_713).toInt ∧ (x_713).toInt ≤ 150) → ∀ S_863 : dg_S, CM o S_863 → dg_sm shM [(0, 76)] [50] S S_863 → S_863.1 0 76 = .int x_713 → ((x_713).toInt ≤ 123) → (F_m_image o S = F_m_image_J4 S o x_713 S_863) → ∀ (H : Heap) (locs : List Loc), va_P D vwCl (dg_w g shM o rfM S_863) H → va_S A s.heap H locs → ∀ ls : Array Slot, lv_has ls 3 [(1, .int x_712), (0, .ref (o + 0))] → W p l e ({ frames := 4, cells := 0, slots := 0, locals := 97 } : Room) s m args below meth c H locs 0 0 (MQ below (va_Qi (fun (r : Int32) S' => CM o S' ∧ dg_sm shM [(0, 76)] [50] S S' ∧ (0 ≤ (r).toInt ∧ (r).toInt ≤ 150) ∧ (S' = (F_m_image o S).1 ∧ r = (F_m_image o S).2) ∧ True) (dg_B g D shM o rfM) A) args s 0 0 A) (F0 m 214 ls []) := by
                as_aux_lemma =>
                  intro x_712 x_713 b_x_712 b_x_713 S_863 I_863 M_863 ff_863_76_0 srel_863_0 hF_4 H locs hP hS ls hl
                  refine lv_iconst (v := 0) hx hb dX12_image_214 (by decide +kernel) ?_
                  refine lv_istore_n (lv' := [(1, .int 0), (0, .ref (o + 0))]) hx hb dX12_image_215 rfl hl (dk_dq rfl) rfl (fun ls hl => ?_)
                  have J_1014 : ∀ (x_920 : Int32) (x_921 : Int32), (0 ≤ (x_920).toInt ∧ (x_920).toInt ≤ 5) → (0 ≤ (x_921).toInt ∧ (x_921).toInt ≤ 150) → ∀ S_1013 : dg_S, CM o S_1013 → dg_sm shM [(0, 76)] [50] S S_1013 → S_1013.1 0 76 = .int x_921 → ((x_921).toInt ≤ 128) → (F_m_image o S = F_m_image_J5 o S x_921 S_1013) → ∀ (H : Heap) (locs : List Loc), va_P D vwCl (dg_w g shM o rfM S_1013) H → va_S A s.heap H locs → ∀ ls : Array Slot, lv_has ls 3 [(1, .int x_920), (0, .ref (o + 0))] → W p l e ({ frames := 4, cells := 0, slots := 0, locals := 97 } : Room) s m args below meth c H locs 0 0 (MQ below (va_Qi (fun (r : Int32) S' => CM o S' ∧ dg_sm shM [(0, 76)] [50] S S' ∧ (0 ≤ (r).toInt ∧ (r).toInt ≤ 150) ∧ (S' = (F_m_image o S).1 ∧ r = (F_m_image o S).2) ∧ True) (dg_B g D shM o rfM) A) args s 0 0 A) (F0 m 257 ls []) := by
                    as_aux_lemma =>
                      intro x_920 x_921 b_x_920 b_x_921 S_1013 I_1013 M_1013 ff_1013_76_0 srel_1013_0 hF_5 H locs hP hS ls hl
                      refine lv_iconst (v := 0) hx hb dX12_image_257 (by decide +kernel) ?_
                      refine lv_istore_n (lv' := [(1, .int 0), (0, .ref (o + 0))]) hx hb dX12_image_258 rfl hl (dk_dq rfl) rfl (fun ls hl => ?_)
                      have J_1106 : ∀ (x_1037 : Int32) (x_1038 : Int32), (10 ≤ (x_1037).toInt ∧ (x_1037).toInt ≤ 10) → (0 ≤ (x_1038).toInt ∧ (x_1038).toInt ≤ 150) → ∀ S_1105 : dg_S, CM o S_1105 → dg_sm shM [(0, 76)] [50] S S_1105 → S_1105.1 0 76 = .int x_1038 → ((x_1038).toInt ≤ 138) → (F_m_image o S = F_m_image_J6 x_1038 o S_1105 S) → ∀ (H : Heap) (locs : List Loc), va_P D vwCl (dg_w g shM o rfM S_1105) H → va_S A s.heap H locs → ∀ ls : Array Slot, lv_has ls 3 [(1, .int x_1037), (0, .ref (o + 0))] → W p l e ({ frames := 4, cells := 0, slots := 0, locals := 97 } : Room) s m args below meth c H locs 0 0 (MQ below (va_Qi (fun (r : Int32) S' => CM o S' ∧ dg_sm shM [(0, 76)] [50] S S' ∧ (0 ≤ (r).toInt ∧ (r).toInt ≤ 150) ∧ (S' = (F_m_image o S).1 ∧ r = (F_m_image o S).2) ∧ True) (dg_B g D shM o rfM) A) args s 0 0 A) (F0 m 281 ls []) := by
                        as_aux_lemma =>
                          intro x_1037 x_1038 b_x_1037 b_x_1038 S_1105 I_1105 M_1105 ff_1105_76_0 srel_1105_0 hF_6 H locs hP hS ls hl
                          refine lv_sipush (v := 233) hx hb dX12_image_281 (by decide +kernel) ?_
                          refine lv_istore_n (lv' := [(1, .int 233), (0, .ref (o + 0))]) hx hb dX12_image_284 rfl hl (dk_dq rfl) rfl (fun ls hl => ?_)
                          refine lv_iconst (v := 0) hx hb dX12_image_285 (by decide +kernel) ?_
                          refine lv_istore_n (lv' := [(2, .int 0), (1, .int 233), (0, .ref (o + 0))]) hx hb dX12_image_286 rfl hl (dk_dq rfl) rfl (fun ls hl => ?_)
                          have L_1163 : ∀ (n : Nat) (x_1161 : Int32) (x_1162 : Int32), (0 ≤ (x_1161).toInt ∧ (x_1161).toInt ≤ 150) → ((151 - (x_1161).toInt).toNat < n) → (F_m_image o S = lp (F_m_image_B7 x_1038 o S_1105) (S, (0 : Int32)) n (x_1161, x_1162)) → ∀ (H : Heap) (locs : List Loc), va_P D vwCl (dg_w g shM o rfM S_1105) H → va_S A s.heap H locs → ∀ ls : Array Slot, lv_has ls 3 [(2, .int x_1161), (1, .int x_1162), (0, .ref (o + 0))] → W p l e ({ frames := 4, cells := 0, slots := 0, locals := 97 } : Room) s m args below meth c H locs 0 0 (MQ below (va_Qi (fun (r : Int32) S' => CM o S' ∧ dg_sm shM [(0, 76)] [50] S S' ∧ (0 ≤ (r).toInt ∧ (r).toInt ≤ 150) ∧ (S' = (F_m_image o S).1 ∧ r = (F_m_image o S).2) ∧ True) (dg_B g D shM o rfM) A) args s 0 0 A) (F0 m 287 ls []) := by
                            as_aux_lemma =>
                              intro n
                              induction n with
                              | zero =>
                                intro x_1161 x_1162 b_x_1161 hmu hF_7 H locs hP hS ls hl
                                omega
                              | succ n ih =>
                                as_aux_lemma =>
                                  intro x_1161 x_1162 b_x_1161 hmu hF_7 H locs hP hS ls hl
                                  refine lv_iload_n hx hb dX12_image_287 rfl (lv_at hl 0 rfl) ?_
                                  refine lv_aload_n hx hb dX12_image_288 rfl (lv_at hl 2 rfl) ?_
                                  refine dg_get (C := RX12) (T := TX12) (N := 77) hx hb hts (fun w h => bw_mem (wU_X12 w h)) hown K hP sM_0 rfl 76 (dk_dq rfl) (hts _ (bw_mem wB_1255)) (fun _ h9 => h9) (v := .int x_1038) ff_1105_76_0 dX12_image_289 ?_
                                  refine lv_icmp_ge (tgt := 316) hx hb dX12_image_292 (dk_dq rfl) (fun c_1164 => ?_) (fun c_1164 => ?_)
                                  · have jc_1164 := dk_gec (k := (x_1038).toInt) rfl c_1164
                                    refine lv_aload_n hx hb dX12_image_316 rfl (lv_at hl 2 rfl) ?_
                                    refine lv_iload_n hx hb dX12_image_317 rfl (lv_at hl 1 rfl) ?_
                                    refine dg_callv hS hA1 hA (va_runV (As := [.int x_1162]) (rest := []) F (c_m_writes l g D o S_1105 x_1162 x_1038 ff_1105_76_0 (by omega) I_1105 H.size) (cwV 1 hts (bw_V wB_1287 wB_1288 wB_1289 wB_297 wB_1286) rfl rfl rfl (by decide +kernel) ⟨Nat.le_of_ble_eq_true rfl, Nat.le_of_ble_eq_true rfl⟩) (dg_preV sM_0 rfl K ST hP hS hA1 hA) rfl rfl hl.1 rfl (lv_room (Nat.le_of_ble_eq_true rfl)) dX12_image_318 ⟨Nat.le_of_ble_eq_true rfl, Nat.le_of_ble_eq_true rfl⟩) (fun S_1165 hw_1165 H locs hP hS => ?_)
                                    obtain ⟨I_1165, m_1165, w_1165_0, w_1165_1, -⟩ := hw_1165
                                    have M_1165 := dg_sm.tr M_1105 m_1165 (dk_dq rfl) (dk_dq rfl)
                                    obtain ⟨y_1166, f_y_1166, w_1165_0⟩ := w_1165_0
                                    have w_1165_0 : (y_1166).toInt = (x_1038).toInt + 1 := w_1165_0
                                    have b_y_1166 : 0 ≤ (y_1166).toInt ∧ (y_1166).toInt ≤ 150 := dg_I.intb (lo := 0) (hi := 150) I_1165 sM_0 (by decide +kernel) f_y_1166
                                    refine lv_aload_n hx hb dX12_image_321 rfl (lv_at hl 2 rfl) ?_
                                    refine dg_get (C := RX12) (T := TX12) (N := 77) hx hb hts (fun w h => bw_mem (wU_X12 w h)) hown K hP sM_0 rfl 76 (dk_dq rfl) (hts _ (bw_mem wB_1255)) (fun _ h9 => h9) (v := .int y_1166) f_y_1166 dX12_image_322 ?_
                                    refine W.widen (k := 0) (n := 0) (Nat.le_of_ble_eq_true rfl) (Nat.le_of_ble_eq_true rfl) ?_
                                    exact dg_iret hx hb hr hlocks rfl hP hS ⟨I_1165, M_1165, (by omega), ⟨congrArg Prod.fst (Eq.symm (lp_r hF_7 (F_m_image_p0 c_1164 w_1165_1 (zI_eq f_y_1166)))), congrArg Prod.snd (Eq.symm (lp_r hF_7 (F_m_image_p0 c_1164 w_1165_1 (zI_eq f_y_1166))))⟩, trivial⟩ dX12_image_325
                                  · as_aux_lemma =>
                                      have jc_1164 := dk_ngec (k := (x_1038).toInt) rfl c_1164
                                      refine lv_iconst (v := 5) hx hb dX12_image_295 (by decide +kernel) ?_
                                      refine lv_iload_n hx hb dX12_image_296 rfl (lv_at hl 1 rfl) ?_
                                      refine lv_imul hx hb dX12_image_297 ?_
                                      refine lv_topi (fun x_1167 ex_1167 => ?_)
                                      refine lv_aload_n hx hb dX12_image_298 rfl (lv_at hl 2 rfl) ?_
                                      refine dg_get (C := RX12) (T := TX12) (N := 77) hx hb hts (fun w h => bw_mem (wU_X12 w h)) hown K hP sM_0 rfl 75 (dk_dq rfl) (hts _ (bw_mem wB_1254)) (fun _ h9 => h9) (v := .ref (o + 50)) (show S_1105.1 0 75 = .ref (o + 50) from dg_I.rel (d := 50) I_1105 sM_0 (by decide +kernel)) dX12_image_299 ?_
                                      refine lv_iload_n hx hb dX12_image_302 rfl (lv_at hl 0 rfl) ?_
                                      have hin_1168 : vp_in x_1161 150 := (dk_inv2 (by omega))
                                      refine dg_iald hx hb K hP sM_50 hin_1168 dX12_image_303 (fun x_1169 ex_1169 => ?_)
                                      refine lv_iadd hx hb dX12_image_304 ?_
                                      refine lv_topi (fun x_1170 ex_1170 => ?_)
                                      refine lv_sipush (v := 251) hx hb dX12_image_305 (by decide +kernel) ?_
                                      refine lv_irem hx hb dX12_image_308 (by decide +kernel) ?_
                                      refine lv_topi (fun x_1171 ex_1171 => ?_)
                                      refine lv_istore_n (lv' := [(1, .int x_1171), (2, .int x_1161), (0, .ref (o + 0))]) hx hb dX12_image_309 rfl hl (dk_dq rfl) rfl (fun ls hl => ?_)
                                      obtain ⟨x_1172, ex_1172⟩ : ∃ z, z = x_1161 + 1 := ⟨_, rfl⟩
                                      have jx_1172 : (x_1172).toInt = (x_1161).toInt + 1 := by rw [ex_1172]; exact dk_addT2 rfl (by decide +kernel) (by omega)
                                      refine lv_iinc (v := x_1172) (lv' := [(2, .int x_1172), (1, .int x_1171), (0, .ref (o + 0))]) hx hb dX12_image_310 hl (k := 1) rfl (by rw [ex_1172]; rfl) (dk_dq rfl) rfl (fun ls hl => ?_)
                                      refine lv_goto (tgt := 287) hx hb dX12_image_313 (dk_dq rfl) ?_
                                      exact ih x_1172 x_1171 (by omega) (by first | exact mu_lt hmu (by omega) (by omega) | omega) (lp_l hF_7 (F_m_image_p1 c_1164 ex_1167 (Eq.symm ex_1169.symm) ex_1170 ex_1171 ex_1172)) _ _ hP hS _ (lv_sub hl [0, 1, 2] rfl)
                          have hz_1173 : (0 : Int32).toInt = 0 := by decide +kernel
                          have hz_1174 : (0 : Int32).toInt = 0 := by decide +kernel
                          have hz_1175 : (233 : Int32).toInt = 233 := by decide +kernel
                          exact L_1163 ((151 - ((0 : Int32)).toInt).toNat + 1) 0 233 (by decide +kernel) (by first | exact mu_lt hmu (by omega) (by omega) | omega) (Eq.trans hF_6 (F_m_image_p2)) _ _ hP hS _ (lv_sub hl [0, 1, 2] rfl)
                      have L_1192 : ∀ (n : Nat) (x_1189 : Int32) (x_1190 : Int32), (0 ≤ (x_1189).toInt ∧ (x_1189).toInt ≤ 10) → (0 ≤ (x_1190).toInt ∧ (x_1190).toInt ≤ 150) → ((11 - (x_1189).toInt).toNat < n) → ∀ S_1191 : dg_S, CM o S_1191 → dg_sm shM [(0, 76)] [50] S S_1191 → S_1191.1 0 76 = .int x_1190 → ((x_1190).toInt ≤ 128 + (x_1189).toInt) → (F_m_image o S = lp (F_m_image_B8 o S) (S, (0 : Int32)) n (x_1189, x_1190, S_1191)) → ∀ (H : Heap) (locs : List Loc), va_P D vwCl (dg_w g shM o rfM S_1191) H → va_S A s.heap H locs → ∀ ls : Array Slot, lv_has ls 3 [(1, .int x_1189), (0, .ref (o + 0))] → W p l e ({ frames := 4, cells := 0, slots := 0, locals := 97 } : Room) s m args below meth c H locs 0 0 (MQ below (va_Qi (fun (r : Int32) S' => CM o S' ∧ dg_sm shM [(0, 76)] [50] S S' ∧ (0 ≤ (r).toInt ∧ (r).toInt ≤ 150) ∧ (S' = (F_m_image o S).1 ∧ r = (F_m_image o S).2) ∧ True) (dg_B g D shM o rfM) A) args s 0 0 A) (F0 m 259 ls []) := by
                        as_aux_lemma =>
                          intro n
                          induction n with
                          | zero =>
                            intro x_1189 x_1190 b_x_1189 b_x_1190 hmu S_1191 I_1191 M_1191 ff_1191_76_0 srel_1191_0 hF_8 H locs hP hS ls hl
                            omega
                          | succ n ih =>
                            as_aux_lemma =>
                              intro x_1189 x_1190 b_x_1189 b_x_1190 hmu S_1191 I_1191 M_1191 ff_1191_76_0 srel_1191_0 hF_8 H locs hP hS ls hl
                              refine lv_iload_n hx hb dX12_image_259 rfl (lv_at hl 0 rfl) ?_
                              refine lv_bipush (v := 10) hx hb dX12_image_260 (by decide +kernel) ?_
                              refine lv_icmp_ge (tgt := 281) hx hb dX12_image_262 (dk_dq rfl) (fun c_1193 => ?_) (fun c_1193 => ?_)
                              · have jc_1193 := dk_gec (k := 10) (by decide +kernel) c_1193
                                exact J_1106 x_1189 x_1190 (by omega) (by omega) S_1191 I_1191 M_1191 ff_1191_76_0 (by omega) (lp_r hF_8 (F_m_image_p3 c_1193)) _ _ hP hS _ (lv_sub hl [0, 1] rfl)
                              · as_aux_lemma =>
                                  have jc_1193 := dk_ngec (k := 10) (by decide +kernel) c_1193
                                  refine lv_aload_n hx hb dX12_image_265 rfl (lv_at hl 1 rfl) ?_
                                  refine lv_aload_n hx hb dX12_image_266 rfl (lv_at hl 1 rfl) ?_
                                  refine dg_get (C := RX12) (T := TX12) (N := 77) hx hb hts (fun w h => bw_mem (wU_X12 w h)) hown K hP sM_0 rfl 57 (dk_dq rfl) (hts _ (bw_mem wB_1117)) (fun _ h9 => h9) (v := .ref (o + 37)) (show S_1191.1 0 57 = .ref (o + 37) from dg_I.rel (d := 37) I_1191 sM_0 (by decide +kernel)) dX12_image_267 ?_
                                  refine lv_iload_n hx hb dX12_image_270 rfl (lv_at hl 0 rfl) ?_
                                  have hin_1194 : vp_in x_1189 220 := (dk_inv2 (by omega))
                                  refine dg_iald hx hb K hP sM_37 hin_1194 dX12_image_271 (fun x_1195 ex_1195 => ?_)
                                  refine dg_callv hS hA1 hA (va_runV (As := [.int x_1195]) (rest := []) F (c_m_writes l g D o S_1191 x_1195 x_1190 ff_1191_76_0 (by omega) I_1191 H.size) (cwV 1 hts (bw_V wB_1287 wB_1288 wB_1289 wB_297 wB_1286) rfl rfl rfl (by decide +kernel) ⟨Nat.le_of_ble_eq_true rfl, Nat.le_of_ble_eq_true rfl⟩) (dg_preV sM_0 rfl K ST hP hS hA1 hA) rfl rfl hl.1 rfl (lv_room (Nat.le_of_ble_eq_true rfl)) dX12_image_272 ⟨Nat.le_of_ble_eq_true rfl, Nat.le_of_ble_eq_true rfl⟩) (fun S_1196 hw_1196 H locs hP hS => ?_)
                                  obtain ⟨I_1196, m_1196, w_1196_0, w_1196_1, -⟩ := hw_1196
                                  have M_1196 := dg_sm.tr M_1191 m_1196 (dk_dq rfl) (dk_dq rfl)
                                  obtain ⟨y_1197, f_y_1197, w_1196_0⟩ := w_1196_0
                                  have w_1196_0 : (y_1197).toInt = (x_1190).toInt + 1 := w_1196_0
                                  have b_y_1197 : 0 ≤ (y_1197).toInt ∧ (y_1197).toInt ≤ 150 := dg_I.intb (lo := 0) (hi := 150) I_1196 sM_0 (by decide +kernel) f_y_1197
                                  obtain ⟨x_1198, ex_1198⟩ : ∃ z, z = x_1189 + 1 := ⟨_, rfl⟩
                                  have jx_1198 : (x_1198).toInt = (x_1189).toInt + 1 := by rw [ex_1198]; exact dk_addT2 rfl (by decide +kernel) (by omega)
                                  refine lv_iinc (v := x_1198) (lv' := [(1, .int x_1198), (0, .ref (o + 0))]) hx hb dX12_image_275 hl (k := 0) rfl (by rw [ex_1198]; rfl) (dk_dq rfl) rfl (fun ls hl => ?_)
                                  refine lv_goto (tgt := 259) hx hb dX12_image_278 (dk_dq rfl) ?_
                                  exact ih x_1198 y_1197 (by omega) (by omega) (by first | exact mu_lt hmu (by omega) (by omega) | omega) S_1196 I_1196 M_1196 f_y_1197 (by omega) (lp_l hF_8 (F_m_image_p4 c_1193 (Eq.symm ex_1195.symm) w_1196_1 (zI_eq f_y_1197) ex_1198)) _ _ hP hS _ (lv_sub hl [0, 1] rfl)
                      have hz_1199 : (0 : Int32).toInt = 0 := by decide +kernel
                      have hz_1200 : (0 : Int32).toInt = 0 := by decide +kernel
                      exact L_1192 ((11 - ((0 : Int32)).toInt).toNat + 1) 0 x_921 (by decide +kernel) (by omega) (by first | exact mu_lt hmu (by omega) (by omega) | omega) S_1013 I_1013 M_1013 ff_1013_76_0 (by omega) (Eq.trans hF_5 (F_m_image_p5)) _ _ hP hS _ (lv_sub hl [0, 1] rfl)
                  have L_1240 : ∀ (n : Nat) (x_1237 : Int32) (x_1238 : Int32), (0 ≤ (x_1237).toInt ∧ (x_1237).toInt ≤ 5) → (0 ≤ (x_1238).toInt ∧ (x_1238).toInt ≤ 150) → ((6 - (x_1237).toInt).toNat < n) → ∀ S_1239 : dg_S, CM o S_1239 → dg_sm shM [(0, 76)] [50] S S_1239 → S_1239.1 0 76 = .int x_1238 → ((x_1238).toInt ≤ 123 + (x_1237).toInt) → (F_m_image o S = lp (F_m_image_B9 S o) (S, (0 : Int32)) n (x_1237, x_1238, S_1239)) → ∀ (H : Heap) (locs : List Loc), va_P D vwCl (dg_w g shM o rfM S_1239) H → va_S A s.heap H locs → ∀ ls : Array Slot, lv_has ls 3 [(1, .int x_1237), (0, .ref (o + 0))] → W p l e ({ frames := 4, cells := 0, slots := 0, locals := 97 } : Room) s m args below meth c H locs 0 0 (MQ below (va_Qi (fun (r : Int32) S' => CM o S' ∧ dg_sm shM [(0, 76)] [50] S S' ∧ (0 ≤ (r).toInt ∧ (r).toInt ≤ 150) ∧ (S' = (F_m_image o S).1 ∧ r = (F_m_image o S).2) ∧ True) (dg_B g D shM o rfM) A) args s 0 0 A) (F0 m 216 ls []) := by
                    as_aux_lemma =>
                      intro n
                      induction n with
                      | zero =>
                        intro x_1237 x_1238 b_x_1237 b_x_1238 hmu S_1239 I_1239 M_1239 ff_1239_76_0 srel_1239_0 hF_9 H locs hP hS ls hl
                        omega
                      | succ n ih =>
                        as_aux_lemma =>
                          intro x_1237 x_1238 b_x_1237 b_x_1238 hmu S_1239 I_1239 M_1239 ff_1239_76_0 srel_1239_0 hF_9 H locs hP hS ls hl
                          refine lv_iload_n hx hb dX12_image_216 rfl (lv_at hl 0 rfl) ?_
                          refine lv_aload_n hx hb dX12_image_217 rfl (lv_at hl 1 rfl) ?_
                          refine dg_get (C := RX12) (T := TX12) (N := 77) hx hb hts (fun w h => bw_mem (wU_X12 w h)) hown K hP sM_0 rfl 24 (dk_dq rfl) (hts _ (bw_mem wB_355)) (fun _ h9 => h9) (v := .ref (o + 12)) (show S_1239.1 0 24 = .ref (o + 12) from dg_I.rel (d := 12) I_1239 sM_0 (by decide +kernel)) dX12_image_218 ?_
                          refine lv_aload_n hx hb dX12_image_221 rfl (lv_at hl 1 rfl) ?_
                          obtain ⟨x_1241, f_x_1241, b_x_1241⟩ := dg_I.int (i := 0) (k := 13) (lo := 0) (hi := 1) I sM_0 (by decide +kernel)
                          refine dg_get (C := RX12) (T := TX12) (N := 77) hx hb hts (fun w h => bw_mem (wU_X12 w h)) hown K hP sM_0 rfl 13 (dk_dq rfl) (hts _ (bw_mem wB_1085)) (fun _ h9 => h9) (v := .int x_1241) ((M_1239.1 0 13 _ sM_0 (dk_dq rfl)).trans f_x_1241) dX12_image_222 ?_
                          have hin_1242 : vp_in x_1241 2 := (dk_inv2 (by omega))
                          refine dg_iald hx hb K hP sM_12 hin_1242 dX12_image_225 (fun x_1243 ex_1243 => ?_)
                          have b_x_1243 := dk_all_at (dg_I.row (lo := 0) (hi := 5) I_1239 sM_12 (by decide +kernel)) hin_1242 ex_1243
                          refine lv_icmp_ge (tgt := 257) hx hb dX12_image_226 (dk_dq rfl) (fun c_1244 => ?_) (fun c_1244 => ?_)
                          · have jc_1244 := dk_gec (k := (x_1243).toInt) rfl c_1244
                            exact J_1014 x_1237 x_1238 (by omega) (by omega) S_1239 I_1239 M_1239 ff_1239_76_0 (by omega) (lp_r hF_9 (F_m_image_p6 (zI_eq f_x_1241) (Eq.symm ex_1243.symm) c_1244)) _ _ hP hS _ (lv_sub hl [0, 1] rfl)
                          · as_aux_lemma =>
                              have jc_1244 := dk_ngec (k := (x_1243).toInt) rfl c_1244
                              refine lv_aload_n hx hb dX12_image_229 rfl (lv_at hl 1 rfl) ?_
                              refine lv_aload_n hx hb dX12_image_230 rfl (lv_at hl 1 rfl) ?_
                              refine dg_get (C := RX12) (T := TX12) (N := 77) hx hb hts (fun w h => bw_mem (wU_X12 w h)) hown K hP sM_0 rfl 54 (dk_dq rfl) (hts _ (bw_mem wB_1131)) (fun _ h9 => h9) (v := .ref (o + 34)) (show S_1239.1 0 54 = .ref (o + 34) from dg_I.rel (d := 34) I_1239 sM_0 (by decide +kernel)) dX12_image_231 ?_
                              refine lv_iconst (v := 0) hx hb dX12_image_234 (by decide +kernel) ?_
                              have hin_1245 : vp_in (0 : Int32) 22 := (dk_in (by decide +kernel))
                              refine dg_iald hx hb K hP sM_34 hin_1245 dX12_image_235 (fun x_1246 ex_1246 => ?_)
                              refine lv_iload_n hx hb dX12_image_236 rfl (lv_at hl 0 rfl) ?_
                              refine dg_calli hS hA1 hA (va_runS (As := [.int x_1246, .int x_1237]) (rest := [.ref (o + 0)]) F (c_m_has2 l g D o S_1239 x_1246 x_1237 I_1239 H.size) (va_cwS 2 hts (bw_S wB_1165 wB_1166 wB_297 wB_1164) rfl rfl rfl (by decide +kernel) ⟨Nat.le_of_ble_eq_true rfl, Nat.le_of_ble_eq_true rfl⟩) (dg_preS K ST hP hS hA1 hA) rfl rfl hl.1 rfl (lv_room (Nat.le_of_ble_eq_true rfl)) dX12_image_237 ⟨Nat.le_of_ble_eq_true rfl, Nat.le_of_ble_eq_true rfl⟩) (fun x_1247 S_1248 hw_1248 H locs hP hS => ?_)
                              rw [hw_1248.1] at hP
                              obtain ⟨hq_1248, w_1248_0, w_1248_1, -⟩ := hw_1248
                              have w_1248_0 : 0 ≤ (x_1247).toInt ∧ (x_1247).toInt ≤ 1 := w_1248_0
                              refine lv_if_eq (tgt := 247) hx hb dX12_image_240 (dk_dq rfl) (fun c_1249 => ?_) (fun c_1249 => ?_)
                              · have jc_1249 := dk_eqc (k := 0) (by decide +kernel) c_1249
                                refine lv_iconst (v := 0) hx hb dX12_image_247 (by decide +kernel) ?_
                                refine dg_callv hS hA1 hA (va_runV (As := [.int 0]) (rest := []) F (c_m_writes l g D o S_1239 0 x_1238 ff_1239_76_0 (by omega) I_1239 H.size) (cwV 1 hts (bw_V wB_1287 wB_1288 wB_1289 wB_297 wB_1286) rfl rfl rfl (by decide +kernel) ⟨Nat.le_of_ble_eq_true rfl, Nat.le_of_ble_eq_true rfl⟩) (dg_preV sM_0 rfl K ST hP hS hA1 hA) rfl rfl hl.1 rfl (lv_room (Nat.le_of_ble_eq_true rfl)) dX12_image_248 ⟨Nat.le_of_ble_eq_true rfl, Nat.le_of_ble_eq_true rfl⟩) (fun S_1250 hw_1250 H locs hP hS => ?_)
                                obtain ⟨I_1250, m_1250, w_1250_0, w_1250_1, -⟩ := hw_1250
                                have M_1250 := dg_sm.tr M_1239 m_1250 (dk_dq rfl) (dk_dq rfl)
                                have hz_1251 : (0 : Int32).toInt = 0 := by decide +kernel
                                obtain ⟨y_1252, f_y_1252, w_1250_0⟩ := w_1250_0
                                have w_1250_0 : (y_1252).toInt = (x_1238).toInt + 1 := w_1250_0
                                have b_y_1252 : 0 ≤ (y_1252).toInt ∧ (y_1252).toInt ≤ 150 := dg_I.intb (lo := 0) (hi := 150) I_1250 sM_0 (by decide +kernel) f_y_1252
                                obtain ⟨x_1253, ex_1253⟩ : ∃ z, z = x_1237 + 1 := ⟨_, rfl⟩
                                have jx_1253 : (x_1253).toInt = (x_1237).toInt + 1 := by rw [ex_1253]; exact dk_addT2 rfl (by decide +kernel) (by omega)
                                refine lv_iinc (v := x_1253) (lv' := [(1, .int x_1253), (0, .ref (o + 0))]) hx hb dX12_image_251 hl (k := 0) rfl (by rw [ex_1253]; rfl) (dk_dq rfl) rfl (fun ls hl => ?_)
                                refine lv_goto (tgt := 216) hx hb dX12_image_254 (dk_dq rfl) ?_
                                exact ih x_1253 y_1252 (by omega) (by omega) (by first | exact mu_lt hmu (by omega) (by omega) | omega) S_1250 I_1250 M_1250 f_y_1252 (by omega) (lp_l hF_9 (F_m_image_p7 (zI_eq f_x_1241) (Eq.symm ex_1243.symm) c_1244 (Eq.symm ex_1246.symm) w_1248_1 c_1249 w_1250_1 (zI_eq f_y_1252) ex_1253)) _ _ hP hS _ (lv_sub hl [0, 1] rfl)
                              · have jc_1249 := dk_neqc (k := 0) (by decide +kernel) c_1249
                                refine lv_iconst (v := 1) hx hb dX12_image_243 (by decide +kernel) ?_
                                refine lv_goto (tgt := 248) hx hb dX12_image_244 (dk_dq rfl) ?_
                                refine dg_callv hS hA1 hA (va_runV (As := [.int 1]) (rest := []) F (c_m_writes l g D o S_1239 1 x_1238 ff_1239_76_0 (by omega) I_1239 H.size) (cwV 1 hts (bw_V wB_1287 wB_1288 wB_1289 wB_297 wB_1286) rfl rfl rfl (by decide +kernel) ⟨Nat.le_of_ble_eq_true rfl, Nat.le_of_ble_eq_true rfl⟩) (dg_preV sM_0 rfl K ST hP hS hA1 hA) rfl rfl hl.1 rfl (lv_room (Nat.le_of_ble_eq_true rfl)) dX12_image_248 ⟨Nat.le_of_ble_eq_true rfl, Nat.le_of_ble_eq_true rfl⟩) (fun S_1254 hw_1254 H locs hP hS => ?_)
                                obtain ⟨I_1254, m_1254, w_1254_0, w_1254_1, -⟩ := hw_1254
                                have M_1254 := dg_sm.tr M_1239 m_1254 (dk_dq rfl) (dk_dq rfl)
                                have hz_1255 : (1 : Int32).toInt = 1 := by decide +kernel
                                obtain ⟨y_1256, f_y_1256, w_1254_0⟩ := w_1254_0
                                have w_1254_0 : (y_1256).toInt = (x_1238).toInt + 1 := w_1254_0
                                have b_y_1256 : 0 ≤ (y_1256).toInt ∧ (y_1256).toInt ≤ 150 := dg_I.intb (lo := 0) (hi := 150) I_1254 sM_0 (by decide +kernel) f_y_1256
                                obtain ⟨x_1257, ex_1257⟩ : ∃ z, z = x_1237 + 1 := ⟨_, rfl⟩
                                have jx_1257 : (x_1257).toInt = (x_1237).toInt + 1 := by rw [ex_1257]; exact dk_addT2 rfl (by decide +kernel) (by omega)
                                refine lv_iinc (v := x_1257) (lv' := [(1, .int x_1257), (0, .ref (o + 0))]) hx hb dX12_image_251 hl (k := 0) rfl (by rw [ex_1257]; rfl) (dk_dq rfl) rfl (fun ls hl => ?_)
                                refine lv_goto (tgt := 216) hx hb dX12_image_254 (dk_dq rfl) ?_
                                exact ih x_1257 y_1256 (by omega) (by omega) (by first | exact mu_lt hmu (by omega) (by omega) | omega) S_1254 I_1254 M_1254 f_y_1256 (by omega) (lp_l hF_9 (F_m_image_p8 (zI_eq f_x_1241) (Eq.symm ex_1243.symm) c_1244 (Eq.symm ex_1246.symm) w_1248_1 c_1249 w_1254_1 (zI_eq f_y_1256) ex_1257)) _ _ hP hS _ (lv_sub hl [0, 1] rfl)
                  have hz_1258 : (0 : Int32).toInt = 0 := by decide +kernel
                  have hz_1259 : (0 : Int32).toInt = 0 := by decide +kernel
                  exact L_1240 ((6 - ((0 : Int32)).toInt).toNat + 1) 0 x_713 (by decide +kernel) (by omega) (by first | exact mu_lt hmu (by omega) (by omega) | omega) S_863 I_863 M_863 ff_863_76_0 (by omega) (Eq.trans hF_4 (F_m_image_p9)) _ _ hP hS _ (lv_sub hl [0, 1] rfl)
              have L_1308 : ∀ (n : Nat) (x_1305 : Int32) (x_1306 : Int32), (0 ≤ (x_1305).toInt ∧ (x_1305).toInt ≤ 16) → (0 ≤ (x_1306).toInt ∧ (x_1306).toInt ≤ 150) → ((17 - (x_1305).toInt).toNat < n) → ∀ S_1307 : dg_S, CM o S_1307 → dg_sm shM [(0, 76)] [50] S S_1307 → S_1307.1 0 76 = .int x_1306 → ((x_1306).toInt ≤ 75 + 3 * (x_1305).toInt) → (F_m_image o S = lp (F_m_image_B10 S o) (S, (0 : Int32)) n (x_1305, x_1306, S_1307)) → ∀ (H : Heap) (locs : List Loc), va_P D vwCl (dg_w g shM o rfM S_1307) H → va_S A s.heap H locs → ∀ ls : Array Slot, lv_has ls 3 [(1, .int x_1305), (0, .ref (o + 0))] → W p l e ({ frames := 4, cells := 0, slots := 0, locals := 97 } : Room) s m args below meth c H locs 0 0 (MQ below (va_Qi (fun (r : Int32) S' => CM o S' ∧ dg_sm shM [(0, 76)] [50] S S' ∧ (0 ≤ (r).toInt ∧ (r).toInt ≤ 150) ∧ (S' = (F_m_image o S).1 ∧ r = (F_m_image o S).2) ∧ True) (dg_B g D shM o rfM) A) args s 0 0 A) (F0 m 157 ls []) := by
                as_aux_lemma =>
                  intro n
                  induction n with
                  | zero =>
                    intro x_1305 x_1306 b_x_1305 b_x_1306 hmu S_1307 I_1307 M_1307 ff_1307_76_0 srel_1307_0 hF_10 H locs hP hS ls hl
                    omega
                  | succ n ih =>
                    as_aux_lemma =>
                      intro x_1305 x_1306 b_x_1305 b_x_1306 hmu S_1307 I_1307 M_1307 ff_1307_76_0 srel_1307_0 hF_10 H locs hP hS ls hl
                      refine lv_iload_n hx hb dX12_image_157 rfl (lv_at hl 0 rfl) ?_
                      refine lv_aload_n hx hb dX12_image_158 rfl (lv_at hl 1 rfl) ?_
                      refine dg_get (C := RX12) (T := TX12) (N := 77) hx hb hts (fun w h => bw_mem (wU_X12 w h)) hown K hP sM_0 rfl 21 (dk_dq rfl) (hts _ (bw_mem wB_391)) (fun _ h9 => h9) (v := .ref (o + 9)) (show S_1307.1 0 21 = .ref (o + 9) from dg_I.rel (d := 9) I_1307 sM_0 (by decide +kernel)) dX12_image_159 ?_
                      refine lv_aload_n hx hb dX12_image_162 rfl (lv_at hl 1 rfl) ?_
                      obtain ⟨x_1309, f_x_1309, b_x_1309⟩ := dg_I.int (i := 0) (k := 13) (lo := 0) (hi := 1) I sM_0 (by decide +kernel)
                      refine dg_get (C := RX12) (T := TX12) (N := 77) hx hb hts (fun w h => bw_mem (wU_X12 w h)) hown K hP sM_0 rfl 13 (dk_dq rfl) (hts _ (bw_mem wB_1085)) (fun _ h9 => h9) (v := .int x_1309) ((M_1307.1 0 13 _ sM_0 (dk_dq rfl)).trans f_x_1309) dX12_image_163 ?_
                      have hin_1310 : vp_in x_1309 2 := (dk_inv2 (by omega))
                      refine dg_iald hx hb K hP sM_9 hin_1310 dX12_image_166 (fun x_1311 ex_1311 => ?_)
                      have b_x_1311 := dk_all_at (dg_I.row (lo := 0) (hi := 16) I_1307 sM_9 (by decide +kernel)) hin_1310 ex_1311
                      refine lv_icmp_ge (tgt := 214) hx hb dX12_image_167 (dk_dq rfl) (fun c_1312 => ?_) (fun c_1312 => ?_)
                      · have jc_1312 := dk_gec (k := (x_1311).toInt) rfl c_1312
                        exact J_864 x_1305 x_1306 (by omega) (by omega) S_1307 I_1307 M_1307 ff_1307_76_0 (by omega) (lp_r hF_10 (F_m_image_p10 (zI_eq f_x_1309) (Eq.symm ex_1311.symm) c_1312)) _ _ hP hS _ (lv_sub hl [0, 1] rfl)
                      · as_aux_lemma =>
                          have jc_1312 := dk_ngec (k := (x_1311).toInt) rfl c_1312
                          refine lv_aload_n hx hb dX12_image_170 rfl (lv_at hl 1 rfl) ?_
                          refine lv_aload_n hx hb dX12_image_171 rfl (lv_at hl 1 rfl) ?_
                          refine dg_get (C := RX12) (T := TX12) (N := 77) hx hb hts (fun w h => bw_mem (wU_X12 w h)) hown K hP sM_0 rfl 55 (dk_dq rfl) (hts _ (bw_mem wB_1132)) (fun _ h9 => h9) (v := .ref (o + 35)) (show S_1307.1 0 55 = .ref (o + 35) from dg_I.rel (d := 35) I_1307 sM_0 (by decide +kernel)) dX12_image_172 ?_
                          refine lv_iload_n hx hb dX12_image_175 rfl (lv_at hl 0 rfl) ?_
                          have hin_1313 : vp_in x_1305 352 := (dk_inv2 (by omega))
                          refine dg_iald hx hb K hP sM_35 hin_1313 dX12_image_176 (fun x_1314 ex_1314 => ?_)
                          refine dg_callv hS hA1 hA (va_runV (As := [.int x_1314]) (rest := []) F (c_m_writes l g D o S_1307 x_1314 x_1306 ff_1307_76_0 (by omega) I_1307 H.size) (cwV 1 hts (bw_V wB_1287 wB_1288 wB_1289 wB_297 wB_1286) rfl rfl rfl (by decide +kernel) ⟨Nat.le_of_ble_eq_true rfl, Nat.le_of_ble_eq_true rfl⟩) (dg_preV sM_0 rfl K ST hP hS hA1 hA) rfl rfl hl.1 rfl (lv_room (Nat.le_of_ble_eq_true rfl)) dX12_image_177 ⟨Nat.le_of_ble_eq_true rfl, Nat.le_of_ble_eq_true rfl⟩) (fun S_1315 hw_1315 H locs hP hS => ?_)
                          obtain ⟨I_1315, m_1315, w_1315_0, w_1315_1, -⟩ := hw_1315
                          have M_1315 := dg_sm.tr M_1307 m_1315 (dk_dq rfl) (dk_dq rfl)
                          obtain ⟨y_1316, f_y_1316, w_1315_0⟩ := w_1315_0
                          have w_1315_0 : (y_1316).toInt = (x_1306).toInt + 1 := w_1315_0
                          have b_y_1316 : 0 ≤ (y_1316).toInt ∧ (y_1316).toInt ≤ 150 := dg_I.intb (lo := 0) (hi := 150) I_1315 sM_0 (by decide +kernel) f_y_1316
                          refine lv_aload_n hx hb dX12_image_180 rfl (lv_at hl 1 rfl) ?_
                          refine lv_aload_n hx hb dX12_image_181 rfl (lv_at hl 1 rfl) ?_
                          refine dg_get (C := RX12) (T := TX12) (N := 77) hx hb hts (fun w h => bw_mem (wU_X12 w h)) hown K hP sM_0 rfl 56 (dk_dq rfl) (hts _ (bw_mem wB_1133)) (fun _ h9 => h9) (v := .ref (o + 36)) (show S_1315.1 0 56 = .ref (o + 36) from dg_I.rel (d := 36) I_1315 sM_0 (by decide +kernel)) dX12_image_182 ?_
                          refine lv_iload_n hx hb dX12_image_185 rfl (lv_at hl 0 rfl) ?_
                          have hin_1317 : vp_in x_1305 352 := (dk_inv2 (by omega))
                          refine dg_iald hx hb K hP sM_36 hin_1317 dX12_image_186 (fun x_1318 ex_1318 => ?_)
                          have b_x_1318 := dk_all_at (dg_I.row (lo := 0) (hi := 63) I_1315 sM_36 (by decide +kernel)) hin_1317 ex_1318
                          refine lv_iconst (v := 0) hx hb dX12_image_187 (by decide +kernel) ?_
                          refine dg_calli hS hA1 hA (va_runS (As := [.int x_1318, .int 0]) (rest := [.ref (o + 0)]) F (c_m_partOf l g D o S_1315 x_1318 0 I_1315 H.size) (va_cwS 2 hts (bw_S wB_1212 wB_1213 wB_297 wB_1211) rfl rfl rfl (by decide +kernel) ⟨Nat.le_of_ble_eq_true rfl, Nat.le_of_ble_eq_true rfl⟩) (dg_preS K ST hP hS hA1 hA) rfl rfl hl.1 rfl (lv_room (Nat.le_of_ble_eq_true rfl)) dX12_image_188 ⟨Nat.le_of_ble_eq_true rfl, Nat.le_of_ble_eq_true rfl⟩) (fun x_1319 S_1320 hw_1320 H locs hP hS => ?_)
                          rw [hw_1320.1] at hP
                          obtain ⟨hq_1320, w_1320_0, -⟩ := hw_1320
                          refine dg_callv hS hA1 hA (va_runV (As := [.int x_1319]) (rest := []) F (c_m_writes l g D o S_1315 x_1319 y_1316 f_y_1316 (by omega) I_1315 H.size) (cwV 1 hts (bw_V wB_1287 wB_1288 wB_1289 wB_297 wB_1286) rfl rfl rfl (by decide +kernel) ⟨Nat.le_of_ble_eq_true rfl, Nat.le_of_ble_eq_true rfl⟩) (dg_preV sM_0 rfl K ST hP hS hA1 hA) rfl rfl hl.1 rfl (lv_room (Nat.le_of_ble_eq_true rfl)) dX12_image_191 ⟨Nat.le_of_ble_eq_true rfl, Nat.le_of_ble_eq_true rfl⟩) (fun S_1321 hw_1321 H locs hP hS => ?_)
                          obtain ⟨I_1321, m_1321, w_1321_0, w_1321_1, -⟩ := hw_1321
                          have M_1321 := dg_sm.tr M_1315 m_1321 (dk_dq rfl) (dk_dq rfl)
                          obtain ⟨y_1322, f_y_1322, w_1321_0⟩ := w_1321_0
                          have w_1321_0 : (y_1322).toInt = (y_1316).toInt + 1 := w_1321_0
                          have b_y_1322 : 0 ≤ (y_1322).toInt ∧ (y_1322).toInt ≤ 150 := dg_I.intb (lo := 0) (hi := 150) I_1321 sM_0 (by decide +kernel) f_y_1322
                          refine lv_aload_n hx hb dX12_image_194 rfl (lv_at hl 1 rfl) ?_
                          refine lv_aload_n hx hb dX12_image_195 rfl (lv_at hl 1 rfl) ?_
                          refine dg_get (C := RX12) (T := TX12) (N := 77) hx hb hts (fun w h => bw_mem (wU_X12 w h)) hown K hP sM_0 rfl 56 (dk_dq rfl) (hts _ (bw_mem wB_1133)) (fun _ h9 => h9) (v := .ref (o + 36)) (show S_1321.1 0 56 = .ref (o + 36) from dg_I.rel (d := 36) I_1321 sM_0 (by decide +kernel)) dX12_image_196 ?_
                          refine lv_iload_n hx hb dX12_image_199 rfl (lv_at hl 0 rfl) ?_
                          have hin_1323 : vp_in x_1305 352 := (dk_inv2 (by omega))
                          refine dg_iald hx hb K hP sM_36 hin_1323 dX12_image_200 (fun y_1324 ey_1324 => ?_)
                          obtain rfl : x_1318 = y_1324 := ((ey_1324.trans (congrFun (m_1321.2 36 _ sM_36 (dk_dq rfl)).1 _)).trans ex_1318.symm).symm
                          refine lv_iconst (v := 1) hx hb dX12_image_201 (by decide +kernel) ?_
                          refine dg_calli hS hA1 hA (va_runS (As := [.int x_1318, .int 1]) (rest := [.ref (o + 0)]) F (c_m_partOf l g D o S_1321 x_1318 1 I_1321 H.size) (va_cwS 2 hts (bw_S wB_1212 wB_1213 wB_297 wB_1211) rfl rfl rfl (by decide +kernel) ⟨Nat.le_of_ble_eq_true rfl, Nat.le_of_ble_eq_true rfl⟩) (dg_preS K ST hP hS hA1 hA) rfl rfl hl.1 rfl (lv_room (Nat.le_of_ble_eq_true rfl)) dX12_image_202 ⟨Nat.le_of_ble_eq_true rfl, Nat.le_of_ble_eq_true rfl⟩) (fun x_1325 S_1326 hw_1326 H locs hP hS => ?_)
                          rw [hw_1326.1] at hP
                          obtain ⟨hq_1326, w_1326_0, -⟩ := hw_1326
                          refine dg_callv hS hA1 hA (va_runV (As := [.int x_1325]) (rest := []) F (c_m_writes l g D o S_1321 x_1325 y_1322 f_y_1322 (by omega) I_1321 H.size) (cwV 1 hts (bw_V wB_1287 wB_1288 wB_1289 wB_297 wB_1286) rfl rfl rfl (by decide +kernel) ⟨Nat.le_of_ble_eq_true rfl, Nat.le_of_ble_eq_true rfl⟩) (dg_preV sM_0 rfl K ST hP hS hA1 hA) rfl rfl hl.1 rfl (lv_room (Nat.le_of_ble_eq_true rfl)) dX12_image_205 ⟨Nat.le_of_ble_eq_true rfl, Nat.le_of_ble_eq_true rfl⟩) (fun S_1327 hw_1327 H locs hP hS => ?_)
                          obtain ⟨I_1327, m_1327, w_1327_0, w_1327_1, -⟩ := hw_1327
                          have M_1327 := dg_sm.tr M_1321 m_1327 (dk_dq rfl) (dk_dq rfl)
                          obtain ⟨y_1328, f_y_1328, w_1327_0⟩ := w_1327_0
                          have w_1327_0 : (y_1328).toInt = (y_1322).toInt + 1 := w_1327_0
                          have b_y_1328 : 0 ≤ (y_1328).toInt ∧ (y_1328).toInt ≤ 150 := dg_I.intb (lo := 0) (hi := 150) I_1327 sM_0 (by decide +kernel) f_y_1328
                          obtain ⟨x_1329, ex_1329⟩ : ∃ z, z = x_1305 + 1 := ⟨_, rfl⟩
                          have jx_1329 : (x_1329).toInt = (x_1305).toInt + 1 := by rw [ex_1329]; exact dk_addT2 rfl (by decide +kernel) (by omega)
                          refine lv_iinc (v := x_1329) (lv' := [(1, .int x_1329), (0, .ref (o + 0))]) hx hb dX12_image_208 hl (k := 0) rfl (by rw [ex_1329]; rfl) (dk_dq rfl) rfl (fun ls hl => ?_)
                          refine lv_goto (tgt := 157) hx hb dX12_image_211 (dk_dq rfl) ?_
                          exact ih x_1329 y_1328 (by omega) (by omega) (by first | exact mu_lt hmu (by omega) (by omega) | omega) S_1327 I_1327 M_1327 f_y_1328 (by omega) (lp_l hF_10 (F_m_image_p11 (zI_eq f_x_1309) (Eq.symm ex_1311.symm) c_1312 (Eq.symm ex_1314.symm) w_1315_1 (Eq.symm ex_1318.symm) w_1320_0 w_1321_1 w_1326_0 w_1327_1 (zI_eq f_y_1328) ex_1329)) _ _ hP hS _ (lv_sub hl [0, 1] rfl)
              have hz_1330 : (0 : Int32).toInt = 0 := by decide +kernel
              have hz_1331 : (0 : Int32).toInt = 0 := by decide +kernel
              exact L_1308 ((17 - ((0 : Int32)).toInt).toNat + 1) 0 x_421 (by decide +kernel) (by omega) (by first | exact mu_lt hmu (by omega) (by omega) | omega) S_642 I_642 M_642 ff_642_76_0 (by omega) (Eq.trans hF_3 (F_m_image_p12)) _ _ hP hS _ (lv_sub hl [0, 1] rfl)
          have L_1371 : ∀ (n : Nat) (x_1368 : Int32) (x_1369 : Int32), (0 ≤ (x_1368).toInt ∧ (x_1368).toInt ≤ 6) → (0 ≤ (x_1369).toInt ∧ (x_1369).toInt ≤ 150) → ((7 - (x_1368).toInt).toNat < n) → ∀ S_1370 : dg_S, CM o S_1370 → dg_sm shM [(0, 76)] [50] S S_1370 → S_1370.1 0 76 = .int x_1369 → ((x_1369).toInt ≤ 69 + (x_1368).toInt) → (F_m_image o S = lp (F_m_image_B11 S o) (S, (0 : Int32)) n (x_1368, x_1369, S_1370)) → ∀ (H : Heap) (locs : List Loc), va_P D vwCl (dg_w g shM o rfM S_1370) H → va_S A s.heap H locs → ∀ ls : Array Slot, lv_has ls 3 [(1, .int x_1368), (0, .ref (o + 0))] → W p l e ({ frames := 4, cells := 0, slots := 0, locals := 97 } : Room) s m args below meth c H locs 0 0 (MQ below (va_Qi (fun (r : Int32) S' => CM o S' ∧ dg_sm shM [(0, 76)] [50] S S' ∧ (0 ≤ (r).toInt ∧ (r).toInt ≤ 150) ∧ (S' = (F_m_image o S).1 ∧ r = (F_m_image o S).2) ∧ True) (dg_B g D shM o rfM) A) args s 0 0 A) (F0 m 114 ls []) := by
            as_aux_lemma =>
              intro n
              induction n with
              | zero =>
                intro x_1368 x_1369 b_x_1368 b_x_1369 hmu S_1370 I_1370 M_1370 ff_1370_76_0 srel_1370_0 hF_11 H locs hP hS ls hl
                omega
              | succ n ih =>
                as_aux_lemma =>
                  intro x_1368 x_1369 b_x_1368 b_x_1369 hmu S_1370 I_1370 M_1370 ff_1370_76_0 srel_1370_0 hF_11 H locs hP hS ls hl
                  refine lv_iload_n hx hb dX12_image_114 rfl (lv_at hl 0 rfl) ?_
                  refine lv_aload_n hx hb dX12_image_115 rfl (lv_at hl 1 rfl) ?_
                  refine dg_get (C := RX12) (T := TX12) (N := 77) hx hb hts (fun w h => bw_mem (wU_X12 w h)) hown K hP sM_0 rfl 20 (dk_dq rfl) (hts _ (bw_mem wB_352)) (fun _ h9 => h9) (v := .ref (o + 8)) (show S_1370.1 0 20 = .ref (o + 8) from dg_I.rel (d := 8) I_1370 sM_0 (by decide +kernel)) dX12_image_116 ?_
                  refine lv_aload_n hx hb dX12_image_119 rfl (lv_at hl 1 rfl) ?_
                  obtain ⟨x_1372, f_x_1372, b_x_1372⟩ := dg_I.int (i := 0) (k := 13) (lo := 0) (hi := 1) I sM_0 (by decide +kernel)
                  refine dg_get (C := RX12) (T := TX12) (N := 77) hx hb hts (fun w h => bw_mem (wU_X12 w h)) hown K hP sM_0 rfl 13 (dk_dq rfl) (hts _ (bw_mem wB_1085)) (fun _ h9 => h9) (v := .int x_1372) ((M_1370.1 0 13 _ sM_0 (dk_dq rfl)).trans f_x_1372) dX12_image_120 ?_
                  have hin_1373 : vp_in x_1372 2 := (dk_inv2 (by omega))
                  refine dg_iald hx hb K hP sM_8 hin_1373 dX12_image_123 (fun x_1374 ex_1374 => ?_)
                  have b_x_1374 := dk_all_at (dg_I.row (lo := 0) (hi := 6) I_1370 sM_8 (by decide +kernel)) hin_1373 ex_1374
                  refine lv_icmp_ge (tgt := 155) hx hb dX12_image_124 (dk_dq rfl) (fun c_1375 => ?_) (fun c_1375 => ?_)
                  · have jc_1375 := dk_gec (k := (x_1374).toInt) rfl c_1375
                    exact J_643 x_1368 x_1369 (by omega) (by omega) S_1370 I_1370 M_1370 ff_1370_76_0 (by omega) (lp_r hF_11 (F_m_image_p13 (zI_eq f_x_1372) (Eq.symm ex_1374.symm) c_1375)) _ _ hP hS _ (lv_sub hl [0, 1] rfl)
                  · as_aux_lemma =>
                      have jc_1375 := dk_ngec (k := (x_1374).toInt) rfl c_1375
                      refine lv_aload_n hx hb dX12_image_127 rfl (lv_at hl 1 rfl) ?_
                      refine lv_aload_n hx hb dX12_image_128 rfl (lv_at hl 1 rfl) ?_
                      refine dg_get (C := RX12) (T := TX12) (N := 77) hx hb hts (fun w h => bw_mem (wU_X12 w h)) hown K hP sM_0 rfl 53 (dk_dq rfl) (hts _ (bw_mem wB_1130)) (fun _ h9 => h9) (v := .ref (o + 33)) (show S_1370.1 0 53 = .ref (o + 33) from dg_I.rel (d := 33) I_1370 sM_0 (by decide +kernel)) dX12_image_129 ?_
                      refine lv_iconst (v := 0) hx hb dX12_image_132 (by decide +kernel) ?_
                      have hin_1376 : vp_in (0 : Int32) 22 := (dk_in (by decide +kernel))
                      refine dg_iald hx hb K hP sM_33 hin_1376 dX12_image_133 (fun x_1377 ex_1377 => ?_)
                      refine lv_iload_n hx hb dX12_image_134 rfl (lv_at hl 0 rfl) ?_
                      refine dg_calli hS hA1 hA (va_runS (As := [.int x_1377, .int x_1368]) (rest := [.ref (o + 0)]) F (c_m_has2 l g D o S_1370 x_1377 x_1368 I_1370 H.size) (va_cwS 2 hts (bw_S wB_1165 wB_1166 wB_297 wB_1164) rfl rfl rfl (by decide +kernel) ⟨Nat.le_of_ble_eq_true rfl, Nat.le_of_ble_eq_true rfl⟩) (dg_preS K ST hP hS hA1 hA) rfl rfl hl.1 rfl (lv_room (Nat.le_of_ble_eq_true rfl)) dX12_image_135 ⟨Nat.le_of_ble_eq_true rfl, Nat.le_of_ble_eq_true rfl⟩) (fun x_1378 S_1379 hw_1379 H locs hP hS => ?_)
                      rw [hw_1379.1] at hP
                      obtain ⟨hq_1379, w_1379_0, w_1379_1, -⟩ := hw_1379
                      have w_1379_0 : 0 ≤ (x_1378).toInt ∧ (x_1378).toInt ≤ 1 := w_1379_0
                      refine lv_if_eq (tgt := 145) hx hb dX12_image_138 (dk_dq rfl) (fun c_1380 => ?_) (fun c_1380 => ?_)
                      · have jc_1380 := dk_eqc (k := 0) (by decide +kernel) c_1380
                        refine lv_iconst (v := 0) hx hb dX12_image_145 (by decide +kernel) ?_
                        refine dg_callv hS hA1 hA (va_runV (As := [.int 0]) (rest := []) F (c_m_writes l g D o S_1370 0 x_1369 ff_1370_76_0 (by omega) I_1370 H.size) (cwV 1 hts (bw_V wB_1287 wB_1288 wB_1289 wB_297 wB_1286) rfl rfl rfl (by decide +kernel) ⟨Nat.le_of_ble_eq_true rfl, Nat.le_of_ble_eq_true rfl⟩) (dg_preV sM_0 rfl K ST hP hS hA1 hA) rfl rfl hl.1 rfl (lv_room (Nat.le_of_ble_eq_true rfl)) dX12_image_146 ⟨Nat.le_of_ble_eq_true rfl, Nat.le_of_ble_eq_true rfl⟩) (fun S_1381 hw_1381 H locs hP hS => ?_)
                        obtain ⟨I_1381, m_1381, w_1381_0, w_1381_1, -⟩ := hw_1381
                        have M_1381 := dg_sm.tr M_1370 m_1381 (dk_dq rfl) (dk_dq rfl)
                        have hz_1382 : (0 : Int32).toInt = 0 := by decide +kernel
                        obtain ⟨y_1383, f_y_1383, w_1381_0⟩ := w_1381_0
                        have w_1381_0 : (y_1383).toInt = (x_1369).toInt + 1 := w_1381_0
                        have b_y_1383 : 0 ≤ (y_1383).toInt ∧ (y_1383).toInt ≤ 150 := dg_I.intb (lo := 0) (hi := 150) I_1381 sM_0 (by decide +kernel) f_y_1383
                        obtain ⟨x_1384, ex_1384⟩ : ∃ z, z = x_1368 + 1 := ⟨_, rfl⟩
                        have jx_1384 : (x_1384).toInt = (x_1368).toInt + 1 := by rw [ex_1384]; exact dk_addT2 rfl (by decide +kernel) (by omega)
                        refine lv_iinc (v := x_1384) (lv' := [(1, .int x_1384), (0, .ref (o + 0))]) hx hb dX12_image_149 hl (k := 0) rfl (by rw [ex_1384]; rfl) (dk_dq rfl) rfl (fun ls hl => ?_)
                        refine lv_goto (tgt := 114) hx hb dX12_image_152 (dk_dq rfl) ?_
                        exact ih x_1384 y_1383 (by omega) (by omega) (by first | exact mu_lt hmu (by omega) (by omega) | omega) S_1381 I_1381 M_1381 f_y_1383 (by omega) (lp_l hF_11 (F_m_image_p14 (zI_eq f_x_1372) (Eq.symm ex_1374.symm) c_1375 (Eq.symm ex_1377.symm) w_1379_1 c_1380 w_1381_1 (zI_eq f_y_1383) ex_1384)) _ _ hP hS _ (lv_sub hl [0, 1] rfl)
                      · have jc_1380 := dk_neqc (k := 0) (by decide +kernel) c_1380
                        refine lv_iconst (v := 1) hx hb dX12_image_141 (by decide +kernel) ?_
                        refine lv_goto (tgt := 146) hx hb dX12_image_142 (dk_dq rfl) ?_
                        refine dg_callv hS hA1 hA (va_runV (As := [.int 1]) (rest := []) F (c_m_writes l g D o S_1370 1 x_1369 ff_1370_76_0 (by omega) I_1370 H.size) (cwV 1 hts (bw_V wB_1287 wB_1288 wB_1289 wB_297 wB_1286) rfl rfl rfl (by decide +kernel) ⟨Nat.le_of_ble_eq_true rfl, Nat.le_of_ble_eq_true rfl⟩) (dg_preV sM_0 rfl K ST hP hS hA1 hA) rfl rfl hl.1 rfl (lv_room (Nat.le_of_ble_eq_true rfl)) dX12_image_146 ⟨Nat.le_of_ble_eq_true rfl, Nat.le_of_ble_eq_true rfl⟩) (fun S_1385 hw_1385 H locs hP hS => ?_)
                        obtain ⟨I_1385, m_1385, w_1385_0, w_1385_1, -⟩ := hw_1385
                        have M_1385 := dg_sm.tr M_1370 m_1385 (dk_dq rfl) (dk_dq rfl)
                        have hz_1386 : (1 : Int32).toInt = 1 := by decide +kernel
                        obtain ⟨y_1387, f_y_1387, w_1385_0⟩ := w_1385_0
                        have w_1385_0 : (y_1387).toInt = (x_1369).toInt + 1 := w_1385_0
                        have b_y_1387 : 0 ≤ (y_1387).toInt ∧ (y_1387).toInt ≤ 150 := dg_I.intb (lo := 0) (hi := 150) I_1385 sM_0 (by decide +kernel) f_y_1387
                        obtain ⟨x_1388, ex_1388⟩ : ∃ z, z = x_1368 + 1 := ⟨_, rfl⟩
                        have jx_1388 : (x_1388).toInt = (x_1368).toInt + 1 := by rw [ex_1388]; exact dk_addT2 rfl (by decide +kernel) (by omega)
                        refine lv_iinc (v := x_1388) (lv' := [(1, .int x_1388), (0, .ref (o + 0))]) hx hb dX12_image_149 hl (k := 0) rfl (by rw [ex_1388]; rfl) (dk_dq rfl) rfl (fun ls hl => ?_)
                        refine lv_goto (tgt := 114) hx hb dX12_image_152 (dk_dq rfl) ?_
                        exact ih x_1388 y_1387 (by omega) (by omega) (by first | exact mu_lt hmu (by omega) (by omega) | omega) S_1385 I_1385 M_1385 f_y_1387 (by omega) (lp_l hF_11 (F_m_image_p15 (zI_eq f_x_1372) (Eq.symm ex_1374.symm) c_1375 (Eq.symm ex_1377.symm) w_1379_1 c_1380 w_1385_1 (zI_eq f_y_1387) ex_1388)) _ _ hP hS _ (lv_sub hl [0, 1] rfl)
          have hz_1389 : (0 : Int32).toInt = 0 := by decide +kernel
          have hz_1390 : (0 : Int32).toInt = 0 := by decide +kernel
          exact L_1371 ((7 - ((0 : Int32)).toInt).toNat + 1) 0 x_84 (by decide +kernel) (by omega) (by first | exact mu_lt hmu (by omega) (by omega) | omega) S_363 I_363 M_363 ff_363_76_0 (by omega) (Eq.trans hF_2 (F_m_image_p16)) _ _ hP hS _ (lv_sub hl [0, 1] rfl)
      have L_1429 : ∀ (n : Nat) (x_1426 : Int32) (x_1427 : Int32), (0 ≤ (x_1426).toInt ∧ (x_1426).toInt ≤ 64) → (0 ≤ (x_1427).toInt ∧ (x_1427).toInt ≤ 150) → ((65 - (x_1426).toInt).toNat < n) → ∀ S_1428 : dg_S, CM o S_1428 → dg_sm shM [(0, 76)] [50] S S_1428 → S_1428.1 0 76 = .int x_1427 → ((x_1427).toInt ≤ 5 + (x_1426).toInt) → (F_m_image o S = lp (F_m_image_B12 S o) (S, (0 : Int32)) n (x_1426, x_1427, S_1428)) → ∀ (H : Heap) (locs : List Loc), va_P D vwCl (dg_w g shM o rfM S_1428) H → va_S A s.heap H locs → ∀ ls : Array Slot, lv_has ls 3 [(1, .int x_1426), (0, .ref (o + 0))] → W p l e ({ frames := 4, cells := 0, slots := 0, locals := 97 } : Room) s m args below meth c H locs 0 0 (MQ below (va_Qi (fun (r : Int32) S' => CM o S' ∧ dg_sm shM [(0, 76)] [50] S S' ∧ (0 ≤ (r).toInt ∧ (r).toInt ≤ 150) ∧ (S' = (F_m_image o S).1 ∧ r = (F_m_image o S).2) ∧ True) (dg_B g D shM o rfM) A) args s 0 0 A) (F0 m 66 ls []) := by
        as_aux_lemma =>
          intro n
          induction n with
          | zero =>
            intro x_1426 x_1427 b_x_1426 b_x_1427 hmu S_1428 I_1428 M_1428 ff_1428_76_0 srel_1428_0 hF_12 H locs hP hS ls hl
            omega
          | succ n ih =>
            as_aux_lemma =>
              intro x_1426 x_1427 b_x_1426 b_x_1427 hmu S_1428 I_1428 M_1428 ff_1428_76_0 srel_1428_0 hF_12 H locs hP hS ls hl
              refine lv_iload_n hx hb dX12_image_66 rfl (lv_at hl 0 rfl) ?_
              refine lv_bipush (v := 64) hx hb dX12_image_67 (by decide +kernel) ?_
              refine lv_icmp_ge (tgt := 112) hx hb dX12_image_69 (dk_dq rfl) (fun c_1430 => ?_) (fun c_1430 => ?_)
              · have jc_1430 := dk_gec (k := 64) (by decide +kernel) c_1430
                exact J_364 x_1426 x_1427 (by omega) (by omega) S_1428 I_1428 M_1428 ff_1428_76_0 (by omega) (lp_r hF_12 (F_m_image_p17 c_1430)) _ _ hP hS _ (lv_sub hl [0, 1] rfl)
              · as_aux_lemma =>
                  have jc_1430 := dk_ngec (k := 64) (by decide +kernel) c_1430
                  refine lv_aload_n hx hb dX12_image_72 rfl (lv_at hl 1 rfl) ?_
                  refine lv_iload_n hx hb dX12_image_73 rfl (lv_at hl 0 rfl) ?_
                  refine dg_calli hS hA1 hA (va_runV (As := [.int x_1426]) (rest := []) F (c_m_isCellOf l g D o S_1428 x_1426 (by omega) (ZBM.keep ZB M_1428 (dk_dq rfl) (dk_dq rfl) (dk_dq rfl) (dk_dq rfl) (dk_dq rfl)) I_1428 H.size) (cwV 1 hts (bw_V wB_1123 wB_1124 wB_1125 wB_297 wB_1122) rfl rfl rfl (by decide +kernel) ⟨Nat.le_of_ble_eq_true rfl, Nat.le_of_ble_eq_true rfl⟩) (dg_preV sM_0 rfl K ST hP hS hA1 hA) rfl rfl hl.1 rfl (lv_room (Nat.le_of_ble_eq_true rfl)) dX12_image_74 ⟨Nat.le_of_ble_eq_true rfl, Nat.le_of_ble_eq_true rfl⟩) (fun x_1431 S_1432 hw_1432 H locs hP hS => ?_)
                  rw [hw_1432.1] at hP
                  obtain ⟨hq_1432, w_1432_0, w_1432_1, w_1432_2, -⟩ := hw_1432
                  have w_1432_0 : 0 ≤ (x_1431).toInt ∧ (x_1431).toInt ≤ 1 := w_1432_0
                  have w_1432_1 : (x_1431).toInt = 1 → 0 ≤ (x_1426).toInt := w_1432_1
                  refine lv_if_eq (tgt := 106) hx hb dX12_image_77 (dk_dq rfl) (fun c_1433 => ?_) (fun c_1433 => ?_)
                  · have jc_1433 := dk_eqc (k := 0) (by decide +kernel) c_1433
                    obtain ⟨x_1434, ex_1434⟩ : ∃ z, z = x_1426 + 1 := ⟨_, rfl⟩
                    have jx_1434 : (x_1434).toInt = (x_1426).toInt + 1 := by rw [ex_1434]; exact dk_addT2 rfl (by decide +kernel) (by omega)
                    refine lv_iinc (v := x_1434) (lv' := [(1, .int x_1434), (0, .ref (o + 0))]) hx hb dX12_image_106 hl (k := 0) rfl (by rw [ex_1434]; rfl) (dk_dq rfl) rfl (fun ls hl => ?_)
                    refine lv_goto (tgt := 66) hx hb dX12_image_109 (dk_dq rfl) ?_
                    exact ih x_1434 x_1427 (by omega) (by omega) (by first | exact mu_lt hmu (by omega) (by omega) | omega) S_1428 I_1428 M_1428 ff_1428_76_0 (by omega) (lp_l hF_12 (F_m_image_p18 c_1430 w_1432_2 c_1433 ex_1434)) _ _ hP hS _ (lv_sub hl [0, 1] rfl)
                  · as_aux_lemma =>
                      have jc_1433 := dk_neqc (k := 0) (by decide +kernel) c_1433
                      refine lv_aload_n hx hb dX12_image_80 rfl (lv_at hl 1 rfl) ?_
                      refine lv_aload_n hx hb dX12_image_81 rfl (lv_at hl 1 rfl) ?_
                      refine dg_get (C := RX12) (T := TX12) (N := 77) hx hb hts (fun w h => bw_mem (wU_X12 w h)) hown K hP sM_0 rfl 52 (dk_dq rfl) (hts _ (bw_mem wB_1097)) (fun _ h9 => h9) (v := .ref (o + 32)) (show S_1428.1 0 52 = .ref (o + 32) from dg_I.rel (d := 32) I_1428 sM_0 (by decide +kernel)) dX12_image_82 ?_
                      refine lv_iload_n hx hb dX12_image_85 rfl (lv_at hl 0 rfl) ?_
                      have hin_1435 : vp_in x_1426 1408 := (dk_inv2 (by omega))
                      refine dg_iald hx hb K hP sM_32 hin_1435 dX12_image_86 (fun x_1436 ex_1436 => ?_)
                      refine lv_iconst (v := 1) hx hb dX12_image_87 (by decide +kernel) ?_
                      refine lv_icmp_ne (tgt := 97) hx hb dX12_image_88 (dk_dq rfl) (fun c_1437 => ?_) (fun c_1437 => ?_)
                      · as_aux_lemma =>
                          have jc_1437 := dk_neqc (k := 1) (by decide +kernel) c_1437
                          refine lv_aload_n hx hb dX12_image_97 rfl (lv_at hl 1 rfl) ?_
                          refine dg_get (C := RX12) (T := TX12) (N := 77) hx hb hts (fun w h => bw_mem (wU_X12 w h)) hown K hP sM_0 rfl 51 (dk_dq rfl) (hts _ (bw_mem wB_1090)) (fun _ h9 => h9) (v := .ref (o + 31)) (show S_1428.1 0 51 = .ref (o + 31) from dg_I.rel (d := 31) I_1428 sM_0 (by decide +kernel)) dX12_image_98 ?_
                          refine lv_iload_n hx hb dX12_image_101 rfl (lv_at hl 0 rfl) ?_
                          have hin_1438 : vp_in x_1426 1408 := (dk_inv2 (by omega))
                          refine dg_iald hx hb K hP sM_31 hin_1438 dX12_image_102 (fun x_1439 ex_1439 => ?_)
                          have b_x_1439 := dk_all_at (dg_I.row (lo := (-1)) (hi := 9) I_1428 sM_31 (by decide +kernel)) hin_1438 ex_1439
                          refine dg_callv hS hA1 hA (va_runV (As := [.int x_1439]) (rest := []) F (c_m_writes l g D o S_1428 x_1439 x_1427 ff_1428_76_0 (by omega) I_1428 H.size) (cwV 1 hts (bw_V wB_1287 wB_1288 wB_1289 wB_297 wB_1286) rfl rfl rfl (by decide +kernel) ⟨Nat.le_of_ble_eq_true rfl, Nat.le_of_ble_eq_true rfl⟩) (dg_preV sM_0 rfl K ST hP hS hA1 hA) rfl rfl hl.1 rfl (lv_room (Nat.le_of_ble_eq_true rfl)) dX12_image_103 ⟨Nat.le_of_ble_eq_true rfl, Nat.le_of_ble_eq_true rfl⟩) (fun S_1440 hw_1440 H locs hP hS => ?_)
                          obtain ⟨I_1440, m_1440, w_1440_0, w_1440_1, -⟩ := hw_1440
                          have M_1440 := dg_sm.tr M_1428 m_1440 (dk_dq rfl) (dk_dq rfl)
                          obtain ⟨y_1441, f_y_1441, w_1440_0⟩ := w_1440_0
                          have w_1440_0 : (y_1441).toInt = (x_1427).toInt + 1 := w_1440_0
                          have b_y_1441 : 0 ≤ (y_1441).toInt ∧ (y_1441).toInt ≤ 150 := dg_I.intb (lo := 0) (hi := 150) I_1440 sM_0 (by decide +kernel) f_y_1441
                          obtain ⟨x_1442, ex_1442⟩ : ∃ z, z = x_1426 + 1 := ⟨_, rfl⟩
                          have jx_1442 : (x_1442).toInt = (x_1426).toInt + 1 := by rw [ex_1442]; exact dk_addT2 rfl (by decide +kernel) (by omega)
                          refine lv_iinc (v := x_1442) (lv' := [(1, .int x_1442), (0, .ref (o + 0))]) hx hb dX12_image_106 hl (k := 0) rfl (by rw [ex_1442]; rfl) (dk_dq rfl) rfl (fun ls hl => ?_)
                          refine lv_goto (tgt := 66) hx hb dX12_image_109 (dk_dq rfl) ?_
                          exact ih x_1442 y_1441 (by omega) (by omega) (by first | exact mu_lt hmu (by omega) (by omega) | omega) S_1440 I_1440 M_1440 f_y_1441 (by omega) (lp_l hF_12 (F_m_image_p19 c_1430 w_1432_2 c_1433 (Eq.symm ex_1436.symm) c_1437 (Eq.symm ex_1439.symm) w_1440_1 (zI_eq f_y_1441) ex_1442)) _ _ hP hS _ (lv_sub hl [0, 1] rfl)
                      · have jc_1437 := dk_eqc (k := 1) (by decide +kernel) c_1437
                        refine lv_sipush (v := 254) hx hb dX12_image_91 (by decide +kernel) ?_
                        refine lv_goto (tgt := 103) hx hb dX12_image_94 (dk_dq rfl) ?_
                        refine dg_callv hS hA1 hA (va_runV (As := [.int 254]) (rest := []) F (c_m_writes l g D o S_1428 254 x_1427 ff_1428_76_0 (by omega) I_1428 H.size) (cwV 1 hts (bw_V wB_1287 wB_1288 wB_1289 wB_297 wB_1286) rfl rfl rfl (by decide +kernel) ⟨Nat.le_of_ble_eq_true rfl, Nat.le_of_ble_eq_true rfl⟩) (dg_preV sM_0 rfl K ST hP hS hA1 hA) rfl rfl hl.1 rfl (lv_room (Nat.le_of_ble_eq_true rfl)) dX12_image_103 ⟨Nat.le_of_ble_eq_true rfl, Nat.le_of_ble_eq_true rfl⟩) (fun S_1443 hw_1443 H locs hP hS => ?_)
                        obtain ⟨I_1443, m_1443, w_1443_0, w_1443_1, -⟩ := hw_1443
                        have M_1443 := dg_sm.tr M_1428 m_1443 (dk_dq rfl) (dk_dq rfl)
                        have hz_1444 : (254 : Int32).toInt = 254 := by decide +kernel
                        obtain ⟨y_1445, f_y_1445, w_1443_0⟩ := w_1443_0
                        have w_1443_0 : (y_1445).toInt = (x_1427).toInt + 1 := w_1443_0
                        have b_y_1445 : 0 ≤ (y_1445).toInt ∧ (y_1445).toInt ≤ 150 := dg_I.intb (lo := 0) (hi := 150) I_1443 sM_0 (by decide +kernel) f_y_1445
                        obtain ⟨x_1446, ex_1446⟩ : ∃ z, z = x_1426 + 1 := ⟨_, rfl⟩
                        have jx_1446 : (x_1446).toInt = (x_1426).toInt + 1 := by rw [ex_1446]; exact dk_addT2 rfl (by decide +kernel) (by omega)
                        refine lv_iinc (v := x_1446) (lv' := [(1, .int x_1446), (0, .ref (o + 0))]) hx hb dX12_image_106 hl (k := 0) rfl (by rw [ex_1446]; rfl) (dk_dq rfl) rfl (fun ls hl => ?_)
                        refine lv_goto (tgt := 66) hx hb dX12_image_109 (dk_dq rfl) ?_
                        exact ih x_1446 y_1445 (by omega) (by omega) (by first | exact mu_lt hmu (by omega) (by omega) | omega) S_1443 I_1443 M_1443 f_y_1445 (by omega) (lp_l hF_12 (F_m_image_p20 c_1430 w_1432_2 c_1433 (Eq.symm ex_1436.symm) c_1437 w_1443_1 (zI_eq f_y_1445) ex_1446)) _ _ hP hS _ (lv_sub hl [0, 1] rfl)
      have hz_1447 : (0 : Int32).toInt = 0 := by decide +kernel
      have hz_1448 : (0 : Int32).toInt = 0 := by decide +kernel
      exact L_1429 ((65 - ((0 : Int32)).toInt).toNat + 1) 0 y_27 (by decide +kernel) (by omega) (by first | exact mu_lt hmu (by omega) (by omega) | omega) S_26 I_26 M_26 f_y_27 (by omega) (Eq.trans hF_1 (F_m_image_p21 ex_21 w_22_1 w_26_1 (zI_eq f_y_27))) _ _ hP hS _ (lv_sub hl [0, 1] rfl)
