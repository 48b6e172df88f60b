/-! 39.m8.lean.txt -/
theorem dX12_opens_0 : decode cX12_opens 0 = .ok (.aload_n 0, 1) := dk_o42 (by decide +kernel)
theorem dX12_opens_1 : decode cX12_opens 1 = .ok (.iload_n 1, 1) := dk_o27 (by decide +kernel)
theorem dX12_opens_2 : decode cX12_opens 2 = .ok (.iload_n 2, 1) := dk_o28 (by decide +kernel)
theorem dX12_opens_3 : decode cX12_opens 3 = .ok (.invokevirtual 452, 3) := dk_o182 (by decide +kernel)
theorem dX12_opens_6 : decode cX12_opens 6 = .ok (.ifCond .ne 5, 3) := dk_o154 (by decide +kernel)
theorem dX12_opens_9 : decode cX12_opens 9 = .ok (.iconst (-1), 1) := dk_o2 (by decide +kernel)
theorem dX12_opens_10 : decode cX12_opens 10 = .ok (.ireturn, 1) := dk_o172 (by decide +kernel)
theorem dX12_opens_11 : decode cX12_opens 11 = .ok (.aload_n 0, 1) := dk_o42 (by decide +kernel)
theorem dX12_opens_12 : decode cX12_opens 12 = .ok (.iconst 1, 1) := dk_o4 (by decide +kernel)
theorem dX12_opens_13 : decode cX12_opens 13 = .ok (.iconst 0, 1) := dk_o3 (by decide +kernel)
theorem dX12_opens_14 : decode cX12_opens 14 = .ok (.invokevirtual 433, 3) := dk_o182 (by decide +kernel)
theorem dX12_opens_17 : decode cX12_opens 17 = .ok (.iconst 0, 1) := dk_o3 (by decide +kernel)
theorem dX12_opens_18 : decode cX12_opens 18 = .ok (.istore_n 3, 1) := dk_o62 (by decide +kernel)
theorem dX12_opens_19 : decode cX12_opens 19 = .ok (.aload_n 0, 1) := dk_o42 (by decide +kernel)
theorem dX12_opens_20 : decode cX12_opens 20 = .ok (.iload_n 3, 1) := dk_o29 (by decide +kernel)
theorem dX12_opens_21 : decode cX12_opens 21 = .ok (.iconst 0, 1) := dk_o3 (by decide +kernel)
theorem dX12_opens_22 : decode cX12_opens 22 = .ok (.bipush 40, 2) := dk_o16 (by decide +kernel)
theorem dX12_opens_24 : decode cX12_opens 24 = .ok (.invokevirtual 541, 3) := dk_o182 (by decide +kernel)
theorem dX12_opens_27 : decode cX12_opens 27 = .ok (.ifCond .eq 31, 3) := dk_o153 (by decide +kernel)
theorem dX12_opens_30 : decode cX12_opens 30 = .ok (.aload_n 0, 1) := dk_o42 (by decide +kernel)
theorem dX12_opens_31 : decode cX12_opens 31 = .ok (.iconst 1, 1) := dk_o4 (by decide +kernel)
theorem dX12_opens_32 : decode cX12_opens 32 = .ok (.bipush 8, 2) := dk_o16 (by decide +kernel)
theorem dX12_opens_34 : decode cX12_opens 34 = .ok (.iload_n 2, 1) := dk_o28 (by decide +kernel)
theorem dX12_opens_35 : decode cX12_opens 35 = .ok (.imul, 1) := dk_o104 (by decide +kernel)
theorem dX12_opens_36 : decode cX12_opens 36 = .ok (.iload_n 1, 1) := dk_o27 (by decide +kernel)
theorem dX12_opens_37 : decode cX12_opens 37 = .ok (.iadd, 1) := dk_o96 (by decide +kernel)
theorem dX12_opens_38 : decode cX12_opens 38 = .ok (.invokevirtual 460, 3) := dk_o182 (by decide +kernel)
theorem dX12_opens_41 : decode cX12_opens 41 = .ok (.ifCond .eq 5, 3) := dk_o153 (by decide +kernel)
theorem dX12_opens_44 : decode cX12_opens 44 = .ok (.iload_n 3, 1) := dk_o29 (by decide +kernel)
theorem dX12_opens_45 : decode cX12_opens 45 = .ok (.ireturn, 1) := dk_o172 (by decide +kernel)
theorem dX12_opens_46 : decode cX12_opens 46 = .ok (.aload_n 0, 1) := dk_o42 (by decide +kernel)
theorem dX12_opens_47 : decode cX12_opens 47 = .ok (.iconst 1, 1) := dk_o4 (by decide +kernel)
theorem dX12_opens_48 : decode cX12_opens 48 = .ok (.invokevirtual 538, 3) := dk_o182 (by decide +kernel)
theorem dX12_opens_51 : decode cX12_opens 51 = .ok (.pop, 1) := dk_o87 (by decide +kernel)
theorem dX12_opens_52 : decode cX12_opens 52 = .ok (.iinc 3 1, 3) := dk_o132 (by decide +kernel)
theorem dX12_opens_55 : decode cX12_opens 55 = .ok (.goto (-36), 3) := dk_o167 (by decide +kernel)
theorem dX12_opens_58 : decode cX12_opens 58 = .ok (.iconst (-1), 1) := dk_o2 (by decide +kernel)
theorem dX12_opens_59 : decode cX12_opens 59 = .ok (.ireturn, 1) := dk_o172 (by decide +kernel)
theorem dX12_odds_0 : decode cX12_odds 0 = .ok (.aload_n 0, 1) := dk_o42 (by decide +kernel)
theorem dX12_odds_1 : decode cX12_odds 1 = .ok (.getfield 54, 3) := dk_o180 (by decide +kernel)
theorem dX12_odds_4 : decode cX12_odds 4 = .ok (.aload_n 0, 1) := dk_o42 (by decide +kernel)
theorem dX12_odds_5 : decode cX12_odds 5 = .ok (.getfield 51, 3) := dk_o180 (by decide +kernel)
theorem dX12_odds_8 : decode cX12_odds 8 = .ok (.iaload, 1) := dk_o46 (by decide +kernel)
theorem dX12_odds_9 : decode cX12_odds 9 = .ok (.aload_n 0, 1) := dk_o42 (by decide +kernel)
theorem dX12_odds_10 : decode cX12_odds 10 = .ok (.getfield 57, 3) := dk_o180 (by decide +kernel)
theorem dX12_odds_13 : decode cX12_odds 13 = .ok (.aload_n 0, 1) := dk_o42 (by decide +kernel)
theorem dX12_odds_14 : decode cX12_odds 14 = .ok (.getfield 51, 3) := dk_o180 (by decide +kernel)
theorem dX12_odds_17 : decode cX12_odds 17 = .ok (.iaload, 1) := dk_o46 (by decide +kernel)
theorem dX12_odds_18 : decode cX12_odds 18 = .ok (.imul, 1) := dk_o104 (by decide +kernel)
theorem dX12_odds_19 : decode cX12_odds 19 = .ok (.istore_n 3, 1) := dk_o62 (by decide +kernel)
theorem dX12_odds_20 : decode cX12_odds 20 = .ok (.aload_n 0, 1) := dk_o42 (by decide +kernel)
theorem dX12_odds_21 : decode cX12_odds 21 = .ok (.iconst 1, 1) := dk_o4 (by decide +kernel)
theorem dX12_odds_22 : decode cX12_odds 22 = .ok (.iconst 1, 1) := dk_o4 (by decide +kernel)
theorem dX12_odds_23 : decode cX12_odds 23 = .ok (.iconst 1, 1) := dk_o4 (by decide +kernel)
theorem dX12_odds_24 : decode cX12_odds 24 = .ok (.invokevirtual 541, 3) := dk_o182 (by decide +kernel)
theorem dX12_odds_27 : decode cX12_odds 27 = .ok (.ifCond .eq 17, 3) := dk_o153 (by decide +kernel)
theorem dX12_odds_30 : decode cX12_odds 30 = .ok (.iload_n 1, 1) := dk_o27 (by decide +kernel)
theorem dX12_odds_31 : decode cX12_odds 31 = .ok (.iconst (-1), 1) := dk_o2 (by decide +kernel)
theorem dX12_odds_32 : decode cX12_odds 32 = .ok (.if_icmp .eq 14, 3) := dk_o159 (by decide +kernel)
theorem dX12_odds_35 : decode cX12_odds 35 = .ok (.aload_n 0, 1) := dk_o42 (by decide +kernel)
theorem dX12_odds_36 : decode cX12_odds 36 = .ok (.iload_n 1, 1) := dk_o27 (by decide +kernel)
theorem dX12_odds_37 : decode cX12_odds 37 = .ok (.iload_n 2, 1) := dk_o28 (by decide +kernel)
theorem dX12_odds_38 : decode cX12_odds 38 = .ok (.invokevirtual 452, 3) := dk_o182 (by decide +kernel)
theorem dX12_odds_41 : decode cX12_odds 41 = .ok (.ifCond .ne 5, 3) := dk_o154 (by decide +kernel)
theorem dX12_odds_44 : decode cX12_odds 44 = .ok (.iconst (-1), 1) := dk_o2 (by decide +kernel)
theorem dX12_odds_45 : decode cX12_odds 45 = .ok (.ireturn, 1) := dk_o172 (by decide +kernel)
theorem dX12_odds_46 : decode cX12_odds 46 = .ok (.iload_n 1, 1) := dk_o27 (by decide +kernel)
theorem dX12_odds_47 : decode cX12_odds 47 = .ok (.iconst (-1), 1) := dk_o2 (by decide +kernel)
theorem dX12_odds_48 : decode cX12_odds 48 = .ok (.if_icmp .ne 8, 3) := dk_o160 (by decide +kernel)
theorem dX12_odds_51 : decode cX12_odds 51 = .ok (.bipush 100, 2) := dk_o16 (by decide +kernel)
theorem dX12_odds_53 : decode cX12_odds 53 = .ok (.iload_n 3, 1) := dk_o29 (by decide +kernel)
theorem dX12_odds_54 : decode cX12_odds 54 = .ok (.imul, 1) := dk_o104 (by decide +kernel)
theorem dX12_odds_55 : decode cX12_odds 55 = .ok (.ireturn, 1) := dk_o172 (by decide +kernel)
theorem dX12_odds_56 : decode cX12_odds 56 = .ok (.bipush 8, 2) := dk_o16 (by decide +kernel)
theorem dX12_odds_58 : decode cX12_odds 58 = .ok (.iload_n 2, 1) := dk_o28 (by decide +kernel)
theorem dX12_odds_59 : decode cX12_odds 59 = .ok (.imul, 1) := dk_o104 (by decide +kernel)
theorem dX12_odds_60 : decode cX12_odds 60 = .ok (.iload_n 1, 1) := dk_o27 (by decide +kernel)
theorem dX12_odds_61 : decode cX12_odds 61 = .ok (.iadd, 1) := dk_o96 (by decide +kernel)
theorem dX12_odds_62 : decode cX12_odds 62 = .ok (.istore 4, 2) := dk_o54 (by decide +kernel)
theorem dX12_odds_64 : decode cX12_odds 64 = .ok (.aload_n 0, 1) := dk_o42 (by decide +kernel)
theorem dX12_odds_65 : decode cX12_odds 65 = .ok (.iconst 1, 1) := dk_o4 (by decide +kernel)
theorem dX12_odds_66 : decode cX12_odds 66 = .ok (.iconst 0, 1) := dk_o3 (by decide +kernel)
theorem dX12_odds_67 : decode cX12_odds 67 = .ok (.invokevirtual 433, 3) := dk_o182 (by decide +kernel)
theorem dX12_odds_70 : decode cX12_odds 70 = .ok (.aload_n 0, 1) := dk_o42 (by decide +kernel)
theorem dX12_odds_71 : decode cX12_odds 71 = .ok (.iconst 1, 1) := dk_o4 (by decide +kernel)
theorem dX12_odds_72 : decode cX12_odds 72 = .ok (.invokevirtual 538, 3) := dk_o182 (by decide +kernel)
theorem dX12_odds_75 : decode cX12_odds 75 = .ok (.pop, 1) := dk_o87 (by decide +kernel)
theorem dX12_odds_76 : decode cX12_odds 76 = .ok (.aload_n 0, 1) := dk_o42 (by decide +kernel)
theorem dX12_odds_77 : decode cX12_odds 77 = .ok (.iconst 1, 1) := dk_o4 (by decide +kernel)
theorem dX12_odds_78 : decode cX12_odds 78 = .ok (.iload 4, 2) := dk_o21 (by decide +kernel)
theorem dX12_odds_80 : decode cX12_odds 80 = .ok (.invokevirtual 460, 3) := dk_o182 (by decide +kernel)
theorem dX12_odds_83 : decode cX12_odds 83 = .ok (.ifCond .eq 20, 3) := dk_o153 (by decide +kernel)
theorem dX12_odds_86 : decode cX12_odds 86 = .ok (.bipush 100, 2) := dk_o16 (by decide +kernel)
theorem dX12_odds_88 : decode cX12_odds 88 = .ok (.aload_n 0, 1) := dk_o42 (by decide +kernel)
theorem dX12_odds_89 : decode cX12_odds 89 = .ok (.getfield 66, 3) := dk_o180 (by decide +kernel)
theorem dX12_odds_92 : decode cX12_odds 92 = .ok (.aload_n 0, 1) := dk_o42 (by decide +kernel)
theorem dX12_odds_93 : decode cX12_odds 93 = .ok (.getfield 51, 3) := dk_o180 (by decide +kernel)
theorem dX12_odds_96 : decode cX12_odds 96 = .ok (.iaload, 1) := dk_o46 (by decide +kernel)
theorem dX12_odds_97 : decode cX12_odds 97 = .ok (.isub, 1) := dk_o100 (by decide +kernel)
theorem dX12_odds_98 : decode cX12_odds 98 = .ok (.iload_n 3, 1) := dk_o29 (by decide +kernel)
theorem dX12_odds_99 : decode cX12_odds 99 = .ok (.imul, 1) := dk_o104 (by decide +kernel)
theorem dX12_odds_100 : decode cX12_odds 100 = .ok (.goto 4, 3) := dk_o167 (by decide +kernel)
theorem dX12_odds_103 : decode cX12_odds 103 = .ok (.iconst 0, 1) := dk_o3 (by decide +kernel)
theorem dX12_odds_104 : decode cX12_odds 104 = .ok (.istore 5, 2) := dk_o54 (by decide +kernel)
theorem dX12_odds_106 : decode cX12_odds 106 = .ok (.iconst 0, 1) := dk_o3 (by decide +kernel)
theorem dX12_odds_107 : decode cX12_odds 107 = .ok (.istore 6, 2) := dk_o54 (by decide +kernel)
theorem dX12_odds_109 : decode cX12_odds 109 = .ok (.iload 6, 2) := dk_o21 (by decide +kernel)
theorem dX12_odds_111 : decode cX12_odds 111 = .ok (.bipush 64, 2) := dk_o16 (by decide +kernel)
theorem dX12_odds_113 : decode cX12_odds 113 = .ok (.if_icmp .ge 69, 3) := dk_o162 (by decide +kernel)
theorem dX12_odds_116 : decode cX12_odds 116 = .ok (.aload_n 0, 1) := dk_o42 (by decide +kernel)
theorem dX12_odds_117 : decode cX12_odds 117 = .ok (.iload 6, 2) := dk_o21 (by decide +kernel)
theorem dX12_odds_119 : decode cX12_odds 119 = .ok (.invokevirtual 503, 3) := dk_o182 (by decide +kernel)
theorem dX12_odds_122 : decode cX12_odds 122 = .ok (.ifCond .ne 6, 3) := dk_o154 (by decide +kernel)
theorem dX12_odds_125 : decode cX12_odds 125 = .ok (.goto 51, 3) := dk_o167 (by decide +kernel)
theorem dX12_odds_128 : decode cX12_odds 128 = .ok (.aload_n 0, 1) := dk_o42 (by decide +kernel)
theorem dX12_odds_129 : decode cX12_odds 129 = .ok (.iconst 1, 1) := dk_o4 (by decide +kernel)
theorem dX12_odds_130 : decode cX12_odds 130 = .ok (.iconst 0, 1) := dk_o3 (by decide +kernel)
theorem dX12_odds_131 : decode cX12_odds 131 = .ok (.invokevirtual 433, 3) := dk_o182 (by decide +kernel)
theorem dX12_odds_134 : decode cX12_odds 134 = .ok (.aload_n 0, 1) := dk_o42 (by decide +kernel)
theorem dX12_odds_135 : decode cX12_odds 135 = .ok (.iconst 1, 1) := dk_o4 (by decide +kernel)
theorem dX12_odds_136 : decode cX12_odds 136 = .ok (.iload 6, 2) := dk_o21 (by decide +kernel)
theorem dX12_odds_138 : decode cX12_odds 138 = .ok (.invokevirtual 556, 3) := dk_o182 (by decide +kernel)
theorem dX12_odds_141 : decode cX12_odds 141 = .ok (.pop, 1) := dk_o87 (by decide +kernel)
theorem dX12_odds_142 : decode cX12_odds 142 = .ok (.aload_n 0, 1) := dk_o42 (by decide +kernel)
theorem dX12_odds_143 : decode cX12_odds 143 = .ok (.iconst 1, 1) := dk_o4 (by decide +kernel)
theorem dX12_odds_144 : decode cX12_odds 144 = .ok (.invokevirtual 538, 3) := dk_o182 (by decide +kernel)
theorem dX12_odds_147 : decode cX12_odds 147 = .ok (.pop, 1) := dk_o87 (by decide +kernel)
theorem dX12_odds_148 : decode cX12_odds 148 = .ok (.iload 5, 2) := dk_o21 (by decide +kernel)
theorem dX12_odds_150 : decode cX12_odds 150 = .ok (.aload_n 0, 1) := dk_o42 (by decide +kernel)
theorem dX12_odds_151 : decode cX12_odds 151 = .ok (.iconst 1, 1) := dk_o4 (by decide +kernel)
theorem dX12_odds_152 : decode cX12_odds 152 = .ok (.iload 4, 2) := dk_o21 (by decide +kernel)
theorem dX12_odds_154 : decode cX12_odds 154 = .ok (.invokevirtual 460, 3) := dk_o182 (by decide +kernel)
theorem dX12_odds_157 : decode cX12_odds 157 = .ok (.ifCond .eq 15, 3) := dk_o153 (by decide +kernel)
theorem dX12_odds_160 : decode cX12_odds 160 = .ok (.aload_n 0, 1) := dk_o42 (by decide +kernel)
theorem dX12_odds_161 : decode cX12_odds 161 = .ok (.getfield 66, 3) := dk_o180 (by decide +kernel)
theorem dX12_odds_164 : decode cX12_odds 164 = .ok (.aload_n 0, 1) := dk_o42 (by decide +kernel)
theorem dX12_odds_165 : decode cX12_odds 165 = .ok (.getfield 51, 3) := dk_o180 (by decide +kernel)
theorem dX12_odds_168 : decode cX12_odds 168 = .ok (.iaload, 1) := dk_o46 (by decide +kernel)
theorem dX12_odds_169 : decode cX12_odds 169 = .ok (.goto 4, 3) := dk_o167 (by decide +kernel)
theorem dX12_odds_172 : decode cX12_odds 172 = .ok (.iconst 0, 1) := dk_o3 (by decide +kernel)
theorem dX12_odds_173 : decode cX12_odds 173 = .ok (.iadd, 1) := dk_o96 (by decide +kernel)
theorem dX12_odds_174 : decode cX12_odds 174 = .ok (.istore 5, 2) := dk_o54 (by decide +kernel)
theorem dX12_odds_176 : decode cX12_odds 176 = .ok (.iinc 6 1, 3) := dk_o132 (by decide +kernel)
theorem dX12_odds_179 : decode cX12_odds 179 = .ok (.goto (-70), 3) := dk_o167 (by decide +kernel)
theorem dX12_odds_182 : decode cX12_odds 182 = .ok (.iload 5, 2) := dk_o21 (by decide +kernel)
theorem dX12_odds_184 : decode cX12_odds 184 = .ok (.ireturn, 1) := dk_o172 (by decide +kernel)
theorem dX12_cellsOn_0 : decode cX12_cellsOn 0 = .ok (.iload_n 1, 1) := dk_o27 (by decide +kernel)
theorem dX12_cellsOn_1 : decode cX12_cellsOn 1 = .ok (.istore_n 2, 1) := dk_o61 (by decide +kernel)
theorem dX12_cellsOn_2 : decode cX12_cellsOn 2 = .ok (.iconst 0, 1) := dk_o3 (by decide +kernel)
theorem dX12_cellsOn_3 : decode cX12_cellsOn 3 = .ok (.istore_n 3, 1) := dk_o62 (by decide +kernel)
theorem dX12_cellsOn_4 : decode cX12_cellsOn 4 = .ok (.iload_n 3, 1) := dk_o29 (by decide +kernel)
theorem dX12_cellsOn_5 : decode cX12_cellsOn 5 = .ok (.bipush 64, 2) := dk_o16 (by decide +kernel)
theorem dX12_cellsOn_7 : decode cX12_cellsOn 7 = .ok (.if_icmp .ge 113, 3) := dk_o162 (by decide +kernel)
theorem dX12_cellsOn_10 : decode cX12_cellsOn 10 = .ok (.aload_n 0, 1) := dk_o42 (by decide +kernel)
theorem dX12_cellsOn_11 : decode cX12_cellsOn 11 = .ok (.iload_n 3, 1) := dk_o29 (by decide +kernel)
theorem dX12_cellsOn_12 : decode cX12_cellsOn 12 = .ok (.invokevirtual 503, 3) := dk_o182 (by decide +kernel)
theorem dX12_cellsOn_15 : decode cX12_cellsOn 15 = .ok (.ifCond .ne 6, 3) := dk_o154 (by decide +kernel)
theorem dX12_cellsOn_18 : decode cX12_cellsOn 18 = .ok (.goto 96, 3) := dk_o167 (by decide +kernel)
theorem dX12_cellsOn_21 : decode cX12_cellsOn 21 = .ok (.aload_n 0, 1) := dk_o42 (by decide +kernel)
theorem dX12_cellsOn_22 : decode cX12_cellsOn 22 = .ok (.getfield 7, 3) := dk_o180 (by decide +kernel)
theorem dX12_cellsOn_25 : decode cX12_cellsOn 25 = .ok (.iload_n 2, 1) := dk_o28 (by decide +kernel)
theorem dX12_cellsOn_26 : decode cX12_cellsOn 26 = .ok (.iaload, 1) := dk_o46 (by decide +kernel)
theorem dX12_cellsOn_27 : decode cX12_cellsOn 27 = .ok (.istore 4, 2) := dk_o54 (by decide +kernel)
theorem dX12_cellsOn_29 : decode cX12_cellsOn 29 = .ok (.iload 4, 2) := dk_o21 (by decide +kernel)
theorem dX12_cellsOn_31 : decode cX12_cellsOn 31 = .ok (.bipush 9, 2) := dk_o16 (by decide +kernel)
theorem dX12_cellsOn_33 : decode cX12_cellsOn 33 = .ok (.if_icmp .le 11, 3) := dk_o164 (by decide +kernel)
theorem dX12_cellsOn_36 : decode cX12_cellsOn 36 = .ok (.iload 4, 2) := dk_o21 (by decide +kernel)
theorem dX12_cellsOn_38 : decode cX12_cellsOn 38 = .ok (.sipush 254, 3) := dk_o17 (by decide +kernel)
theorem dX12_cellsOn_41 : decode cX12_cellsOn 41 = .ok (.if_icmp .lt 24, 3) := dk_o161 (by decide +kernel)
theorem dX12_cellsOn_44 : decode cX12_cellsOn 44 = .ok (.iload_n 3, 1) := dk_o29 (by decide +kernel)
theorem dX12_cellsOn_45 : decode cX12_cellsOn 45 = .ok (.aload_n 0, 1) := dk_o42 (by decide +kernel)
theorem dX12_cellsOn_46 : decode cX12_cellsOn 46 = .ok (.getfield 60, 3) := dk_o180 (by decide +kernel)
theorem dX12_cellsOn_49 : decode cX12_cellsOn 49 = .ok (.aload_n 0, 1) := dk_o42 (by decide +kernel)
theorem dX12_cellsOn_50 : decode cX12_cellsOn 50 = .ok (.getfield 51, 3) := dk_o180 (by decide +kernel)
theorem dX12_cellsOn_53 : decode cX12_cellsOn 53 = .ok (.iaload, 1) := dk_o46 (by decide +kernel)
theorem dX12_cellsOn_54 : decode cX12_cellsOn 54 = .ok (.if_icmp .ne 13, 3) := dk_o160 (by decide +kernel)
theorem dX12_cellsOn_57 : decode cX12_cellsOn 57 = .ok (.iload 4, 2) := dk_o21 (by decide +kernel)
theorem dX12_cellsOn_59 : decode cX12_cellsOn 59 = .ok (.sipush 255, 3) := dk_o17 (by decide +kernel)
theorem dX12_cellsOn_62 : decode cX12_cellsOn 62 = .ok (.if_icmp .eq 5, 3) := dk_o159 (by decide +kernel)
theorem dX12_cellsOn_65 : decode cX12_cellsOn 65 = .ok (.iconst 0, 1) := dk_o3 (by decide +kernel)
theorem dX12_cellsOn_66 : decode cX12_cellsOn 66 = .ok (.ireturn, 1) := dk_o172 (by decide +kernel)
theorem dX12_cellsOn_67 : decode cX12_cellsOn 67 = .ok (.aload_n 0, 1) := dk_o42 (by decide +kernel)
theorem dX12_cellsOn_68 : decode cX12_cellsOn 68 = .ok (.getfield 168, 3) := dk_o180 (by decide +kernel)
theorem dX12_cellsOn_71 : decode cX12_cellsOn 71 = .ok (.bipush 64, 2) := dk_o16 (by decide +kernel)
theorem dX12_cellsOn_73 : decode cX12_cellsOn 73 = .ok (.iload_n 3, 1) := dk_o29 (by decide +kernel)
theorem dX12_cellsOn_74 : decode cX12_cellsOn 74 = .ok (.iadd, 1) := dk_o96 (by decide +kernel)
theorem dX12_cellsOn_75 : decode cX12_cellsOn 75 = .ok (.iload 4, 2) := dk_o21 (by decide +kernel)
theorem dX12_cellsOn_77 : decode cX12_cellsOn 77 = .ok (.bipush 9, 2) := dk_o16 (by decide +kernel)
theorem dX12_cellsOn_79 : decode cX12_cellsOn 79 = .ok (.if_icmp .le 7, 3) := dk_o164 (by decide +kernel)
theorem dX12_cellsOn_82 : decode cX12_cellsOn 82 = .ok (.iconst (-1), 1) := dk_o2 (by decide +kernel)
theorem dX12_cellsOn_83 : decode cX12_cellsOn 83 = .ok (.goto 5, 3) := dk_o167 (by decide +kernel)
theorem dX12_cellsOn_86 : decode cX12_cellsOn 86 = .ok (.iload 4, 2) := dk_o21 (by decide +kernel)
theorem dX12_cellsOn_88 : decode cX12_cellsOn 88 = .ok (.iastore, 1) := dk_o79 (by decide +kernel)
theorem dX12_cellsOn_89 : decode cX12_cellsOn 89 = .ok (.aload_n 0, 1) := dk_o42 (by decide +kernel)
theorem dX12_cellsOn_90 : decode cX12_cellsOn 90 = .ok (.getfield 171, 3) := dk_o180 (by decide +kernel)
theorem dX12_cellsOn_93 : decode cX12_cellsOn 93 = .ok (.bipush 64, 2) := dk_o16 (by decide +kernel)
theorem dX12_cellsOn_95 : decode cX12_cellsOn 95 = .ok (.iload_n 3, 1) := dk_o29 (by decide +kernel)
theorem dX12_cellsOn_96 : decode cX12_cellsOn 96 = .ok (.iadd, 1) := dk_o96 (by decide +kernel)
theorem dX12_cellsOn_97 : decode cX12_cellsOn 97 = .ok (.iload 4, 2) := dk_o21 (by decide +kernel)
theorem dX12_cellsOn_99 : decode cX12_cellsOn 99 = .ok (.sipush 254, 3) := dk_o17 (by decide +kernel)
theorem dX12_cellsOn_102 : decode cX12_cellsOn 102 = .ok (.if_icmp .ne 7, 3) := dk_o160 (by decide +kernel)
theorem dX12_cellsOn_105 : decode cX12_cellsOn 105 = .ok (.iconst 1, 1) := dk_o4 (by decide +kernel)
theorem dX12_cellsOn_106 : decode cX12_cellsOn 106 = .ok (.goto 4, 3) := dk_o167 (by decide +kernel)
theorem dX12_cellsOn_109 : decode cX12_cellsOn 109 = .ok (.iconst 0, 1) := dk_o3 (by decide +kernel)
theorem dX12_cellsOn_110 : decode cX12_cellsOn 110 = .ok (.iastore, 1) := dk_o79 (by decide +kernel)
theorem dX12_cellsOn_111 : decode cX12_cellsOn 111 = .ok (.iinc 2 1, 3) := dk_o132 (by decide +kernel)
theorem dX12_cellsOn_114 : decode cX12_cellsOn 114 = .ok (.iinc 3 1, 3) := dk_o132 (by decide +kernel)
theorem dX12_cellsOn_117 : decode cX12_cellsOn 117 = .ok (.goto (-113), 3) := dk_o167 (by decide +kernel)
theorem dX12_cellsOn_120 : decode cX12_cellsOn 120 = .ok (.iconst 1, 1) := dk_o4 (by decide +kernel)
theorem dX12_cellsOn_121 : decode cX12_cellsOn 121 = .ok (.ireturn, 1) := dk_o172 (by decide +kernel)
theorem dX12_plansOn_0 : decode cX12_plansOn 0 = .ok (.iconst 0, 1) := dk_o3 (by decide +kernel)
theorem dX12_plansOn_1 : decode cX12_plansOn 1 = .ok (.istore_n 2, 1) := dk_o61 (by decide +kernel)
theorem dX12_plansOn_2 : decode cX12_plansOn 2 = .ok (.iload_n 2, 1) := dk_o28 (by decide +kernel)
theorem dX12_plansOn_3 : decode cX12_plansOn 3 = .ok (.aload_n 0, 1) := dk_o42 (by decide +kernel)
theorem dX12_plansOn_4 : decode cX12_plansOn 4 = .ok (.getfield 75, 3) := dk_o180 (by decide +kernel)
theorem dX12_plansOn_7 : decode cX12_plansOn 7 = .ok (.aload_n 0, 1) := dk_o42 (by decide +kernel)
theorem dX12_plansOn_8 : decode cX12_plansOn 8 = .ok (.getfield 51, 3) := dk_o180 (by decide +kernel)
theorem dX12_plansOn_11 : decode cX12_plansOn 11 = .ok (.iaload, 1) := dk_o46 (by decide +kernel)
theorem dX12_plansOn_12 : decode cX12_plansOn 12 = .ok (.if_icmp .ge 97, 3) := dk_o162 (by decide +kernel)
theorem dX12_plansOn_15 : decode cX12_plansOn 15 = .ok (.iload_n 1, 1) := dk_o27 (by decide +kernel)
theorem dX12_plansOn_16 : decode cX12_plansOn 16 = .ok (.iconst 3, 1) := dk_o6 (by decide +kernel)
theorem dX12_plansOn_17 : decode cX12_plansOn 17 = .ok (.iload_n 2, 1) := dk_o28 (by decide +kernel)
theorem dX12_plansOn_18 : decode cX12_plansOn 18 = .ok (.imul, 1) := dk_o104 (by decide +kernel)
theorem dX12_plansOn_19 : decode cX12_plansOn 19 = .ok (.iadd, 1) := dk_o96 (by decide +kernel)
theorem dX12_plansOn_20 : decode cX12_plansOn 20 = .ok (.istore_n 3, 1) := dk_o62 (by decide +kernel)
theorem dX12_plansOn_21 : decode cX12_plansOn 21 = .ok (.aload_n 0, 1) := dk_o42 (by decide +kernel)
theorem dX12_plansOn_22 : decode cX12_plansOn 22 = .ok (.aload_n 0, 1) := dk_o42 (by decide +kernel)
theorem dX12_plansOn_23 : decode cX12_plansOn 23 = .ok (.getfield 7, 3) := dk_o180 (by decide +kernel)
theorem dX12_plansOn_26 : decode cX12_plansOn 26 = .ok (.iload_n 3, 1) := dk_o29 (by decide +kernel)
theorem dX12_plansOn_27 : decode cX12_plansOn 27 = .ok (.iaload, 1) := dk_o46 (by decide +kernel)
theorem dX12_plansOn_28 : decode cX12_plansOn 28 = .ok (.invokevirtual 521, 3) := dk_o182 (by decide +kernel)
theorem dX12_plansOn_31 : decode cX12_plansOn 31 = .ok (.ifCond .eq 26, 3) := dk_o153 (by decide +kernel)
theorem dX12_plansOn_34 : decode cX12_plansOn 34 = .ok (.aload_n 0, 1) := dk_o42 (by decide +kernel)
theorem dX12_plansOn_35 : decode cX12_plansOn 35 = .ok (.aload_n 0, 1) := dk_o42 (by decide +kernel)
theorem dX12_plansOn_36 : decode cX12_plansOn 36 = .ok (.getfield 7, 3) := dk_o180 (by decide +kernel)
theorem dX12_plansOn_39 : decode cX12_plansOn 39 = .ok (.iload_n 3, 1) := dk_o29 (by decide +kernel)
theorem dX12_plansOn_40 : decode cX12_plansOn 40 = .ok (.iconst 1, 1) := dk_o4 (by decide +kernel)
theorem dX12_plansOn_41 : decode cX12_plansOn 41 = .ok (.iadd, 1) := dk_o96 (by decide +kernel)
theorem dX12_plansOn_42 : decode cX12_plansOn 42 = .ok (.iaload, 1) := dk_o46 (by decide +kernel)
theorem dX12_plansOn_43 : decode cX12_plansOn 43 = .ok (.aload_n 0, 1) := dk_o42 (by decide +kernel)
theorem dX12_plansOn_44 : decode cX12_plansOn 44 = .ok (.getfield 7, 3) := dk_o180 (by decide +kernel)
theorem dX12_plansOn_47 : decode cX12_plansOn 47 = .ok (.iload_n 3, 1) := dk_o29 (by decide +kernel)
theorem dX12_plansOn_48 : decode cX12_plansOn 48 = .ok (.iconst 2, 1) := dk_o5 (by decide +kernel)
theorem dX12_plansOn_49 : decode cX12_plansOn 49 = .ok (.iadd, 1) := dk_o96 (by decide +kernel)
theorem dX12_plansOn_50 : decode cX12_plansOn 50 = .ok (.iaload, 1) := dk_o46 (by decide +kernel)
theorem dX12_plansOn_51 : decode cX12_plansOn 51 = .ok (.invokevirtual 452, 3) := dk_o182 (by decide +kernel)
theorem dX12_plansOn_54 : decode cX12_plansOn 54 = .ok (.ifCond .ne 5, 3) := dk_o154 (by decide +kernel)
theorem dX12_plansOn_57 : decode cX12_plansOn 57 = .ok (.iconst 0, 1) := dk_o3 (by decide +kernel)
theorem dX12_plansOn_58 : decode cX12_plansOn 58 = .ok (.ireturn, 1) := dk_o172 (by decide +kernel)
theorem dX12_plansOn_59 : decode cX12_plansOn 59 = .ok (.aload_n 0, 1) := dk_o42 (by decide +kernel)
theorem dX12_plansOn_60 : decode cX12_plansOn 60 = .ok (.getfield 180, 3) := dk_o180 (by decide +kernel)
theorem dX12_plansOn_63 : decode cX12_plansOn 63 = .ok (.bipush 16, 2) := dk_o16 (by decide +kernel)
theorem dX12_plansOn_65 : decode cX12_plansOn 65 = .ok (.iload_n 2, 1) := dk_o28 (by decide +kernel)
theorem dX12_plansOn_66 : decode cX12_plansOn 66 = .ok (.iadd, 1) := dk_o96 (by decide +kernel)
theorem dX12_plansOn_67 : decode cX12_plansOn 67 = .ok (.aload_n 0, 1) := dk_o42 (by decide +kernel)
theorem dX12_plansOn_68 : decode cX12_plansOn 68 = .ok (.getfield 7, 3) := dk_o180 (by decide +kernel)
theorem dX12_plansOn_71 : decode cX12_plansOn 71 = .ok (.iload_n 3, 1) := dk_o29 (by decide +kernel)
theorem dX12_plansOn_72 : decode cX12_plansOn 72 = .ok (.iaload, 1) := dk_o46 (by decide +kernel)
theorem dX12_plansOn_73 : decode cX12_plansOn 73 = .ok (.iastore, 1) := dk_o79 (by decide +kernel)
theorem dX12_plansOn_74 : decode cX12_plansOn 74 = .ok (.aload_n 0, 1) := dk_o42 (by decide +kernel)
theorem dX12_plansOn_75 : decode cX12_plansOn 75 = .ok (.getfield 183, 3) := dk_o180 (by decide +kernel)
theorem dX12_plansOn_78 : decode cX12_plansOn 78 = .ok (.bipush 16, 2) := dk_o16 (by decide +kernel)
theorem dX12_plansOn_80 : decode cX12_plansOn 80 = .ok (.iload_n 2, 1) := dk_o28 (by decide +kernel)
theorem dX12_plansOn_81 : decode cX12_plansOn 81 = .ok (.iadd, 1) := dk_o96 (by decide +kernel)
theorem dX12_plansOn_82 : decode cX12_plansOn 82 = .ok (.bipush 8, 2) := dk_o16 (by decide +kernel)
theorem dX12_plansOn_84 : decode cX12_plansOn 84 = .ok (.aload_n 0, 1) := dk_o42 (by decide +kernel)
theorem dX12_plansOn_85 : decode cX12_plansOn 85 = .ok (.getfield 7, 3) := dk_o180 (by decide +kernel)
theorem dX12_plansOn_88 : decode cX12_plansOn 88 = .ok (.iload_n 3, 1) := dk_o29 (by decide +kernel)
theorem dX12_plansOn_89 : decode cX12_plansOn 89 = .ok (.iconst 2, 1) := dk_o5 (by decide +kernel)
theorem dX12_plansOn_90 : decode cX12_plansOn 90 = .ok (.iadd, 1) := dk_o96 (by decide +kernel)
theorem dX12_plansOn_91 : decode cX12_plansOn 91 = .ok (.iaload, 1) := dk_o46 (by decide +kernel)
theorem dX12_plansOn_92 : decode cX12_plansOn 92 = .ok (.imul, 1) := dk_o104 (by decide +kernel)
theorem dX12_plansOn_93 : decode cX12_plansOn 93 = .ok (.aload_n 0, 1) := dk_o42 (by decide +kernel)
theorem dX12_plansOn_94 : decode cX12_plansOn 94 = .ok (.getfield 7, 3) := dk_o180 (by decide +kernel)
theorem dX12_plansOn_97 : decode cX12_plansOn 97 = .ok (.iload_n 3, 1) := dk_o29 (by decide +kernel)
theorem dX12_plansOn_98 : decode cX12_plansOn 98 = .ok (.iconst 1, 1) := dk_o4 (by decide +kernel)
theorem dX12_plansOn_99 : decode cX12_plansOn 99 = .ok (.iadd, 1) := dk_o96 (by decide +kernel)
theorem dX12_plansOn_100 : decode cX12_plansOn 100 = .ok (.iaload, 1) := dk_o46 (by decide +kernel)
theorem dX12_plansOn_101 : decode cX12_plansOn 101 = .ok (.iadd, 1) := dk_o96 (by decide +kernel)
theorem dX12_plansOn_102 : decode cX12_plansOn 102 = .ok (.iastore, 1) := dk_o79 (by decide +kernel)
theorem dX12_plansOn_103 : decode cX12_plansOn 103 = .ok (.iinc 2 1, 3) := dk_o132 (by decide +kernel)
theorem dX12_plansOn_106 : decode cX12_plansOn 106 = .ok (.goto (-104), 3) := dk_o167 (by decide +kernel)
theorem dX12_plansOn_109 : decode cX12_plansOn 109 = .ok (.iconst 1, 1) := dk_o4 (by decide +kernel)
theorem dX12_plansOn_110 : decode cX12_plansOn 110 = .ok (.ireturn, 1) := dk_o172 (by decide +kernel)
theorem dX12_flagsOn_0 : decode cX12_flagsOn 0 = .ok (.iconst 0, 1) := dk_o3 (by decide +kernel)
theorem dX12_flagsOn_1 : decode cX12_flagsOn 1 = .ok (.istore_n 3, 1) := dk_o62 (by decide +kernel)
theorem dX12_flagsOn_2 : decode cX12_flagsOn 2 = .ok (.iconst 0, 1) := dk_o3 (by decide +kernel)
theorem dX12_flagsOn_3 : decode cX12_flagsOn 3 = .ok (.istore 4, 2) := dk_o54 (by decide +kernel)
theorem dX12_flagsOn_5 : decode cX12_flagsOn 5 = .ok (.iload 4, 2) := dk_o21 (by decide +kernel)
theorem dX12_flagsOn_7 : decode cX12_flagsOn 7 = .ok (.iload_n 2, 1) := dk_o28 (by decide +kernel)
theorem dX12_flagsOn_8 : decode cX12_flagsOn 8 = .ok (.if_icmp .ge 39, 3) := dk_o162 (by decide +kernel)
theorem dX12_flagsOn_11 : decode cX12_flagsOn 11 = .ok (.aload_n 0, 1) := dk_o42 (by decide +kernel)
theorem dX12_flagsOn_12 : decode cX12_flagsOn 12 = .ok (.getfield 7, 3) := dk_o180 (by decide +kernel)
theorem dX12_flagsOn_15 : decode cX12_flagsOn 15 = .ok (.iload_n 1, 1) := dk_o27 (by decide +kernel)
theorem dX12_flagsOn_16 : decode cX12_flagsOn 16 = .ok (.iload 4, 2) := dk_o21 (by decide +kernel)
theorem dX12_flagsOn_18 : decode cX12_flagsOn 18 = .ok (.iadd, 1) := dk_o96 (by decide +kernel)
theorem dX12_flagsOn_19 : decode cX12_flagsOn 19 = .ok (.iaload, 1) := dk_o46 (by decide +kernel)
theorem dX12_flagsOn_20 : decode cX12_flagsOn 20 = .ok (.iconst 1, 1) := dk_o4 (by decide +kernel)
theorem dX12_flagsOn_21 : decode cX12_flagsOn 21 = .ok (.if_icmp .le 5, 3) := dk_o164 (by decide +kernel)
theorem dX12_flagsOn_24 : decode cX12_flagsOn 24 = .ok (.iconst (-1), 1) := dk_o2 (by decide +kernel)
theorem dX12_flagsOn_25 : decode cX12_flagsOn 25 = .ok (.ireturn, 1) := dk_o172 (by decide +kernel)
theorem dX12_flagsOn_26 : decode cX12_flagsOn 26 = .ok (.iload_n 3, 1) := dk_o29 (by decide +kernel)
theorem dX12_flagsOn_27 : decode cX12_flagsOn 27 = .ok (.aload_n 0, 1) := dk_o42 (by decide +kernel)
theorem dX12_flagsOn_28 : decode cX12_flagsOn 28 = .ok (.getfield 7, 3) := dk_o180 (by decide +kernel)
theorem dX12_flagsOn_31 : decode cX12_flagsOn 31 = .ok (.iload_n 1, 1) := dk_o27 (by decide +kernel)
theorem dX12_flagsOn_32 : decode cX12_flagsOn 32 = .ok (.iload 4, 2) := dk_o21 (by decide +kernel)
theorem dX12_flagsOn_34 : decode cX12_flagsOn 34 = .ok (.iadd, 1) := dk_o96 (by decide +kernel)
theorem dX12_flagsOn_35 : decode cX12_flagsOn 35 = .ok (.iaload, 1) := dk_o46 (by decide +kernel)
theorem dX12_flagsOn_36 : decode cX12_flagsOn 36 = .ok (.iload 4, 2) := dk_o21 (by decide +kernel)
theorem dX12_flagsOn_38 : decode cX12_flagsOn 38 = .ok (.ishl, 1) := dk_o120 (by decide +kernel)
theorem dX12_flagsOn_39 : decode cX12_flagsOn 39 = .ok (.ior, 1) := dk_o128 (by decide +kernel)
theorem dX12_flagsOn_40 : decode cX12_flagsOn 40 = .ok (.istore_n 3, 1) := dk_o62 (by decide +kernel)
theorem dX12_flagsOn_41 : decode cX12_flagsOn 41 = .ok (.iinc 4 1, 3) := dk_o132 (by decide +kernel)
theorem dX12_flagsOn_44 : decode cX12_flagsOn 44 = .ok (.goto (-39), 3) := dk_o167 (by decide +kernel)
theorem dX12_flagsOn_47 : decode cX12_flagsOn 47 = .ok (.iload_n 3, 1) := dk_o29 (by decide +kernel)
theorem dX12_flagsOn_48 : decode cX12_flagsOn 48 = .ok (.ireturn, 1) := dk_o172 (by decide +kernel)
theorem wB_1263 : Cond.code yX12_isSolidBy cX12_isSolidBy 3 (some .boolean) ∈ dgB := List.mem_filter.mpr ⟨tbl_9 _ (List.mem_of_getElem? (i := 85) rfl), rfl⟩
theorem wB_1264 : Cond.methodLink RX12 556 yX12_isSolidBy ∈ dgB := List.mem_filter.mpr ⟨tbl_9 _ (List.mem_of_getElem? (i := 82) (by decide +kernel)), by decide +kernel⟩
theorem wB_1265 : Cond.instanceMethod yX12_isSolidBy ∈ dgB := List.mem_filter.mpr ⟨tbl_9 _ (List.mem_of_getElem? (i := 84) (by decide +kernel)), by decide +kernel⟩
theorem wB_1266 : Cond.selects RX12 yX12_isSolidBy yX12_isSolidBy ∈ dgB := List.mem_filter.mpr ⟨List.mem_of_getElem? (i := 146) (by decide +kernel), by decide +kernel⟩
noncomputable def F_m_flagsOn_B1 (a2 : Int32) (a1 : Int32) (S : dg_S) : (Int32 × Int32) → (Int32 × Int32) ⊕ (Int32) := fun w9 => match w9 with | (x_63, x_64) => (if a2 ≤ x_63 then (Sum.inr (x_64)) else let x_67 : Int32 := a1 + x_63; let x_69 : Int32 := S.2.1 1 (x_67 : Int32).toNatClampNeg; (if x_69 ≤ (1 : Int32) then let x_71 : Int32 := a1 + x_63; let x_73 : Int32 := S.2.1 1 (x_71 : Int32).toNatClampNeg; let x_74 : Int32 := x_73 <<< (x_63 &&& 31); let x_75 : Int32 := x_64 ||| x_74; let x_76 : Int32 := x_63 + 1; (Sum.inl (x_76, x_75)) else (Sum.inr ((-1 : Int32)))))
noncomputable def F_m_flagsOn (o : Nat) (S : dg_S) (a1 : Int32) (a2 : Int32) : Int32 := (lp (F_m_flagsOn_B1 a2 a1 S) (0 : Int32) ((7 - ((0 : Int32)).toInt).toNat + 1) ((0 : Int32), (0 : Int32)))
theorem F_m_flagsOn_p0 {a2 : Int32} {a1 : Int32} {S : dg_S} {x_63 : Int32} {x_64 : Int32} (h0 : a2 ≤ x_63) : (F_m_flagsOn_B1 a2 a1 S) (x_63, x_64) = Sum.inr (x_64) := (Eq.trans (if_pos h0) rfl)
theorem F_m_flagsOn_p1 {a2 : Int32} {a1 : Int32} {S : dg_S} {x_63 : Int32} {x_64 : Int32} {x_76 : Int32} {x_75 : Int32} {x_67 : Int32} {x_69 : Int32} {x_71 : Int32} {x_73 : Int32} {x_74 : Int32} (h0 : ¬ (a2 ≤ x_63)) (h1 : x_67 = a1 + x_63) (h2 : x_69 = S.2.1 1 (x_67 : Int32).toNatClampNeg) (h3 : x_69 ≤ (1 : Int32)) (h4 : x_71 = a1 + x_63) (h5 : x_73 = S.2.1 1 (x_71 : Int32).toNatClampNeg) (h6 : x_74 = x_73 <<< (x_63 &&& 31)) (h7 : x_75 = x_64 ||| x_74) (h8 : x_76 = x_63 + 1) : (F_m_flagsOn_B1 a2 a1 S) (x_63, x_64) = Sum.inl (x_76, x_75) := by
  replace h1 := Eq.symm h1
  subst h1
  replace h2 := Eq.symm h2
  subst h2
  replace h4 := Eq.symm h4
  subst h4
  replace h5 := Eq.symm h5
  subst h5
  replace h6 := Eq.symm h6
  subst h6
  replace h7 := Eq.symm h7
  subst h7
  replace h8 := Eq.symm h8
  subst h8
  exact (Eq.trans (if_neg h0) (Eq.trans (if_pos h3) rfl))
theorem F_m_flagsOn_p2 {a2 : Int32} {a1 : Int32} {S : dg_S} {x_63 : Int32} {x_64 : Int32} {x_67 : Int32} {x_69 : Int32} (h0 : ¬ (a2 ≤ x_63)) (h1 : x_67 = a1 + x_63) (h2 : x_69 = S.2.1 1 (x_67 : Int32).toNatClampNeg) (h3 : ¬ (x_69 ≤ (1 : Int32))) : (F_m_flagsOn_B1 a2 a1 S) (x_63, x_64) = Sum.inr ((-1 : Int32)) := by
  replace h1 := Eq.symm h1
  subst h1
  replace h2 := Eq.symm h2
  subst h2
  exact (Eq.trans (if_neg h0) (Eq.trans (if_neg h3) rfl))
theorem F_m_flagsOn_p3 {o : Nat} {S : dg_S} {a1 : Int32} {a2 : Int32}  : F_m_flagsOn o S a1 a2 = lp (F_m_flagsOn_B1 a2 a1 S) (0 : Int32) ((7 - ((0 : Int32)).toInt).toNat + 1) ((0 : Int32), (0 : Int32)) := rfl
set_option maxHeartbeats 8000000 in
set_option maxRecDepth 100000 in
theorem c_m_flagsOn (l : Launch) (g : Nat → ClassId) (D : va_G) (o : Nat) (S : dg_S) (a1 : Int32) (b_a1 : 0 ≤ (a1).toInt ∧ (a1).toInt ≤ 1700) (a2 : Int32) (b_a2 : 0 ≤ (a2).toInt ∧ (a2).toInt ≤ 6) (I : CM o S) (sz : Nat) : Met l yX12_flagsOn (bw yX12_flagsOn cX12_flagsOn 5 (some .int)) ({ frames := 1, cells := 0, slots := 0, locals := 32 } : Room) (dk_Pc g D (dg_w g shM o rfM S) sz [.ref (o + 0), .int a1, .int a2]) (va_Qi (fun (r : Int32) S' => S' = S ∧ (r = F_m_flagsOn o S a1 a2) ∧ True) (dg_B g D shM o rfM) (dg_A o shM.length sz)) 0 0 (dg_A o shM.length sz) := by
  refine dg_met (cc := cX12_flagsOn) (maxL := 5) (ret := (some .int)) (dk_dq rfl) rfl (Nat.le_of_ble_eq_true rfl) ?_
  intro p e s m args below meth c A hAe harg hx hb hr hml hts hown hlocks hin hP K hS hA1 hA ST hsz ls hl
  rw [← hAe]
  have F : CallFix p m c cX12_flagsOn 5 s args (bw yX12_flagsOn cX12_flagsOn 5 (some .int)) RX12 := ⟨hx, hb, hml, hown, hts⟩
  have hl : lv_has ls 5 [(0, .ref (o + 0)), (1, .int a1), (2, .int a2)] := hl
  have M_0 : dg_sm shM [] [] S S := dg_sm.rf
  refine lv_iconst (v := 0) hx hb dX12_flagsOn_0 (by decide +kernel) ?_
  refine lv_istore_n (lv' := [(3, .int 0), (0, .ref (o + 0)), (1, .int a1), (2, .int a2)]) hx hb dX12_flagsOn_1 rfl hl (dk_dq rfl) rfl (fun ls hl => ?_)
  refine lv_iconst (v := 0) hx hb dX12_flagsOn_2 (by decide +kernel) ?_
  refine lv_istore (lv' := [(4, .int 0), (3, .int 0), (0, .ref (o + 0)), (1, .int a1), (2, .int a2)]) hx hb dX12_flagsOn_3 hl (dk_dq rfl) rfl (fun ls hl => ?_)
  have L_65 : ∀ (n : Nat) (x_63 : Int32) (x_64 : Int32), (0 ≤ (x_63).toInt ∧ (x_63).toInt ≤ 6) → ((7 - (x_63).toInt).toNat < n) → (F_m_flagsOn o S a1 a2 = lp (F_m_flagsOn_B1 a2 a1 S) (0 : Int32) n (x_63, x_64)) → ∀ (H : Heap) (locs : List Loc), va_P D vwCl (dg_w g shM o rfM S) H → va_S A s.heap H locs → ∀ ls : Array Slot, lv_has ls 5 [(4, .int x_63), (3, .int x_64), (0, .ref (o + 0)), (1, .int a1), (2, .int a2)] → W p l e ({ frames := 1, cells := 0, slots := 0, locals := 32 } : Room) s m args below meth c H locs 0 0 (MQ below (va_Qi (fun (r : Int32) S' => S' = S ∧ (r = F_m_flagsOn o S a1 a2) ∧ True) (dg_B g D shM o rfM) A) args s 0 0 A) (F0 m 5 ls []) := by
    as_aux_lemma =>
      intro n
      induction n with
      | zero =>
        intro x_63 x_64 b_x_63 hmu hF_1 H locs hP hS ls hl
        omega
      | succ n ih =>
        as_aux_lemma =>
          intro x_63 x_64 b_x_63 hmu hF_1 H locs hP hS ls hl
          refine lv_iload hx hb dX12_flagsOn_5 (lv_at hl 0 rfl) ?_
          refine lv_iload_n hx hb dX12_flagsOn_7 rfl (lv_at hl 4 rfl) ?_
          refine lv_icmp_ge (tgt := 47) hx hb dX12_flagsOn_8 (dk_dq rfl) (fun c_66 => ?_) (fun c_66 => ?_)
          · have jc_66 := dk_gec (k := (a2).toInt) rfl c_66
            refine lv_iload_n hx hb dX12_flagsOn_47 rfl (lv_at hl 1 rfl) ?_
            refine W.widen (k := 0) (n := 0) (Nat.le_of_ble_eq_true rfl) (Nat.le_of_ble_eq_true rfl) ?_
            exact dg_iret hx hb hr hlocks rfl hP hS ⟨rfl, (Eq.symm (lp_r hF_1 (F_m_flagsOn_p0 c_66))), trivial⟩ dX12_flagsOn_48
          · as_aux_lemma =>
              have jc_66 := dk_ngec (k := (a2).toInt) rfl c_66
              refine lv_aload_n hx hb dX12_flagsOn_11 rfl (lv_at hl 2 rfl) ?_
              refine dg_get (C := RX12) (T := TX12) (N := 77) hx hb hts (fun w h => bw_mem (wU_X12 w h)) hown K hP sM_0 rfl 0 (dk_dq rfl) (hts _ (bw_mem wB_290)) (fun _ h9 => h9) (v := .ref (o + 1)) (show S.1 0 0 = .ref (o + 1) from dg_I.rel (d := 1) I sM_0 (by decide +kernel)) dX12_flagsOn_12 ?_
              refine lv_iload_n hx hb dX12_flagsOn_15 rfl (lv_at hl 3 rfl) ?_
              refine lv_iload hx hb dX12_flagsOn_16 (lv_at hl 0 rfl) ?_
              refine lv_iadd hx hb dX12_flagsOn_18 ?_
              refine lv_topi (fun x_67 ex_67 => ?_)
              have jx_67 : (x_67).toInt = (a1).toInt + (x_63).toInt := by rw [ex_67]; exact dk_addT2 rfl rfl (by omega)
              have hin_68 : vp_in x_67 1800 := (dk_inv2 (by omega))
              refine dg_iald hx hb K hP sM_1 hin_68 dX12_flagsOn_19 (fun x_69 ex_69 => ?_)
              have b_x_69 := dk_all_at (dg_I.row (lo := 0) (hi := 255) I sM_1 (by decide +kernel)) hin_68 ex_69
              refine lv_iconst (v := 1) hx hb dX12_flagsOn_20 (by decide +kernel) ?_
              refine lv_icmp_le (tgt := 26) hx hb dX12_flagsOn_21 (dk_dq rfl) (fun c_70 => ?_) (fun c_70 => ?_)
              · as_aux_lemma =>
                  have jc_70 := dk_lec (k := 1) (by decide +kernel) c_70
                  refine lv_iload_n hx hb dX12_flagsOn_26 rfl (lv_at hl 1 rfl) ?_
                  refine lv_aload_n hx hb dX12_flagsOn_27 rfl (lv_at hl 2 rfl) ?_
                  refine dg_get (C := RX12) (T := TX12) (N := 77) hx hb hts (fun w h => bw_mem (wU_X12 w h)) hown K hP sM_0 rfl 0 (dk_dq rfl) (hts _ (bw_mem wB_290)) (fun _ h9 => h9) (v := .ref (o + 1)) (show S.1 0 0 = .ref (o + 1) from dg_I.rel (d := 1) I sM_0 (by decide +kernel)) dX12_flagsOn_28 ?_
                  refine lv_iload_n hx hb dX12_flagsOn_31 rfl (lv_at hl 3 rfl) ?_
                  refine lv_iload hx hb dX12_flagsOn_32 (lv_at hl 0 rfl) ?_
                  refine lv_iadd hx hb dX12_flagsOn_34 ?_
                  refine lv_topi (fun x_71 ex_71 => ?_)
                  have jx_71 : (x_71).toInt = (a1).toInt + (x_63).toInt := by rw [ex_71]; exact dk_addT2 rfl rfl (by omega)
                  have hin_72 : vp_in x_71 1800 := (dk_inv2 (by omega))
                  refine dg_iald hx hb K hP sM_1 hin_72 dX12_flagsOn_35 (fun x_73 ex_73 => ?_)
                  have b_x_73 := dk_all_at (dg_I.row (lo := 0) (hi := 255) I sM_1 (by decide +kernel)) hin_72 ex_73
                  refine lv_iload hx hb dX12_flagsOn_36 (lv_at hl 0 rfl) ?_
                  refine lv_ishl hx hb dX12_flagsOn_38 ?_
                  refine lv_topi (fun x_74 ex_74 => ?_)
                  refine lv_ior hx hb dX12_flagsOn_39 ?_
                  refine lv_topi (fun x_75 ex_75 => ?_)
                  refine lv_istore_n (lv' := [(3, .int x_75), (4, .int x_63), (0, .ref (o + 0)), (1, .int a1), (2, .int a2)]) hx hb dX12_flagsOn_40 rfl hl (dk_dq rfl) rfl (fun ls hl => ?_)
                  obtain ⟨x_76, ex_76⟩ : ∃ z, z = x_63 + 1 := ⟨_, rfl⟩
                  have jx_76 : (x_76).toInt = (x_63).toInt + 1 := by rw [ex_76]; exact dk_addT2 rfl (by decide +kernel) (by omega)
                  refine lv_iinc (v := x_76) (lv' := [(4, .int x_76), (3, .int x_75), (0, .ref (o + 0)), (1, .int a1), (2, .int a2)]) hx hb dX12_flagsOn_41 hl (k := 1) rfl (by rw [ex_76]; rfl) (dk_dq rfl) rfl (fun ls hl => ?_)
                  refine lv_goto (tgt := 5) hx hb dX12_flagsOn_44 (dk_dq rfl) ?_
                  exact ih x_76 x_75 (by omega) (by first | exact mu_lt hmu (by omega) (by omega) | omega) (lp_l hF_1 (F_m_flagsOn_p1 c_66 ex_67 (Eq.symm ex_69.symm) c_70 ex_71 (Eq.symm ex_73.symm) ex_74 ex_75 ex_76)) _ _ hP hS _ (lv_sub hl [0, 1, 2, 3, 4] rfl)
              · have jc_70 := dk_nlec (k := 1) (by decide +kernel) c_70
                refine lv_iconst (v := (-1)) hx hb dX12_flagsOn_24 (by decide +kernel) ?_
                refine W.widen (k := 0) (n := 0) (Nat.le_of_ble_eq_true rfl) (Nat.le_of_ble_eq_true rfl) ?_
                exact dg_iret hx hb hr hlocks rfl hP hS ⟨rfl, (Eq.symm (lp_r hF_1 (F_m_flagsOn_p2 c_66 ex_67 (Eq.symm ex_69.symm) c_70))), trivial⟩ dX12_flagsOn_25
  have hz_77 : (0 : Int32).toInt = 0 := by decide +kernel
  have hz_78 : (0 : Int32).toInt = 0 := by decide +kernel
  have hz_79 : (0 : Int32).toInt = 0 := by decide +kernel
  exact L_65 ((7 - ((0 : Int32)).toInt).toNat + 1) 0 0 (by decide +kernel) (by first | exact mu_lt hmu (by omega) (by omega) | omega) (F_m_flagsOn_p3) _ _ hP hS _ (lv_sub hl [0, 1, 2, 3, 4] rfl)
noncomputable def F_m_cellsOn_J5 (S_225 : dg_S) (x_226 : Int32) (x_228 : Int32) (x_158 : Int32) (x_157 : Int32) : (Int32 × Int32 × dg_S) ⊕ (dg_S × Int32) := let S_235 : dg_S := dg_uf S_225 32 (upd (S_225.2.1 32) (x_226 : Int32).toNatClampNeg x_228); let x_236 : Int32 := x_158 + 1; let x_237 : Int32 := x_157 + 1; (Sum.inl (x_237, x_236, S_235))
noncomputable def F_m_cellsOn_J4 (S_159 : dg_S) (x_211 : Int32) (x_213 : Int32) (x_157 : Int32) (x_167 : Int32) (x_158 : Int32) : (Int32 × Int32 × dg_S) ⊕ (dg_S × Int32) := let S_225 : dg_S := dg_uf S_159 31 (upd (S_159.2.1 31) (x_211 : Int32).toNatClampNeg x_213); let x_226 : Int32 := (64 : Int32) + x_157; (if x_167 = (254 : Int32) then (F_m_cellsOn_J5 S_225 x_226 (1 : Int32) x_158 x_157) else (F_m_cellsOn_J5 S_225 x_226 (0 : Int32) x_158 x_157))
noncomputable def F_m_cellsOn_J3 (x_157 : Int32) (x_167 : Int32) (S_159 : dg_S) (x_158 : Int32) : (Int32 × Int32 × dg_S) ⊕ (dg_S × Int32) := let x_211 : Int32 := (64 : Int32) + x_157; (if x_167 ≤ (9 : Int32) then (F_m_cellsOn_J4 S_159 x_211 x_167 x_157 x_167 x_158) else (F_m_cellsOn_J4 S_159 x_211 (-1 : Int32) x_157 x_167 x_158))
noncomputable def F_m_cellsOn_J2 (S : dg_S) (S_159 : dg_S) (x_157 : Int32) (x_167 : Int32) (x_158 : Int32) : (Int32 × Int32 × dg_S) ⊕ (dg_S × Int32) := let x_191 : Int32 := zI S 0 13; let x_194 : Int32 := zI S 0 47; let x_193 : Int32 := S_159.2.1 4 (x_191 : Int32).toNatClampNeg; (if x_157 = x_193 then (if x_167 = (255 : Int32) then (F_m_cellsOn_J3 x_157 x_167 S_159 x_158) else (Sum.inr ((S_159, (0 : Int32))))) else (F_m_cellsOn_J3 x_157 x_167 S_159 x_158))
noncomputable def F_m_cellsOn_B1 (o : Nat) (S : dg_S) : (Int32 × Int32 × dg_S) → (Int32 × Int32 × dg_S) ⊕ (dg_S × Int32) := fun w9 => match w9 with | (x_157, x_158, S_159) => (if (64 : Int32) ≤ x_157 then (Sum.inr ((S_159, (1 : Int32)))) else let x_163 : Int32 := F_m_isCellOf o S_159 x_157; (if x_163 = (0 : Int32) then let x_249 : Int32 := x_157 + 1; (Sum.inl (x_249, x_158, S_159)) else let x_167 : Int32 := S_159.2.1 1 (x_158 : Int32).toNatClampNeg; (if x_167 ≤ (9 : Int32) then (F_m_cellsOn_J2 S S_159 x_157 x_167 x_158) else (if x_167 < (254 : Int32) then (Sum.inr ((S_159, (0 : Int32)))) else (F_m_cellsOn_J2 S S_159 x_157 x_167 x_158)))))
noncomputable def F_m_cellsOn (o : Nat) (S : dg_S) (a1 : Int32) : dg_S × Int32 := (lp (F_m_cellsOn_B1 o S) (S, (0 : Int32)) ((65 - ((0 : Int32)).toInt).toNat + 1) ((0 : Int32), a1, S))
theorem F_m_cellsOn_p0 {o : Nat} {S : dg_S} {x_157 : Int32} {x_158 : Int32} {S_159 : dg_S} (h0 : (64 : Int32) ≤ x_157) : (F_m_cellsOn_B1 o S) (x_157, x_158, S_159) = Sum.inr ((S_159, (1 : Int32))) := (Eq.trans (if_pos h0) rfl)
theorem F_m_cellsOn_p1 {S_225 : dg_S} {x_226 : Int32} {x_228 : Int32} {x_158 : Int32} {x_157 : Int32} {x_237 : Int32} {x_236 : Int32} {S_235 : dg_S} (h0 : S_235 = dg_uf S_225 32 (upd (S_225.2.1 32) (x_226 : Int32).toNatClampNeg x_228)) (h1 : x_236 = x_158 + 1) (h2 : x_237 = x_157 + 1) : F_m_cellsOn_J5 S_225 x_226 x_228 x_158 x_157 = Sum.inl (x_237, x_236, S_235) := by
  replace h0 := Eq.symm h0
  subst h0
  replace h1 := Eq.symm h1
  subst h1
  replace h2 := Eq.symm h2
  subst h2
  exact rfl
theorem F_m_cellsOn_p2 {S_159 : dg_S} {x_211 : Int32} {x_213 : Int32} {x_157 : Int32} {x_167 : Int32} {x_158 : Int32} {S_225 : dg_S} {x_226 : Int32} (h0 : S_225 = dg_uf S_159 31 (upd (S_159.2.1 31) (x_211 : Int32).toNatClampNeg x_213)) (h1 : x_226 = (64 : Int32) + x_157) (h2 : ¬ (x_167 = (254 : Int32))) : F_m_cellsOn_J4 S_159 x_211 x_213 x_157 x_167 x_158 = F_m_cellsOn_J5 S_225 x_226 (0 : Int32) x_158 x_157 := by
  replace h0 := Eq.symm h0
  subst h0
  replace h1 := Eq.symm h1
  subst h1
  exact (Eq.trans (if_neg h2) rfl)
theorem F_m_cellsOn_p3 {S_159 : dg_S} {x_211 : Int32} {x_213 : Int32} {x_157 : Int32} {x_167 : Int32} {x_158 : Int32} {S_225 : dg_S} {x_226 : Int32} (h0 : S_225 = dg_uf S_159 31 (upd (S_159.2.1 31) (x_211 : Int32).toNatClampNeg x_213)) (h1 : x_226 = (64 : Int32) + x_157) (h2 : x_167 = (254 : Int32)) : F_m_cellsOn_J4 S_159 x_211 x_213 x_157 x_167 x_158 = F_m_cellsOn_J5 S_225 x_226 (1 : Int32) x_158 x_157 := by
  replace h0 := Eq.symm h0
  subst h0
  replace h1 := Eq.symm h1
  subst h1
  exact (Eq.trans (if_pos h2) rfl)
theorem F_m_cellsOn_p4 {x_157 : Int32} {x_167 : Int32} {S_159 : dg_S} {x_158 : Int32} {x_211 : Int32} (h0 : x_211 = (64 : Int32) + x_157) (h1 : x_167 ≤ (9 : Int32)) : F_m_cellsOn_J3 x_157 x_167 S_159 x_158 = F_m_cellsOn_J4 S_159 x_211 x_167 x_157 x_167 x_158 := by
  replace h0 := Eq.symm h0
  subst h0
  exact (Eq.trans (if_pos h1) rfl)
theorem F_m_cellsOn_p5 {x_157 : Int32} {x_167 : Int32} {S_159 : dg_S} {x_158 : Int32} {x_211 : Int32} (h0 : x_211 = (64 : Int32) + x_157) (h1 : ¬ (x_167 ≤ (9 : Int32))) : F_m_cellsOn_J3 x_157 x_167 S_159 x_158 = F_m_cellsOn_J4 S_159 x_211 (-1 : Int32) x_157 x_167 x_158 := by
  replace h0 := Eq.symm h0
  subst h0
  exact (Eq.trans (if_neg h1) rfl)
theorem F_m_cellsOn_p6 {S : dg_S} {S_159 : dg_S} {x_157 : Int32} {x_167 : Int32} {x_158 : Int32} {x_191 : Int32} {x_193 : Int32} (h0 : x_191 = zI S 0 13) (h1 : x_193 = S_159.2.1 4 (x_191 : Int32).toNatClampNeg) (h2 : ¬ (x_157 = x_193)) : F_m_cellsOn_J2 S S_159 x_157 x_167 x_158 = F_m_cellsOn_J3 x_157 x_167 S_159 x_158 := by
  replace h0 := Eq.symm h0
  subst h0
  replace h1 := Eq.symm h1
  subst h1
  exact (Eq.trans (if_neg h2) rfl)
theorem F_m_cellsOn_p7 {S : dg_S} {S_159 : dg_S} {x_157 : Int32} {x_167 : Int32} {x_158 : Int32} {x_191 : Int32} {x_193 : Int32} (h0 : x_191 = zI S 0 13) (h1 : x_193 = S_159.2.1 4 (x_191 : Int32).toNatClampNeg) (h2 : x_157 = x_193) (h3 : x_167 = (255 : Int32)) : F_m_cellsOn_J2 S S_159 x_157 x_167 x_158 = F_m_cellsOn_J3 x_157 x_167 S_159 x_158 := by
  replace h0 := Eq.symm h0
  subst h0
  replace h1 := Eq.symm h1
  subst h1
  exact (Eq.trans (if_pos h2) (Eq.trans (if_pos h3) rfl))
theorem F_m_cellsOn_p8 {S : dg_S} {S_159 : dg_S} {x_157 : Int32} {x_167 : Int32} {x_158 : Int32} {x_191 : Int32} {x_193 : Int32} (h0 : x_191 = zI S 0 13) (h1 : x_193 = S_159.2.1 4 (x_191 : Int32).toNatClampNeg) (h2 : x_157 = x_193) (h3 : ¬ (x_167 = (255 : Int32))) : F_m_cellsOn_J2 S S_159 x_157 x_167 x_158 = Sum.inr ((S_159, (0 : Int32))) := by
  replace h0 := Eq.symm h0
  subst h0
  replace h1 := Eq.symm h1
  subst h1
  exact (Eq.trans (if_pos h2) (Eq.trans (if_neg h3) rfl))
theorem F_m_cellsOn_p9 {o : Nat} {S : dg_S} {x_157 : Int32} {x_158 : Int32} {S_159 : dg_S} {x_167 : Int32} {x_163 : Int32} (h0 : ¬ ((64 : Int32) ≤ x_157)) (h1 : x_163 = F_m_isCellOf o S_159 x_157) (h2 : ¬ (x_163 = (0 : Int32))) (h3 : x_167 = S_159.2.1 1 (x_158 : Int32).toNatClampNeg) (h4 : x_167 ≤ (9 : Int32)) : (F_m_cellsOn_B1 o S) (x_157, x_158, S_159) = F_m_cellsOn_J2 S S_159 x_157 x_167 x_158 := by
  replace h1 := Eq.symm h1
  subst h1
  replace h3 := Eq.symm h3
  subst h3
  exact (Eq.trans (if_neg h0) (Eq.trans (if_neg h2) (Eq.trans (if_pos h4) rfl)))
theorem F_m_cellsOn_p10 {o : Nat} {S : dg_S} {x_157 : Int32} {x_158 : Int32} {S_159 : dg_S} {x_163 : Int32} {x_167 : Int32} (h0 : ¬ ((64 : Int32) ≤ x_157)) (h1 : x_163 = F_m_isCellOf o S_159 x_157) (h2 : ¬ (x_163 = (0 : Int32))) (h3 : x_167 = S_159.2.1 1 (x_158 : Int32).toNatClampNeg) (h4 : ¬ (x_167 ≤ (9 : Int32))) (h5 : x_167 < (254 : Int32)) : (F_m_cellsOn_B1 o S) (x_157, x_158, S_159) = Sum.inr ((S_159, (0 : Int32))) := by
  replace h1 := Eq.symm h1
  subst h1
  replace h3 := Eq.symm h3
  subst h3
  exact (Eq.trans (if_neg h0) (Eq.trans (if_neg h2) (Eq.trans (if_neg h4) (Eq.trans (if_pos h5) rfl))))
theorem F_m_cellsOn_p11 {o : Nat} {S : dg_S} {x_157 : Int32} {x_158 : Int32} {S_159 : dg_S} {x_167 : Int32} {x_163 : Int32} (h0 : ¬ ((64 : Int32) ≤ x_157)) (h1 : x_163 = F_m_isCellOf o S_159 x_157) (h2 : ¬ (x_163 = (0 : Int32))) (h3 : x_167 = S_159.2.1 1 (x_158 : Int32).toNatClampNeg) (h4 : ¬ (x_167 ≤ (9 : Int32))) (h5 : ¬ (x_167 < (254 : Int32))) : (F_m_cellsOn_B1 o S) (x_157, x_158, S_159) = F_m_cellsOn_J2 S S_159 x_157 x_167 x_158 := by
  replace h1 := Eq.symm h1
  subst h1
  replace h3 := Eq.symm h3
  subst h3
  exact (Eq.trans (if_neg h0) (Eq.trans (if_neg h2) (Eq.trans (if_neg h4) (Eq.trans (if_neg h5) rfl))))
theorem F_m_cellsOn_p12 {o : Nat} {S : dg_S} {x_157 : Int32} {x_158 : Int32} {S_159 : dg_S} {x_249 : Int32} {x_163 : Int32} (h0 : ¬ ((64 : Int32) ≤ x_157)) (h1 : x_163 = F_m_isCellOf o S_159 x_157) (h2 : x_163 = (0 : Int32)) (h3 : x_249 = x_157 + 1) : (F_m_cellsOn_B1 o S) (x_157, x_158, S_159) = Sum.inl (x_249, x_158, S_159) := by
  replace h1 := Eq.symm h1
  subst h1
  replace h3 := Eq.symm h3
  subst h3
  exact (Eq.trans (if_neg h0) (Eq.trans (if_pos h2) rfl))
theorem F_m_cellsOn_p13 {o : Nat} {S : dg_S} {a1 : Int32}  : F_m_cellsOn o S a1 = lp (F_m_cellsOn_B1 o S) (S, (0 : Int32)) ((65 - ((0 : Int32)).toInt).toNat + 1) ((0 : Int32), a1, S) := rfl
set_option maxHeartbeats 8000000 in
set_option maxRecDepth 100000 in
theorem c_m_cellsOn (l : Launch) (g : Nat → ClassId) (D : va_G) (o : Nat) (S : dg_S) (a1 : Int32) (b_a1 : 0 ≤ (a1).toInt ∧ (a1).toInt ≤ 100) (ZB : ZBM S) (I : CM o S) (sz : Nat) : Met l yX12_cellsOn (bw yX12_cellsOn cX12_cellsOn 5 (some .boolean)) ({ frames := 4, cells := 0, slots := 0, locals := 97 } : Room) (dk_Pc g D (dg_w g shM o rfM S) sz [.ref (o + 0), .int a1]) (va_Qi (fun (r : Int32) S' => CM o S' ∧ dg_sm shM [] [31, 32] S S' ∧ (0 ≤ (r).toInt ∧ (r).toInt ≤ 1) ∧ (S' = (F_m_cellsOn o S a1).1 ∧ r = (F_m_cellsOn o S a1).2) ∧ True) (dg_B g D shM o rfM) (dg_A o shM.length sz)) 0 0 (dg_A o shM.length sz) := by
  refine dg_met (cc := cX12_cellsOn) (maxL := 5) (ret := (some .boolean)) (dk_dq rfl) rfl (Nat.le_of_ble_eq_true rfl) ?_
  intro p e s m args below meth c A hAe harg hx hb hr hml hts hown hlocks hin hP K hS hA1 hA ST hsz ls hl
  rw [← hAe]
  have F : CallFix p m c cX12_cellsOn 5 s args (bw yX12_cellsOn cX12_cellsOn 5 (some .boolean)) RX12 := ⟨hx, hb, hml, hown, hts⟩
  have hl : lv_has ls 5 [(0, .ref (o + 0)), (1, .int a1)] := hl
  have M_0 : dg_sm shM [] [31, 32] S S := dg_sm.rf
  refine lv_iload_n hx hb dX12_cellsOn_0 rfl (lv_at hl 1 rfl) ?_
  refine lv_istore_n (lv' := [(2, .int a1), (0, .ref (o + 0)), (1, .int a1)]) hx hb dX12_cellsOn_1 rfl hl (dk_dq rfl) rfl (fun ls hl => ?_)
  refine lv_iconst (v := 0) hx hb dX12_cellsOn_2 (by decide +kernel) ?_
  refine lv_istore_n (lv' := [(3, .int 0), (2, .int a1), (0, .ref (o + 0)), (1, .int a1)]) hx hb dX12_cellsOn_3 rfl hl (dk_dq rfl) rfl (fun ls hl => ?_)
  have L_160 : ∀ (n : Nat) (x_157 : Int32) (x_158 : Int32), (0 ≤ (x_157).toInt ∧ (x_157).toInt ≤ 64) → (0 ≤ (x_158).toInt ∧ (x_158).toInt ≤ 164) → (0 ≤ (x_158).toInt ∧ (x_158).toInt ≤ (a1).toInt + (x_157).toInt) → ((65 - (x_157).toInt).toNat < n) → ∀ S_159 : dg_S, CM o S_159 → dg_sm shM [] [31, 32] S S_159 → (F_m_cellsOn o S a1 = lp (F_m_cellsOn_B1 o S) (S, (0 : Int32)) n (x_157, x_158, S_159)) → ∀ (H : Heap) (locs : List Loc), va_P D vwCl (dg_w g shM o rfM S_159) H → va_S A s.heap H locs → ∀ ls : Array Slot, lv_has ls 5 [(3, .int x_157), (2, .int x_158), (0, .ref (o + 0)), (1, .int a1)] → W p l e ({ frames := 4, cells := 0, slots := 0, locals := 97 } : Room) s m args below meth c H locs 0 0 (MQ below (va_Qi (fun (r : Int32) S' => CM o S' ∧ dg_sm shM [] [31, 32] S S' ∧ (0 ≤ (r).toInt ∧ (r).toInt ≤ 1) ∧ (S' = (F_m_cellsOn o S a1).1 ∧ r = (F_m_cellsOn o S a1).2) ∧ True) (dg_B g D shM o rfM) A) args s 0 0 A) (F0 m 4 ls []) := by
    as_aux_lemma =>
      intro n
      induction n with
      | zero =>
        intro x_157 x_158 b_x_157 b_x_158 rel_0 hmu S_159 I_159 M_159 hF_1 H locs hP hS ls hl
        omega
      | succ n ih =>
        as_aux_lemma =>
          intro x_157 x_158 b_x_157 b_x_158 rel_0 hmu S_159 I_159 M_159 hF_1 H locs hP hS ls hl
          refine lv_iload_n hx hb dX12_cellsOn_4 rfl (lv_at hl 0 rfl) ?_
          refine lv_bipush (v := 64) hx hb dX12_cellsOn_5 (by decide +kernel) ?_
          refine lv_icmp_ge (tgt := 120) hx hb dX12_cellsOn_7 (dk_dq rfl) (fun c_161 => ?_) (fun c_161 => ?_)
          · have jc_161 := dk_gec (k := 64) (by decide +kernel) c_161
            refine lv_iconst (v := 1) hx hb dX12_cellsOn_120 (by decide +kernel) ?_
            have hz_162 : (1 : Int32).toInt = 1 := by decide +kernel
            refine W.widen (k := 0) (n := 0) (Nat.le_of_ble_eq_true rfl) (Nat.le_of_ble_eq_true rfl) ?_
            exact dg_iret hx hb hr hlocks (by decide +kernel) hP hS ⟨I_159, M_159, (by decide +kernel), ⟨congrArg Prod.fst (Eq.symm (lp_r hF_1 (F_m_cellsOn_p0 c_161))), congrArg Prod.snd (Eq.symm (lp_r hF_1 (F_m_cellsOn_p0 c_161)))⟩, trivial⟩ dX12_cellsOn_121
          · as_aux_lemma =>
              have jc_161 := dk_ngec (k := 64) (by decide +kernel) c_161
              refine lv_aload_n hx hb dX12_cellsOn_10 rfl (lv_at hl 2 rfl) ?_
              refine lv_iload_n hx hb dX12_cellsOn_11 rfl (lv_at hl 0 rfl) ?_
              refine dg_calli hS hA1 hA (va_runV (As := [.int x_157]) (rest := []) F (c_m_isCellOf l g D o S_159 x_157 (by omega) (ZBM.keep ZB M_159 (dk_dq rfl) (dk_dq rfl) (dk_dq rfl) (dk_dq rfl) (dk_dq rfl)) I_159 H.size) (cwV 1 hts (bw_V wB_1123 wB_1124 wB_1125 wB_297 wB_1122) rfl rfl rfl (by decide +kernel) ⟨Nat.le_of_ble_eq_true rfl, Nat.le_of_ble_eq_true rfl⟩) (dg_preV sM_0 rfl K ST hP hS hA1 hA) rfl rfl hl.1 rfl (lv_room (Nat.le_of_ble_eq_true rfl)) dX12_cellsOn_12 ⟨Nat.le_of_ble_eq_true rfl, Nat.le_of_ble_eq_true rfl⟩) (fun x_163 S_164 hw_164 H locs hP hS => ?_)
              rw [hw_164.1] at hP
              obtain ⟨hq_164, w_164_0, w_164_1, w_164_2, -⟩ := hw_164
              have w_164_0 : 0 ≤ (x_163).toInt ∧ (x_163).toInt ≤ 1 := w_164_0
              have w_164_1 : (x_163).toInt = 1 → 0 ≤ (x_157).toInt := w_164_1
              refine lv_if_ne (tgt := 21) hx hb dX12_cellsOn_15 (dk_dq rfl) (fun c_165 => ?_) (fun c_165 => ?_)
              · as_aux_lemma =>
                  have jc_165 := dk_neqc (k := 0) (by decide +kernel) c_165
                  refine lv_aload_n hx hb dX12_cellsOn_21 rfl (lv_at hl 2 rfl) ?_
                  refine dg_get (C := RX12) (T := TX12) (N := 77) hx hb hts (fun w h => bw_mem (wU_X12 w h)) hown K hP sM_0 rfl 0 (dk_dq rfl) (hts _ (bw_mem wB_290)) (fun _ h9 => h9) (v := .ref (o + 1)) (show S_159.1 0 0 = .ref (o + 1) from dg_I.rel (d := 1) I_159 sM_0 (by decide +kernel)) dX12_cellsOn_22 ?_
                  refine lv_iload_n hx hb dX12_cellsOn_25 rfl (lv_at hl 1 rfl) ?_
                  have hin_166 : vp_in x_158 1800 := (dk_inv2 (by omega))
                  refine dg_iald hx hb K hP sM_1 hin_166 dX12_cellsOn_26 (fun x_167 ex_167 => ?_)
                  have b_x_167 := dk_all_at (dg_I.row (lo := 0) (hi := 255) I_159 sM_1 (by decide +kernel)) hin_166 ex_167
                  refine lv_istore (lv' := [(4, .int x_167), (3, .int x_157), (2, .int x_158), (0, .ref (o + 0)), (1, .int a1)]) hx hb dX12_cellsOn_27 hl (dk_dq rfl) rfl (fun ls hl => ?_)
                  refine lv_iload hx hb dX12_cellsOn_29 (lv_at hl 0 rfl) ?_
                  refine lv_bipush (v := 9) hx hb dX12_cellsOn_31 (by decide +kernel) ?_
                  have J_190 : ((F_m_cellsOn_B1 o S) (x_157, x_158, S_159) = F_m_cellsOn_J2 S S_159 x_157 x_167 x_158) → ∀ (H : Heap) (locs : List Loc), va_P D vwCl (dg_w g shM o rfM S_159) H → va_S A s.heap H locs → ∀ ls : Array Slot, lv_has ls 5 [(4, .int x_167), (3, .int x_157), (2, .int x_158), (0, .ref (o + 0)), (1, .int a1)] → W p l e ({ frames := 4, cells := 0, slots := 0, locals := 97 } : Room) s m args below meth c H locs 0 0 (MQ below (va_Qi (fun (r : Int32) S' => CM o S' ∧ dg_sm shM [] [31, 32] S S' ∧ (0 ≤ (r).toInt ∧ (r).toInt ≤ 1) ∧ (S' = (F_m_cellsOn o S a1).1 ∧ r = (F_m_cellsOn o S a1).2) ∧ True) (dg_B g D shM o rfM) A) args s 0 0 A) (F0 m 44 ls []) := by
                    as_aux_lemma =>
                      intro hF_2 H locs hP hS ls hl
                      refine lv_iload_n hx hb dX12_cellsOn_44 rfl (lv_at hl 1 rfl) ?_
                      refine lv_aload_n hx hb dX12_cellsOn_45 rfl (lv_at hl 3 rfl) ?_
                      refine dg_get (C := RX12) (T := TX12) (N := 77) hx hb hts (fun w h => bw_mem (wU_X12 w h)) hown K hP sM_0 rfl 16 (dk_dq rfl) (hts _ (bw_mem wB_481)) (fun _ h9 => h9) (v := .ref (o + 4)) (show S_159.1 0 16 = .ref (o + 4) from dg_I.rel (d := 4) I_159 sM_0 (by decide +kernel)) dX12_cellsOn_46 ?_
                      refine lv_aload_n hx hb dX12_cellsOn_49 rfl (lv_at hl 3 rfl) ?_
                      obtain ⟨x_191, f_x_191, b_x_191⟩ := dg_I.int (i := 0) (k := 13) (lo := 0) (hi := 1) I sM_0 (by decide +kernel)
                      refine dg_get (C := RX12) (T := TX12) (N := 77) hx hb hts (fun w h => bw_mem (wU_X12 w h)) hown K hP sM_0 rfl 13 (dk_dq rfl) (hts _ (bw_mem wB_1085)) (fun _ h9 => h9) (v := .int x_191) ((M_159.1 0 13 _ sM_0 (dk_dq rfl)).trans f_x_191) dX12_cellsOn_50 ?_
                      have hin_192 : vp_in x_191 2 := (dk_inv2 (by omega))
                      refine dg_iald hx hb K hP sM_4 hin_192 dX12_cellsOn_53 (fun x_193 ex_193 => ?_)
                      have b_x_193 := dk_all_at (dg_I.row (lo := 0) (hi := 9999) I_159 sM_4 (by decide +kernel)) hin_192 ex_193
                      obtain ⟨x_194, f_x_194, b_x_194⟩ := dg_I.int (i := 0) (k := 47) (lo := 0) (hi := 1) I sM_0 (by decide +kernel)
                      have zb_x_193 : (x_193).toInt ≤ 63 := by rw [ex_193]; exact ((ZBM.keep ZB M_159 (dk_dq rfl) (dk_dq rfl) (dk_dq rfl) (dk_dq rfl) (dk_dq rfl)) x_191 x_194 ((M_159.1 0 13 _ sM_0 (dk_dq rfl)).trans f_x_191) ((M_159.1 0 47 _ sM_0 (dk_dq rfl)).trans f_x_194)).2.2.1
                      have J_210 : ((F_m_cellsOn_B1 o S) (x_157, x_158, S_159) = F_m_cellsOn_J3 x_157 x_167 S_159 x_158) → ∀ (H : Heap) (locs : List Loc), va_P D vwCl (dg_w g shM o rfM S_159) H → va_S A s.heap H locs → ∀ ls : Array Slot, lv_has ls 5 [(4, .int x_167), (3, .int x_157), (2, .int x_158), (0, .ref (o + 0)), (1, .int a1)] → W p l e ({ frames := 4, cells := 0, slots := 0, locals := 97 } : Room) s m args below meth c H locs 0 0 (MQ below (va_Qi (fun (r : Int32) S' => CM o S' ∧ dg_sm shM [] [31, 32] S S' ∧ (0 ≤ (r).toInt ∧ (r).toInt ≤ 1) ∧ (S' = (F_m_cellsOn o S a1).1 ∧ r = (F_m_cellsOn o S a1).2) ∧ True) (dg_B g D shM o rfM) A) args s 0 0 A) (F0 m 67 ls []) := by
                        as_aux_lemma =>
                          intro hF_3 H locs hP hS ls hl
                          refine lv_aload_n hx hb dX12_cellsOn_67 rfl (lv_at hl 3 rfl) ?_
                          refine dg_get (C := RX12) (T := TX12) (N := 77) hx hb hts (fun w h => bw_mem (wU_X12 w h)) hown K hP sM_0 rfl 51 (dk_dq rfl) (hts _ (bw_mem wB_1090)) (fun _ h9 => h9) (v := .ref (o + 31)) (show S_159.1 0 51 = .ref (o + 31) from dg_I.rel (d := 31) I_159 sM_0 (by decide +kernel)) dX12_cellsOn_68 ?_
                          refine lv_bipush (v := 64) hx hb dX12_cellsOn_71 (by decide +kernel) ?_
                          refine lv_iload_n hx hb dX12_cellsOn_73 rfl (lv_at hl 1 rfl) ?_
                          refine lv_iadd hx hb dX12_cellsOn_74 ?_
                          refine lv_topi (fun x_211 ex_211 => ?_)
                          have jx_211 : (x_211).toInt = 64 + (x_157).toInt := by rw [ex_211]; exact dk_addT2 (by decide +kernel) rfl (by omega)
                          refine lv_iload hx hb dX12_cellsOn_75 (lv_at hl 0 rfl) ?_
                          refine lv_bipush (v := 9) hx hb dX12_cellsOn_77 (by decide +kernel) ?_
                          have J_223 : ∀ (x_213 : Int32), ((-1) ≤ (x_213).toInt ∧ (x_213).toInt ≤ 9) → ((F_m_cellsOn_B1 o S) (x_157, x_158, S_159) = F_m_cellsOn_J4 S_159 x_211 x_213 x_157 x_167 x_158) → ∀ (H : Heap) (locs : List Loc), va_P D vwCl (dg_w g shM o rfM S_159) H → va_S A s.heap H locs → ∀ ls : Array Slot, lv_has ls 5 [(4, .int x_167), (3, .int x_157), (2, .int x_158), (0, .ref (o + 0)), (1, .int a1)] → W p l e ({ frames := 4, cells := 0, slots := 0, locals := 97 } : Room) s m args below meth c H locs 0 0 (MQ below (va_Qi (fun (r : Int32) S' => CM o S' ∧ dg_sm shM [] [31, 32] S S' ∧ (0 ≤ (r).toInt ∧ (r).toInt ≤ 1) ∧ (S' = (F_m_cellsOn o S a1).1 ∧ r = (F_m_cellsOn o S a1).2) ∧ True) (dg_B g D shM o rfM) A) args s 0 0 A) (F0 m 88 ls [.int x_213, .int x_211, .ref (o + 31)]) := by
                            as_aux_lemma =>
                              intro x_213 b_x_213 hF_4 H locs hP hS ls hl
                              have hin_224 : vp_in x_211 1408 := (dk_inv2 (by omega))
                              refine dg_iast hx hb K hP hS hA1 sM_31 hin_224 dX12_cellsOn_88 (fun S_225 e_225 H locs hP hS => ?_)
                              have I_225 := dg_I.ufu (lo := (-1)) (hi := 9) I_159 e_225 sM_31 (by decide +kernel) (show (-1) ≤ (x_213).toInt ∧ (x_213).toInt ≤ 9 from (by omega))
                              have M_225 := dg_sm.uf M_159 e_225 sM_31 (dk_dq rfl)
                              refine lv_aload_n hx hb dX12_cellsOn_89 rfl (lv_at hl 3 rfl) ?_
                              refine dg_get (C := RX12) (T := TX12) (N := 77) hx hb hts (fun w h => bw_mem (wU_X12 w h)) hown K hP sM_0 rfl 52 (dk_dq rfl) (hts _ (bw_mem wB_1097)) (fun _ h9 => h9) (v := .ref (o + 32)) (show S_225.1 0 52 = .ref (o + 32) from dg_I.rel (d := 32) I_225 sM_0 (by decide +kernel)) dX12_cellsOn_90 ?_
                              refine lv_bipush (v := 64) hx hb dX12_cellsOn_93 (by decide +kernel) ?_
                              refine lv_iload_n hx hb dX12_cellsOn_95 rfl (lv_at hl 1 rfl) ?_
                              refine lv_iadd hx hb dX12_cellsOn_96 ?_
                              refine lv_topi (fun x_226 ex_226 => ?_)
                              have jx_226 : (x_226).toInt = 64 + (x_157).toInt := by rw [ex_226]; exact dk_addT2 (by decide +kernel) rfl (by omega)
                              refine lv_iload hx hb dX12_cellsOn_97 (lv_at hl 0 rfl) ?_
                              refine lv_sipush (v := 254) hx hb dX12_cellsOn_99 (by decide +kernel) ?_
                              have J_233 : ∀ (x_228 : Int32), (0 ≤ (x_228).toInt ∧ (x_228).toInt ≤ 1) → ((F_m_cellsOn_B1 o S) (x_157, x_158, S_159) = F_m_cellsOn_J5 S_225 x_226 x_228 x_158 x_157) → ∀ (H : Heap) (locs : List Loc), va_P D vwCl (dg_w g shM o rfM S_225) H → va_S A s.heap H locs → ∀ ls : Array Slot, lv_has ls 5 [(4, .int x_167), (3, .int x_157), (2, .int x_158), (0, .ref (o + 0)), (1, .int a1)] → W p l e ({ frames := 4, cells := 0, slots := 0, locals := 97 } : Room) s m args below meth c H locs 0 0 (MQ below (va_Qi (fun (r : Int32) S' => CM o S' ∧ dg_sm shM [] [31, 32] S S' ∧ (0 ≤ (r).toInt ∧ (r).toInt ≤ 1) ∧ (S' = (F_m_cellsOn o S a1).1 ∧ r = (F_m_cellsOn o S a1).2) ∧ True) (dg_B g D shM o rfM) A) args s 0 0 A) (F0 m 110 ls [.int x_228, .int x_226, .ref (o + 32)]) := by
                                intro x_228 b_x_228 hF_5 H locs hP hS ls hl
                                have hin_234 : vp_in x_226 1408 := (dk_inv2 (by omega))
                                refine dg_iast hx hb K hP hS hA1 sM_32 hin_234 dX12_cellsOn_110 (fun S_235 e_235 H locs hP hS => ?_)
                                have I_235 := dg_I.uf0 I_225 e_235 sM_32 (by decide +kernel)
                                have M_235 := dg_sm.uf M_225 e_235 sM_32 (dk_dq rfl)
                                obtain ⟨x_236, ex_236⟩ : ∃ z, z = x_158 + 1 := ⟨_, rfl⟩
                                have jx_236 : (x_236).toInt = (x_158).toInt + 1 := by rw [ex_236]; exact dk_addT2 rfl (by decide +kernel) (by omega)
                                refine lv_iinc (v := x_236) (lv' := [(2, .int x_236), (4, .int x_167), (3, .int x_157), (0, .ref (o + 0)), (1, .int a1)]) hx hb dX12_cellsOn_111 hl (k := 2) rfl (by rw [ex_236]; rfl) (dk_dq rfl) rfl (fun ls hl => ?_)
                                obtain ⟨x_237, ex_237⟩ : ∃ z, z = x_157 + 1 := ⟨_, rfl⟩
                                have jx_237 : (x_237).toInt = (x_157).toInt + 1 := by rw [ex_237]; exact dk_addT2 rfl (by decide +kernel) (by omega)
                                refine lv_iinc (v := x_237) (lv' := [(3, .int x_237), (2, .int x_236), (4, .int x_167), (0, .ref (o + 0)), (1, .int a1)]) hx hb dX12_cellsOn_114 hl (k := 2) rfl (by rw [ex_237]; rfl) (dk_dq rfl) rfl (fun ls hl => ?_)
                                refine lv_goto (tgt := 4) hx hb dX12_cellsOn_117 (dk_dq rfl) ?_
                                exact ih x_237 x_236 (by omega) (by omega) (by omega) (by first | exact mu_lt hmu (by omega) (by omega) | omega) S_235 I_235 M_235  (lp_l hF_1 (Eq.trans hF_5 (F_m_cellsOn_p1 e_235 ex_236 ex_237))) _ _ hP hS _ (lv_sub hl [0, 1, 3, 4] rfl)
                              refine lv_icmp_ne (tgt := 109) hx hb dX12_cellsOn_102 (dk_dq rfl) (fun c_238 => ?_) (fun c_238 => ?_)
                              · have jc_238 := dk_neqc (k := 254) (by decide +kernel) c_238
                                refine lv_iconst (v := 0) hx hb dX12_cellsOn_109 (by decide +kernel) ?_
                                have hz_239 : (0 : Int32).toInt = 0 := by decide +kernel
                                exact J_233 0 (by decide +kernel) (Eq.trans hF_4 (F_m_cellsOn_p2 e_225 ex_226 c_238)) _ _ hP hS _ (lv_sub hl [0, 1, 2, 3, 4] rfl)
                              · have jc_238 := dk_eqc (k := 254) (by decide +kernel) c_238
                                refine lv_iconst (v := 1) hx hb dX12_cellsOn_105 (by decide +kernel) ?_
                                refine lv_goto (tgt := 110) hx hb dX12_cellsOn_106 (dk_dq rfl) ?_
                                have hz_240 : (1 : Int32).toInt = 1 := by decide +kernel
                                exact J_233 1 (by decide +kernel) (Eq.trans hF_4 (F_m_cellsOn_p3 e_225 ex_226 c_238)) _ _ hP hS _ (lv_sub hl [0, 1, 2, 3, 4] rfl)
                          refine lv_icmp_le (tgt := 86) hx hb dX12_cellsOn_79 (dk_dq rfl) (fun c_241 => ?_) (fun c_241 => ?_)
                          · have jc_241 := dk_lec (k := 9) (by decide +kernel) c_241
                            refine lv_iload hx hb dX12_cellsOn_86 (lv_at hl 0 rfl) ?_
                            exact J_223 x_167 (by omega) (Eq.trans hF_3 (F_m_cellsOn_p4 ex_211 c_241)) _ _ hP hS _ (lv_sub hl [0, 1, 2, 3, 4] rfl)
                          · have jc_241 := dk_nlec (k := 9) (by decide +kernel) c_241
                            refine lv_iconst (v := (-1)) hx hb dX12_cellsOn_82 (by decide +kernel) ?_
                            refine lv_goto (tgt := 88) hx hb dX12_cellsOn_83 (dk_dq rfl) ?_
                            have hz_242 : (-1 : Int32).toInt = (-1) := by decide +kernel
                            exact J_223 (-1) (by decide +kernel) (Eq.trans hF_3 (F_m_cellsOn_p5 ex_211 c_241)) _ _ hP hS _ (lv_sub hl [0, 1, 2, 3, 4] rfl)
                      refine lv_icmp_ne (tgt := 67) hx hb dX12_cellsOn_54 (dk_dq rfl) (fun c_243 => ?_) (fun c_243 => ?_)
                      · have jc_243 := dk_neqc (k := (x_193).toInt) rfl c_243
                        exact J_210   (Eq.trans hF_2 (F_m_cellsOn_p6 (zI_eq f_x_191) (Eq.symm ex_193.symm) c_243)) _ _ hP hS _ (lv_sub hl [0, 1, 2, 3, 4] rfl)
                      · have jc_243 := dk_eqc (k := (x_193).toInt) rfl c_243
                        refine lv_iload hx hb dX12_cellsOn_57 (lv_at hl 0 rfl) ?_
                        refine lv_sipush (v := 255) hx hb dX12_cellsOn_59 (by decide +kernel) ?_
                        refine lv_icmp_eq (tgt := 67) hx hb dX12_cellsOn_62 (dk_dq rfl) (fun c_244 => ?_) (fun c_244 => ?_)
                        · have jc_244 := dk_eqc (k := 255) (by decide +kernel) c_244
                          exact J_210   (Eq.trans hF_2 (F_m_cellsOn_p7 (zI_eq f_x_191) (Eq.symm ex_193.symm) c_243 c_244)) _ _ hP hS _ (lv_sub hl [0, 1, 2, 3, 4] rfl)
                        · have jc_244 := dk_neqc (k := 255) (by decide +kernel) c_244
                          refine lv_iconst (v := 0) hx hb dX12_cellsOn_65 (by decide +kernel) ?_
                          have hz_245 : (0 : Int32).toInt = 0 := by decide +kernel
                          refine W.widen (k := 0) (n := 0) (Nat.le_of_ble_eq_true rfl) (Nat.le_of_ble_eq_true rfl) ?_
                          exact dg_iret hx hb hr hlocks (by decide +kernel) hP hS ⟨I_159, M_159, (by decide +kernel), ⟨congrArg Prod.fst (Eq.symm (lp_r hF_1 (Eq.trans hF_2 (F_m_cellsOn_p8 (zI_eq f_x_191) (Eq.symm ex_193.symm) c_243 c_244)))), congrArg Prod.snd (Eq.symm (lp_r hF_1 (Eq.trans hF_2 (F_m_cellsOn_p8 (zI_eq f_x_191) (Eq.symm ex_193.symm) c_243 c_244))))⟩, trivial⟩ dX12_cellsOn_66
                  refine lv_icmp_le (tgt := 44) hx hb dX12_cellsOn_33 (dk_dq rfl) (fun c_246 => ?_) (fun c_246 => ?_)
                  · have jc_246 := dk_lec (k := 9) (by decide +kernel) c_246
                    exact J_190   (F_m_cellsOn_p9 c_161 w_164_2 c_165 (Eq.symm ex_167.symm) c_246) _ _ hP hS _ (lv_sub hl [0, 1, 2, 3, 4] rfl)
                  · have jc_246 := dk_nlec (k := 9) (by decide +kernel) c_246
                    refine lv_iload hx hb dX12_cellsOn_36 (lv_at hl 0 rfl) ?_
                    refine lv_sipush (v := 254) hx hb dX12_cellsOn_38 (by decide +kernel) ?_
                    refine lv_icmp_lt (tgt := 65) hx hb dX12_cellsOn_41 (dk_dq rfl) (fun c_247 => ?_) (fun c_247 => ?_)
                    · have jc_247 := dk_ltc (k := 254) (by decide +kernel) c_247
                      refine lv_iconst (v := 0) hx hb dX12_cellsOn_65 (by decide +kernel) ?_
                      have hz_248 : (0 : Int32).toInt = 0 := by decide +kernel
                      refine W.widen (k := 0) (n := 0) (Nat.le_of_ble_eq_true rfl) (Nat.le_of_ble_eq_true rfl) ?_
                      exact dg_iret hx hb hr hlocks (by decide +kernel) hP hS ⟨I_159, M_159, (by decide +kernel), ⟨congrArg Prod.fst (Eq.symm (lp_r hF_1 (F_m_cellsOn_p10 c_161 w_164_2 c_165 (Eq.symm ex_167.symm) c_246 c_247))), congrArg Prod.snd (Eq.symm (lp_r hF_1 (F_m_cellsOn_p10 c_161 w_164_2 c_165 (Eq.symm ex_167.symm) c_246 c_247)))⟩, trivial⟩ dX12_cellsOn_66
                    · have jc_247 := dk_nltc (k := 254) (by decide +kernel) c_247
                      exact J_190   (F_m_cellsOn_p11 c_161 w_164_2 c_165 (Eq.symm ex_167.symm) c_246 c_247) _ _ hP hS _ (lv_sub hl [0, 1, 2, 3, 4] rfl)
              · have jc_165 := dk_eqc (k := 0) (by decide +kernel) c_165
                refine lv_goto (tgt := 114) hx hb dX12_cellsOn_18 (dk_dq rfl) ?_
                obtain ⟨x_249, ex_249⟩ : ∃ z, z = x_157 + 1 := ⟨_, rfl⟩
                have jx_249 : (x_249).toInt = (x_157).toInt + 1 := by rw [ex_249]; exact dk_addT2 rfl (by decide +kernel) (by omega)
                refine lv_iinc (v := x_249) (lv' := [(3, .int x_249), (2, .int x_158), (0, .ref (o + 0)), (1, .int a1)]) hx hb dX12_cellsOn_114 hl (k := 0) rfl (by rw [ex_249]; rfl) (dk_dq rfl) rfl (fun ls hl => ?_)
                refine lv_goto (tgt := 4) hx hb dX12_cellsOn_117 (dk_dq rfl) ?_
                exact ih x_249 x_158 (by omega) (by omega) (by omega) (by first | exact mu_lt hmu (by omega) (by omega) | omega) S_159 I_159 M_159  (lp_l hF_1 (F_m_cellsOn_p12 c_161 w_164_2 c_165 ex_249)) _ _ hP hS _ (lv_sub hl [0, 1, 2, 3] rfl)
  have hz_250 : (0 : Int32).toInt = 0 := by decide +kernel
  have hz_251 : (0 : Int32).toInt = 0 := by decide +kernel
  have hz_252 : (0 : Int32).toInt = 0 := by decide +kernel
  exact L_160 ((65 - ((0 : Int32)).toInt).toNat + 1) 0 a1 (by decide +kernel) (by omega) (by omega) (by first | exact mu_lt hmu (by omega) (by omega) | omega) S I M_0  (F_m_cellsOn_p13) _ _ hP hS _ (lv_sub hl [0, 1, 2, 3] rfl)
noncomputable def F_m_plansOn_B1 (S : dg_S) (a1 : Int32) (o : Nat) : (Int32 × dg_S) → (Int32 × dg_S) ⊕ (dg_S × Int32) := fun w9 => match w9 with | (x_283, S_284) => let x_286 : Int32 := zI S 0 13; let x_288 : Int32 := S_284.2.1 9 (x_286 : Int32).toNatClampNeg; (if x_288 ≤ x_283 then (Sum.inr ((S_284, (1 : Int32)))) else let x_291 : Int32 := (3 : Int32) * x_283; let x_292 : Int32 := a1 + x_291; let x_294 : Int32 := S_284.2.1 1 (x_292 : Int32).toNatClampNeg; let x_295 : Int32 := F_m_isMiner o S_284 x_294; (if x_295 = (0 : Int32) then (Sum.inr ((S_284, (0 : Int32)))) else let x_299 : Int32 := x_292 + (1 : Int32); let x_301 : Int32 := S_284.2.1 1 (x_299 : Int32).toNatClampNeg; let x_303 : Int32 := x_292 + (2 : Int32); let x_305 : Int32 := S_284.2.1 1 (x_303 : Int32).toNatClampNeg; let x_308 : Int32 := zI S 0 47; let x_309 : Int32 := S_284.2.1 2 (x_286 : Int32).toNatClampNeg; let x_311 : Int32 := S_284.2.1 3 (x_286 : Int32).toNatClampNeg; let x_313 : Int32 := F_m_isCell o S_284 x_301 x_305; (if x_313 = (0 : Int32) then (Sum.inr ((S_284, (0 : Int32)))) else let x_316 : Int32 := (16 : Int32) + x_283; let S_320 : dg_S := dg_uf S_284 35 (upd (S_284.2.1 35) (x_316 : Int32).toNatClampNeg x_294); let x_321 : Int32 := (16 : Int32) + x_283; let x_322 : Int32 := x_292 + (2 : Int32); let x_324 : Int32 := S_320.2.1 1 (x_322 : Int32).toNatClampNeg; let x_328 : Int32 := (8 : Int32) * x_324; let x_329 : Int32 := x_292 + (1 : Int32); let x_331 : Int32 := S_320.2.1 1 (x_329 : Int32).toNatClampNeg; let x_336 : Int32 := x_328 + x_331; let S_338 : dg_S := dg_uf S_320 36 (upd (S_320.2.1 36) (x_321 : Int32).toNatClampNeg x_336); let x_339 : Int32 := x_283 + 1; (Sum.inl (x_339, S_338)))))
noncomputable def F_m_plansOn (o : Nat) (S : dg_S) (a1 : Int32) : dg_S × Int32 := (lp (F_m_plansOn_B1 S a1 o) (S, (0 : Int32)) ((17 - ((0 : Int32)).toInt).toNat + 1) ((0 : Int32), S))
theorem F_m_plansOn_p0 {S : dg_S} {a1 : Int32} {o : Nat} {x_283 : Int32} {S_284 : dg_S} {x_286 : Int32} {x_288 : Int32} (h0 : x_286 = zI S 0 13) (h1 : x_288 = S_284.2.1 9 (x_286 : Int32).toNatClampNeg) (h2 : x_288 ≤ x_283) : (F_m_plansOn_B1 S a1 o) (x_283, S_284) = Sum.inr ((S_284, (1 : Int32))) := by
  replace h0 := Eq.symm h0
  subst h0
  replace h1 := Eq.symm h1
  subst h1
  exact (Eq.trans (if_pos h2) rfl)
theorem F_m_plansOn_p1 {S : dg_S} {a1 : Int32} {o : Nat} {x_283 : Int32} {S_284 : dg_S} {x_286 : Int32} {x_288 : Int32} {x_291 : Int32} {x_292 : Int32} {x_294 : Int32} {x_295 : Int32} (h0 : x_286 = zI S 0 13) (h1 : x_288 = S_284.2.1 9 (x_286 : Int32).toNatClampNeg) (h2 : ¬ (x_288 ≤ x_283)) (h3 : x_291 = (3 : Int32) * x_283) (h4 : x_292 = a1 + x_291) (h5 : x_294 = S_284.2.1 1 (x_292 : Int32).toNatClampNeg) (h6 : x_295 = F_m_isMiner o S_284 x_294) (h7 : x_295 = (0 : Int32)) : (F_m_plansOn_B1 S a1 o) (x_283, S_284) = Sum.inr ((S_284, (0 : Int32))) := by
  replace h0 := Eq.symm h0
  subst h0
  replace h1 := Eq.symm h1
  subst h1
  replace h3 := Eq.symm h3
  subst h3
  replace h4 := Eq.symm h4
  subst h4
  replace h5 := Eq.symm h5
  subst h5
  replace h6 := Eq.symm h6
  subst h6
  exact (Eq.trans (if_neg h2) (Eq.trans (if_pos h7) rfl))
theorem F_m_plansOn_p2 {S : dg_S} {a1 : Int32} {o : Nat} {x_283 : Int32} {S_284 : dg_S} {x_339 : Int32} {S_338 : dg_S} {x_286 : Int32} {x_288 : Int32} {x_291 : Int32} {x_292 : Int32} {x_294 : Int32} {x_295 : Int32} {x_299 : Int32} {x_301 : Int32} {x_303 : Int32} {x_305 : Int32} {x_313 : Int32} {x_316 : Int32} {S_320 : dg_S} {x_321 : Int32} {x_322 : Int32} {x_324 : Int32} {x_328 : Int32} {x_329 : Int32} {x_331 : Int32} {x_336 : Int32} (h0 : x_286 = zI S 0 13) (h1 : x_288 = S_284.2.1 9 (x_286 : Int32).toNatClampNeg) (h2 : ¬ (x_288 ≤ x_283)) (h3 : x_291 = (3 : Int32) * x_283) (h4 : x_292 = a1 + x_291) (h5 : x_294 = S_284.2.1 1 (x_292 : Int32).toNatClampNeg) (h6 : x_295 = F_m_isMiner o S_284 x_294) (h7 : ¬ (x_295 = (0 : Int32))) (h8 : x_299 = x_292 + (1 : Int32)) (h9 : x_301 = S_284.2.1 1 (x_299 : Int32).toNatClampNeg) (h10 : x_303 = x_292 + (2 : Int32)) (h11 : x_305 = S_284.2.1 1 (x_303 : Int32).toNatClampNeg) (h12 : x_313 = F_m_isCell o S_284 x_301 x_305) (h13 : ¬ (x_313 = (0 : Int32))) (h14 : x_316 = (16 : Int32) + x_283) (h15 : S_320 = dg_uf S_284 35 (upd (S_284.2.1 35) (x_316 : Int32).toNatClampNeg x_294)) (h16 : x_321 = (16 : Int32) + x_283) (h17 : x_322 = x_292 + (2 : Int32)) (h18 : x_324 = S_320.2.1 1 (x_322 : Int32).toNatClampNeg) (h19 : x_328 = (8 : Int32) * x_324) (h20 : x_329 = x_292 + (1 : Int32)) (h21 : x_331 = S_320.2.1 1 (x_329 : Int32).toNatClampNeg) (h22 : x_336 = x_328 + x_331) (h23 : S_338 = dg_uf S_320 36 (upd (S_320.2.1 36) (x_321 : Int32).toNatClampNeg x_336)) (h24 : x_339 = x_283 + 1) : (F_m_plansOn_B1 S a1 o) (x_283, S_284) = Sum.inl (x_339, S_338) := by
  replace h0 := Eq.symm h0
  subst h0
  replace h1 := Eq.symm h1
  subst h1
  replace h3 := Eq.symm h3
  subst h3
  replace h4 := Eq.symm h4
  subst h4
  replace h5 := Eq.symm h5
  subst h5
  replace h6 := Eq.symm h6
  subst h6
  replace h8 := Eq.symm h8
  subst h8
  replace h9 := Eq.symm h9
  subst h9
  replace h10 := Eq.symm h10
  subst h10
  replace h11 := Eq.symm h11
  subst h11
  replace h12 := Eq.symm h12
  subst h12
  replace h14 := Eq.symm h14
  subst h14
  replace h15 := Eq.symm h15
  subst h15
  replace h16 := Eq.symm h16
  subst h16
  replace h17 := Eq.symm h17
  subst h17
  replace h18 := Eq.symm h18
  subst h18
  replace h19 := Eq.symm h19
  subst h19
  replace h20 := Eq.symm h20
  subst h20
  replace h21 := Eq.symm h21
  subst h21
  replace h22 := Eq.symm h22
  subst h22
  replace h23 := Eq.symm h23
  subst h23
  replace h24 := Eq.symm h24
  subst h24
  exact (Eq.trans (if_neg h2) (Eq.trans (if_neg h7) (Eq.trans (if_neg h13) rfl)))
theorem F_m_plansOn_p3 {S : dg_S} {a1 : Int32} {o : Nat} {x_283 : Int32} {S_284 : dg_S} {x_286 : Int32} {x_288 : Int32} {x_291 : Int32} {x_292 : Int32} {x_294 : Int32} {x_295 : Int32} {x_299 : Int32} {x_301 : Int32} {x_303 : Int32} {x_305 : Int32} {x_313 : Int32} (h0 : x_286 = zI S 0 13) (h1 : x_288 = S_284.2.1 9 (x_286 : Int32).toNatClampNeg) (h2 : ¬ (x_288 ≤ x_283)) (h3 : x_291 = (3 : Int32) * x_283) (h4 : x_292 = a1 + x_291) (h5 : x_294 = S_284.2.1 1 (x_292 : Int32).toNatClampNeg) (h6 : x_295 = F_m_isMiner o S_284 x_294) (h7 : ¬ (x_295 = (0 : Int32))) (h8 : x_299 = x_292 + (1 : Int32)) (h9 : x_301 = S_284.2.1 1 (x_299 : Int32).toNatClampNeg) (h10 : x_303 = x_292 + (2 : Int32)) (h11 : x_305 = S_284.2.1 1 (x_303 : Int32).toNatClampNeg) (h12 : x_313 = F_m_isCell o S_284 x_301 x_305) (h13 : x_313 = (0 : Int32)) : (F_m_plansOn_B1 S a1 o) (x_283, S_284) = Sum.inr ((S_284, (0 : Int32))) := by
  replace h0 := Eq.symm h0
  subst h0
  replace h1 := Eq.symm h1
  subst h1
  replace h3 := Eq.symm h3
  subst h3
  replace h4 := Eq.symm h4
  subst h4
  replace h5 := Eq.symm h5
  subst h5
  replace h6 := Eq.symm h6
  subst h6
  replace h8 := Eq.symm h8
  subst h8
  replace h9 := Eq.symm h9
  subst h9
  replace h10 := Eq.symm h10
  subst h10
  replace h11 := Eq.symm h11
  subst h11
  replace h12 := Eq.symm h12
  subst h12
  exact (Eq.trans (if_neg h2) (Eq.trans (if_neg h7) (Eq.trans (if_pos h13) rfl)))
theorem F_m_plansOn_p4 {o : Nat} {S : dg_S} {a1 : Int32}  : F_m_plansOn o S a1 = lp (F_m_plansOn_B1 S a1 o) (S, (0 : Int32)) ((17 - ((0 : Int32)).toInt).toNat + 1) ((0 : Int32), S) := rfl
set_option maxHeartbeats 8000000 in
set_option maxRecDepth 100000 in
theorem c_m_plansOn (l : Launch) (g : Nat → ClassId) (D : va_G) (o : Nat) (S : dg_S) (a1 : Int32) (b_a1 : 0 ≤ (a1).toInt ∧ (a1).toInt ≤ 200) (ZB : ZBM S) (I : CM o S) (sz : Nat) : Met l yX12_plansOn (bw yX12_plansOn cX12_plansOn 4 (some .boolean)) ({ frames := 3, cells := 0, slots := 0, locals := 76 } : Room) (dk_Pc g D (dg_w g shM o rfM S) sz [.ref (o + 0), .int a1]) (va_Qi (fun (r : Int32) S' => CM o S' ∧ dg_sm shM [] [35, 36] S S' ∧ (0 ≤ (r).toInt ∧ (r).toInt ≤ 1) ∧ (S' = (F_m_plansOn o S a1).1 ∧ r = (F_m_plansOn o S a1).2) ∧ True) (dg_B g D shM o rfM) (dg_A o shM.length sz)) 0 0 (dg_A o shM.length sz) := by
  refine dg_met (cc := cX12_plansOn) (maxL := 4) (ret := (some .boolean)) (dk_dq rfl) rfl (Nat.le_of_ble_eq_true rfl) ?_
  intro p e s m args below meth c A hAe harg hx hb hr hml hts hown hlocks hin hP K hS hA1 hA ST hsz ls hl
  rw [← hAe]
  have F : CallFix p m c cX12_plansOn 4 s args (bw yX12_plansOn cX12_plansOn 4 (some .boolean)) RX12 := ⟨hx, hb, hml, hown, hts⟩
  have hl : lv_has ls 4 [(0, .ref (o + 0)), (1, .int a1)] := hl
  have M_0 : dg_sm shM [] [35, 36] S S := dg_sm.rf
  refine lv_iconst (v := 0) hx hb dX12_plansOn_0 (by decide +kernel) ?_
  refine lv_istore_n (lv' := [(2, .int 0), (0, .ref (o + 0)), (1, .int a1)]) hx hb dX12_plansOn_1 rfl hl (dk_dq rfl) rfl (fun ls hl => ?_)
  have L_285 : ∀ (n : Nat) (x_283 : Int32), (0 ≤ (x_283).toInt ∧ (x_283).toInt ≤ 16) → ((17 - (x_283).toInt).toNat < n) → ∀ S_284 : dg_S, CM o S_284 → dg_sm shM [] [35, 36] S S_284 → (F_m_plansOn o S a1 = lp (F_m_plansOn_B1 S a1 o) (S, (0 : Int32)) n (x_283, S_284)) → ∀ (H : Heap) (locs : List Loc), va_P D vwCl (dg_w g shM o rfM S_284) H → va_S A s.heap H locs → ∀ ls : Array Slot, lv_has ls 4 [(2, .int x_283), (0, .ref (o + 0)), (1, .int a1)] → W p l e ({ frames := 3, cells := 0, slots := 0, locals := 76 } : Room) s m args below meth c H locs 0 0 (MQ below (va_Qi (fun (r : Int32) S' => CM o S' ∧ dg_sm shM [] [35, 36] S S' ∧ (0 ≤ (r).toInt ∧ (r).toInt ≤ 1) ∧ (S' = (F_m_plansOn o S a1).1 ∧ r = (F_m_plansOn o S a1).2) ∧ True) (dg_B g D shM o rfM) A) args s 0 0 A) (F0 m 2 ls []) := by
    as_aux_lemma =>
      intro n
      induction n with
      | zero =>
        intro x_283 b_x_283 hmu S_284 I_284 M_284 hF_1 H locs hP hS ls hl
        omega
      | succ n ih =>
        as_aux_lemma =>
          intro x_283 b_x_283 hmu S_284 I_284 M_284 hF_1 H locs hP hS ls hl
          refine lv_iload_n hx hb dX12_plansOn_2 rfl (lv_at hl 0 rfl) ?_
          refine lv_aload_n hx hb dX12_plansOn_3 rfl (lv_at hl 1 rfl) ?_
          refine dg_get (C := RX12) (T := TX12) (N := 77) hx hb hts (fun w h => bw_mem (wU_X12 w h)) hown K hP sM_0 rfl 21 (dk_dq rfl) (hts _ (bw_mem wB_391)) (fun _ h9 => h9) (v := .ref (o + 9)) (show S_284.1 0 21 = .ref (o + 9) from dg_I.rel (d := 9) I_284 sM_0 (by decide +kernel)) dX12_plansOn_4 ?_
          refine lv_aload_n hx hb dX12_plansOn_7 rfl (lv_at hl 1 rfl) ?_
          obtain ⟨x_286, f_x_286, b_x_286⟩ := dg_I.int (i := 0) (k := 13) (lo := 0) (hi := 1) I sM_0 (by decide +kernel)
          refine dg_get (C := RX12) (T := TX12) (N := 77) hx hb hts (fun w h => bw_mem (wU_X12 w h)) hown K hP sM_0 rfl 13 (dk_dq rfl) (hts _ (bw_mem wB_1085)) (fun _ h9 => h9) (v := .int x_286) ((M_284.1 0 13 _ sM_0 (dk_dq rfl)).trans f_x_286) dX12_plansOn_8 ?_
          have hin_287 : vp_in x_286 2 := (dk_inv2 (by omega))
          refine dg_iald hx hb K hP sM_9 hin_287 dX12_plansOn_11 (fun x_288 ex_288 => ?_)
          have b_x_288 := dk_all_at (dg_I.row (lo := 0) (hi := 16) I_284 sM_9 (by decide +kernel)) hin_287 ex_288
          refine lv_icmp_ge (tgt := 109) hx hb dX12_plansOn_12 (dk_dq rfl) (fun c_289 => ?_) (fun c_289 => ?_)
          · have jc_289 := dk_gec (k := (x_288).toInt) rfl c_289
            refine lv_iconst (v := 1) hx hb dX12_plansOn_109 (by decide +kernel) ?_
            have hz_290 : (1 : Int32).toInt = 1 := by decide +kernel
            refine W.widen (k := 0) (n := 0) (Nat.le_of_ble_eq_true rfl) (Nat.le_of_ble_eq_true rfl) ?_
            exact dg_iret hx hb hr hlocks (by decide +kernel) hP hS ⟨I_284, M_284, (by decide +kernel), ⟨congrArg Prod.fst (Eq.symm (lp_r hF_1 (F_m_plansOn_p0 (zI_eq f_x_286) (Eq.symm ex_288.symm) c_289))), congrArg Prod.snd (Eq.symm (lp_r hF_1 (F_m_plansOn_p0 (zI_eq f_x_286) (Eq.symm ex_288.symm) c_289)))⟩, trivial⟩ dX12_plansOn_110
          · as_aux_lemma =>
              have jc_289 := dk_ngec (k := (x_288).toInt) rfl c_289
              refine lv_iload_n hx hb dX12_plansOn_15 rfl (lv_at hl 2 rfl) ?_
              refine lv_iconst (v := 3) hx hb dX12_plansOn_16 (by decide +kernel) ?_
              refine lv_iload_n hx hb dX12_plansOn_17 rfl (lv_at hl 0 rfl) ?_
              refine lv_imul hx hb dX12_plansOn_18 ?_
              refine lv_topi (fun x_291 ex_291 => ?_)
              have jx_291 : (x_291).toInt = 3 * (x_283).toInt := by rw [ex_291]; exact dk_mulT2 (by decide +kernel) rfl (by omega)
              refine lv_iadd hx hb dX12_plansOn_19 ?_
              refine lv_topi (fun x_292 ex_292 => ?_)
              have jx_292 : (x_292).toInt = (a1).toInt + (x_291).toInt := by rw [ex_292]; exact dk_addT2 rfl rfl (by omega)
              refine lv_istore_n (lv' := [(3, .int x_292), (2, .int x_283), (0, .ref (o + 0)), (1, .int a1)]) hx hb dX12_plansOn_20 rfl hl (dk_dq rfl) rfl (fun ls hl => ?_)
              refine lv_aload_n hx hb dX12_plansOn_21 rfl (lv_at hl 2 rfl) ?_
              refine lv_aload_n hx hb dX12_plansOn_22 rfl (lv_at hl 2 rfl) ?_
              refine dg_get (C := RX12) (T := TX12) (N := 77) hx hb hts (fun w h => bw_mem (wU_X12 w h)) hown K hP sM_0 rfl 0 (dk_dq rfl) (hts _ (bw_mem wB_290)) (fun _ h9 => h9) (v := .ref (o + 1)) (show S_284.1 0 0 = .ref (o + 1) from dg_I.rel (d := 1) I_284 sM_0 (by decide +kernel)) dX12_plansOn_23 ?_
              refine lv_iload_n hx hb dX12_plansOn_26 rfl (lv_at hl 0 rfl) ?_
              have hin_293 : vp_in x_292 1800 := (dk_inv2 (by omega))
              refine dg_iald hx hb K hP sM_1 hin_293 dX12_plansOn_27 (fun x_294 ex_294 => ?_)
              have b_x_294 := dk_all_at (dg_I.row (lo := 0) (hi := 255) I_284 sM_1 (by decide +kernel)) hin_293 ex_294
              refine dg_calli hS hA1 hA (va_runV (As := [.int x_294]) (rest := []) F (c_m_isMiner l g D o S_284 x_294 I_284 H.size) (cwV 1 hts (bw_V wB_1208 wB_1209 wB_1210 wB_297 wB_1207) rfl rfl rfl (by decide +kernel) ⟨Nat.le_of_ble_eq_true rfl, Nat.le_of_ble_eq_true rfl⟩) (dg_preV sM_0 rfl K ST hP hS hA1 hA) rfl rfl hl.1 rfl (lv_room (Nat.le_of_ble_eq_true rfl)) dX12_plansOn_28 ⟨Nat.le_of_ble_eq_true rfl, Nat.le_of_ble_eq_true rfl⟩) (fun x_295 S_296 hw_296 H locs hP hS => ?_)
              rw [hw_296.1] at hP
              obtain ⟨hq_296, w_296_0, w_296_1, w_296_2, -⟩ := hw_296
              have w_296_0 : 0 ≤ (x_295).toInt ∧ (x_295).toInt ≤ 1 := w_296_0
              have w_296_1 : (x_295).toInt = 1 → (0 ≤ (x_294).toInt ∧ (x_294).toInt ≤ 5) := w_296_1
              refine lv_if_eq (tgt := 57) hx hb dX12_plansOn_31 (dk_dq rfl) (fun c_297 => ?_) (fun c_297 => ?_)
              · have jc_297 := dk_eqc (k := 0) (by decide +kernel) c_297
                refine lv_iconst (v := 0) hx hb dX12_plansOn_57 (by decide +kernel) ?_
                have hz_298 : (0 : Int32).toInt = 0 := by decide +kernel
                refine W.widen (k := 0) (n := 0) (Nat.le_of_ble_eq_true rfl) (Nat.le_of_ble_eq_true rfl) ?_
                exact dg_iret hx hb hr hlocks (by decide +kernel) hP hS ⟨I_284, M_284, (by decide +kernel), ⟨congrArg Prod.fst (Eq.symm (lp_r hF_1 (F_m_plansOn_p1 (zI_eq f_x_286) (Eq.symm ex_288.symm) c_289 ex_291 ex_292 (Eq.symm ex_294.symm) w_296_2 c_297))), congrArg Prod.snd (Eq.symm (lp_r hF_1 (F_m_plansOn_p1 (zI_eq f_x_286) (Eq.symm ex_288.symm) c_289 ex_291 ex_292 (Eq.symm ex_294.symm) w_296_2 c_297)))⟩, trivial⟩ dX12_plansOn_58
              · as_aux_lemma =>
                  have jc_297 := dk_neqc (k := 0) (by decide +kernel) c_297
                  refine lv_aload_n hx hb dX12_plansOn_34 rfl (lv_at hl 2 rfl) ?_
                  refine lv_aload_n hx hb dX12_plansOn_35 rfl (lv_at hl 2 rfl) ?_
                  refine dg_get (C := RX12) (T := TX12) (N := 77) hx hb hts (fun w h => bw_mem (wU_X12 w h)) hown K hP sM_0 rfl 0 (dk_dq rfl) (hts _ (bw_mem wB_290)) (fun _ h9 => h9) (v := .ref (o + 1)) (show S_284.1 0 0 = .ref (o + 1) from dg_I.rel (d := 1) I_284 sM_0 (by decide +kernel)) dX12_plansOn_36 ?_
                  refine lv_iload_n hx hb dX12_plansOn_39 rfl (lv_at hl 0 rfl) ?_
                  refine lv_iconst (v := 1) hx hb dX12_plansOn_40 (by decide +kernel) ?_
                  refine lv_iadd hx hb dX12_plansOn_41 ?_
                  refine lv_topi (fun x_299 ex_299 => ?_)
                  have jx_299 : (x_299).toInt = (x_292).toInt + 1 := by rw [ex_299]; exact dk_addT2 rfl (by decide +kernel) (by omega)
                  have hin_300 : vp_in x_299 1800 := (dk_inv2 (by omega))
                  refine dg_iald hx hb K hP sM_1 hin_300 dX12_plansOn_42 (fun x_301 ex_301 => ?_)
                  have b_x_301 := dk_all_at (dg_I.row (lo := 0) (hi := 255) I_284 sM_1 (by decide +kernel)) hin_300 ex_301
                  have htw_301 : (x_299 : Int32).toInt = (x_292 : Int32).toInt → (x_301).toInt = (x_294 : Int32).toInt := fun h => by have h9 := Int32.toInt_inj.mp h; rw [ex_301, h9]; exact congrArg Int32.toInt ex_294.symm
                  refine lv_aload_n hx hb dX12_plansOn_43 rfl (lv_at hl 2 rfl) ?_
                  refine dg_get (C := RX12) (T := TX12) (N := 77) hx hb hts (fun w h => bw_mem (wU_X12 w h)) hown K hP sM_0 rfl 0 (dk_dq rfl) (hts _ (bw_mem wB_290)) (fun _ h9 => h9) (v := .ref (o + 1)) (show S_284.1 0 0 = .ref (o + 1) from dg_I.rel (d := 1) I_284 sM_0 (by decide +kernel)) dX12_plansOn_44 ?_
                  refine lv_iload_n hx hb dX12_plansOn_47 rfl (lv_at hl 0 rfl) ?_
                  refine lv_iconst (v := 2) hx hb dX12_plansOn_48 (by decide +kernel) ?_
                  refine lv_iadd hx hb dX12_plansOn_49 ?_
                  refine lv_topi (fun x_303 ex_303 => ?_)
                  have jx_303 : (x_303).toInt = (x_292).toInt + 2 := by rw [ex_303]; exact dk_addT2 rfl (by decide +kernel) (by omega)
                  have hin_304 : vp_in x_303 1800 := (dk_inv2 (by omega))
                  refine dg_iald hx hb K hP sM_1 hin_304 dX12_plansOn_50 (fun x_305 ex_305 => ?_)
                  have b_x_305 := dk_all_at (dg_I.row (lo := 0) (hi := 255) I_284 sM_1 (by decide +kernel)) hin_304 ex_305
                  have htw_305 : (x_303 : Int32).toInt = (x_292 : Int32).toInt → (x_305).toInt = (x_294 : Int32).toInt := fun h => by have h9 := Int32.toInt_inj.mp h; rw [ex_305, h9]; exact congrArg Int32.toInt ex_294.symm
                  have htw_306 : (x_303 : Int32).toInt = (x_299 : Int32).toInt → (x_305).toInt = (x_301 : Int32).toInt := fun h => by have h9 := Int32.toInt_inj.mp h; rw [ex_305, h9]; exact congrArg Int32.toInt ex_301.symm
                  obtain ⟨x_308, f_x_308, b_x_308⟩ := dg_I.int (i := 0) (k := 47) (lo := 0) (hi := 1) I sM_0 (by decide +kernel)
                  obtain ⟨x_309, f_x_309⟩ : ∃ x, S_284.2.1 2 (x_286 : Int32).toNatClampNeg = x := ⟨_, rfl⟩
                  have hin_310 : vp_in (x_286 : Int32) 2 := (dk_inv2 (by omega))
                  have b_x_309 := dk_all_at (dg_I.row (lo := 0) (hi := 9999) I_284 sM_2 (by decide +kernel)) hin_310 f_x_309.symm
                  have ex_309 := f_x_309.symm
                  have zb_x_309 : (x_309).toInt ≤ 7 ∧ ((x_308 : Int32).toInt = 1 → 3 ≤ (x_309).toInt) := by rw [ex_309]; exact ⟨((ZBM.keep ZB M_284 (dk_dq rfl) (dk_dq rfl) (dk_dq rfl) (dk_dq rfl) (dk_dq rfl)) x_286 x_308 ((M_284.1 0 13 _ sM_0 (dk_dq rfl)).trans f_x_286) ((M_284.1 0 47 _ sM_0 (dk_dq rfl)).trans f_x_308)).1, fun h9 => (((ZBM.keep ZB M_284 (dk_dq rfl) (dk_dq rfl) (dk_dq rfl) (dk_dq rfl) (dk_dq rfl)) x_286 x_308 ((M_284.1 0 13 _ sM_0 (dk_dq rfl)).trans f_x_286) ((M_284.1 0 47 _ sM_0 (dk_dq rfl)).trans f_x_308)).2.2.2 h9).1⟩
                  obtain ⟨x_311, f_x_311⟩ : ∃ x, S_284.2.1 3 (x_286 : Int32).toNatClampNeg = x := ⟨_, rfl⟩
                  have hin_312 : vp_in (x_286 : Int32) 2 := (dk_inv2 (by omega))
                  have b_x_311 := dk_all_at (dg_I.row (lo := 0) (hi := 9999) I_284 sM_3 (by decide +kernel)) hin_312 f_x_311.symm
                  have ex_311 := f_x_311.symm
                  have zb_x_311 : (x_311).toInt ≤ 7 ∧ ((x_308 : Int32).toInt = 1 → 3 ≤ (x_311).toInt) := by rw [ex_311]; exact ⟨((ZBM.keep ZB M_284 (dk_dq rfl) (dk_dq rfl) (dk_dq rfl) (dk_dq rfl) (dk_dq rfl)) x_286 x_308 ((M_284.1 0 13 _ sM_0 (dk_dq rfl)).trans f_x_286) ((M_284.1 0 47 _ sM_0 (dk_dq rfl)).trans f_x_308)).2.1, fun h9 => (((ZBM.keep ZB M_284 (dk_dq rfl) (dk_dq rfl) (dk_dq rfl) (dk_dq rfl) (dk_dq rfl)) x_286 x_308 ((M_284.1 0 13 _ sM_0 (dk_dq rfl)).trans f_x_286) ((M_284.1 0 47 _ sM_0 (dk_dq rfl)).trans f_x_308)).2.2.2 h9).2⟩
                  refine dg_calli hS hA1 hA (va_runV (As := [.int x_301, .int x_305]) (rest := []) F (c_m_isCell l g D o S_284 x_301 x_305 x_286 ((M_284.1 0 13 _ sM_0 (dk_dq rfl)).trans f_x_286) (by omega) x_308 ((M_284.1 0 47 _ sM_0 (dk_dq rfl)).trans f_x_308) (by omega) x_309 f_x_309 (by omega) x_311 f_x_311 (by omega) (ZBM.keep ZB M_284 (dk_dq rfl) (dk_dq rfl) (dk_dq rfl) (dk_dq rfl) (dk_dq rfl)) I_284 H.size) (cwV 2 hts (bw_V wB_1087 wB_1088 wB_1089 wB_297 wB_1086) rfl rfl rfl (by decide +kernel) ⟨Nat.le_of_ble_eq_true rfl, Nat.le_of_ble_eq_true rfl⟩) (dg_preV sM_0 rfl K ST hP hS hA1 hA) rfl rfl hl.1 rfl (lv_room (Nat.le_of_ble_eq_true rfl)) dX12_plansOn_51 ⟨Nat.le_of_ble_eq_true rfl, Nat.le_of_ble_eq_true rfl⟩) (fun x_313 S_314 hw_314 H locs hP hS => ?_)
                  rw [hw_314.1] at hP
                  obtain ⟨hq_314, w_314_0, w_314_1, w_314_2, w_314_3, -⟩ := hw_314
                  have w_314_0 : 0 ≤ (x_313).toInt ∧ (x_313).toInt ≤ 1 := w_314_0
                  have w_314_1 : (x_313).toInt = 1 → (0 ≤ (x_301).toInt ∧ (x_301).toInt ≤ 6 ∧ 0 ≤ (x_305).toInt ∧ (x_305).toInt ≤ 6) := w_314_1
                  have w_314_2 : (x_313).toInt = 1 ↔ ((x_308).toInt = 1 ∧ 0 ≤ (x_301).toInt ∧ (x_301).toInt < (x_309).toInt ∧ 0 ≤ (x_305).toInt ∧ (x_305).toInt < (x_311).toInt) := w_314_2
                  as_aux_lemma =>
                    refine lv_if_ne (tgt := 59) hx hb dX12_plansOn_54 (dk_dq rfl) (fun c_315 => ?_) (fun c_315 => ?_)
                    · as_aux_lemma =>
                        have jc_315 := dk_neqc (k := 0) (by decide +kernel) c_315
                        refine lv_aload_n hx hb dX12_plansOn_59 rfl (lv_at hl 2 rfl) ?_
                        refine dg_get (C := RX12) (T := TX12) (N := 77) hx hb hts (fun w h => bw_mem (wU_X12 w h)) hown K hP sM_0 rfl 55 (dk_dq rfl) (hts _ (bw_mem wB_1132)) (fun _ h9 => h9) (v := .ref (o + 35)) (show S_284.1 0 55 = .ref (o + 35) from dg_I.rel (d := 35) I_284 sM_0 (by decide +kernel)) dX12_plansOn_60 ?_
                        refine lv_bipush (v := 16) hx hb dX12_plansOn_63 (by decide +kernel) ?_
                        refine lv_iload_n hx hb dX12_plansOn_65 rfl (lv_at hl 1 rfl) ?_
                        refine lv_iadd hx hb dX12_plansOn_66 ?_
                        refine lv_topi (fun x_316 ex_316 => ?_)
                        have jx_316 : (x_316).toInt = 16 + (x_283).toInt := by rw [ex_316]; exact dk_addT2 (by decide +kernel) rfl (by omega)
                        refine lv_aload_n hx hb dX12_plansOn_67 rfl (lv_at hl 2 rfl) ?_
                        refine dg_get (C := RX12) (T := TX12) (N := 77) hx hb hts (fun w h => bw_mem (wU_X12 w h)) hown K hP sM_0 rfl 0 (dk_dq rfl) (hts _ (bw_mem wB_290)) (fun _ h9 => h9) (v := .ref (o + 1)) (show S_284.1 0 0 = .ref (o + 1) from dg_I.rel (d := 1) I_284 sM_0 (by decide +kernel)) dX12_plansOn_68 ?_
                        refine lv_iload_n hx hb dX12_plansOn_71 rfl (lv_at hl 0 rfl) ?_
                        have hin_317 : vp_in x_292 1800 := (dk_inv2 (by omega))
                        refine dg_iald hx hb K hP sM_1 hin_317 dX12_plansOn_72 (fun y_318 ey_318 => ?_)
                        obtain rfl : x_294 = y_318 := (ey_318.trans ex_294.symm).symm
                        have hin_319 : vp_in x_316 352 := (dk_inv2 (by omega))
                        refine dg_iast hx hb K hP hS hA1 sM_35 hin_319 dX12_plansOn_73 (fun S_320 e_320 H locs hP hS => ?_)
                        have I_320 := dg_I.uf0 I_284 e_320 sM_35 (by decide +kernel)
                        have M_320 := dg_sm.uf M_284 e_320 sM_35 (dk_dq rfl)
                        refine lv_aload_n hx hb dX12_plansOn_74 rfl (lv_at hl 2 rfl) ?_
                        refine dg_get (C := RX12) (T := TX12) (N := 77) hx hb hts (fun w h => bw_mem (wU_X12 w h)) hown K hP sM_0 rfl 56 (dk_dq rfl) (hts _ (bw_mem wB_1133)) (fun _ h9 => h9) (v := .ref (o + 36)) (show S_320.1 0 56 = .ref (o + 36) from dg_I.rel (d := 36) I_320 sM_0 (by decide +kernel)) dX12_plansOn_75 ?_
                        refine lv_bipush (v := 16) hx hb dX12_plansOn_78 (by decide +kernel) ?_
                        refine lv_iload_n hx hb dX12_plansOn_80 rfl (lv_at hl 1 rfl) ?_
                        refine lv_iadd hx hb dX12_plansOn_81 ?_
                        refine lv_topi (fun x_321 ex_321 => ?_)
                        have jx_321 : (x_321).toInt = 16 + (x_283).toInt := by rw [ex_321]; exact dk_addT2 (by decide +kernel) rfl (by omega)
                        refine lv_bipush (v := 8) hx hb dX12_plansOn_82 (by decide +kernel) ?_
                        refine lv_aload_n hx hb dX12_plansOn_84 rfl (lv_at hl 2 rfl) ?_
                        refine dg_get (C := RX12) (T := TX12) (N := 77) hx hb hts (fun w h => bw_mem (wU_X12 w h)) hown K hP sM_0 rfl 0 (dk_dq rfl) (hts _ (bw_mem wB_290)) (fun _ h9 => h9) (v := .ref (o + 1)) (show S_320.1 0 0 = .ref (o + 1) from dg_I.rel (d := 1) I_320 sM_0 (by decide +kernel)) dX12_plansOn_85 ?_
                        refine lv_iload_n hx hb dX12_plansOn_88 rfl (lv_at hl 0 rfl) ?_
                        refine lv_iconst (v := 2) hx hb dX12_plansOn_89 (by decide +kernel) ?_
                        refine lv_iadd hx hb dX12_plansOn_90 ?_
                        refine lv_topi (fun x_322 ex_322 => ?_)
                        have jx_322 : (x_322).toInt = (x_292).toInt + 2 := by rw [ex_322]; exact dk_addT2 rfl (by decide +kernel) (by omega)
                        have hin_323 : vp_in x_322 1800 := (dk_inv2 (by omega))
                        refine dg_iald hx hb K hP sM_1 hin_323 dX12_plansOn_91 (fun x_324 ex_324 => ?_)
                        have b_x_324 := dk_all_at (dg_I.row (lo := 0) (hi := 255) I_320 sM_1 (by decide +kernel)) hin_323 ex_324
                        have htw_324 : (x_322 : Int32).toInt = (x_292 : Int32).toInt → (x_324).toInt = (x_294 : Int32).toInt := fun h => by have h9 := Int32.toInt_inj.mp h; rw [ex_324, h9]; exact congrArg Int32.toInt ((congrFun (dg_uf_ne e_320 (dk_dq rfl)) _).trans ex_294.symm)
                        have htw_325 : (x_322 : Int32).toInt = (x_299 : Int32).toInt → (x_324).toInt = (x_301 : Int32).toInt := fun h => by have h9 := Int32.toInt_inj.mp h; rw [ex_324, h9]; exact congrArg Int32.toInt ((congrFun (dg_uf_ne e_320 (dk_dq rfl)) _).trans ex_301.symm)
                        have htw_326 : (x_322 : Int32).toInt = (x_303 : Int32).toInt → (x_324).toInt = (x_305 : Int32).toInt := fun h => by have h9 := Int32.toInt_inj.mp h; rw [ex_324, h9]; exact congrArg Int32.toInt ((congrFun (dg_uf_ne e_320 (dk_dq rfl)) _).trans ex_305.symm)
                        refine lv_imul hx hb dX12_plansOn_92 ?_
                        as_aux_lemma =>
                          refine lv_topi (fun x_328 ex_328 => ?_)
                          have jx_328 : (x_328).toInt = 8 * (x_324).toInt := by rw [ex_328]; exact dk_mulT2 (by decide +kernel) rfl (by omega)
                          refine lv_aload_n hx hb dX12_plansOn_93 rfl (lv_at hl 2 rfl) ?_
                          refine dg_get (C := RX12) (T := TX12) (N := 77) hx hb hts (fun w h => bw_mem (wU_X12 w h)) hown K hP sM_0 rfl 0 (dk_dq rfl) (hts _ (bw_mem wB_290)) (fun _ h9 => h9) (v := .ref (o + 1)) (show S_320.1 0 0 = .ref (o + 1) from dg_I.rel (d := 1) I_320 sM_0 (by decide +kernel)) dX12_plansOn_94 ?_
                          refine lv_iload_n hx hb dX12_plansOn_97 rfl (lv_at hl 0 rfl) ?_
                          refine lv_iconst (v := 1) hx hb dX12_plansOn_98 (by decide +kernel) ?_
                          refine lv_iadd hx hb dX12_plansOn_99 ?_
                          refine lv_topi (fun x_329 ex_329 => ?_)
                          have jx_329 : (x_329).toInt = (x_292).toInt + 1 := by rw [ex_329]; exact dk_addT2 rfl (by decide +kernel) (by omega)
                          have hin_330 : vp_in x_329 1800 := (dk_inv2 (by omega))
                          refine dg_iald hx hb K hP sM_1 hin_330 dX12_plansOn_100 (fun x_331 ex_331 => ?_)
                          have b_x_331 := dk_all_at (dg_I.row (lo := 0) (hi := 255) I_320 sM_1 (by decide +kernel)) hin_330 ex_331
                          have htw_331 : (x_329 : Int32).toInt = (x_292 : Int32).toInt → (x_331).toInt = (x_294 : Int32).toInt := fun h => by have h9 := Int32.toInt_inj.mp h; rw [ex_331, h9]; exact congrArg Int32.toInt ((congrFun (dg_uf_ne e_320 (dk_dq rfl)) _).trans ex_294.symm)
                          have htw_332 : (x_329 : Int32).toInt = (x_299 : Int32).toInt → (x_331).toInt = (x_301 : Int32).toInt := fun h => by have h9 := Int32.toInt_inj.mp h; rw [ex_331, h9]; exact congrArg Int32.toInt ((congrFun (dg_uf_ne e_320 (dk_dq rfl)) _).trans ex_301.symm)
                          have htw_333 : (x_329 : Int32).toInt = (x_303 : Int32).toInt → (x_331).toInt = (x_305 : Int32).toInt := fun h => by have h9 := Int32.toInt_inj.mp h; rw [ex_331, h9]; exact congrArg Int32.toInt ((congrFun (dg_uf_ne e_320 (dk_dq rfl)) _).trans ex_305.symm)
                          have htw_334 : (x_329 : Int32).toInt = (x_322 : Int32).toInt → (x_331).toInt = (x_324 : Int32).toInt := fun h => by have h9 := Int32.toInt_inj.mp h; rw [ex_331, h9]; exact congrArg Int32.toInt ex_324.symm
                          refine lv_iadd hx hb dX12_plansOn_101 ?_
                          refine lv_topi (fun x_336 ex_336 => ?_)
                          have jx_336 : (x_336).toInt = (x_328).toInt + (x_331).toInt := by rw [ex_336]; exact dk_addT2 rfl rfl (by omega)
                          have hin_337 : vp_in x_321 352 := (dk_inv2 (by omega))
                          refine dg_iast hx hb K hP hS hA1 sM_36 hin_337 dX12_plansOn_102 (fun S_338 e_338 H locs hP hS => ?_)
                          have I_338 := dg_I.ufu (lo := 0) (hi := 63) I_320 e_338 sM_36 (by decide +kernel) (show 0 ≤ (x_336).toInt ∧ (x_336).toInt ≤ 63 from (by omega))
                          have M_338 := dg_sm.uf M_320 e_338 sM_36 (dk_dq rfl)
                          obtain ⟨x_339, ex_339⟩ : ∃ z, z = x_283 + 1 := ⟨_, rfl⟩
                          have jx_339 : (x_339).toInt = (x_283).toInt + 1 := by rw [ex_339]; exact dk_addT2 rfl (by decide +kernel) (by omega)
                          refine lv_iinc (v := x_339) (lv' := [(2, .int x_339), (3, .int x_292), (0, .ref (o + 0)), (1, .int a1)]) hx hb dX12_plansOn_103 hl (k := 1) rfl (by rw [ex_339]; rfl) (dk_dq rfl) rfl (fun ls hl => ?_)
                          refine lv_goto (tgt := 2) hx hb dX12_plansOn_106 (dk_dq rfl) ?_
                          exact ih x_339 (by omega) (by first | exact mu_lt hmu (by omega) (by omega) | omega) S_338 I_338 M_338  (lp_l hF_1 (F_m_plansOn_p2 (zI_eq f_x_286) (Eq.symm ex_288.symm) c_289 ex_291 ex_292 (Eq.symm ex_294.symm) w_296_2 c_297 ex_299 (Eq.symm ex_301.symm) ex_303 (Eq.symm ex_305.symm) w_314_3 c_315 ex_316 e_320 ex_321 ex_322 (Eq.symm ex_324.symm) ex_328 ex_329 (Eq.symm ex_331.symm) ex_336 e_338 ex_339)) _ _ hP hS _ (lv_sub hl [0, 2, 3] rfl)
                    · have jc_315 := dk_eqc (k := 0) (by decide +kernel) c_315
                      refine lv_iconst (v := 0) hx hb dX12_plansOn_57 (by decide +kernel) ?_
                      have hz_340 : (0 : Int32).toInt = 0 := by decide +kernel
                      refine W.widen (k := 0) (n := 0) (Nat.le_of_ble_eq_true rfl) (Nat.le_of_ble_eq_true rfl) ?_
                      exact dg_iret hx hb hr hlocks (by decide +kernel) hP hS ⟨I_284, M_284, (by decide +kernel), ⟨congrArg Prod.fst (Eq.symm (lp_r hF_1 (F_m_plansOn_p3 (zI_eq f_x_286) (Eq.symm ex_288.symm) c_289 ex_291 ex_292 (Eq.symm ex_294.symm) w_296_2 c_297 ex_299 (Eq.symm ex_301.symm) ex_303 (Eq.symm ex_305.symm) w_314_3 c_315))), congrArg Prod.snd (Eq.symm (lp_r hF_1 (F_m_plansOn_p3 (zI_eq f_x_286) (Eq.symm ex_288.symm) c_289 ex_291 ex_292 (Eq.symm ex_294.symm) w_296_2 c_297 ex_299 (Eq.symm ex_301.symm) ex_303 (Eq.symm ex_305.symm) w_314_3 c_315)))⟩, trivial⟩ dX12_plansOn_58
  have hz_341 : (0 : Int32).toInt = 0 := by decide +kernel
  have hz_342 : (0 : Int32).toInt = 0 := by decide +kernel
  exact L_285 ((17 - ((0 : Int32)).toInt).toNat + 1) 0 (by decide +kernel) (by first | exact mu_lt hmu (by omega) (by omega) | omega) S I M_0  (F_m_plansOn_p4) _ _ hP hS _ (lv_sub hl [0, 1, 2] rfl)
noncomputable def F_m_opens_B1 (o : Nat) (a2 : Int32) (a1 : Int32) : (Int32 × Int32 × dg_S) → (Int32 × Int32 × dg_S) ⊕ (dg_S × Int32) := fun w9 => match w9 with | (x_74, rw_75_0, S_75) => let x_79 : Int32 := S_75.2.1 29 (0 : Int32).toNatClampNeg; let x_82 : Int32 := F_m_isAhead o S_75 x_74 (0 : Int32) (40 : Int32); (if x_82 = (0 : Int32) then (Sum.inr ((S_75, (-1 : Int32)))) else let x_88 : Int32 := (8 : Int32) * a2; let x_89 : Int32 := x_88 + a1; let x_91 : Int32 := F_m_isOpen o S_75 (1 : Int32) x_89; (if x_91 = (0 : Int32) then let S_96 : dg_S := (F_m_ticks o S_75 (1 : Int32)).1; let x_95 : Int32 := (F_m_ticks o S_75 (1 : Int32)).2; let x_98 : Int32 := S_96.2.1 29 (1 : Int32).toNatClampNeg; let x_101 : Int32 := x_74 + 1; (Sum.inl (x_101, x_98, S_96)) else (Sum.inr ((S_75, x_74)))))
noncomputable def F_m_opens (o : Nat) (S : dg_S) (a1 : Int32) (a2 : Int32) : dg_S × Int32 := let x_1 : Int32 := zI S 0 13; let x_2 : Int32 := zI S 0 47; let x_3 : Int32 := S.2.1 2 (x_1 : Int32).toNatClampNeg; let x_5 : Int32 := S.2.1 3 (x_1 : Int32).toNatClampNeg; let x_7 : Int32 := F_m_isCell o S a1 a2; (if x_7 = (0 : Int32) then (S, (-1 : Int32)) else let x_12 : Int32 := S.2.1 29 (0 : Int32).toNatClampNeg; let S_15 : dg_S := F_m_copies o S (1 : Int32) (0 : Int32); let x_21 : Int32 := S_15.2.1 29 (0 : Int32).toNatClampNeg; let x_18 : Int32 := S_15.2.1 29 (1 : Int32).toNatClampNeg; (lp (F_m_opens_B1 o a2 a1) (S, (0 : Int32)) ((42 - ((0 : Int32)).toInt).toNat + 1) ((0 : Int32), x_18, S_15)))
theorem F_m_opens_p0 {o : Nat} {a2 : Int32} {a1 : Int32} {x_74 : Int32} {rw_75_0 : Int32} {S_75 : dg_S} {x_82 : Int32} (h0 : x_82 = F_m_isAhead o S_75 x_74 (0 : Int32) (40 : Int32)) (h1 : x_82 = (0 : Int32)) : (F_m_opens_B1 o a2 a1) (x_74, rw_75_0, S_75) = Sum.inr ((S_75, (-1 : Int32))) := by
  replace h0 := Eq.symm h0
  subst h0
  exact (Eq.trans (if_pos h1) rfl)
theorem F_m_opens_p1 {o : Nat} {a2 : Int32} {a1 : Int32} {x_74 : Int32} {rw_75_0 : Int32} {S_75 : dg_S} {x_101 : Int32} {x_98 : Int32} {S_96 : dg_S} {x_82 : Int32} {x_88 : Int32} {x_89 : Int32} {x_91 : Int32} (h0 : x_82 = F_m_isAhead o S_75 x_74 (0 : Int32) (40 : Int32)) (h1 : ¬ (x_82 = (0 : Int32))) (h2 : x_88 = (8 : Int32) * a2) (h3 : x_89 = x_88 + a1) (h4 : x_91 = F_m_isOpen o S_75 (1 : Int32) x_89) (h5 : x_91 = (0 : Int32)) (h6 : S_96 = (F_m_ticks o S_75 (1 : Int32)).1) (h7 : x_98 = S_96.2.1 29 (1 : Int32).toNatClampNeg) (h8 : x_101 = x_74 + 1) : (F_m_opens_B1 o a2 a1) (x_74, rw_75_0, S_75) = Sum.inl (x_101, x_98, S_96) := by
  replace h0 := Eq.symm h0
  subst h0
  replace h2 := Eq.symm h2
  subst h2
  replace h3 := Eq.symm h3
  subst h3
  replace h4 := Eq.symm h4
  subst h4
  replace h6 := Eq.symm h6
  subst h6
  replace h7 := Eq.symm h7
  subst h7
  replace h8 := Eq.symm h8
  subst h8
  exact (Eq.trans (if_neg h1) (Eq.trans (if_pos h5) rfl))
theorem F_m_opens_p2 {o : Nat} {a2 : Int32} {a1 : Int32} {x_74 : Int32} {rw_75_0 : Int32} {S_75 : dg_S} {x_82 : Int32} {x_88 : Int32} {x_89 : Int32} {x_91 : Int32} (h0 : x_82 = F_m_isAhead o S_75 x_74 (0 : Int32) (40 : Int32)) (h1 : ¬ (x_82 = (0 : Int32))) (h2 : x_88 = (8 : Int32) * a2) (h3 : x_89 = x_88 + a1) (h4 : x_91 = F_m_isOpen o S_75 (1 : Int32) x_89) (h5 : ¬ (x_91 = (0 : Int32))) : (F_m_opens_B1 o a2 a1) (x_74, rw_75_0, S_75) = Sum.inr ((S_75, x_74)) := by
  replace h0 := Eq.symm h0
  subst h0
  replace h2 := Eq.symm h2
  subst h2
  replace h3 := Eq.symm h3
  subst h3
  replace h4 := Eq.symm h4
  subst h4
  exact (Eq.trans (if_neg h1) (Eq.trans (if_neg h5) rfl))
theorem F_m_opens_p3 {o : Nat} {S : dg_S} {a1 : Int32} {a2 : Int32} {x_18 : Int32} {S_15 : dg_S} {x_7 : Int32} (h0 : x_7 = F_m_isCell o S a1 a2) (h1 : ¬ (x_7 = (0 : Int32))) (h2 : S_15 = F_m_copies o S (1 : Int32) (0 : Int32)) (h3 : x_18 = S_15.2.1 29 (1 : Int32).toNatClampNeg) : F_m_opens o S a1 a2 = lp (F_m_opens_B1 o a2 a1) (S, (0 : Int32)) ((42 - ((0 : Int32)).toInt).toNat + 1) ((0 : Int32), x_18, S_15) := by
  replace h0 := Eq.symm h0
  subst h0
  replace h2 := Eq.symm h2
  subst h2
  replace h3 := Eq.symm h3
  subst h3
  exact (Eq.trans (if_neg h1) rfl)
theorem F_m_opens_p4 {o : Nat} {S : dg_S} {a1 : Int32} {a2 : Int32} {x_7 : Int32} (h0 : x_7 = F_m_isCell o S a1 a2) (h1 : x_7 = (0 : Int32)) : F_m_opens o S a1 a2 = (S, (-1 : Int32)) := by
  replace h0 := Eq.symm h0
  subst h0
  exact (Eq.trans (if_pos h1) rfl)
set_option maxHeartbeats 8000000 in
set_option maxRecDepth 100000 in
theorem c_m_opens (l : Launch) (g : Nat → ClassId) (D : va_G) (o : Nat) (S : dg_S) (a1 : Int32) (a2 : Int32) (ZB : ZBM S) (ZS : ZSM S) (ZW : ZWM S) (I : CM o S) (sz : Nat) : Met l yX12_opens (bw yX12_opens cX12_opens 4 (some .int)) ({ frames := 9, cells := 0, slots := 0, locals := 217 } : Room) (dk_Pc g D (dg_w g shM o rfM S) sz [.ref (o + 0), .int a1, .int a2]) (va_Qi (fun (r : Int32) S' => CM o S' ∧ dg_sm shM [] [29, 30, 31, 32, 33, 34, 35, 36, 37, 38, 39, 40, 41, 42, 43, 44] S S' ∧ ((-1) ≤ (r).toInt ∧ (r).toInt ≤ 40) ∧ ZSM S' ∧ (S' = (F_m_opens o S a1 a2).1 ∧ r = (F_m_opens o S a1 a2).2) ∧ True) (dg_B g D shM o rfM) (dg_A o shM.length sz)) 0 0 (dg_A o shM.length sz) := by
  refine dg_met (cc := cX12_opens) (maxL := 4) (ret := (some .int)) (dk_dq rfl) rfl (Nat.le_of_ble_eq_true rfl) ?_
  intro p e s m args below meth c A hAe harg hx hb hr hml hts hown hlocks hin hP K hS hA1 hA ST hsz ls hl
  rw [← hAe]
  have F : CallFix p m c cX12_opens 4 s args (bw yX12_opens cX12_opens 4 (some .int)) RX12 := ⟨hx, hb, hml, hown, hts⟩
  have hl : lv_has ls 4 [(0, .ref (o + 0)), (1, .int a1), (2, .int a2)] := hl
  have M_0 : dg_sm shM [] [29, 30, 31, 32, 33, 34, 35, 36, 37, 38, 39, 40, 41, 42, 43, 44] S S := dg_sm.rf
  refine lv_aload_n hx hb dX12_opens_0 rfl (lv_at hl 0 rfl) ?_
  refine lv_iload_n hx hb dX12_opens_1 rfl (lv_at hl 1 rfl) ?_
  refine lv_iload_n hx hb dX12_opens_2 rfl (lv_at hl 2 rfl) ?_
  obtain ⟨x_1, f_x_1, b_x_1⟩ := dg_I.int (i := 0) (k := 13) (lo := 0) (hi := 1) I sM_0 (by decide +kernel)
  obtain ⟨x_2, f_x_2, b_x_2⟩ := dg_I.int (i := 0) (k := 47) (lo := 0) (hi := 1) I sM_0 (by decide +kernel)
  obtain ⟨x_3, f_x_3⟩ : ∃ x, S.2.1 2 (x_1 : Int32).toNatClampNeg = x := ⟨_, rfl⟩
  have hin_4 : vp_in (x_1 : Int32) 2 := (dk_inv2 (by omega))
  have b_x_3 := dk_all_at (dg_I.row (lo := 0) (hi := 9999) I sM_2 (by decide +kernel)) hin_4 f_x_3.symm
  have ex_3 := f_x_3.symm
  have zb_x_3 : (x_3).toInt ≤ 7 ∧ ((x_2 : Int32).toInt = 1 → 3 ≤ (x_3).toInt) := by rw [ex_3]; exact ⟨(ZB x_1 x_2 f_x_1 f_x_2).1, fun h9 => ((ZB x_1 x_2 f_x_1 f_x_2).2.2.2 h9).1⟩
  obtain ⟨x_5, f_x_5⟩ : ∃ x, S.2.1 3 (x_1 : Int32).toNatClampNeg = x := ⟨_, rfl⟩
  have hin_6 : vp_in (x_1 : Int32) 2 := (dk_inv2 (by omega))
  have b_x_5 := dk_all_at (dg_I.row (lo := 0) (hi := 9999) I sM_3 (by decide +kernel)) hin_6 f_x_5.symm
  have ex_5 := f_x_5.symm
  have zb_x_5 : (x_5).toInt ≤ 7 ∧ ((x_2 : Int32).toInt = 1 → 3 ≤ (x_5).toInt) := by rw [ex_5]; exact ⟨(ZB x_1 x_2 f_x_1 f_x_2).2.1, fun h9 => ((ZB x_1 x_2 f_x_1 f_x_2).2.2.2 h9).2⟩
  refine dg_calli hS hA1 hA (va_runV (As := [.int a1, .int a2]) (rest := []) F (c_m_isCell l g D o S a1 a2 x_1 f_x_1 (by omega) x_2 f_x_2 (by omega) x_3 f_x_3 (by omega) x_5 f_x_5 (by omega) ZB I s.heap.size) (cwV 2 hts (bw_V wB_1087 wB_1088 wB_1089 wB_297 wB_1086) rfl rfl rfl (by decide +kernel) ⟨Nat.le_of_ble_eq_true rfl, Nat.le_of_ble_eq_true rfl⟩) (dg_preV sM_0 rfl K ST hP hS hA1 hA) rfl rfl hl.1 rfl (lv_room (Nat.le_of_ble_eq_true rfl)) dX12_opens_3 ⟨Nat.le_of_ble_eq_true rfl, Nat.le_of_ble_eq_true rfl⟩) (fun x_7 S_8 hw_8 H locs hP hS => ?_)
  rw [hw_8.1] at hP
  obtain ⟨hq_8, w_8_0, w_8_1, w_8_2, w_8_3, -⟩ := hw_8
  have w_8_0 : 0 ≤ (x_7).toInt ∧ (x_7).toInt ≤ 1 := w_8_0
  have w_8_1 : (x_7).toInt = 1 → (0 ≤ (a1).toInt ∧ (a1).toInt ≤ 6 ∧ 0 ≤ (a2).toInt ∧ (a2).toInt ≤ 6) := w_8_1
  have w_8_2 : (x_7).toInt = 1 ↔ ((x_2).toInt = 1 ∧ 0 ≤ (a1).toInt ∧ (a1).toInt < (x_3).toInt ∧ 0 ≤ (a2).toInt ∧ (a2).toInt < (x_5).toInt) := w_8_2
  refine lv_if_ne (tgt := 11) hx hb dX12_opens_6 (dk_dq rfl) (fun c_9 => ?_) (fun c_9 => ?_)
  · as_aux_lemma =>
      have jc_9 := dk_neqc (k := 0) (by decide +kernel) c_9
      refine lv_aload_n hx hb dX12_opens_11 rfl (lv_at hl 0 rfl) ?_
      refine lv_iconst (v := 1) hx hb dX12_opens_12 (by decide +kernel) ?_
      refine lv_iconst (v := 0) hx hb dX12_opens_13 (by decide +kernel) ?_
      have hz_10 : (1 : Int32).toInt = 1 := by decide +kernel
      have hz_11 : (0 : Int32).toInt = 0 := by decide +kernel
      obtain ⟨x_12, f_x_12⟩ : ∃ x, S.2.1 29 (0 : Int32).toNatClampNeg = x := ⟨_, rfl⟩
      have hin_13 : vp_in (0 : Int32) 22 := (dk_in (by decide +kernel))
      have b_x_12 := dk_all_at (dg_I.row (lo := 0) (hi := 2000) I sM_29 (by decide +kernel)) hin_13 f_x_12.symm
      have ex_12 := f_x_12.symm
      have hz_14 : (0 : Int32).toInt = 0 := by decide +kernel
      have zs_x_12 : (0 : Int32).toInt ≠ 1 → (x_12).toInt ≤ 999 := fun h => by rw [ex_12]; exact ZS _ (dk_inT hin_13).2 (fun q => by have h9 := (dk_inT hin_13).1; omega)
      refine dg_callv hS hA1 hA (va_runV (As := [.int 1, .int 0]) (rest := []) F (c_m_copies l g D o S 1 (by decide +kernel) 0 (by decide +kernel) x_12 f_x_12 (by omega) x_12 f_x_12 (by omega) (by omega) ZS I H.size) (cwV 2 hts (bw_V wB_1227 wB_1228 wB_1229 wB_297 wB_1226) rfl rfl rfl (by decide +kernel) ⟨Nat.le_of_ble_eq_true rfl, Nat.le_of_ble_eq_true rfl⟩) (dg_preV sM_0 rfl K ST hP hS hA1 hA) rfl rfl hl.1 rfl (lv_room (Nat.le_of_ble_eq_true rfl)) dX12_opens_14 ⟨Nat.le_of_ble_eq_true rfl, Nat.le_of_ble_eq_true rfl⟩) (fun S_15 hw_15 H locs hP hS => ?_)
      obtain ⟨I_15, m_15, w_15_0, w_15_1, w_15_2, w_15_3, -⟩ := hw_15
      have M_15 := dg_sm.tr M_0 m_15 (dk_dq rfl) (dk_dq rfl)
      have hz_16 : (1 : Int32).toInt = 1 := by decide +kernel
      have hz_17 : (0 : Int32).toInt = 0 := by decide +kernel
      obtain ⟨x_18, f_x_18⟩ : ∃ x, S_15.2.1 29 (1 : Int32).toNatClampNeg = x := ⟨_, rfl⟩
      have hin_19 : vp_in (1 : Int32) 22 := (dk_in (by decide +kernel))
      have b_x_18 := dk_all_at (dg_I.row (lo := 0) (hi := 2000) I_15 sM_29 (by decide +kernel)) hin_19 f_x_18.symm
      have ex_18 := f_x_18.symm
      have hz_20 : (1 : Int32).toInt = 1 := by decide +kernel
      have zs_x_18 : (1 : Int32).toInt ≠ 1 → (x_18).toInt ≤ 999 := fun h => by rw [ex_18]; exact w_15_2 _ (dk_inT hin_19).2 (fun q => by have h9 := (dk_inT hin_19).1; omega)
      have w_15_0 : (x_18).toInt = (x_12).toInt := w_15_0 x_18 f_x_18
      obtain ⟨x_21, f_x_21⟩ : ∃ x, S_15.2.1 29 (0 : Int32).toNatClampNeg = x := ⟨_, rfl⟩
      have hin_22 : vp_in (0 : Int32) 22 := (dk_in (by decide +kernel))
      have b_x_21 := dk_all_at (dg_I.row (lo := 0) (hi := 2000) I_15 sM_29 (by decide +kernel)) hin_22 f_x_21.symm
      have ex_21 := f_x_21.symm
      have hz_23 : (0 : Int32).toInt = 0 := by decide +kernel
      have zs_x_21 : (0 : Int32).toInt ≠ 1 → (x_21).toInt ≤ 999 := fun h => by rw [ex_21]; exact w_15_2 _ (dk_inT hin_22).2 (fun q => by have h9 := (dk_inT hin_22).1; omega)
      have w_15_1 : ((1 : Int32)).toInt ≠ 0 → (x_21).toInt = (x_12).toInt := w_15_1 x_21 f_x_21
      refine lv_iconst (v := 0) hx hb dX12_opens_17 (by decide +kernel) ?_
      refine lv_istore_n (lv' := [(3, .int 0), (0, .ref (o + 0)), (1, .int a1), (2, .int a2)]) hx hb dX12_opens_18 rfl hl (dk_dq rfl) rfl (fun ls hl => ?_)
      have L_76 : ∀ (n : Nat) (x_74 : Int32), (0 ≤ (x_74).toInt ∧ (x_74).toInt ≤ 41) → ((42 - (x_74).toInt).toNat < n) → ∀ S_75 : dg_S, CM o S_75 → dg_sm shM [] [29, 30, 31, 32, 33, 34, 35, 36, 37, 38, 39, 40, 41, 42, 43, 44] S S_75 → ∀ rw_75_0 : Int32, S_75.2.1 29 (1 : Int32).toNatClampNeg = rw_75_0 → (0 ≤ (rw_75_0).toInt ∧ (rw_75_0).toInt ≤ 2000) → ZSM S_75 → ((rw_75_0).toInt ≤ 999 + (x_74).toInt) → (F_m_opens o S a1 a2 = lp (F_m_opens_B1 o a2 a1) (S, (0 : Int32)) n (x_74, rw_75_0, S_75)) → ∀ (H : Heap) (locs : List Loc), va_P D vwCl (dg_w g shM o rfM S_75) H → va_S A s.heap H locs → ∀ ls : Array Slot, lv_has ls 4 [(3, .int x_74), (0, .ref (o + 0)), (1, .int a1), (2, .int a2)] → W p l e ({ frames := 9, cells := 0, slots := 0, locals := 217 } : Room) s m args below meth c H locs 0 0 (MQ below (va_Qi (fun (r : Int32) S' => CM o S' ∧ dg_sm shM [] [29, 30, 31, 32, 33, 34, 35, 36, 37, 38, 39, 40, 41, 42, 43, 44] S S' ∧ ((-1) ≤ (r).toInt ∧ (r).toInt ≤ 40) ∧ ZSM S' ∧ (S' = (F_m_opens o S a1 a2).1 ∧ r = (F_m_opens o S a1 a2).2) ∧ True) (dg_B g D shM o rfM) A) args s 0 0 A) (F0 m 19 ls []) := by
        as_aux_lemma =>
          intro n
          induction n with
          | zero =>
            intro x_74 b_x_74 hmu S_75 I_75 M_75 rw_75_0 frw_75_0 brw_75_0 ZS_75 srel_75_0 hF_1 H locs hP hS ls hl
            omega
          | succ n ih =>
            as_aux_lemma =>
              intro x_74 b_x_74 hmu S_75 I_75 M_75 rw_75_0 frw_75_0 brw_75_0 ZS_75 srel_75_0 hF_1 H locs hP hS ls hl
              refine lv_aload_n hx hb dX12_opens_19 rfl (lv_at hl 1 rfl) ?_
              refine lv_iload_n hx hb dX12_opens_20 rfl (lv_at hl 0 rfl) ?_
              refine lv_iconst (v := 0) hx hb dX12_opens_21 (by decide +kernel) ?_
              refine lv_bipush (v := 40) hx hb dX12_opens_22 (by decide +kernel) ?_
              have hz_77 : (0 : Int32).toInt = 0 := by decide +kernel
              have hz_78 : (40 : Int32).toInt = 40 := by decide +kernel
              obtain ⟨x_79, f_x_79⟩ : ∃ x, S_75.2.1 29 (0 : Int32).toNatClampNeg = x := ⟨_, rfl⟩
              have hin_80 : vp_in (0 : Int32) 22 := (dk_in (by decide +kernel))
              have b_x_79 := dk_all_at (dg_I.row (lo := 0) (hi := 2000) I_75 sM_29 (by decide +kernel)) hin_80 f_x_79.symm
              have ex_79 := f_x_79.symm
              have hz_81 : (0 : Int32).toInt = 0 := by decide +kernel
              have zs_x_79 : (0 : Int32).toInt ≠ 1 → (x_79).toInt ≤ 999 := fun h => by rw [ex_79]; exact ZS_75 _ (dk_inT hin_80).2 (fun q => by have h9 := (dk_inT hin_80).1; omega)
              refine dg_calli hS hA1 hA (va_runV (As := [.int x_74, .int 0, .int 40]) (rest := []) F (c_m_isAhead l g D o S_75 x_74 0 (by decide +kernel) 40 (by decide +kernel) x_2 ((M_75.1 0 47 _ sM_0 (dk_dq rfl)).trans f_x_2) (by omega) x_79 f_x_79 (by omega) I_75 H.size) (cwV 3 hts (bw_V wB_1235 wB_1236 wB_1237 wB_297 wB_1234) rfl rfl rfl (by decide +kernel) ⟨Nat.le_of_ble_eq_true rfl, Nat.le_of_ble_eq_true rfl⟩) (dg_preV sM_0 rfl K ST hP hS hA1 hA) rfl rfl hl.1 rfl (lv_room (Nat.le_of_ble_eq_true rfl)) dX12_opens_24 ⟨Nat.le_of_ble_eq_true rfl, Nat.le_of_ble_eq_true rfl⟩) (fun x_82 S_83 hw_83 H locs hP hS => ?_)
              rw [hw_83.1] at hP
              obtain ⟨hq_83, w_83_0, w_83_1, w_83_2, -⟩ := hw_83
              have hz_84 : (0 : Int32).toInt = 0 := by decide +kernel
              have hz_85 : (40 : Int32).toInt = 40 := by decide +kernel
              have w_83_0 : 0 ≤ (x_82).toInt ∧ (x_82).toInt ≤ 1 := w_83_0
              have w_83_1 : (x_82).toInt = 1 → ((x_2).toInt = 1 ∧ ((0 : Int32)).toInt ≤ (x_74).toInt ∧ (x_74).toInt ≤ ((40 : Int32)).toInt ∧ (x_79).toInt ≤ 999 - (x_74).toInt) := w_83_1
              refine lv_if_eq (tgt := 58) hx hb dX12_opens_27 (dk_dq rfl) (fun c_86 => ?_) (fun c_86 => ?_)
              · have jc_86 := dk_eqc (k := 0) (by decide +kernel) c_86
                refine lv_iconst (v := (-1)) hx hb dX12_opens_58 (by decide +kernel) ?_
                have hz_87 : (-1 : Int32).toInt = (-1) := by decide +kernel
                refine W.widen (k := 0) (n := 0) (Nat.le_of_ble_eq_true rfl) (Nat.le_of_ble_eq_true rfl) ?_
                exact dg_iret hx hb hr hlocks rfl hP hS ⟨I_75, M_75, (by decide +kernel), ZS_75, ⟨congrArg Prod.fst (Eq.symm (lp_r hF_1 (F_m_opens_p0 w_83_2 c_86))), congrArg Prod.snd (Eq.symm (lp_r hF_1 (F_m_opens_p0 w_83_2 c_86)))⟩, trivial⟩ dX12_opens_59
              · as_aux_lemma =>
                  have jc_86 := dk_neqc (k := 0) (by decide +kernel) c_86
                  refine lv_aload_n hx hb dX12_opens_30 rfl (lv_at hl 1 rfl) ?_
                  refine lv_iconst (v := 1) hx hb dX12_opens_31 (by decide +kernel) ?_
                  refine lv_bipush (v := 8) hx hb dX12_opens_32 (by decide +kernel) ?_
                  refine lv_iload_n hx hb dX12_opens_34 rfl (lv_at hl 3 rfl) ?_
                  refine lv_imul hx hb dX12_opens_35 ?_
                  refine lv_topi (fun x_88 ex_88 => ?_)
                  have jx_88 : (x_88).toInt = 8 * (a2).toInt := by rw [ex_88]; exact dk_mulT2 (by decide +kernel) rfl (by omega)
                  refine lv_iload_n hx hb dX12_opens_36 rfl (lv_at hl 2 rfl) ?_
                  refine lv_iadd hx hb dX12_opens_37 ?_
                  refine lv_topi (fun x_89 ex_89 => ?_)
                  have jx_89 : (x_89).toInt = (x_88).toInt + (a1).toInt := by rw [ex_89]; exact dk_addT2 rfl rfl (by omega)
                  have hz_90 : (1 : Int32).toInt = 1 := by decide +kernel
                  refine dg_calli hS hA1 hA (va_runV (As := [.int 1, .int x_89]) (rest := []) F (c_m_isOpen l g D o S_75 1 (by decide +kernel) x_89 (by omega) I_75 H.size) (cwV 2 hts (bw_V wB_1092 wB_1093 wB_1094 wB_297 wB_1091) rfl rfl rfl (by decide +kernel) ⟨Nat.le_of_ble_eq_true rfl, Nat.le_of_ble_eq_true rfl⟩) (dg_preV sM_0 rfl K ST hP hS hA1 hA) rfl rfl hl.1 rfl (lv_room (Nat.le_of_ble_eq_true rfl)) dX12_opens_38 ⟨Nat.le_of_ble_eq_true rfl, Nat.le_of_ble_eq_true rfl⟩) (fun x_91 S_92 hw_92 H locs hP hS => ?_)
                  rw [hw_92.1] at hP
                  obtain ⟨hq_92, w_92_0, w_92_1, -⟩ := hw_92
                  have w_92_0 : 0 ≤ (x_91).toInt ∧ (x_91).toInt ≤ 1 := w_92_0
                  refine lv_if_eq (tgt := 46) hx hb dX12_opens_41 (dk_dq rfl) (fun c_93 => ?_) (fun c_93 => ?_)
                  · as_aux_lemma =>
                      have jc_93 := dk_eqc (k := 0) (by decide +kernel) c_93
                      refine lv_aload_n hx hb dX12_opens_46 rfl (lv_at hl 1 rfl) ?_
                      refine lv_iconst (v := 1) hx hb dX12_opens_47 (by decide +kernel) ?_
                      have hz_94 : (1 : Int32).toInt = 1 := by decide +kernel
                      refine dg_calli hS hA1 hA (va_runV (As := [.int 1]) (rest := []) F (c_m_ticks l g D o S_75 1 (by decide +kernel) rw_75_0 frw_75_0 (by omega) (by omega) (ZBM.keep ZB M_75 (dk_dq rfl) (dk_dq rfl) (dk_dq rfl) (dk_dq rfl) (dk_dq rfl)) ZS_75 (ZWM.keep ZW M_75 (dk_dq rfl) (dk_dq rfl) (dk_dq rfl) (dk_dq rfl)) I_75 H.size) (cwV 1 hts (bw_V wB_1231 wB_1232 wB_1233 wB_297 wB_1230) rfl rfl rfl (by decide +kernel) ⟨Nat.le_of_ble_eq_true rfl, Nat.le_of_ble_eq_true rfl⟩) (dg_preV sM_0 rfl K ST hP hS hA1 hA) rfl rfl hl.1 rfl (lv_room (Nat.le_of_ble_eq_true rfl)) dX12_opens_48 ⟨Nat.le_of_ble_eq_true rfl, Nat.le_of_ble_eq_true rfl⟩) (fun x_95 S_96 hw_96 H locs hP hS => ?_)
                      obtain ⟨I_96, m_96, w_96_0, w_96_1, w_96_2, w_96_3, -⟩ := hw_96
                      have M_96 := dg_sm.tr M_75 m_96 (dk_dq rfl) (dk_dq rfl)
                      have hz_97 : (1 : Int32).toInt = 1 := by decide +kernel
                      have w_96_0 : 0 ≤ (x_95).toInt ∧ (x_95).toInt ≤ 1 := w_96_0
                      obtain ⟨x_98, f_x_98⟩ : ∃ x, S_96.2.1 29 (1 : Int32).toNatClampNeg = x := ⟨_, rfl⟩
                      have hin_99 : vp_in (1 : Int32) 22 := (dk_in (by decide +kernel))
                      have b_x_98 := dk_all_at (dg_I.row (lo := 0) (hi := 2000) I_96 sM_29 (by decide +kernel)) hin_99 f_x_98.symm
                      have ex_98 := f_x_98.symm
                      have hz_100 : (1 : Int32).toInt = 1 := by decide +kernel
                      have zs_x_98 : (1 : Int32).toInt ≠ 1 → (x_98).toInt ≤ 999 := fun h => by rw [ex_98]; exact w_96_2 _ (dk_inT hin_99).2 (fun q => by have h9 := (dk_inT hin_99).1; omega)
                      have w_96_1 : (x_98).toInt = (rw_75_0).toInt + 1 := w_96_1 x_98 f_x_98
                      refine lv_pop hx hb dX12_opens_51 rfl ?_
                      obtain ⟨x_101, ex_101⟩ : ∃ z, z = x_74 + 1 := ⟨_, rfl⟩
                      have jx_101 : (x_101).toInt = (x_74).toInt + 1 := by rw [ex_101]; exact dk_addT2 rfl (by decide +kernel) (by omega)
                      refine lv_iinc (v := x_101) (lv' := [(3, .int x_101), (0, .ref (o + 0)), (1, .int a1), (2, .int a2)]) hx hb dX12_opens_52 hl (k := 0) rfl (by rw [ex_101]; rfl) (dk_dq rfl) rfl (fun ls hl => ?_)
                      refine lv_goto (tgt := 19) hx hb dX12_opens_55 (dk_dq rfl) ?_
                      exact ih x_101 (by omega) (by first | exact mu_lt hmu (by omega) (by omega) | omega) S_96 I_96 M_96 x_98 f_x_98 (by omega) w_96_2 (by omega) (lp_l hF_1 (F_m_opens_p1 w_83_2 c_86 ex_88 ex_89 w_92_1 c_93 w_96_3.1 (Eq.symm f_x_98) ex_101)) _ _ hP hS _ (lv_sub hl [0, 1, 2, 3] rfl)
                  · have jc_93 := dk_neqc (k := 0) (by decide +kernel) c_93
                    refine lv_iload_n hx hb dX12_opens_44 rfl (lv_at hl 0 rfl) ?_
                    refine W.widen (k := 0) (n := 0) (Nat.le_of_ble_eq_true rfl) (Nat.le_of_ble_eq_true rfl) ?_
                    exact dg_iret hx hb hr hlocks rfl hP hS ⟨I_75, M_75, (by omega), ZS_75, ⟨congrArg Prod.fst (Eq.symm (lp_r hF_1 (F_m_opens_p2 w_83_2 c_86 ex_88 ex_89 w_92_1 c_93))), congrArg Prod.snd (Eq.symm (lp_r hF_1 (F_m_opens_p2 w_83_2 c_86 ex_88 ex_89 w_92_1 c_93)))⟩, trivial⟩ dX12_opens_45
      have hz_102 : (0 : Int32).toInt = 0 := by decide +kernel
      have hz_103 : (0 : Int32).toInt = 0 := by decide +kernel
      exact L_76 ((42 - ((0 : Int32)).toInt).toNat + 1) 0 (by decide +kernel) (by first | exact mu_lt hmu (by omega) (by omega) | omega) S_15 I_15 M_15 x_18 f_x_18 (by omega) w_15_2 (by omega) (F_m_opens_p3 w_8_3 c_9 w_15_3 (Eq.symm f_x_18)) _ _ hP hS _ (lv_sub hl [0, 1, 2, 3] rfl)
  · have jc_9 := dk_eqc (k := 0) (by decide +kernel) c_9
    refine lv_iconst (v := (-1)) hx hb dX12_opens_9 (by decide +kernel) ?_
    have hz_104 : (-1 : Int32).toInt = (-1) := by decide +kernel
    refine W.widen (k := 0) (n := 0) (Nat.le_of_ble_eq_true rfl) (Nat.le_of_ble_eq_true rfl) ?_
    exact dg_iret hx hb hr hlocks rfl hP hS ⟨I, M_0, (by decide +kernel), ZS, ⟨congrArg Prod.fst (Eq.symm (F_m_opens_p4 w_8_3 c_9)), congrArg Prod.snd (Eq.symm (F_m_opens_p4 w_8_3 c_9))⟩, trivial⟩ dX12_opens_10
noncomputable def F_m_odds_J2 (x_253 : Int32) (x_293 : Int32) (S_296 : dg_S) : (Int32 × Int32 × dg_S) ⊕ (dg_S × Int32) := let x_298 : Int32 := x_253 + 1; (Sum.inl (x_298, x_293, S_296))
noncomputable def F_m_odds_J3 (x_254 : Int32) (x_330 : Int32) (x_253 : Int32) (S_319 : dg_S) : (Int32 × Int32 × dg_S) ⊕ (dg_S × Int32) := let x_333 : Int32 := x_254 + x_330; (F_m_odds_J2 x_253 x_333 S_319)
noncomputable def F_m_odds_B1 (o : Nat) (x_25 : Int32) (x_1 : Int32) : (Int32 × Int32 × dg_S) → (Int32 × Int32 × dg_S) ⊕ (dg_S × Int32) := fun w9 => match w9 with | (x_253, x_254, S_255) => (if (64 : Int32) ≤ x_253 then (Sum.inr ((S_255, x_254))) else let x_258 : Int32 := F_m_isCellOf o S_255 x_253; (if x_258 = (0 : Int32) then (F_m_odds_J2 x_253 x_254 S_255) else let x_302 : Int32 := S_255.2.1 29 (0 : Int32).toNatClampNeg; let S_305 : dg_S := F_m_copies o S_255 (1 : Int32) (0 : Int32); let x_311 : Int32 := S_305.2.1 29 (0 : Int32).toNatClampNeg; let x_308 : Int32 := S_305.2.1 29 (1 : Int32).toNatClampNeg; let S_316 : dg_S := (F_m_isSolidBy o S_305 (1 : Int32) x_253).1; let x_315 : Int32 := (F_m_isSolidBy o S_305 (1 : Int32) x_253).2; let S_319 : dg_S := (F_m_ticks o S_316 (1 : Int32)).1; let x_318 : Int32 := (F_m_ticks o S_316 (1 : Int32)).2; let x_321 : Int32 := S_319.2.1 29 (1 : Int32).toNatClampNeg; let x_325 : Int32 := F_m_isOpen o S_319 (1 : Int32) x_25; (if x_325 = (0 : Int32) then (F_m_odds_J3 x_254 (0 : Int32) x_253 S_319) else let x_337 : Int32 := S_319.2.1 6 (x_1 : Int32).toNatClampNeg; (F_m_odds_J3 x_254 x_337 x_253 S_319))))
noncomputable def F_m_odds_J5 (x_551 : Int32) (x_591 : Int32) (S_594 : dg_S) : (Int32 × Int32 × dg_S) ⊕ (dg_S × Int32) := let x_596 : Int32 := x_551 + 1; (Sum.inl (x_596, x_591, S_594))
noncomputable def F_m_odds_J6 (x_552 : Int32) (x_628 : Int32) (x_551 : Int32) (S_617 : dg_S) : (Int32 × Int32 × dg_S) ⊕ (dg_S × Int32) := let x_631 : Int32 := x_552 + x_628; (F_m_odds_J5 x_551 x_631 S_617)
noncomputable def F_m_odds_B4 (o : Nat) (x_25 : Int32) (x_1 : Int32) : (Int32 × Int32 × dg_S) → (Int32 × Int32 × dg_S) ⊕ (dg_S × Int32) := fun w9 => match w9 with | (x_551, x_552, S_553) => (if (64 : Int32) ≤ x_551 then (Sum.inr ((S_553, x_552))) else let x_556 : Int32 := F_m_isCellOf o S_553 x_551; (if x_556 = (0 : Int32) then (F_m_odds_J5 x_551 x_552 S_553) else let x_600 : Int32 := S_553.2.1 29 (0 : Int32).toNatClampNeg; let S_603 : dg_S := F_m_copies o S_553 (1 : Int32) (0 : Int32); let x_609 : Int32 := S_603.2.1 29 (0 : Int32).toNatClampNeg; let x_606 : Int32 := S_603.2.1 29 (1 : Int32).toNatClampNeg; let S_614 : dg_S := (F_m_isSolidBy o S_603 (1 : Int32) x_551).1; let x_613 : Int32 := (F_m_isSolidBy o S_603 (1 : Int32) x_551).2; let S_617 : dg_S := (F_m_ticks o S_614 (1 : Int32)).1; let x_616 : Int32 := (F_m_ticks o S_614 (1 : Int32)).2; let x_619 : Int32 := S_617.2.1 29 (1 : Int32).toNatClampNeg; let x_623 : Int32 := F_m_isOpen o S_617 (1 : Int32) x_25; (if x_623 = (0 : Int32) then (F_m_odds_J6 x_552 (0 : Int32) x_551 S_617) else let x_635 : Int32 := S_617.2.1 6 (x_1 : Int32).toNatClampNeg; (F_m_odds_J6 x_552 x_635 x_551 S_617))))
noncomputable def F_m_odds (o : Nat) (S : dg_S) (a1 : Int32) (a2 : Int32) : dg_S × Int32 := let x_1 : Int32 := zI S 0 13; let x_4 : Int32 := zI S 0 47; let x_3 : Int32 := S.2.1 2 (x_1 : Int32).toNatClampNeg; let x_6 : Int32 := S.2.1 3 (x_1 : Int32).toNatClampNeg; let x_7 : Int32 := x_3 * x_6; let x_10 : Int32 := S.2.1 29 (0 : Int32).toNatClampNeg; let x_13 : Int32 := F_m_isAhead o S (1 : Int32) (1 : Int32) (1 : Int32); (if x_13 = (0 : Int32) then (S, (-1 : Int32)) else (if a1 = (-1 : Int32) then let x_20 : Int32 := (100 : Int32) * x_7; (S, x_20) else let x_21 : Int32 := F_m_isCell o S a1 a2; (if x_21 = (0 : Int32) then (S, (-1 : Int32)) else let x_24 : Int32 := (8 : Int32) * a2; let x_25 : Int32 := x_24 + a1; let S_28 : dg_S := F_m_copies o S (1 : Int32) (0 : Int32); let x_34 : Int32 := S_28.2.1 29 (0 : Int32).toNatClampNeg; let x_31 : Int32 := S_28.2.1 29 (1 : Int32).toNatClampNeg; let S_39 : dg_S := (F_m_ticks o S_28 (1 : Int32)).1; let x_38 : Int32 := (F_m_ticks o S_28 (1 : Int32)).2; let x_41 : Int32 := S_39.2.1 29 (1 : Int32).toNatClampNeg; let x_45 : Int32 := F_m_isOpen o S_39 (1 : Int32) x_25; (if x_45 = (0 : Int32) then (lp (F_m_odds_B1 o x_25 x_1) (S, (0 : Int32)) ((65 - ((0 : Int32)).toInt).toNat + 1) ((0 : Int32), (0 : Int32), S_39)) else let x_342 : Int32 := S_39.2.1 6 (x_1 : Int32).toNatClampNeg; let x_343 : Int32 := (100 : Int32) - x_342; let x_344 : Int32 := x_343 * x_7; (lp (F_m_odds_B4 o x_25 x_1) (S, (0 : Int32)) ((65 - ((0 : Int32)).toInt).toNat + 1) ((0 : Int32), x_344, S_39))))))
theorem F_m_odds_p0 {o : Nat} {S : dg_S} {a1 : Int32} {a2 : Int32} {x_13 : Int32} (h0 : x_13 = F_m_isAhead o S (1 : Int32) (1 : Int32) (1 : Int32)) (h1 : x_13 = (0 : Int32)) : F_m_odds o S a1 a2 = (S, (-1 : Int32)) := by
  replace h0 := Eq.symm h0
  subst h0
  exact (Eq.trans (if_pos h1) rfl)
theorem F_m_odds_p1 {o : Nat} {S : dg_S} {a1 : Int32} {a2 : Int32} {x_20 : Int32} {x_1 : Int32} {x_3 : Int32} {x_6 : Int32} {x_7 : Int32} {x_13 : Int32} (h0 : x_1 = zI S 0 13) (h1 : x_3 = S.2.1 2 (x_1 : Int32).toNatClampNeg) (h2 : x_6 = S.2.1 3 (x_1 : Int32).toNatClampNeg) (h3 : x_7 = x_3 * x_6) (h4 : x_13 = F_m_isAhead o S (1 : Int32) (1 : Int32) (1 : Int32)) (h5 : ¬ (x_13 = (0 : Int32))) (h6 : a1 = (-1 : Int32)) (h7 : x_20 = (100 : Int32) * x_7) : F_m_odds o S a1 a2 = (S, x_20) := by
  replace h0 := Eq.symm h0
  subst h0
  replace h1 := Eq.symm h1
  subst h1
  replace h2 := Eq.symm h2
  subst h2
  replace h3 := Eq.symm h3
  subst h3
  replace h4 := Eq.symm h4
  subst h4
  replace h7 := Eq.symm h7
  subst h7
  exact (Eq.trans (if_neg h5) (Eq.trans (if_pos h6) rfl))
theorem F_m_odds_p2 {o : Nat} {x_25 : Int32} {x_1 : Int32} {x_253 : Int32} {x_254 : Int32} {S_255 : dg_S} (h0 : (64 : Int32) ≤ x_253) : (F_m_odds_B1 o x_25 x_1) (x_253, x_254, S_255) = Sum.inr ((S_255, x_254)) := (Eq.trans (if_pos h0) rfl)
theorem F_m_odds_p3 {x_253 : Int32} {x_293 : Int32} {S_296 : dg_S} {x_298 : Int32} (h0 : x_298 = x_253 + 1) : F_m_odds_J2 x_253 x_293 S_296 = Sum.inl (x_298, x_293, S_296) := by
  replace h0 := Eq.symm h0
  subst h0
  exact rfl
theorem F_m_odds_p4 {x_254 : Int32} {x_330 : Int32} {x_253 : Int32} {S_319 : dg_S} {x_333 : Int32} (h0 : x_333 = x_254 + x_330) : F_m_odds_J3 x_254 x_330 x_253 S_319 = F_m_odds_J2 x_253 x_333 S_319 := by
  replace h0 := Eq.symm h0
  subst h0
  exact rfl
theorem F_m_odds_p5 {o : Nat} {x_25 : Int32} {x_1 : Int32} {x_253 : Int32} {x_254 : Int32} {S_255 : dg_S} {S_319 : dg_S} {x_258 : Int32} {S_305 : dg_S} {S_316 : dg_S} {x_325 : Int32} (h0 : ¬ ((64 : Int32) ≤ x_253)) (h1 : x_258 = F_m_isCellOf o S_255 x_253) (h2 : ¬ (x_258 = (0 : Int32))) (h3 : S_305 = F_m_copies o S_255 (1 : Int32) (0 : Int32)) (h4 : S_316 = (F_m_isSolidBy o S_305 (1 : Int32) x_253).1) (h5 : S_319 = (F_m_ticks o S_316 (1 : Int32)).1) (h6 : x_325 = F_m_isOpen o S_319 (1 : Int32) x_25) (h7 : x_325 = (0 : Int32)) : (F_m_odds_B1 o x_25 x_1) (x_253, x_254, S_255) = F_m_odds_J3 x_254 (0 : Int32) x_253 S_319 := by
  replace h1 := Eq.symm h1
  subst h1
  replace h3 := Eq.symm h3
  subst h3
  replace h4 := Eq.symm h4
  subst h4
  replace h5 := Eq.symm h5
  subst h5
  replace h6 := Eq.symm h6
  subst h6
  exact (Eq.trans (if_neg h0) (Eq.trans (if_neg h2) (Eq.trans (if_pos h7) rfl)))
theorem F_m_odds_p6 {o : Nat} {x_25 : Int32} {x_1 : Int32} {x_253 : Int32} {x_254 : Int32} {S_255 : dg_S} {x_337 : Int32} {S_319 : dg_S} {x_258 : Int32} {S_305 : dg_S} {S_316 : dg_S} {x_325 : Int32} (h0 : ¬ ((64 : Int32) ≤ x_253)) (h1 : x_258 = F_m_isCellOf o S_255 x_253) (h2 : ¬ (x_258 = (0 : Int32))) (h3 : S_305 = F_m_copies o S_255 (1 : Int32) (0 : Int32)) (h4 : S_316 = (F_m_isSolidBy o S_305 (1 : Int32) x_253).1) (h5 : S_319 = (F_m_ticks o S_316 (1 : Int32)).1) (h6 : x_325 = F_m_isOpen o S_319 (1 : Int32) x_25) (h7 : ¬ (x_325 = (0 : Int32))) (h8 : x_337 = S_319.2.1 6 (x_1 : Int32).toNatClampNeg) : (F_m_odds_B1 o x_25 x_1) (x_253, x_254, S_255) = F_m_odds_J3 x_254 x_337 x_253 S_319 := by
  replace h1 := Eq.symm h1
  subst h1
  replace h3 := Eq.symm h3
  subst h3
  replace h4 := Eq.symm h4
  subst h4
  replace h5 := Eq.symm h5
  subst h5
  replace h6 := Eq.symm h6
  subst h6
  replace h8 := Eq.symm h8
  subst h8
  exact (Eq.trans (if_neg h0) (Eq.trans (if_neg h2) (Eq.trans (if_neg h7) rfl)))
theorem F_m_odds_p7 {o : Nat} {x_25 : Int32} {x_1 : Int32} {x_253 : Int32} {x_254 : Int32} {S_255 : dg_S} {x_258 : Int32} (h0 : ¬ ((64 : Int32) ≤ x_253)) (h1 : x_258 = F_m_isCellOf o S_255 x_253) (h2 : x_258 = (0 : Int32)) : (F_m_odds_B1 o x_25 x_1) (x_253, x_254, S_255) = F_m_odds_J2 x_253 x_254 S_255 := by
  replace h1 := Eq.symm h1
  subst h1
  exact (Eq.trans (if_neg h0) (Eq.trans (if_pos h2) rfl))
theorem F_m_odds_p8 {o : Nat} {S : dg_S} {a1 : Int32} {a2 : Int32} {x_25 : Int32} {x_1 : Int32} {S_39 : dg_S} {x_13 : Int32} {x_21 : Int32} {x_24 : Int32} {S_28 : dg_S} {x_45 : Int32} (h0 : x_1 = zI S 0 13) (h1 : x_13 = F_m_isAhead o S (1 : Int32) (1 : Int32) (1 : Int32)) (h2 : ¬ (x_13 = (0 : Int32))) (h3 : ¬ (a1 = (-1 : Int32))) (h4 : x_21 = F_m_isCell o S a1 a2) (h5 : ¬ (x_21 = (0 : Int32))) (h6 : x_24 = (8 : Int32) * a2) (h7 : x_25 = x_24 + a1) (h8 : S_28 = F_m_copies o S (1 : Int32) (0 : Int32)) (h9 : S_39 = (F_m_ticks o S_28 (1 : Int32)).1) (h10 : x_45 = F_m_isOpen o S_39 (1 : Int32) x_25) (h11 : x_45 = (0 : Int32)) : F_m_odds o S a1 a2 = lp (F_m_odds_B1 o x_25 x_1) (S, (0 : Int32)) ((65 - ((0 : Int32)).toInt).toNat + 1) ((0 : Int32), (0 : Int32), S_39) := by
  replace h0 := Eq.symm h0
  subst h0
  replace h1 := Eq.symm h1
  subst h1
  replace h4 := Eq.symm h4
  subst h4
  replace h6 := Eq.symm h6
  subst h6
  replace h7 := Eq.symm h7
  subst h7
  replace h8 := Eq.symm h8
  subst h8
  replace h9 := Eq.symm h9
  subst h9
  replace h10 := Eq.symm h10
  subst h10
  exact (Eq.trans (if_neg h2) (Eq.trans (if_neg h3) (Eq.trans (if_neg h5) (Eq.trans (if_pos h11) rfl))))
theorem F_m_odds_p9 {o : Nat} {x_25 : Int32} {x_1 : Int32} {x_551 : Int32} {x_552 : Int32} {S_553 : dg_S} (h0 : (64 : Int32) ≤ x_551) : (F_m_odds_B4 o x_25 x_1) (x_551, x_552, S_553) = Sum.inr ((S_553, x_552)) := (Eq.trans (if_pos h0) rfl)
theorem F_m_odds_p10 {x_551 : Int32} {x_591 : Int32} {S_594 : dg_S} {x_596 : Int32} (h0 : x_596 = x_551 + 1) : F_m_odds_J5 x_551 x_591 S_594 = Sum.inl (x_596, x_591, S_594) := by
  replace h0 := Eq.symm h0
  subst h0
  exact rfl
theorem F_m_odds_p11 {x_552 : Int32} {x_628 : Int32} {x_551 : Int32} {S_617 : dg_S} {x_631 : Int32} (h0 : x_631 = x_552 + x_628) : F_m_odds_J6 x_552 x_628 x_551 S_617 = F_m_odds_J5 x_551 x_631 S_617 := by
  replace h0 := Eq.symm h0
  subst h0
  exact rfl
theorem F_m_odds_p12 {o : Nat} {x_25 : Int32} {x_1 : Int32} {x_551 : Int32} {x_552 : Int32} {S_553 : dg_S} {S_617 : dg_S} {x_556 : Int32} {S_603 : dg_S} {S_614 : dg_S} {x_623 : Int32} (h0 : ¬ ((64 : Int32) ≤ x_551)) (h1 : x_556 = F_m_isCellOf o S_553 x_551) (h2 : ¬ (x_556 = (0 : Int32))) (h3 : S_603 = F_m_copies o S_553 (1 : Int32) (0 : Int32)) (h4 : S_614 = (F_m_isSolidBy o S_603 (1 : Int32) x_551).1) (h5 : S_617 = (F_m_ticks o S_614 (1 : Int32)).1) (h6 : x_623 = F_m_isOpen o S_617 (1 : Int32) x_25) (h7 : x_623 = (0 : Int32)) : (F_m_odds_B4 o x_25 x_1) (x_551, x_552, S_553) = F_m_odds_J6 x_552 (0 : Int32) x_551 S_617 := by
  replace h1 := Eq.symm h1
  subst h1
  replace h3 := Eq.symm h3
  subst h3
  replace h4 := Eq.symm h4
  subst h4
  replace h5 := Eq.symm h5
  subst h5
  replace h6 := Eq.symm h6
  subst h6
  exact (Eq.trans (if_neg h0) (Eq.trans (if_neg h2) (Eq.trans (if_pos h7) rfl)))
theorem F_m_odds_p13 {o : Nat} {x_25 : Int32} {x_1 : Int32} {x_551 : Int32} {x_552 : Int32} {S_553 : dg_S} {x_635 : Int32} {S_617 : dg_S} {x_556 : Int32} {S_603 : dg_S} {S_614 : dg_S} {x_623 : Int32} (h0 : ¬ ((64 : Int32) ≤ x_551)) (h1 : x_556 = F_m_isCellOf o S_553 x_551) (h2 : ¬ (x_556 = (0 : Int32))) (h3 : S_603 = F_m_copies o S_553 (1 : Int32) (0 : Int32)) (h4 : S_614 = (F_m_isSolidBy o S_603 (1 : Int32) x_551).1) (h5 : S_617 = (F_m_ticks o S_614 (1 : Int32)).1) (h6 : x_623 = F_m_isOpen o S_617 (1 : Int32) x_25) (h7 : ¬ (x_623 = (0 : Int32))) (h8 : x_635 = S_617.2.1 6 (x_1 : Int32).toNatClampNeg) : (F_m_odds_B4 o x_25 x_1) (x_551, x_552, S_553) = F_m_odds_J6 x_552 x_635 x_551 S_617 := by
  replace h1 := Eq.symm h1
  subst h1
  replace h3 := Eq.symm h3
  subst h3
  replace h4 := Eq.symm h4
  subst h4
  replace h5 := Eq.symm h5
  subst h5
  replace h6 := Eq.symm h6
  subst h6
  replace h8 := Eq.symm h8
  subst h8
  exact (Eq.trans (if_neg h0) (Eq.trans (if_neg h2) (Eq.trans (if_neg h7) rfl)))
theorem F_m_odds_p14 {o : Nat} {x_25 : Int32} {x_1 : Int32} {x_551 : Int32} {x_552 : Int32} {S_553 : dg_S} {x_556 : Int32} (h0 : ¬ ((64 : Int32) ≤ x_551)) (h1 : x_556 = F_m_isCellOf o S_553 x_551) (h2 : x_556 = (0 : Int32)) : (F_m_odds_B4 o x_25 x_1) (x_551, x_552, S_553) = F_m_odds_J5 x_551 x_552 S_553 := by
  replace h1 := Eq.symm h1
  subst h1
  exact (Eq.trans (if_neg h0) (Eq.trans (if_pos h2) rfl))
theorem F_m_odds_p15 {o : Nat} {S : dg_S} {a1 : Int32} {a2 : Int32} {x_25 : Int32} {x_1 : Int32} {x_344 : Int32} {S_39 : dg_S} {x_3 : Int32} {x_6 : Int32} {x_7 : Int32} {x_13 : Int32} {x_21 : Int32} {x_24 : Int32} {S_28 : dg_S} {x_45 : Int32} {x_342 : Int32} {x_343 : Int32} (h0 : x_1 = zI S 0 13) (h1 : x_3 = S.2.1 2 (x_1 : Int32).toNatClampNeg) (h2 : x_6 = S.2.1 3 (x_1 : Int32).toNatClampNeg) (h3 : x_7 = x_3 * x_6) (h4 : x_13 = F_m_isAhead o S (1 : Int32) (1 : Int32) (1 : Int32)) (h5 : ¬ (x_13 = (0 : Int32))) (h6 : ¬ (a1 = (-1 : Int32))) (h7 : x_21 = F_m_isCell o S a1 a2) (h8 : ¬ (x_21 = (0 : Int32))) (h9 : x_24 = (8 : Int32) * a2) (h10 : x_25 = x_24 + a1) (h11 : S_28 = F_m_copies o S (1 : Int32) (0 : Int32)) (h12 : S_39 = (F_m_ticks o S_28 (1 : Int32)).1) (h13 : x_45 = F_m_isOpen o S_39 (1 : Int32) x_25) (h14 : ¬ (x_45 = (0 : Int32))) (h15 : x_342 = S_39.2.1 6 (x_1 : Int32).toNatClampNeg) (h16 : x_343 = (100 : Int32) - x_342) (h17 : x_344 = x_343 * x_7) : F_m_odds o S a1 a2 = lp (F_m_odds_B4 o x_25 x_1) (S, (0 : Int32)) ((65 - ((0 : Int32)).toInt).toNat + 1) ((0 : Int32), x_344, S_39) := by
  replace h0 := Eq.symm h0
  subst h0
  replace h1 := Eq.symm h1
  subst h1
  replace h2 := Eq.symm h2
  subst h2
  replace h3 := Eq.symm h3
  subst h3
  replace h4 := Eq.symm h4
  subst h4
  replace h7 := Eq.symm h7
  subst h7
  replace h9 := Eq.symm h9
  subst h9
  replace h10 := Eq.symm h10
  subst h10
  replace h11 := Eq.symm h11
  subst h11
  replace h12 := Eq.symm h12
  subst h12
  replace h13 := Eq.symm h13
  subst h13
  replace h15 := Eq.symm h15
  subst h15
  replace h16 := Eq.symm h16
  subst h16
  replace h17 := Eq.symm h17
  subst h17
  exact (Eq.trans (if_neg h5) (Eq.trans (if_neg h6) (Eq.trans (if_neg h8) (Eq.trans (if_neg h14) rfl))))
theorem F_m_odds_p16 {o : Nat} {S : dg_S} {a1 : Int32} {a2 : Int32} {x_13 : Int32} {x_21 : Int32} (h0 : x_13 = F_m_isAhead o S (1 : Int32) (1 : Int32) (1 : Int32)) (h1 : ¬ (x_13 = (0 : Int32))) (h2 : ¬ (a1 = (-1 : Int32))) (h3 : x_21 = F_m_isCell o S a1 a2) (h4 : x_21 = (0 : Int32)) : F_m_odds o S a1 a2 = (S, (-1 : Int32)) := by
  replace h0 := Eq.symm h0
  subst h0
  replace h3 := Eq.symm h3
  subst h3
  exact (Eq.trans (if_neg h1) (Eq.trans (if_neg h2) (Eq.trans (if_pos h4) rfl)))
set_option maxHeartbeats 8000000 in
set_option maxRecDepth 100000 in
theorem c_m_odds (l : Launch) (g : Nat → ClassId) (D : va_G) (o : Nat) (S : dg_S) (a1 : Int32) (a2 : Int32) (ZB : ZBM S) (ZS : ZSM S) (ZW : ZWM S) (I : CM o S) (sz : Nat) : Met l yX12_odds (bw yX12_odds cX12_odds 7 (some .int)) ({ frames := 9, cells := 0, slots := 0, locals := 217 } : Room) (dk_Pc g D (dg_w g shM o rfM S) sz [.ref (o + 0), .int a1, .int a2]) (va_Qi (fun (r : Int32) S' => CM o S' ∧ dg_sm shM [] [29, 30, 31, 32, 33, 34, 35, 36, 37, 38, 39, 40, 41, 42, 43, 44] S S' ∧ ZSM S' ∧ (S' = (F_m_odds o S a1 a2).1 ∧ r = (F_m_odds o S a1 a2).2) ∧ True) (dg_B g D shM o rfM) (dg_A o shM.length sz)) 0 0 (dg_A o shM.length sz) := by
  refine dg_met (cc := cX12_odds) (maxL := 7) (ret := (some .int)) (dk_dq rfl) rfl (Nat.le_of_ble_eq_true rfl) ?_
  intro p e s m args below meth c A hAe harg hx hb hr hml hts hown hlocks hin hP K hS hA1 hA ST hsz ls hl
  rw [← hAe]
  have F : CallFix p m c cX12_odds 7 s args (bw yX12_odds cX12_odds 7 (some .int)) RX12 := ⟨hx, hb, hml, hown, hts⟩
  have hl : lv_has ls 7 [(0, .ref (o + 0)), (1, .int a1), (2, .int a2)] := hl
  have M_0 : dg_sm shM [] [29, 30, 31, 32, 33, 34, 35, 36, 37, 38, 39, 40, 41, 42, 43, 44] S S := dg_sm.rf
  refine lv_aload_n hx hb dX12_odds_0 rfl (lv_at hl 0 rfl) ?_
  refine dg_get (C := RX12) (T := TX12) (N := 77) hx hb hts (fun w h => bw_mem (wU_X12 w h)) hown K hP sM_0 rfl 14 (dk_dq rfl) (hts _ (bw_mem wB_372)) (fun _ h9 => h9) (v := .ref (o + 2)) (show S.1 0 14 = .ref (o + 2) from dg_I.rel (d := 2) I sM_0 (by decide +kernel)) dX12_odds_1 ?_
  refine lv_aload_n hx hb dX12_odds_4 rfl (lv_at hl 0 rfl) ?_
  obtain ⟨x_1, f_x_1, b_x_1⟩ := dg_I.int (i := 0) (k := 13) (lo := 0) (hi := 1) I sM_0 (by decide +kernel)
  refine dg_get (C := RX12) (T := TX12) (N := 77) hx hb hts (fun w h => bw_mem (wU_X12 w h)) hown K hP sM_0 rfl 13 (dk_dq rfl) (hts _ (bw_mem wB_1085)) (fun _ h9 => h9) (v := .int x_1) f_x_1 dX12_odds_5 ?_
  have hin_2 : vp_in x_1 2 := (dk_inv2 (by omega))
  refine dg_iald hx hb K hP sM_2 hin_2 dX12_odds_8 (fun x_3 ex_3 => ?_)
  have b_x_3 := dk_all_at (dg_I.row (lo := 0) (hi := 9999) I sM_2 (by decide +kernel)) hin_2 ex_3
  obtain ⟨x_4, f_x_4, b_x_4⟩ := dg_I.int (i := 0) (k := 47) (lo := 0) (hi := 1) I sM_0 (by decide +kernel)
  have zb_x_3 : (x_3).toInt ≤ 7 ∧ ((x_4 : Int32).toInt = 1 → 3 ≤ (x_3).toInt) := by rw [ex_3]; exact ⟨(ZB x_1 x_4 f_x_1 f_x_4).1, fun h9 => ((ZB x_1 x_4 f_x_1 f_x_4).2.2.2 h9).1⟩
  refine lv_aload_n hx hb dX12_odds_9 rfl (lv_at hl 0 rfl) ?_
  refine dg_get (C := RX12) (T := TX12) (N := 77) hx hb hts (fun w h => bw_mem (wU_X12 w h)) hown K hP sM_0 rfl 15 (dk_dq rfl) (hts _ (bw_mem wB_377)) (fun _ h9 => h9) (v := .ref (o + 3)) (show S.1 0 15 = .ref (o + 3) from dg_I.rel (d := 3) I sM_0 (by decide +kernel)) dX12_odds_10 ?_
  refine lv_aload_n hx hb dX12_odds_13 rfl (lv_at hl 0 rfl) ?_
  refine dg_get (C := RX12) (T := TX12) (N := 77) hx hb hts (fun w h => bw_mem (wU_X12 w h)) hown K hP sM_0 rfl 13 (dk_dq rfl) (hts _ (bw_mem wB_1085)) (fun _ h9 => h9) (v := .int x_1) f_x_1 dX12_odds_14 ?_
  have hin_5 : vp_in x_1 2 := (dk_inv2 (by omega))
  refine dg_iald hx hb K hP sM_3 hin_5 dX12_odds_17 (fun x_6 ex_6 => ?_)
  have b_x_6 := dk_all_at (dg_I.row (lo := 0) (hi := 9999) I sM_3 (by decide +kernel)) hin_5 ex_6
  have zb_x_6 : (x_6).toInt ≤ 7 ∧ ((x_4 : Int32).toInt = 1 → 3 ≤ (x_6).toInt) := by rw [ex_6]; exact ⟨(ZB x_1 x_4 f_x_1 f_x_4).2.1, fun h9 => ((ZB x_1 x_4 f_x_1 f_x_4).2.2.2 h9).2⟩
  refine lv_imul hx hb dX12_odds_18 ?_
  refine lv_topi (fun x_7 ex_7 => ?_)
  have jx_7 := dk_mulB (x := x_3) (y := x_6) (A := 7) (B := 7) (by omega) (by omega) (dk_dq rfl)
  rw [← ex_7] at jx_7
  refine lv_istore_n (lv' := [(3, .int x_7), (0, .ref (o + 0)), (1, .int a1), (2, .int a2)]) hx hb dX12_odds_19 rfl hl (dk_dq rfl) rfl (fun ls hl => ?_)
  refine lv_aload_n hx hb dX12_odds_20 rfl (lv_at hl 1 rfl) ?_
  refine lv_iconst (v := 1) hx hb dX12_odds_21 (by decide +kernel) ?_
  refine lv_iconst (v := 1) hx hb dX12_odds_22 (by decide +kernel) ?_
  refine lv_iconst (v := 1) hx hb dX12_odds_23 (by decide +kernel) ?_
  have hz_8 : (1 : Int32).toInt = 1 := by decide +kernel
  have hz_9 : (1 : Int32).toInt = 1 := by decide +kernel
  obtain ⟨x_10, f_x_10⟩ : ∃ x, S.2.1 29 (0 : Int32).toNatClampNeg = x := ⟨_, rfl⟩
  have hin_11 : vp_in (0 : Int32) 22 := (dk_in (by decide +kernel))
  have b_x_10 := dk_all_at (dg_I.row (lo := 0) (hi := 2000) I sM_29 (by decide +kernel)) hin_11 f_x_10.symm
  have ex_10 := f_x_10.symm
  have hz_12 : (0 : Int32).toInt = 0 := by decide +kernel
  have zs_x_10 : (0 : Int32).toInt ≠ 1 → (x_10).toInt ≤ 999 := fun h => by rw [ex_10]; exact ZS _ (dk_inT hin_11).2 (fun q => by have h9 := (dk_inT hin_11).1; omega)
  as_aux_lemma =>
    refine dg_calli hS hA1 hA (va_runV (As := [.int 1, .int 1, .int 1]) (rest := []) F (c_m_isAhead l g D o S 1 1 (by decide +kernel) 1 (by decide +kernel) x_4 f_x_4 (by omega) x_10 f_x_10 (by omega) I s.heap.size) (cwV 3 hts (bw_V wB_1235 wB_1236 wB_1237 wB_297 wB_1234) rfl rfl rfl (by decide +kernel) ⟨Nat.le_of_ble_eq_true rfl, Nat.le_of_ble_eq_true rfl⟩) (dg_preV sM_0 rfl K ST hP hS hA1 hA) rfl rfl hl.1 rfl (lv_room (Nat.le_of_ble_eq_true rfl)) dX12_odds_24 ⟨Nat.le_of_ble_eq_true rfl, Nat.le_of_ble_eq_true rfl⟩) (fun x_13 S_14 hw_14 H locs hP hS => ?_)
    rw [hw_14.1] at hP
    obtain ⟨hq_14, w_14_0, w_14_1, w_14_2, -⟩ := hw_14
    have hz_15 : (1 : Int32).toInt = 1 := by decide +kernel
    have hz_16 : (1 : Int32).toInt = 1 := by decide +kernel
    have hz_17 : (1 : Int32).toInt = 1 := by decide +kernel
    have w_14_0 : 0 ≤ (x_13).toInt ∧ (x_13).toInt ≤ 1 := w_14_0
    have w_14_1 : (x_13).toInt = 1 → ((x_4).toInt = 1 ∧ ((1 : Int32)).toInt ≤ ((1 : Int32)).toInt ∧ ((1 : Int32)).toInt ≤ ((1 : Int32)).toInt ∧ (x_10).toInt ≤ 999 - ((1 : Int32)).toInt) := w_14_1
    refine lv_if_eq (tgt := 44) hx hb dX12_odds_27 (dk_dq rfl) (fun c_18 => ?_) (fun c_18 => ?_)
    · have jc_18 := dk_eqc (k := 0) (by decide +kernel) c_18
      refine lv_iconst (v := (-1)) hx hb dX12_odds_44 (by decide +kernel) ?_
      refine W.widen (k := 0) (n := 0) (Nat.le_of_ble_eq_true rfl) (Nat.le_of_ble_eq_true rfl) ?_
      exact dg_iret hx hb hr hlocks rfl hP hS ⟨I, M_0, ZS, ⟨congrArg Prod.fst (Eq.symm (F_m_odds_p0 w_14_2 c_18)), congrArg Prod.snd (Eq.symm (F_m_odds_p0 w_14_2 c_18))⟩, trivial⟩ dX12_odds_45
    · as_aux_lemma =>
        have jc_18 := dk_neqc (k := 0) (by decide +kernel) c_18
        refine lv_iload_n hx hb dX12_odds_30 rfl (lv_at hl 2 rfl) ?_
        refine lv_iconst (v := (-1)) hx hb dX12_odds_31 (by decide +kernel) ?_
        refine lv_icmp_eq (tgt := 46) hx hb dX12_odds_32 (dk_dq rfl) (fun c_19 => ?_) (fun c_19 => ?_)
        · have jc_19 := dk_eqc (k := (-1)) (by decide +kernel) c_19
          refine lv_iload_n hx hb dX12_odds_46 rfl (lv_at hl 2 rfl) ?_
          refine lv_iconst (v := (-1)) hx hb dX12_odds_47 (by decide +kernel) ?_
          refine lv_icmp_ne (tgt := 56) hx hb dX12_odds_48 (dk_dq rfl) (fun c => absurd (dk_eqp (k := (-1)) (by decide +kernel) (by omega)) c) (fun _ => ?_)
          refine lv_bipush (v := 100) hx hb dX12_odds_51 (by decide +kernel) ?_
          refine lv_iload_n hx hb dX12_odds_53 rfl (lv_at hl 0 rfl) ?_
          refine lv_imul hx hb dX12_odds_54 ?_
          refine lv_topi (fun x_20 ex_20 => ?_)
          have jx_20 : (x_20).toInt = 100 * (x_7).toInt := by rw [ex_20]; exact dk_mulT2 (by decide +kernel) rfl (by omega)
          refine W.widen (k := 0) (n := 0) (Nat.le_of_ble_eq_true rfl) (Nat.le_of_ble_eq_true rfl) ?_
          exact dg_iret hx hb hr hlocks rfl hP hS ⟨I, M_0, ZS, ⟨congrArg Prod.fst (Eq.symm (F_m_odds_p1 (zI_eq f_x_1) (Eq.symm ex_3.symm) (Eq.symm ex_6.symm) ex_7 w_14_2 c_18 c_19 ex_20)), congrArg Prod.snd (Eq.symm (F_m_odds_p1 (zI_eq f_x_1) (Eq.symm ex_3.symm) (Eq.symm ex_6.symm) ex_7 w_14_2 c_18 c_19 ex_20))⟩, trivial⟩ dX12_odds_55
        · as_aux_lemma =>
            have jc_19 := dk_neqc (k := (-1)) (by decide +kernel) c_19
            refine lv_aload_n hx hb dX12_odds_35 rfl (lv_at hl 1 rfl) ?_
            refine lv_iload_n hx hb dX12_odds_36 rfl (lv_at hl 2 rfl) ?_
            refine lv_iload_n hx hb dX12_odds_37 rfl (lv_at hl 3 rfl) ?_
            refine dg_calli hS hA1 hA (va_runV (As := [.int a1, .int a2]) (rest := []) F (c_m_isCell l g D o S a1 a2 x_1 f_x_1 (by omega) x_4 f_x_4 (by omega) x_3 ex_3.symm (by omega) x_6 ex_6.symm (by omega) ZB I H.size) (cwV 2 hts (bw_V wB_1087 wB_1088 wB_1089 wB_297 wB_1086) rfl rfl rfl (by decide +kernel) ⟨Nat.le_of_ble_eq_true rfl, Nat.le_of_ble_eq_true rfl⟩) (dg_preV sM_0 rfl K ST hP hS hA1 hA) rfl rfl hl.1 rfl (lv_room (Nat.le_of_ble_eq_true rfl)) dX12_odds_38 ⟨Nat.le_of_ble_eq_true rfl, Nat.le_of_ble_eq_true rfl⟩) (fun x_21 S_22 hw_22 H locs hP hS => ?_)
            rw [hw_22.1] at hP
            obtain ⟨hq_22, w_22_0, w_22_1, w_22_2, w_22_3, -⟩ := hw_22
            have w_22_0 : 0 ≤ (x_21).toInt ∧ (x_21).toInt ≤ 1 := w_22_0
            have w_22_1 : (x_21).toInt = 1 → (0 ≤ (a1).toInt ∧ (a1).toInt ≤ 6 ∧ 0 ≤ (a2).toInt ∧ (a2).toInt ≤ 6) := w_22_1
            have w_22_2 : (x_21).toInt = 1 ↔ ((x_4).toInt = 1 ∧ 0 ≤ (a1).toInt ∧ (a1).toInt < (x_3).toInt ∧ 0 ≤ (a2).toInt ∧ (a2).toInt < (x_6).toInt) := w_22_2
            refine lv_if_ne (tgt := 46) hx hb dX12_odds_41 (dk_dq rfl) (fun c_23 => ?_) (fun c_23 => ?_)
            · as_aux_lemma =>
                have jc_23 := dk_neqc (k := 0) (by decide +kernel) c_23
                refine lv_iload_n hx hb dX12_odds_46 rfl (lv_at hl 2 rfl) ?_
                refine lv_iconst (v := (-1)) hx hb dX12_odds_47 (by decide +kernel) ?_
                refine lv_icmp_ne (tgt := 56) hx hb dX12_odds_48 (dk_dq rfl) (fun _ => ?_) (fun c => absurd c (fun z => absurd (dk_eqc (k := (-1)) (by decide +kernel) z) (by omega)))
                refine lv_bipush (v := 8) hx hb dX12_odds_56 (by decide +kernel) ?_
                refine lv_iload_n hx hb dX12_odds_58 rfl (lv_at hl 3 rfl) ?_
                refine lv_imul hx hb dX12_odds_59 ?_
                refine lv_topi (fun x_24 ex_24 => ?_)
                have jx_24 : (x_24).toInt = 8 * (a2).toInt := by rw [ex_24]; exact dk_mulT2 (by decide +kernel) rfl (by omega)
                refine lv_iload_n hx hb dX12_odds_60 rfl (lv_at hl 2 rfl) ?_
                refine lv_iadd hx hb dX12_odds_61 ?_
                refine lv_topi (fun x_25 ex_25 => ?_)
                have jx_25 : (x_25).toInt = (x_24).toInt + (a1).toInt := by rw [ex_25]; exact dk_addT2 rfl rfl (by omega)
                refine lv_istore (lv' := [(4, .int x_25), (3, .int x_7), (0, .ref (o + 0)), (1, .int a1), (2, .int a2)]) hx hb dX12_odds_62 hl (dk_dq rfl) rfl (fun ls hl => ?_)
                refine lv_aload_n hx hb dX12_odds_64 rfl (lv_at hl 2 rfl) ?_
                refine lv_iconst (v := 1) hx hb dX12_odds_65 (by decide +kernel) ?_
                refine lv_iconst (v := 0) hx hb dX12_odds_66 (by decide +kernel) ?_
                have hz_26 : (1 : Int32).toInt = 1 := by decide +kernel
                have hz_27 : (0 : Int32).toInt = 0 := by decide +kernel
                refine dg_callv hS hA1 hA (va_runV (As := [.int 1, .int 0]) (rest := []) F (c_m_copies l g D o S 1 (by decide +kernel) 0 (by decide +kernel) x_10 f_x_10 (by omega) x_10 f_x_10 (by omega) (by omega) ZS I H.size) (cwV 2 hts (bw_V wB_1227 wB_1228 wB_1229 wB_297 wB_1226) rfl rfl rfl (by decide +kernel) ⟨Nat.le_of_ble_eq_true rfl, Nat.le_of_ble_eq_true rfl⟩) (dg_preV sM_0 rfl K ST hP hS hA1 hA) rfl rfl hl.1 rfl (lv_room (Nat.le_of_ble_eq_true rfl)) dX12_odds_67 ⟨Nat.le_of_ble_eq_true rfl, Nat.le_of_ble_eq_true rfl⟩) (fun S_28 hw_28 H locs hP hS => ?_)
                obtain ⟨I_28, m_28, w_28_0, w_28_1, w_28_2, w_28_3, -⟩ := hw_28
                have M_28 := dg_sm.tr M_0 m_28 (dk_dq rfl) (dk_dq rfl)
                have hz_29 : (1 : Int32).toInt = 1 := by decide +kernel
                have hz_30 : (0 : Int32).toInt = 0 := by decide +kernel
                obtain ⟨x_31, f_x_31⟩ : ∃ x, S_28.2.1 29 (1 : Int32).toNatClampNeg = x := ⟨_, rfl⟩
                have hin_32 : vp_in (1 : Int32) 22 := (dk_in (by decide +kernel))
                have b_x_31 := dk_all_at (dg_I.row (lo := 0) (hi := 2000) I_28 sM_29 (by decide +kernel)) hin_32 f_x_31.symm
                have ex_31 := f_x_31.symm
                have hz_33 : (1 : Int32).toInt = 1 := by decide +kernel
                have zs_x_31 : (1 : Int32).toInt ≠ 1 → (x_31).toInt ≤ 999 := fun h => by rw [ex_31]; exact w_28_2 _ (dk_inT hin_32).2 (fun q => by have h9 := (dk_inT hin_32).1; omega)
                have w_28_0 : (x_31).toInt = (x_10).toInt := w_28_0 x_31 f_x_31
                obtain ⟨x_34, f_x_34⟩ : ∃ x, S_28.2.1 29 (0 : Int32).toNatClampNeg = x := ⟨_, rfl⟩
                have hin_35 : vp_in (0 : Int32) 22 := (dk_in (by decide +kernel))
                have b_x_34 := dk_all_at (dg_I.row (lo := 0) (hi := 2000) I_28 sM_29 (by decide +kernel)) hin_35 f_x_34.symm
                have ex_34 := f_x_34.symm
                have hz_36 : (0 : Int32).toInt = 0 := by decide +kernel
                have zs_x_34 : (0 : Int32).toInt ≠ 1 → (x_34).toInt ≤ 999 := fun h => by rw [ex_34]; exact w_28_2 _ (dk_inT hin_35).2 (fun q => by have h9 := (dk_inT hin_35).1; omega)
                have w_28_1 : ((1 : Int32)).toInt ≠ 0 → (x_34).toInt = (x_10).toInt := w_28_1 x_34 f_x_34
                refine lv_aload_n hx hb dX12_odds_70 rfl (lv_at hl 2 rfl) ?_
                refine lv_iconst (v := 1) hx hb dX12_odds_71 (by decide +kernel) ?_
                have hz_37 : (1 : Int32).toInt = 1 := by decide +kernel
                as_aux_lemma =>
                  refine dg_calli hS hA1 hA (va_runV (As := [.int 1]) (rest := []) F (c_m_ticks l g D o S_28 1 (by decide +kernel) x_31 f_x_31 (by omega) (by omega) (ZBM.keep ZB m_28 (dk_dq rfl) (dk_dq rfl) (dk_dq rfl) (dk_dq rfl) (dk_dq rfl)) w_28_2 (ZWM.keep ZW m_28 (dk_dq rfl) (dk_dq rfl) (dk_dq rfl) (dk_dq rfl)) I_28 H.size) (cwV 1 hts (bw_V wB_1231 wB_1232 wB_1233 wB_297 wB_1230) rfl rfl rfl (by decide +kernel) ⟨Nat.le_of_ble_eq_true rfl, Nat.le_of_ble_eq_true rfl⟩) (dg_preV sM_0 rfl K ST hP hS hA1 hA) rfl rfl hl.1 rfl (lv_room (Nat.le_of_ble_eq_true rfl)) dX12_odds_72 ⟨Nat.le_of_ble_eq_true rfl, Nat.le_of_ble_eq_true rfl⟩) (fun x_38 S_39 hw_39 H locs hP hS => ?_)
                  obtain ⟨I_39, m_39, w_39_0, w_39_1, w_39_2, w_39_3, -⟩ := hw_39
                  have M_39 := dg_sm.tr M_28 m_39 (dk_dq rfl) (dk_dq rfl)
                  have hz_40 : (1 : Int32).toInt = 1 := by decide +kernel
                  have w_39_0 : 0 ≤ (x_38).toInt ∧ (x_38).toInt ≤ 1 := w_39_0
                  obtain ⟨x_41, f_x_41⟩ : ∃ x, S_39.2.1 29 (1 : Int32).toNatClampNeg = x := ⟨_, rfl⟩
                  have hin_42 : vp_in (1 : Int32) 22 := (dk_in (by decide +kernel))
                  have b_x_41 := dk_all_at (dg_I.row (lo := 0) (hi := 2000) I_39 sM_29 (by decide +kernel)) hin_42 f_x_41.symm
                  have ex_41 := f_x_41.symm
                  have hz_43 : (1 : Int32).toInt = 1 := by decide +kernel
                  have zs_x_41 : (1 : Int32).toInt ≠ 1 → (x_41).toInt ≤ 999 := fun h => by rw [ex_41]; exact w_39_2 _ (dk_inT hin_42).2 (fun q => by have h9 := (dk_inT hin_42).1; omega)
                  have w_39_1 : (x_41).toInt = (x_31).toInt + 1 := w_39_1 x_41 f_x_41
                  refine lv_pop hx hb dX12_odds_75 rfl ?_
                  refine lv_aload_n hx hb dX12_odds_76 rfl (lv_at hl 2 rfl) ?_
                  refine lv_iconst (v := 1) hx hb dX12_odds_77 (by decide +kernel) ?_
                  refine lv_iload hx hb dX12_odds_78 (lv_at hl 0 rfl) ?_
                  have hz_44 : (1 : Int32).toInt = 1 := by decide +kernel
                  refine dg_calli hS hA1 hA (va_runV (As := [.int 1, .int x_25]) (rest := []) F (c_m_isOpen l g D o S_39 1 (by decide +kernel) x_25 (by omega) I_39 H.size) (cwV 2 hts (bw_V wB_1092 wB_1093 wB_1094 wB_297 wB_1091) rfl rfl rfl (by decide +kernel) ⟨Nat.le_of_ble_eq_true rfl, Nat.le_of_ble_eq_true rfl⟩) (dg_preV sM_0 rfl K ST hP hS hA1 hA) rfl rfl hl.1 rfl (lv_room (Nat.le_of_ble_eq_true rfl)) dX12_odds_80 ⟨Nat.le_of_ble_eq_true rfl, Nat.le_of_ble_eq_true rfl⟩) (fun x_45 S_46 hw_46 H locs hP hS => ?_)
                  rw [hw_46.1] at hP
                  obtain ⟨hq_46, w_46_0, w_46_1, -⟩ := hw_46
                  have w_46_0 : 0 ≤ (x_45).toInt ∧ (x_45).toInt ≤ 1 := w_46_0
                  refine lv_if_eq (tgt := 103) hx hb dX12_odds_83 (dk_dq rfl) (fun c_47 => ?_) (fun c_47 => ?_)
                  · as_aux_lemma =>
                      have jc_47 := dk_eqc (k := 0) (by decide +kernel) c_47
                      refine lv_iconst (v := 0) hx hb dX12_odds_103 (by decide +kernel) ?_
                      refine lv_istore (lv' := [(5, .int 0), (4, .int x_25), (3, .int x_7), (0, .ref (o + 0)), (1, .int a1), (2, .int a2)]) hx hb dX12_odds_104 hl (dk_dq rfl) rfl (fun ls hl => ?_)
                      refine lv_iconst (v := 0) hx hb dX12_odds_106 (by decide +kernel) ?_
                      refine lv_istore (lv' := [(6, .int 0), (5, .int 0), (4, .int x_25), (3, .int x_7), (0, .ref (o + 0)), (1, .int a1), (2, .int a2)]) hx hb dX12_odds_107 hl (dk_dq rfl) rfl (fun ls hl => ?_)
                      have L_256 : ∀ (n : Nat) (x_253 : Int32) (x_254 : Int32), (0 ≤ (x_253).toInt ∧ (x_253).toInt ≤ 64) → ((65 - (x_253).toInt).toNat < n) → ∀ S_255 : dg_S, CM o S_255 → dg_sm shM [] [29, 30, 31, 32, 33, 34, 35, 36, 37, 38, 39, 40, 41, 42, 43, 44] S S_255 → ZSM S_255 → (F_m_odds o S a1 a2 = lp (F_m_odds_B1 o x_25 x_1) (S, (0 : Int32)) n (x_253, x_254, S_255)) → ∀ (H : Heap) (locs : List Loc), va_P D vwCl (dg_w g shM o rfM S_255) H → va_S A s.heap H locs → ∀ ls : Array Slot, lv_has ls 7 [(6, .int x_253), (5, .int x_254), (4, .int x_25), (3, .int x_7), (0, .ref (o + 0)), (1, .int a1), (2, .int a2)] → W p l e ({ frames := 9, cells := 0, slots := 0, locals := 217 } : Room) s m args below meth c H locs 0 0 (MQ below (va_Qi (fun (r : Int32) S' => CM o S' ∧ dg_sm shM [] [29, 30, 31, 32, 33, 34, 35, 36, 37, 38, 39, 40, 41, 42, 43, 44] S S' ∧ ZSM S' ∧ (S' = (F_m_odds o S a1 a2).1 ∧ r = (F_m_odds o S a1 a2).2) ∧ True) (dg_B g D shM o rfM) A) args s 0 0 A) (F0 m 109 ls []) := by
                        as_aux_lemma =>
                          intro n
                          induction n with
                          | zero =>
                            intro x_253 x_254 b_x_253 hmu S_255 I_255 M_255 ZS_255 hF_1 H locs hP hS ls hl
                            omega
                          | succ n ih =>
                            as_aux_lemma =>
                              intro x_253 x_254 b_x_253 hmu S_255 I_255 M_255 ZS_255 hF_1 H locs hP hS ls hl
                              refine lv_iload hx hb dX12_odds_109 (lv_at hl 0 rfl) ?_
                              refine lv_bipush (v := 64) hx hb dX12_odds_111 (by decide +kernel) ?_
                              refine lv_icmp_ge (tgt := 182) hx hb dX12_odds_113 (dk_dq rfl) (fun c_257 => ?_) (fun c_257 => ?_)
                              · have jc_257 := dk_gec (k := 64) (by decide +kernel) c_257
                                refine lv_iload hx hb dX12_odds_182 (lv_at hl 1 rfl) ?_
                                refine W.widen (k := 0) (n := 0) (Nat.le_of_ble_eq_true rfl) (Nat.le_of_ble_eq_true rfl) ?_
                                exact dg_iret hx hb hr hlocks rfl hP hS ⟨I_255, M_255, ZS_255, ⟨congrArg Prod.fst (Eq.symm (lp_r hF_1 (F_m_odds_p2 c_257))), congrArg Prod.snd (Eq.symm (lp_r hF_1 (F_m_odds_p2 c_257)))⟩, trivial⟩ dX12_odds_184
                              · as_aux_lemma =>
                                  have jc_257 := dk_ngec (k := 64) (by decide +kernel) c_257
                                  refine lv_aload_n hx hb dX12_odds_116 rfl (lv_at hl 4 rfl) ?_
                                  refine lv_iload hx hb dX12_odds_117 (lv_at hl 0 rfl) ?_
                                  refine dg_calli hS hA1 hA (va_runV (As := [.int x_253]) (rest := []) F (c_m_isCellOf l g D o S_255 x_253 (by omega) (ZBM.keep ZB M_255 (dk_dq rfl) (dk_dq rfl) (dk_dq rfl) (dk_dq rfl) (dk_dq rfl)) I_255 H.size) (cwV 1 hts (bw_V wB_1123 wB_1124 wB_1125 wB_297 wB_1122) rfl rfl rfl (by decide +kernel) ⟨Nat.le_of_ble_eq_true rfl, Nat.le_of_ble_eq_true rfl⟩) (dg_preV sM_0 rfl K ST hP hS hA1 hA) rfl rfl hl.1 rfl (lv_room (Nat.le_of_ble_eq_true rfl)) dX12_odds_119 ⟨Nat.le_of_ble_eq_true rfl, Nat.le_of_ble_eq_true rfl⟩) (fun x_258 S_259 hw_259 H locs hP hS => ?_)
                                  rw [hw_259.1] at hP
                                  obtain ⟨hq_259, w_259_0, w_259_1, w_259_2, -⟩ := hw_259
                                  have w_259_0 : 0 ≤ (x_258).toInt ∧ (x_258).toInt ≤ 1 := w_259_0
                                  have w_259_1 : (x_258).toInt = 1 → 0 ≤ (x_253).toInt := w_259_1
                                  have J_297 : ∀ (x_293 : Int32), ∀ S_296 : dg_S, CM o S_296 → dg_sm shM [] [29, 30, 31, 32, 33, 34, 35, 36, 37, 38, 39, 40, 41, 42, 43, 44] S S_296 → ZSM S_296 → ((F_m_odds_B1 o x_25 x_1) (x_253, x_254, S_255) = F_m_odds_J2 x_253 x_293 S_296) → ∀ (H : Heap) (locs : List Loc), va_P D vwCl (dg_w g shM o rfM S_296) H → va_S A s.heap H locs → ∀ ls : Array Slot, lv_has ls 7 [(5, .int x_293), (6, .int x_253), (4, .int x_25), (3, .int x_7), (0, .ref (o + 0)), (1, .int a1), (2, .int a2)] → W p l e ({ frames := 9, cells := 0, slots := 0, locals := 217 } : Room) s m args below meth c H locs 0 0 (MQ below (va_Qi (fun (r : Int32) S' => CM o S' ∧ dg_sm shM [] [29, 30, 31, 32, 33, 34, 35, 36, 37, 38, 39, 40, 41, 42, 43, 44] S S' ∧ ZSM S' ∧ (S' = (F_m_odds o S a1 a2).1 ∧ r = (F_m_odds o S a1 a2).2) ∧ True) (dg_B g D shM o rfM) A) args s 0 0 A) (F0 m 176 ls []) := by
                                    intro x_293 S_296 I_296 M_296 ZS_296 hF_2 H locs hP hS ls hl
                                    obtain ⟨x_298, ex_298⟩ : ∃ z, z = x_253 + 1 := ⟨_, rfl⟩
                                    have jx_298 : (x_298).toInt = (x_253).toInt + 1 := by rw [ex_298]; exact dk_addT2 rfl (by decide +kernel) (by omega)
                                    refine lv_iinc (v := x_298) (lv' := [(6, .int x_298), (5, .int x_293), (4, .int x_25), (3, .int x_7), (0, .ref (o + 0)), (1, .int a1), (2, .int a2)]) hx hb dX12_odds_176 hl (k := 1) rfl (by rw [ex_298]; rfl) (dk_dq rfl) rfl (fun ls hl => ?_)
                                    refine lv_goto (tgt := 109) hx hb dX12_odds_179 (dk_dq rfl) ?_
                                    exact ih x_298 x_293 (by omega) (by first | exact mu_lt hmu (by omega) (by omega) | omega) S_296 I_296 M_296 ZS_296 (lp_l hF_1 (Eq.trans hF_2 (F_m_odds_p3 ex_298))) _ _ hP hS _ (lv_sub hl [0, 1, 2, 3, 4, 5, 6] rfl)
                                  refine lv_if_ne (tgt := 128) hx hb dX12_odds_122 (dk_dq rfl) (fun c_299 => ?_) (fun c_299 => ?_)
                                  · as_aux_lemma =>
                                      have jc_299 := dk_neqc (k := 0) (by decide +kernel) c_299
                                      refine lv_aload_n hx hb dX12_odds_128 rfl (lv_at hl 4 rfl) ?_
                                      refine lv_iconst (v := 1) hx hb dX12_odds_129 (by decide +kernel) ?_
                                      refine lv_iconst (v := 0) hx hb dX12_odds_130 (by decide +kernel) ?_
                                      have hz_300 : (1 : Int32).toInt = 1 := by decide +kernel
                                      have hz_301 : (0 : Int32).toInt = 0 := by decide +kernel
                                      obtain ⟨x_302, f_x_302⟩ : ∃ x, S_255.2.1 29 (0 : Int32).toNatClampNeg = x := ⟨_, rfl⟩
                                      have hin_303 : vp_in (0 : Int32) 22 := (dk_in (by decide +kernel))
                                      have b_x_302 := dk_all_at (dg_I.row (lo := 0) (hi := 2000) I_255 sM_29 (by decide +kernel)) hin_303 f_x_302.symm
                                      have ex_302 := f_x_302.symm
                                      have hz_304 : (0 : Int32).toInt = 0 := by decide +kernel
                                      have zs_x_302 : (0 : Int32).toInt ≠ 1 → (x_302).toInt ≤ 999 := fun h => by rw [ex_302]; exact ZS_255 _ (dk_inT hin_303).2 (fun q => by have h9 := (dk_inT hin_303).1; omega)
                                      refine dg_callv hS hA1 hA (va_runV (As := [.int 1, .int 0]) (rest := []) F (c_m_copies l g D o S_255 1 (by decide +kernel) 0 (by decide +kernel) x_302 f_x_302 (by omega) x_302 f_x_302 (by omega) (by omega) ZS_255 I_255 H.size) (cwV 2 hts (bw_V wB_1227 wB_1228 wB_1229 wB_297 wB_1226) rfl rfl rfl (by decide +kernel) ⟨Nat.le_of_ble_eq_true rfl, Nat.le_of_ble_eq_true rfl⟩) (dg_preV sM_0 rfl K ST hP hS hA1 hA) rfl rfl hl.1 rfl (lv_room (Nat.le_of_ble_eq_true rfl)) dX12_odds_131 ⟨Nat.le_of_ble_eq_true rfl, Nat.le_of_ble_eq_true rfl⟩) (fun S_305 hw_305 H locs hP hS => ?_)
                                      obtain ⟨I_305, m_305, w_305_0, w_305_1, w_305_2, w_305_3, -⟩ := hw_305
                                      have M_305 := dg_sm.tr M_255 m_305 (dk_dq rfl) (dk_dq rfl)
                                      have hz_306 : (1 : Int32).toInt = 1 := by decide +kernel
                                      have hz_307 : (0 : Int32).toInt = 0 := by decide +kernel
                                      obtain ⟨x_308, f_x_308⟩ : ∃ x, S_305.2.1 29 (1 : Int32).toNatClampNeg = x := ⟨_, rfl⟩
                                      have hin_309 : vp_in (1 : Int32) 22 := (dk_in (by decide +kernel))
                                      have b_x_308 := dk_all_at (dg_I.row (lo := 0) (hi := 2000) I_305 sM_29 (by decide +kernel)) hin_309 f_x_308.symm
                                      have ex_308 := f_x_308.symm
                                      have hz_310 : (1 : Int32).toInt = 1 := by decide +kernel
                                      have zs_x_308 : (1 : Int32).toInt ≠ 1 → (x_308).toInt ≤ 999 := fun h => by rw [ex_308]; exact w_305_2 _ (dk_inT hin_309).2 (fun q => by have h9 := (dk_inT hin_309).1; omega)
                                      have w_305_0 : (x_308).toInt = (x_302).toInt := w_305_0 x_308 f_x_308
                                      obtain ⟨x_311, f_x_311⟩ : ∃ x, S_305.2.1 29 (0 : Int32).toNatClampNeg = x := ⟨_, rfl⟩
                                      have hin_312 : vp_in (0 : Int32) 22 := (dk_in (by decide +kernel))
                                      have b_x_311 := dk_all_at (dg_I.row (lo := 0) (hi := 2000) I_305 sM_29 (by decide +kernel)) hin_312 f_x_311.symm
                                      have ex_311 := f_x_311.symm
                                      have hz_313 : (0 : Int32).toInt = 0 := by decide +kernel
                                      have zs_x_311 : (0 : Int32).toInt ≠ 1 → (x_311).toInt ≤ 999 := fun h => by rw [ex_311]; exact w_305_2 _ (dk_inT hin_312).2 (fun q => by have h9 := (dk_inT hin_312).1; omega)
                                      have w_305_1 : ((1 : Int32)).toInt ≠ 0 → (x_311).toInt = (x_302).toInt := w_305_1 x_311 f_x_311
                                      refine lv_aload_n hx hb dX12_odds_134 rfl (lv_at hl 4 rfl) ?_
                                      refine lv_iconst (v := 1) hx hb dX12_odds_135 (by decide +kernel) ?_
                                      refine lv_iload hx hb dX12_odds_136 (lv_at hl 0 rfl) ?_
                                      have hz_314 : (1 : Int32).toInt = 1 := by decide +kernel
                                      refine dg_calli hS hA1 hA (va_runV (As := [.int 1, .int x_253]) (rest := []) F (c_m_isSolidBy l g D o S_305 1 (by decide +kernel) x_253 (by omega) I_305 H.size) (cwV 2 hts (bw_V wB_1264 wB_1265 wB_1266 wB_297 wB_1263) rfl rfl rfl (by decide +kernel) ⟨Nat.le_of_ble_eq_true rfl, Nat.le_of_ble_eq_true rfl⟩) (dg_preV sM_0 rfl K ST hP hS hA1 hA) rfl rfl hl.1 rfl (lv_room (Nat.le_of_ble_eq_true rfl)) dX12_odds_138 ⟨Nat.le_of_ble_eq_true rfl, Nat.le_of_ble_eq_true rfl⟩) (fun x_315 S_316 hw_316 H locs hP hS => ?_)
                                      obtain ⟨I_316, m_316, w_316_0, w_316_1, -⟩ := hw_316
                                      have M_316 := dg_sm.tr M_305 m_316 (dk_dq rfl) (dk_dq rfl)
                                      have w_316_0 : 0 ≤ (x_315).toInt ∧ (x_315).toInt ≤ 1 := w_316_0
                                      refine lv_pop hx hb dX12_odds_141 rfl ?_
                                      as_aux_lemma =>
                                        refine lv_aload_n hx hb dX12_odds_142 rfl (lv_at hl 4 rfl) ?_
                                        refine lv_iconst (v := 1) hx hb dX12_odds_143 (by decide +kernel) ?_
                                        have hz_317 : (1 : Int32).toInt = 1 := by decide +kernel
                                        refine dg_calli hS hA1 hA (va_runV (As := [.int 1]) (rest := []) F (c_m_ticks l g D o S_316 1 (by decide +kernel) x_308 ((congrFun (m_316.2 29 _ sM_29 (dk_dq rfl)).1 _).trans f_x_308) (by omega) (by omega) (ZBM.keep (ZBM.keep (ZBM.keep ZB M_255 (dk_dq rfl) (dk_dq rfl) (dk_dq rfl) (dk_dq rfl) (dk_dq rfl)) m_305 (dk_dq rfl) (dk_dq rfl) (dk_dq rfl) (dk_dq rfl) (dk_dq rfl)) m_316 (dk_dq rfl) (dk_dq rfl) (dk_dq rfl) (dk_dq rfl) (dk_dq rfl)) (ZSM.keep w_305_2 m_316 (dk_dq rfl)) (ZWM.keep (ZWM.keep (ZWM.keep ZW M_255 (dk_dq rfl) (dk_dq rfl) (dk_dq rfl) (dk_dq rfl)) m_305 (dk_dq rfl) (dk_dq rfl) (dk_dq rfl) (dk_dq rfl)) m_316 (dk_dq rfl) (dk_dq rfl) (dk_dq rfl) (dk_dq rfl)) I_316 H.size) (cwV 1 hts (bw_V wB_1231 wB_1232 wB_1233 wB_297 wB_1230) rfl rfl rfl (by decide +kernel) ⟨Nat.le_of_ble_eq_true rfl, Nat.le_of_ble_eq_true rfl⟩) (dg_preV sM_0 rfl K ST hP hS hA1 hA) rfl rfl hl.1 rfl (lv_room (Nat.le_of_ble_eq_true rfl)) dX12_odds_144 ⟨Nat.le_of_ble_eq_true rfl, Nat.le_of_ble_eq_true rfl⟩) (fun x_318 S_319 hw_319 H locs hP hS => ?_)
                                        obtain ⟨I_319, m_319, w_319_0, w_319_1, w_319_2, w_319_3, -⟩ := hw_319
                                        have M_319 := dg_sm.tr M_316 m_319 (dk_dq rfl) (dk_dq rfl)
                                        have hz_320 : (1 : Int32).toInt = 1 := by decide +kernel
                                        have w_319_0 : 0 ≤ (x_318).toInt ∧ (x_318).toInt ≤ 1 := w_319_0
                                        obtain ⟨x_321, f_x_321⟩ : ∃ x, S_319.2.1 29 (1 : Int32).toNatClampNeg = x := ⟨_, rfl⟩
                                        have hin_322 : vp_in (1 : Int32) 22 := (dk_in (by decide +kernel))
                                        have b_x_321 := dk_all_at (dg_I.row (lo := 0) (hi := 2000) I_319 sM_29 (by decide +kernel)) hin_322 f_x_321.symm
                                        have ex_321 := f_x_321.symm
                                        have hz_323 : (1 : Int32).toInt = 1 := by decide +kernel
                                        have zs_x_321 : (1 : Int32).toInt ≠ 1 → (x_321).toInt ≤ 999 := fun h => by rw [ex_321]; exact w_319_2 _ (dk_inT hin_322).2 (fun q => by have h9 := (dk_inT hin_322).1; omega)
                                        have w_319_1 : (x_321).toInt = (x_308).toInt + 1 := w_319_1 x_321 f_x_321
                                        refine lv_pop hx hb dX12_odds_147 rfl ?_
                                        refine lv_iload hx hb dX12_odds_148 (lv_at hl 1 rfl) ?_
                                        refine lv_aload_n hx hb dX12_odds_150 rfl (lv_at hl 4 rfl) ?_
                                        refine lv_iconst (v := 1) hx hb dX12_odds_151 (by decide +kernel) ?_
                                        refine lv_iload hx hb dX12_odds_152 (lv_at hl 2 rfl) ?_
                                        have hz_324 : (1 : Int32).toInt = 1 := by decide +kernel
                                        refine dg_calli hS hA1 hA (va_runV (As := [.int 1, .int x_25]) (rest := [.int x_254]) F (c_m_isOpen l g D o S_319 1 (by decide +kernel) x_25 (by omega) I_319 H.size) (cwV 2 hts (bw_V wB_1092 wB_1093 wB_1094 wB_297 wB_1091) rfl rfl rfl (by decide +kernel) ⟨Nat.le_of_ble_eq_true rfl, Nat.le_of_ble_eq_true rfl⟩) (dg_preV sM_0 rfl K ST hP hS hA1 hA) rfl rfl hl.1 rfl (lv_room (Nat.le_of_ble_eq_true rfl)) dX12_odds_154 ⟨Nat.le_of_ble_eq_true rfl, Nat.le_of_ble_eq_true rfl⟩) (fun x_325 S_326 hw_326 H locs hP hS => ?_)
                                        rw [hw_326.1] at hP
                                        obtain ⟨hq_326, w_326_0, w_326_1, -⟩ := hw_326
                                        have w_326_0 : 0 ≤ (x_325).toInt ∧ (x_325).toInt ≤ 1 := w_326_0
                                        have J_332 : ∀ (x_330 : Int32), (0 ≤ (x_330).toInt ∧ (x_330).toInt ≤ 9999) → ((F_m_odds_B1 o x_25 x_1) (x_253, x_254, S_255) = F_m_odds_J3 x_254 x_330 x_253 S_319) → ∀ (H : Heap) (locs : List Loc), va_P D vwCl (dg_w g shM o rfM S_319) H → va_S A s.heap H locs → ∀ ls : Array Slot, lv_has ls 7 [(6, .int x_253), (5, .int x_254), (4, .int x_25), (3, .int x_7), (0, .ref (o + 0)), (1, .int a1), (2, .int a2)] → W p l e ({ frames := 9, cells := 0, slots := 0, locals := 217 } : Room) s m args below meth c H locs 0 0 (MQ below (va_Qi (fun (r : Int32) S' => CM o S' ∧ dg_sm shM [] [29, 30, 31, 32, 33, 34, 35, 36, 37, 38, 39, 40, 41, 42, 43, 44] S S' ∧ ZSM S' ∧ (S' = (F_m_odds o S a1 a2).1 ∧ r = (F_m_odds o S a1 a2).2) ∧ True) (dg_B g D shM o rfM) A) args s 0 0 A) (F0 m 173 ls [.int x_330, .int x_254]) := by
                                          intro x_330 b_x_330 hF_3 H locs hP hS ls hl
                                          refine lv_iadd hx hb dX12_odds_173 ?_
                                          refine lv_topi (fun x_333 ex_333 => ?_)
                                          refine lv_istore (lv' := [(5, .int x_333), (6, .int x_253), (4, .int x_25), (3, .int x_7), (0, .ref (o + 0)), (1, .int a1), (2, .int a2)]) hx hb dX12_odds_174 hl (dk_dq rfl) rfl (fun ls hl => ?_)
                                          exact J_297 x_333  S_319 I_319 M_319 w_319_2 (Eq.trans hF_3 (F_m_odds_p4 ex_333)) _ _ hP hS _ (lv_sub hl [0, 1, 2, 3, 4, 5, 6] rfl)
                                        refine lv_if_eq (tgt := 172) hx hb dX12_odds_157 (dk_dq rfl) (fun c_334 => ?_) (fun c_334 => ?_)
                                        · have jc_334 := dk_eqc (k := 0) (by decide +kernel) c_334
                                          refine lv_iconst (v := 0) hx hb dX12_odds_172 (by decide +kernel) ?_
                                          have hz_335 : (0 : Int32).toInt = 0 := by decide +kernel
                                          exact J_332 0 (by decide +kernel) (F_m_odds_p5 c_257 w_259_2 c_299 w_305_3 w_316_1.1 w_319_3.1 w_326_1 c_334) _ _ hP hS _ (lv_sub hl [0, 1, 2, 3, 4, 5, 6] rfl)
                                        · have jc_334 := dk_neqc (k := 0) (by decide +kernel) c_334
                                          refine lv_aload_n hx hb dX12_odds_160 rfl (lv_at hl 4 rfl) ?_
                                          refine dg_get (C := RX12) (T := TX12) (N := 77) hx hb hts (fun w h => bw_mem (wU_X12 w h)) hown K hP sM_0 rfl 18 (dk_dq rfl) (hts _ (bw_mem wB_475)) (fun _ h9 => h9) (v := .ref (o + 6)) (show S_319.1 0 18 = .ref (o + 6) from dg_I.rel (d := 6) I_319 sM_0 (by decide +kernel)) dX12_odds_161 ?_
                                          refine lv_aload_n hx hb dX12_odds_164 rfl (lv_at hl 4 rfl) ?_
                                          refine dg_get (C := RX12) (T := TX12) (N := 77) hx hb hts (fun w h => bw_mem (wU_X12 w h)) hown K hP sM_0 rfl 13 (dk_dq rfl) (hts _ (bw_mem wB_1085)) (fun _ h9 => h9) (v := .int x_1) (((m_319.1 0 13 _ sM_0 (dk_dq rfl)).trans ((m_316.1 0 13 _ sM_0 (dk_dq rfl)).trans ((m_305.1 0 13 _ sM_0 (dk_dq rfl)).trans (M_255.1 0 13 _ sM_0 (dk_dq rfl))))).trans f_x_1) dX12_odds_165 ?_
                                          have hin_336 : vp_in x_1 2 := (dk_inv2 (by omega))
                                          refine dg_iald hx hb K hP sM_6 hin_336 dX12_odds_168 (fun x_337 ex_337 => ?_)
                                          have b_x_337 := dk_all_at (dg_I.row (lo := 0) (hi := 9999) I_319 sM_6 (by decide +kernel)) hin_336 ex_337
                                          refine lv_goto (tgt := 173) hx hb dX12_odds_169 (dk_dq rfl) ?_
                                          exact J_332 x_337 (by omega) (F_m_odds_p6 c_257 w_259_2 c_299 w_305_3 w_316_1.1 w_319_3.1 w_326_1 c_334 (Eq.symm ex_337.symm)) _ _ hP hS _ (lv_sub hl [0, 1, 2, 3, 4, 5, 6] rfl)
                                  · have jc_299 := dk_eqc (k := 0) (by decide +kernel) c_299
                                    refine lv_goto (tgt := 176) hx hb dX12_odds_125 (dk_dq rfl) ?_
                                    exact J_297 x_254  S_255 I_255 M_255 ZS_255 (F_m_odds_p7 c_257 w_259_2 c_299) _ _ hP hS _ (lv_sub hl [1, 0, 2, 3, 4, 5, 6] rfl)
                      have hz_338 : (0 : Int32).toInt = 0 := by decide +kernel
                      have hz_339 : (0 : Int32).toInt = 0 := by decide +kernel
                      have hz_340 : (0 : Int32).toInt = 0 := by decide +kernel
                      exact L_256 ((65 - ((0 : Int32)).toInt).toNat + 1) 0 0 (by decide +kernel) (by first | exact mu_lt hmu (by omega) (by omega) | omega) S_39 I_39 M_39 w_39_2 (F_m_odds_p8 (zI_eq f_x_1) w_14_2 c_18 c_19 w_22_3 c_23 ex_24 ex_25 w_28_3 w_39_3.1 w_46_1 c_47) _ _ hP hS _ (lv_sub hl [0, 1, 2, 3, 4, 5, 6] rfl)
                  · as_aux_lemma =>
                      have jc_47 := dk_neqc (k := 0) (by decide +kernel) c_47
                      refine lv_bipush (v := 100) hx hb dX12_odds_86 (by decide +kernel) ?_
                      refine lv_aload_n hx hb dX12_odds_88 rfl (lv_at hl 2 rfl) ?_
                      refine dg_get (C := RX12) (T := TX12) (N := 77) hx hb hts (fun w h => bw_mem (wU_X12 w h)) hown K hP sM_0 rfl 18 (dk_dq rfl) (hts _ (bw_mem wB_475)) (fun _ h9 => h9) (v := .ref (o + 6)) (show S_39.1 0 18 = .ref (o + 6) from dg_I.rel (d := 6) I_39 sM_0 (by decide +kernel)) dX12_odds_89 ?_
                      refine lv_aload_n hx hb dX12_odds_92 rfl (lv_at hl 2 rfl) ?_
                      refine dg_get (C := RX12) (T := TX12) (N := 77) hx hb hts (fun w h => bw_mem (wU_X12 w h)) hown K hP sM_0 rfl 13 (dk_dq rfl) (hts _ (bw_mem wB_1085)) (fun _ h9 => h9) (v := .int x_1) (((m_39.1 0 13 _ sM_0 (dk_dq rfl)).trans (m_28.1 0 13 _ sM_0 (dk_dq rfl))).trans f_x_1) dX12_odds_93 ?_
                      have hin_341 : vp_in x_1 2 := (dk_inv2 (by omega))
                      refine dg_iald hx hb K hP sM_6 hin_341 dX12_odds_96 (fun x_342 ex_342 => ?_)
                      have b_x_342 := dk_all_at (dg_I.row (lo := 0) (hi := 9999) I_39 sM_6 (by decide +kernel)) hin_341 ex_342
                      refine lv_isub hx hb dX12_odds_97 ?_
                      refine lv_topi (fun x_343 ex_343 => ?_)
                      have jx_343 : (x_343).toInt = 100 - (x_342).toInt := by rw [ex_343]; exact dk_subT2 (by decide +kernel) rfl (by omega)
                      refine lv_iload_n hx hb dX12_odds_98 rfl (lv_at hl 1 rfl) ?_
                      refine lv_imul hx hb dX12_odds_99 ?_
                      refine lv_topi (fun x_344 ex_344 => ?_)
                      refine lv_goto (tgt := 104) hx hb dX12_odds_100 (dk_dq rfl) ?_
                      refine lv_istore (lv' := [(5, .int x_344), (4, .int x_25), (3, .int x_7), (0, .ref (o + 0)), (1, .int a1), (2, .int a2)]) hx hb dX12_odds_104 hl (dk_dq rfl) rfl (fun ls hl => ?_)
                      refine lv_iconst (v := 0) hx hb dX12_odds_106 (by decide +kernel) ?_
                      refine lv_istore (lv' := [(6, .int 0), (5, .int x_344), (4, .int x_25), (3, .int x_7), (0, .ref (o + 0)), (1, .int a1), (2, .int a2)]) hx hb dX12_odds_107 hl (dk_dq rfl) rfl (fun ls hl => ?_)
                      have L_554 : ∀ (n : Nat) (x_551 : Int32) (x_552 : Int32), (0 ≤ (x_551).toInt ∧ (x_551).toInt ≤ 64) → ((65 - (x_551).toInt).toNat < n) → ∀ S_553 : dg_S, CM o S_553 → dg_sm shM [] [29, 30, 31, 32, 33, 34, 35, 36, 37, 38, 39, 40, 41, 42, 43, 44] S S_553 → ZSM S_553 → (F_m_odds o S a1 a2 = lp (F_m_odds_B4 o x_25 x_1) (S, (0 : Int32)) n (x_551, x_552, S_553)) → ∀ (H : Heap) (locs : List Loc), va_P D vwCl (dg_w g shM o rfM S_553) H → va_S A s.heap H locs → ∀ ls : Array Slot, lv_has ls 7 [(6, .int x_551), (5, .int x_552), (4, .int x_25), (3, .int x_7), (0, .ref (o + 0)), (1, .int a1), (2, .int a2)] → W p l e ({ frames := 9, cells := 0, slots := 0, locals := 217 } : Room) s m args below meth c H locs 0 0 (MQ below (va_Qi (fun (r : Int32) S' => CM o S' ∧ dg_sm shM [] [29, 30, 31, 32, 33, 34, 35, 36, 37, 38, 39, 40, 41, 42, 43, 44] S S' ∧ ZSM S' ∧ (S' = (F_m_odds o S a1 a2).1 ∧ r = (F_m_odds o S a1 a2).2) ∧ True) (dg_B g D shM o rfM) A) args s 0 0 A) (F0 m 109 ls []) := by
                        as_aux_lemma =>
                          intro n
                          induction n with
                          | zero =>
                            intro x_551 x_552 b_x_551 hmu S_553 I_553 M_553 ZS_553 hF_4 H locs hP hS ls hl
                            omega
                          | succ n ih =>
                            as_aux_lemma =>
                              intro x_551 x_552 b_x_551 hmu S_553 I_553 M_553 ZS_553 hF_4 H locs hP hS ls hl
                              refine lv_iload hx hb dX12_odds_109 (lv_at hl 0 rfl) ?_
                              refine lv_bipush (v := 64) hx hb dX12_odds_111 (by decide +kernel) ?_
                              refine lv_icmp_ge (tgt := 182) hx hb dX12_odds_113 (dk_dq rfl) (fun c_555 => ?_) (fun c_555 => ?_)
                              · have jc_555 := dk_gec (k := 64) (by decide +kernel) c_555
                                refine lv_iload hx hb dX12_odds_182 (lv_at hl 1 rfl) ?_
                                refine W.widen (k := 0) (n := 0) (Nat.le_of_ble_eq_true rfl) (Nat.le_of_ble_eq_true rfl) ?_
                                exact dg_iret hx hb hr hlocks rfl hP hS ⟨I_553, M_553, ZS_553, ⟨congrArg Prod.fst (Eq.symm (lp_r hF_4 (F_m_odds_p9 c_555))), congrArg Prod.snd (Eq.symm (lp_r hF_4 (F_m_odds_p9 c_555)))⟩, trivial⟩ dX12_odds_184
                              · as_aux_lemma =>
                                  have jc_555 := dk_ngec (k := 64) (by decide +kernel) c_555
                                  refine lv_aload_n hx hb dX12_odds_116 rfl (lv_at hl 4 rfl) ?_
                                  refine lv_iload hx hb dX12_odds_117 (lv_at hl 0 rfl) ?_
                                  refine dg_calli hS hA1 hA (va_runV (As := [.int x_551]) (rest := []) F (c_m_isCellOf l g D o S_553 x_551 (by omega) (ZBM.keep ZB M_553 (dk_dq rfl) (dk_dq rfl) (dk_dq rfl) (dk_dq rfl) (dk_dq rfl)) I_553 H.size) (cwV 1 hts (bw_V wB_1123 wB_1124 wB_1125 wB_297 wB_1122) rfl rfl rfl (by decide +kernel) ⟨Nat.le_of_ble_eq_true rfl, Nat.le_of_ble_eq_true rfl⟩) (dg_preV sM_0 rfl K ST hP hS hA1 hA) rfl rfl hl.1 rfl (lv_room (Nat.le_of_ble_eq_true rfl)) dX12_odds_119 ⟨Nat.le_of_ble_eq_true rfl, Nat.le_of_ble_eq_true rfl⟩) (fun x_556 S_557 hw_557 H locs hP hS => ?_)
                                  rw [hw_557.1] at hP
                                  obtain ⟨hq_557, w_557_0, w_557_1, w_557_2, -⟩ := hw_557
                                  have w_557_0 : 0 ≤ (x_556).toInt ∧ (x_556).toInt ≤ 1 := w_557_0
                                  have w_557_1 : (x_556).toInt = 1 → 0 ≤ (x_551).toInt := w_557_1
                                  have J_595 : ∀ (x_591 : Int32), ∀ S_594 : dg_S, CM o S_594 → dg_sm shM [] [29, 30, 31, 32, 33, 34, 35, 36, 37, 38, 39, 40, 41, 42, 43, 44] S S_594 → ZSM S_594 → ((F_m_odds_B4 o x_25 x_1) (x_551, x_552, S_553) = F_m_odds_J5 x_551 x_591 S_594) → ∀ (H : Heap) (locs : List Loc), va_P D vwCl (dg_w g shM o rfM S_594) H → va_S A s.heap H locs → ∀ ls : Array Slot, lv_has ls 7 [(5, .int x_591), (6, .int x_551), (4, .int x_25), (3, .int x_7), (0, .ref (o + 0)), (1, .int a1), (2, .int a2)] → W p l e ({ frames := 9, cells := 0, slots := 0, locals := 217 } : Room) s m args below meth c H locs 0 0 (MQ below (va_Qi (fun (r : Int32) S' => CM o S' ∧ dg_sm shM [] [29, 30, 31, 32, 33, 34, 35, 36, 37, 38, 39, 40, 41, 42, 43, 44] S S' ∧ ZSM S' ∧ (S' = (F_m_odds o S a1 a2).1 ∧ r = (F_m_odds o S a1 a2).2) ∧ True) (dg_B g D shM o rfM) A) args s 0 0 A) (F0 m 176 ls []) := by
                                    intro x_591 S_594 I_594 M_594 ZS_594 hF_5 H locs hP hS ls hl
                                    obtain ⟨x_596, ex_596⟩ : ∃ z, z = x_551 + 1 := ⟨_, rfl⟩
                                    have jx_596 : (x_596).toInt = (x_551).toInt + 1 := by rw [ex_596]; exact dk_addT2 rfl (by decide +kernel) (by omega)
                                    refine lv_iinc (v := x_596) (lv' := [(6, .int x_596), (5, .int x_591), (4, .int x_25), (3, .int x_7), (0, .ref (o + 0)), (1, .int a1), (2, .int a2)]) hx hb dX12_odds_176 hl (k := 1) rfl (by rw [ex_596]; rfl) (dk_dq rfl) rfl (fun ls hl => ?_)
                                    refine lv_goto (tgt := 109) hx hb dX12_odds_179 (dk_dq rfl) ?_
                                    exact ih x_596 x_591 (by omega) (by first | exact mu_lt hmu (by omega) (by omega) | omega) S_594 I_594 M_594 ZS_594 (lp_l hF_4 (Eq.trans hF_5 (F_m_odds_p10 ex_596))) _ _ hP hS _ (lv_sub hl [0, 1, 2, 3, 4, 5, 6] rfl)
                                  refine lv_if_ne (tgt := 128) hx hb dX12_odds_122 (dk_dq rfl) (fun c_597 => ?_) (fun c_597 => ?_)
                                  · as_aux_lemma =>
                                      have jc_597 := dk_neqc (k := 0) (by decide +kernel) c_597
                                      refine lv_aload_n hx hb dX12_odds_128 rfl (lv_at hl 4 rfl) ?_
                                      refine lv_iconst (v := 1) hx hb dX12_odds_129 (by decide +kernel) ?_
                                      refine lv_iconst (v := 0) hx hb dX12_odds_130 (by decide +kernel) ?_
                                      have hz_598 : (1 : Int32).toInt = 1 := by decide +kernel
                                      have hz_599 : (0 : Int32).toInt = 0 := by decide +kernel
                                      obtain ⟨x_600, f_x_600⟩ : ∃ x, S_553.2.1 29 (0 : Int32).toNatClampNeg = x := ⟨_, rfl⟩
                                      have hin_601 : vp_in (0 : Int32) 22 := (dk_in (by decide +kernel))
                                      have b_x_600 := dk_all_at (dg_I.row (lo := 0) (hi := 2000) I_553 sM_29 (by decide +kernel)) hin_601 f_x_600.symm
                                      have ex_600 := f_x_600.symm
                                      have hz_602 : (0 : Int32).toInt = 0 := by decide +kernel
                                      have zs_x_600 : (0 : Int32).toInt ≠ 1 → (x_600).toInt ≤ 999 := fun h => by rw [ex_600]; exact ZS_553 _ (dk_inT hin_601).2 (fun q => by have h9 := (dk_inT hin_601).1; omega)
                                      refine dg_callv hS hA1 hA (va_runV (As := [.int 1, .int 0]) (rest := []) F (c_m_copies l g D o S_553 1 (by decide +kernel) 0 (by decide +kernel) x_600 f_x_600 (by omega) x_600 f_x_600 (by omega) (by omega) ZS_553 I_553 H.size) (cwV 2 hts (bw_V wB_1227 wB_1228 wB_1229 wB_297 wB_1226) rfl rfl rfl (by decide +kernel) ⟨Nat.le_of_ble_eq_true rfl, Nat.le_of_ble_eq_true rfl⟩) (dg_preV sM_0 rfl K ST hP hS hA1 hA) rfl rfl hl.1 rfl (lv_room (Nat.le_of_ble_eq_true rfl)) dX12_odds_131 ⟨Nat.le_of_ble_eq_true rfl, Nat.le_of_ble_eq_true rfl⟩) (fun S_603 hw_603 H locs hP hS => ?_)
                                      obtain ⟨I_603, m_603, w_603_0, w_603_1, w_603_2, w_603_3, -⟩ := hw_603
                                      have M_603 := dg_sm.tr M_553 m_603 (dk_dq rfl) (dk_dq rfl)
                                      have hz_604 : (1 : Int32).toInt = 1 := by decide +kernel
                                      have hz_605 : (0 : Int32).toInt = 0 := by decide +kernel
                                      obtain ⟨x_606, f_x_606⟩ : ∃ x, S_603.2.1 29 (1 : Int32).toNatClampNeg = x := ⟨_, rfl⟩
                                      have hin_607 : vp_in (1 : Int32) 22 := (dk_in (by decide +kernel))
                                      have b_x_606 := dk_all_at (dg_I.row (lo := 0) (hi := 2000) I_603 sM_29 (by decide +kernel)) hin_607 f_x_606.symm
                                      have ex_606 := f_x_606.symm
                                      have hz_608 : (1 : Int32).toInt = 1 := by decide +kernel
                                      have zs_x_606 : (1 : Int32).toInt ≠ 1 → (x_606).toInt ≤ 999 := fun h => by rw [ex_606]; exact w_603_2 _ (dk_inT hin_607).2 (fun q => by have h9 := (dk_inT hin_607).1; omega)
                                      have w_603_0 : (x_606).toInt = (x_600).toInt := w_603_0 x_606 f_x_606
                                      obtain ⟨x_609, f_x_609⟩ : ∃ x, S_603.2.1 29 (0 : Int32).toNatClampNeg = x := ⟨_, rfl⟩
                                      have hin_610 : vp_in (0 : Int32) 22 := (dk_in (by decide +kernel))
                                      have b_x_609 := dk_all_at (dg_I.row (lo := 0) (hi := 2000) I_603 sM_29 (by decide +kernel)) hin_610 f_x_609.symm
                                      have ex_609 := f_x_609.symm
                                      have hz_611 : (0 : Int32).toInt = 0 := by decide +kernel
                                      have zs_x_609 : (0 : Int32).toInt ≠ 1 → (x_609).toInt ≤ 999 := fun h => by rw [ex_609]; exact w_603_2 _ (dk_inT hin_610).2 (fun q => by have h9 := (dk_inT hin_610).1; omega)
                                      have w_603_1 : ((1 : Int32)).toInt ≠ 0 → (x_609).toInt = (x_600).toInt := w_603_1 x_609 f_x_609
                                      refine lv_aload_n hx hb dX12_odds_134 rfl (lv_at hl 4 rfl) ?_
                                      refine lv_iconst (v := 1) hx hb dX12_odds_135 (by decide +kernel) ?_
                                      refine lv_iload hx hb dX12_odds_136 (lv_at hl 0 rfl) ?_
                                      have hz_612 : (1 : Int32).toInt = 1 := by decide +kernel
                                      refine dg_calli hS hA1 hA (va_runV (As := [.int 1, .int x_551]) (rest := []) F (c_m_isSolidBy l g D o S_603 1 (by decide +kernel) x_551 (by omega) I_603 H.size) (cwV 2 hts (bw_V wB_1264 wB_1265 wB_1266 wB_297 wB_1263) rfl rfl rfl (by decide +kernel) ⟨Nat.le_of_ble_eq_true rfl, Nat.le_of_ble_eq_true rfl⟩) (dg_preV sM_0 rfl K ST hP hS hA1 hA) rfl rfl hl.1 rfl (lv_room (Nat.le_of_ble_eq_true rfl)) dX12_odds_138 ⟨Nat.le_of_ble_eq_true rfl, Nat.le_of_ble_eq_true rfl⟩) (fun x_613 S_614 hw_614 H locs hP hS => ?_)
                                      obtain ⟨I_614, m_614, w_614_0, w_614_1, -⟩ := hw_614
                                      have M_614 := dg_sm.tr M_603 m_614 (dk_dq rfl) (dk_dq rfl)
                                      have w_614_0 : 0 ≤ (x_613).toInt ∧ (x_613).toInt ≤ 1 := w_614_0
                                      refine lv_pop hx hb dX12_odds_141 rfl ?_
                                      as_aux_lemma =>
                                        refine lv_aload_n hx hb dX12_odds_142 rfl (lv_at hl 4 rfl) ?_
                                        refine lv_iconst (v := 1) hx hb dX12_odds_143 (by decide +kernel) ?_
                                        have hz_615 : (1 : Int32).toInt = 1 := by decide +kernel
                                        refine dg_calli hS hA1 hA (va_runV (As := [.int 1]) (rest := []) F (c_m_ticks l g D o S_614 1 (by decide +kernel) x_606 ((congrFun (m_614.2 29 _ sM_29 (dk_dq rfl)).1 _).trans f_x_606) (by omega) (by omega) (ZBM.keep (ZBM.keep (ZBM.keep ZB M_553 (dk_dq rfl) (dk_dq rfl) (dk_dq rfl) (dk_dq rfl) (dk_dq rfl)) m_603 (dk_dq rfl) (dk_dq rfl) (dk_dq rfl) (dk_dq rfl) (dk_dq rfl)) m_614 (dk_dq rfl) (dk_dq rfl) (dk_dq rfl) (dk_dq rfl) (dk_dq rfl)) (ZSM.keep w_603_2 m_614 (dk_dq rfl)) (ZWM.keep (ZWM.keep (ZWM.keep ZW M_553 (dk_dq rfl) (dk_dq rfl) (dk_dq rfl) (dk_dq rfl)) m_603 (dk_dq rfl) (dk_dq rfl) (dk_dq rfl) (dk_dq rfl)) m_614 (dk_dq rfl) (dk_dq rfl) (dk_dq rfl) (dk_dq rfl)) I_614 H.size) (cwV 1 hts (bw_V wB_1231 wB_1232 wB_1233 wB_297 wB_1230) rfl rfl rfl (by decide +kernel) ⟨Nat.le_of_ble_eq_true rfl, Nat.le_of_ble_eq_true rfl⟩) (dg_preV sM_0 rfl K ST hP hS hA1 hA) rfl rfl hl.1 rfl (lv_room (Nat.le_of_ble_eq_true rfl)) dX12_odds_144 ⟨Nat.le_of_ble_eq_true rfl, Nat.le_of_ble_eq_true rfl⟩) (fun x_616 S_617 hw_617 H locs hP hS => ?_)
                                        obtain ⟨I_617, m_617, w_617_0, w_617_1, w_617_2, w_617_3, -⟩ := hw_617
                                        have M_617 := dg_sm.tr M_614 m_617 (dk_dq rfl) (dk_dq rfl)
                                        have hz_618 : (1 : Int32).toInt = 1 := by decide +kernel
                                        have w_617_0 : 0 ≤ (x_616).toInt ∧ (x_616).toInt ≤ 1 := w_617_0
                                        obtain ⟨x_619, f_x_619⟩ : ∃ x, S_617.2.1 29 (1 : Int32).toNatClampNeg = x := ⟨_, rfl⟩
                                        have hin_620 : vp_in (1 : Int32) 22 := (dk_in (by decide +kernel))
                                        have b_x_619 := dk_all_at (dg_I.row (lo := 0) (hi := 2000) I_617 sM_29 (by decide +kernel)) hin_620 f_x_619.symm
                                        have ex_619 := f_x_619.symm
                                        have hz_621 : (1 : Int32).toInt = 1 := by decide +kernel
                                        have zs_x_619 : (1 : Int32).toInt ≠ 1 → (x_619).toInt ≤ 999 := fun h => by rw [ex_619]; exact w_617_2 _ (dk_inT hin_620).2 (fun q => by have h9 := (dk_inT hin_620).1; omega)
                                        have w_617_1 : (x_619).toInt = (x_606).toInt + 1 := w_617_1 x_619 f_x_619
                                        refine lv_pop hx hb dX12_odds_147 rfl ?_
                                        refine lv_iload hx hb dX12_odds_148 (lv_at hl 1 rfl) ?_
                                        refine lv_aload_n hx hb dX12_odds_150 rfl (lv_at hl 4 rfl) ?_
                                        refine lv_iconst (v := 1) hx hb dX12_odds_151 (by decide +kernel) ?_
                                        refine lv_iload hx hb dX12_odds_152 (lv_at hl 2 rfl) ?_
                                        have hz_622 : (1 : Int32).toInt = 1 := by decide +kernel
                                        refine dg_calli hS hA1 hA (va_runV (As := [.int 1, .int x_25]) (rest := [.int x_552]) F (c_m_isOpen l g D o S_617 1 (by decide +kernel) x_25 (by omega) I_617 H.size) (cwV 2 hts (bw_V wB_1092 wB_1093 wB_1094 wB_297 wB_1091) rfl rfl rfl (by decide +kernel) ⟨Nat.le_of_ble_eq_true rfl, Nat.le_of_ble_eq_true rfl⟩) (dg_preV sM_0 rfl K ST hP hS hA1 hA) rfl rfl hl.1 rfl (lv_room (Nat.le_of_ble_eq_true rfl)) dX12_odds_154 ⟨Nat.le_of_ble_eq_true rfl, Nat.le_of_ble_eq_true rfl⟩) (fun x_623 S_624 hw_624 H locs hP hS => ?_)
                                        rw [hw_624.1] at hP
                                        obtain ⟨hq_624, w_624_0, w_624_1, -⟩ := hw_624
                                        have w_624_0 : 0 ≤ (x_623).toInt ∧ (x_623).toInt ≤ 1 := w_624_0
                                        have J_630 : ∀ (x_628 : Int32), (0 ≤ (x_628).toInt ∧ (x_628).toInt ≤ 9999) → ((F_m_odds_B4 o x_25 x_1) (x_551, x_552, S_553) = F_m_odds_J6 x_552 x_628 x_551 S_617) → ∀ (H : Heap) (locs : List Loc), va_P D vwCl (dg_w g shM o rfM S_617) H → va_S A s.heap H locs → ∀ ls : Array Slot, lv_has ls 7 [(6, .int x_551), (5, .int x_552), (4, .int x_25), (3, .int x_7), (0, .ref (o + 0)), (1, .int a1), (2, .int a2)] → W p l e ({ frames := 9, cells := 0, slots := 0, locals := 217 } : Room) s m args below meth c H locs 0 0 (MQ below (va_Qi (fun (r : Int32) S' => CM o S' ∧ dg_sm shM [] [29, 30, 31, 32, 33, 34, 35, 36, 37, 38, 39, 40, 41, 42, 43, 44] S S' ∧ ZSM S' ∧ (S' = (F_m_odds o S a1 a2).1 ∧ r = (F_m_odds o S a1 a2).2) ∧ True) (dg_B g D shM o rfM) A) args s 0 0 A) (F0 m 173 ls [.int x_628, .int x_552]) := by
                                          intro x_628 b_x_628 hF_6 H locs hP hS ls hl
                                          refine lv_iadd hx hb dX12_odds_173 ?_
                                          refine lv_topi (fun x_631 ex_631 => ?_)
                                          refine lv_istore (lv' := [(5, .int x_631), (6, .int x_551), (4, .int x_25), (3, .int x_7), (0, .ref (o + 0)), (1, .int a1), (2, .int a2)]) hx hb dX12_odds_174 hl (dk_dq rfl) rfl (fun ls hl => ?_)
                                          exact J_595 x_631  S_617 I_617 M_617 w_617_2 (Eq.trans hF_6 (F_m_odds_p11 ex_631)) _ _ hP hS _ (lv_sub hl [0, 1, 2, 3, 4, 5, 6] rfl)
                                        refine lv_if_eq (tgt := 172) hx hb dX12_odds_157 (dk_dq rfl) (fun c_632 => ?_) (fun c_632 => ?_)
                                        · have jc_632 := dk_eqc (k := 0) (by decide +kernel) c_632
                                          refine lv_iconst (v := 0) hx hb dX12_odds_172 (by decide +kernel) ?_
                                          have hz_633 : (0 : Int32).toInt = 0 := by decide +kernel
                                          exact J_630 0 (by decide +kernel) (F_m_odds_p12 c_555 w_557_2 c_597 w_603_3 w_614_1.1 w_617_3.1 w_624_1 c_632) _ _ hP hS _ (lv_sub hl [0, 1, 2, 3, 4, 5, 6] rfl)
                                        · have jc_632 := dk_neqc (k := 0) (by decide +kernel) c_632
                                          refine lv_aload_n hx hb dX12_odds_160 rfl (lv_at hl 4 rfl) ?_
                                          refine dg_get (C := RX12) (T := TX12) (N := 77) hx hb hts (fun w h => bw_mem (wU_X12 w h)) hown K hP sM_0 rfl 18 (dk_dq rfl) (hts _ (bw_mem wB_475)) (fun _ h9 => h9) (v := .ref (o + 6)) (show S_617.1 0 18 = .ref (o + 6) from dg_I.rel (d := 6) I_617 sM_0 (by decide +kernel)) dX12_odds_161 ?_
                                          refine lv_aload_n hx hb dX12_odds_164 rfl (lv_at hl 4 rfl) ?_
                                          refine dg_get (C := RX12) (T := TX12) (N := 77) hx hb hts (fun w h => bw_mem (wU_X12 w h)) hown K hP sM_0 rfl 13 (dk_dq rfl) (hts _ (bw_mem wB_1085)) (fun _ h9 => h9) (v := .int x_1) (((m_617.1 0 13 _ sM_0 (dk_dq rfl)).trans ((m_614.1 0 13 _ sM_0 (dk_dq rfl)).trans ((m_603.1 0 13 _ sM_0 (dk_dq rfl)).trans (M_553.1 0 13 _ sM_0 (dk_dq rfl))))).trans f_x_1) dX12_odds_165 ?_
                                          have hin_634 : vp_in x_1 2 := (dk_inv2 (by omega))
                                          refine dg_iald hx hb K hP sM_6 hin_634 dX12_odds_168 (fun x_635 ex_635 => ?_)
                                          have b_x_635 := dk_all_at (dg_I.row (lo := 0) (hi := 9999) I_617 sM_6 (by decide +kernel)) hin_634 ex_635
                                          refine lv_goto (tgt := 173) hx hb dX12_odds_169 (dk_dq rfl) ?_
                                          exact J_630 x_635 (by omega) (F_m_odds_p13 c_555 w_557_2 c_597 w_603_3 w_614_1.1 w_617_3.1 w_624_1 c_632 (Eq.symm ex_635.symm)) _ _ hP hS _ (lv_sub hl [0, 1, 2, 3, 4, 5, 6] rfl)
                                  · have jc_597 := dk_eqc (k := 0) (by decide +kernel) c_597
                                    refine lv_goto (tgt := 176) hx hb dX12_odds_125 (dk_dq rfl) ?_
                                    exact J_595 x_552  S_553 I_553 M_553 ZS_553 (F_m_odds_p14 c_555 w_557_2 c_597) _ _ hP hS _ (lv_sub hl [1, 0, 2, 3, 4, 5, 6] rfl)
                      have hz_636 : (0 : Int32).toInt = 0 := by decide +kernel
                      have hz_637 : (0 : Int32).toInt = 0 := by decide +kernel
                      exact L_554 ((65 - ((0 : Int32)).toInt).toNat + 1) 0 x_344 (by decide +kernel) (by first | exact mu_lt hmu (by omega) (by omega) | omega) S_39 I_39 M_39 w_39_2 (F_m_odds_p15 (zI_eq f_x_1) (Eq.symm ex_3.symm) (Eq.symm ex_6.symm) ex_7 w_14_2 c_18 c_19 w_22_3 c_23 ex_24 ex_25 w_28_3 w_39_3.1 w_46_1 c_47 (Eq.symm ex_342.symm) ex_343 ex_344) _ _ hP hS _ (lv_sub hl [0, 1, 2, 3, 4, 5, 6] rfl)
            · have jc_23 := dk_eqc (k := 0) (by decide +kernel) c_23
              refine lv_iconst (v := (-1)) hx hb dX12_odds_44 (by decide +kernel) ?_
              refine W.widen (k := 0) (n := 0) (Nat.le_of_ble_eq_true rfl) (Nat.le_of_ble_eq_true rfl) ?_
              exact dg_iret hx hb hr hlocks rfl hP hS ⟨I, M_0, ZS, ⟨congrArg Prod.fst (Eq.symm (F_m_odds_p16 w_14_2 c_18 c_19 w_22_3 c_23)), congrArg Prod.snd (Eq.symm (F_m_odds_p16 w_14_2 c_18 c_19 w_22_3 c_23))⟩, trivial⟩ dX12_odds_45
    