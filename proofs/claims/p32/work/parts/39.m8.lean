/-! 39.m8.lean.txt -/
theorem dX12_opens_0 : decode cX12_opens 0 = .ok (.aload_n 0, 1) := by decide +kernel
theorem dX12_opens_1 : decode cX12_opens 1 = .ok (.iload_n 1, 1) := by decide +kernel
theorem dX12_opens_2 : decode cX12_opens 2 = .ok (.iload_n 2, 1) := by decide +kernel
theorem dX12_opens_3 : decode cX12_opens 3 = .ok (.invokevirtual 452, 3) := by decide +kernel
theorem dX12_opens_6 : decode cX12_opens 6 = .ok (.ifCond .ne 5, 3) := by decide +kernel
theorem dX12_opens_9 : decode cX12_opens 9 = .ok (.iconst (-1), 1) := by decide +kernel
theorem dX12_opens_10 : decode cX12_opens 10 = .ok (.ireturn, 1) := by decide +kernel
theorem dX12_opens_11 : decode cX12_opens 11 = .ok (.aload_n 0, 1) := by decide +kernel
theorem dX12_opens_12 : decode cX12_opens 12 = .ok (.iconst 1, 1) := by decide +kernel
theorem dX12_opens_13 : decode cX12_opens 13 = .ok (.iconst 0, 1) := by decide +kernel
theorem dX12_opens_14 : decode cX12_opens 14 = .ok (.invokevirtual 433, 3) := by decide +kernel
theorem dX12_opens_17 : decode cX12_opens 17 = .ok (.iconst 0, 1) := by decide +kernel
theorem dX12_opens_18 : decode cX12_opens 18 = .ok (.istore_n 3, 1) := by decide +kernel
theorem dX12_opens_19 : decode cX12_opens 19 = .ok (.aload_n 0, 1) := by decide +kernel
theorem dX12_opens_20 : decode cX12_opens 20 = .ok (.iload_n 3, 1) := by decide +kernel
theorem dX12_opens_21 : decode cX12_opens 21 = .ok (.iconst 0, 1) := by decide +kernel
theorem dX12_opens_22 : decode cX12_opens 22 = .ok (.bipush 40, 2) := by decide +kernel
theorem dX12_opens_24 : decode cX12_opens 24 = .ok (.invokevirtual 541, 3) := by decide +kernel
theorem dX12_opens_27 : decode cX12_opens 27 = .ok (.ifCond .eq 31, 3) := by decide +kernel
theorem dX12_opens_30 : decode cX12_opens 30 = .ok (.aload_n 0, 1) := by decide +kernel
theorem dX12_opens_31 : decode cX12_opens 31 = .ok (.iconst 1, 1) := by decide +kernel
theorem dX12_opens_32 : decode cX12_opens 32 = .ok (.bipush 8, 2) := by decide +kernel
theorem dX12_opens_34 : decode cX12_opens 34 = .ok (.iload_n 2, 1) := by decide +kernel
theorem dX12_opens_35 : decode cX12_opens 35 = .ok (.imul, 1) := by decide +kernel
theorem dX12_opens_36 : decode cX12_opens 36 = .ok (.iload_n 1, 1) := by decide +kernel
theorem dX12_opens_37 : decode cX12_opens 37 = .ok (.iadd, 1) := by decide +kernel
theorem dX12_opens_38 : decode cX12_opens 38 = .ok (.invokevirtual 460, 3) := by decide +kernel
theorem dX12_opens_41 : decode cX12_opens 41 = .ok (.ifCond .eq 5, 3) := by decide +kernel
theorem dX12_opens_44 : decode cX12_opens 44 = .ok (.iload_n 3, 1) := by decide +kernel
theorem dX12_opens_45 : decode cX12_opens 45 = .ok (.ireturn, 1) := by decide +kernel
theorem dX12_opens_46 : decode cX12_opens 46 = .ok (.aload_n 0, 1) := by decide +kernel
theorem dX12_opens_47 : decode cX12_opens 47 = .ok (.iconst 1, 1) := by decide +kernel
theorem dX12_opens_48 : decode cX12_opens 48 = .ok (.invokevirtual 538, 3) := by decide +kernel
theorem dX12_opens_51 : decode cX12_opens 51 = .ok (.pop, 1) := by decide +kernel
theorem dX12_opens_52 : decode cX12_opens 52 = .ok (.iinc 3 1, 3) := by decide +kernel
theorem dX12_opens_55 : decode cX12_opens 55 = .ok (.goto (-36), 3) := by decide +kernel
theorem dX12_opens_58 : decode cX12_opens 58 = .ok (.iconst (-1), 1) := by decide +kernel
theorem dX12_opens_59 : decode cX12_opens 59 = .ok (.ireturn, 1) := by decide +kernel
theorem dX12_odds_0 : decode cX12_odds 0 = .ok (.aload_n 0, 1) := by decide +kernel
theorem dX12_odds_1 : decode cX12_odds 1 = .ok (.getfield 54, 3) := by decide +kernel
theorem dX12_odds_4 : decode cX12_odds 4 = .ok (.aload_n 0, 1) := by decide +kernel
theorem dX12_odds_5 : decode cX12_odds 5 = .ok (.getfield 51, 3) := by decide +kernel
theorem dX12_odds_8 : decode cX12_odds 8 = .ok (.iaload, 1) := by decide +kernel
theorem dX12_odds_9 : decode cX12_odds 9 = .ok (.aload_n 0, 1) := by decide +kernel
theorem dX12_odds_10 : decode cX12_odds 10 = .ok (.getfield 57, 3) := by decide +kernel
theorem dX12_odds_13 : decode cX12_odds 13 = .ok (.aload_n 0, 1) := by decide +kernel
theorem dX12_odds_14 : decode cX12_odds 14 = .ok (.getfield 51, 3) := by decide +kernel
theorem dX12_odds_17 : decode cX12_odds 17 = .ok (.iaload, 1) := by decide +kernel
theorem dX12_odds_18 : decode cX12_odds 18 = .ok (.imul, 1) := by decide +kernel
theorem dX12_odds_19 : decode cX12_odds 19 = .ok (.istore_n 3, 1) := by decide +kernel
theorem dX12_odds_20 : decode cX12_odds 20 = .ok (.aload_n 0, 1) := by decide +kernel
theorem dX12_odds_21 : decode cX12_odds 21 = .ok (.iconst 1, 1) := by decide +kernel
theorem dX12_odds_22 : decode cX12_odds 22 = .ok (.iconst 1, 1) := by decide +kernel
theorem dX12_odds_23 : decode cX12_odds 23 = .ok (.iconst 1, 1) := by decide +kernel
theorem dX12_odds_24 : decode cX12_odds 24 = .ok (.invokevirtual 541, 3) := by decide +kernel
theorem dX12_odds_27 : decode cX12_odds 27 = .ok (.ifCond .eq 17, 3) := by decide +kernel
theorem dX12_odds_30 : decode cX12_odds 30 = .ok (.iload_n 1, 1) := by decide +kernel
theorem dX12_odds_31 : decode cX12_odds 31 = .ok (.iconst (-1), 1) := by decide +kernel
theorem dX12_odds_32 : decode cX12_odds 32 = .ok (.if_icmp .eq 14, 3) := by decide +kernel
theorem dX12_odds_35 : decode cX12_odds 35 = .ok (.aload_n 0, 1) := by decide +kernel
theorem dX12_odds_36 : decode cX12_odds 36 = .ok (.iload_n 1, 1) := by decide +kernel
theorem dX12_odds_37 : decode cX12_odds 37 = .ok (.iload_n 2, 1) := by decide +kernel
theorem dX12_odds_38 : decode cX12_odds 38 = .ok (.invokevirtual 452, 3) := by decide +kernel
theorem dX12_odds_41 : decode cX12_odds 41 = .ok (.ifCond .ne 5, 3) := by decide +kernel
theorem dX12_odds_44 : decode cX12_odds 44 = .ok (.iconst (-1), 1) := by decide +kernel
theorem dX12_odds_45 : decode cX12_odds 45 = .ok (.ireturn, 1) := by decide +kernel
theorem dX12_odds_46 : decode cX12_odds 46 = .ok (.iload_n 1, 1) := by decide +kernel
theorem dX12_odds_47 : decode cX12_odds 47 = .ok (.iconst (-1), 1) := by decide +kernel
theorem dX12_odds_48 : decode cX12_odds 48 = .ok (.if_icmp .ne 8, 3) := by decide +kernel
theorem dX12_odds_51 : decode cX12_odds 51 = .ok (.bipush 100, 2) := by decide +kernel
theorem dX12_odds_53 : decode cX12_odds 53 = .ok (.iload_n 3, 1) := by decide +kernel
theorem dX12_odds_54 : decode cX12_odds 54 = .ok (.imul, 1) := by decide +kernel
theorem dX12_odds_55 : decode cX12_odds 55 = .ok (.ireturn, 1) := by decide +kernel
theorem dX12_odds_56 : decode cX12_odds 56 = .ok (.bipush 8, 2) := by decide +kernel
theorem dX12_odds_58 : decode cX12_odds 58 = .ok (.iload_n 2, 1) := by decide +kernel
theorem dX12_odds_59 : decode cX12_odds 59 = .ok (.imul, 1) := by decide +kernel
theorem dX12_odds_60 : decode cX12_odds 60 = .ok (.iload_n 1, 1) := by decide +kernel
theorem dX12_odds_61 : decode cX12_odds 61 = .ok (.iadd, 1) := by decide +kernel
theorem dX12_odds_62 : decode cX12_odds 62 = .ok (.istore 4, 2) := by decide +kernel
theorem dX12_odds_64 : decode cX12_odds 64 = .ok (.aload_n 0, 1) := by decide +kernel
theorem dX12_odds_65 : decode cX12_odds 65 = .ok (.iconst 1, 1) := by decide +kernel
theorem dX12_odds_66 : decode cX12_odds 66 = .ok (.iconst 0, 1) := by decide +kernel
theorem dX12_odds_67 : decode cX12_odds 67 = .ok (.invokevirtual 433, 3) := by decide +kernel
theorem dX12_odds_70 : decode cX12_odds 70 = .ok (.aload_n 0, 1) := by decide +kernel
theorem dX12_odds_71 : decode cX12_odds 71 = .ok (.iconst 1, 1) := by decide +kernel
theorem dX12_odds_72 : decode cX12_odds 72 = .ok (.invokevirtual 538, 3) := by decide +kernel
theorem dX12_odds_75 : decode cX12_odds 75 = .ok (.pop, 1) := by decide +kernel
theorem dX12_odds_76 : decode cX12_odds 76 = .ok (.aload_n 0, 1) := by decide +kernel
theorem dX12_odds_77 : decode cX12_odds 77 = .ok (.iconst 1, 1) := by decide +kernel
theorem dX12_odds_78 : decode cX12_odds 78 = .ok (.iload 4, 2) := by decide +kernel
theorem dX12_odds_80 : decode cX12_odds 80 = .ok (.invokevirtual 460, 3) := by decide +kernel
theorem dX12_odds_83 : decode cX12_odds 83 = .ok (.ifCond .eq 20, 3) := by decide +kernel
theorem dX12_odds_86 : decode cX12_odds 86 = .ok (.bipush 100, 2) := by decide +kernel
theorem dX12_odds_88 : decode cX12_odds 88 = .ok (.aload_n 0, 1) := by decide +kernel
theorem dX12_odds_89 : decode cX12_odds 89 = .ok (.getfield 66, 3) := by decide +kernel
theorem dX12_odds_92 : decode cX12_odds 92 = .ok (.aload_n 0, 1) := by decide +kernel
theorem dX12_odds_93 : decode cX12_odds 93 = .ok (.getfield 51, 3) := by decide +kernel
theorem dX12_odds_96 : decode cX12_odds 96 = .ok (.iaload, 1) := by decide +kernel
theorem dX12_odds_97 : decode cX12_odds 97 = .ok (.isub, 1) := by decide +kernel
theorem dX12_odds_98 : decode cX12_odds 98 = .ok (.iload_n 3, 1) := by decide +kernel
theorem dX12_odds_99 : decode cX12_odds 99 = .ok (.imul, 1) := by decide +kernel
theorem dX12_odds_100 : decode cX12_odds 100 = .ok (.goto 4, 3) := by decide +kernel
theorem dX12_odds_103 : decode cX12_odds 103 = .ok (.iconst 0, 1) := by decide +kernel
theorem dX12_odds_104 : decode cX12_odds 104 = .ok (.istore 5, 2) := by decide +kernel
theorem dX12_odds_106 : decode cX12_odds 106 = .ok (.iconst 0, 1) := by decide +kernel
theorem dX12_odds_107 : decode cX12_odds 107 = .ok (.istore 6, 2) := by decide +kernel
theorem dX12_odds_109 : decode cX12_odds 109 = .ok (.iload 6, 2) := by decide +kernel
theorem dX12_odds_111 : decode cX12_odds 111 = .ok (.bipush 64, 2) := by decide +kernel
theorem dX12_odds_113 : decode cX12_odds 113 = .ok (.if_icmp .ge 69, 3) := by decide +kernel
theorem dX12_odds_116 : decode cX12_odds 116 = .ok (.aload_n 0, 1) := by decide +kernel
theorem dX12_odds_117 : decode cX12_odds 117 = .ok (.iload 6, 2) := by decide +kernel
theorem dX12_odds_119 : decode cX12_odds 119 = .ok (.invokevirtual 503, 3) := by decide +kernel
theorem dX12_odds_122 : decode cX12_odds 122 = .ok (.ifCond .ne 6, 3) := by decide +kernel
theorem dX12_odds_125 : decode cX12_odds 125 = .ok (.goto 51, 3) := by decide +kernel
theorem dX12_odds_128 : decode cX12_odds 128 = .ok (.aload_n 0, 1) := by decide +kernel
theorem dX12_odds_129 : decode cX12_odds 129 = .ok (.iconst 1, 1) := by decide +kernel
theorem dX12_odds_130 : decode cX12_odds 130 = .ok (.iconst 0, 1) := by decide +kernel
theorem dX12_odds_131 : decode cX12_odds 131 = .ok (.invokevirtual 433, 3) := by decide +kernel
theorem dX12_odds_134 : decode cX12_odds 134 = .ok (.aload_n 0, 1) := by decide +kernel
theorem dX12_odds_135 : decode cX12_odds 135 = .ok (.iconst 1, 1) := by decide +kernel
theorem dX12_odds_136 : decode cX12_odds 136 = .ok (.iload 6, 2) := by decide +kernel
theorem dX12_odds_138 : decode cX12_odds 138 = .ok (.invokevirtual 556, 3) := by decide +kernel
theorem dX12_odds_141 : decode cX12_odds 141 = .ok (.pop, 1) := by decide +kernel
theorem dX12_odds_142 : decode cX12_odds 142 = .ok (.aload_n 0, 1) := by decide +kernel
theorem dX12_odds_143 : decode cX12_odds 143 = .ok (.iconst 1, 1) := by decide +kernel
theorem dX12_odds_144 : decode cX12_odds 144 = .ok (.invokevirtual 538, 3) := by decide +kernel
theorem dX12_odds_147 : decode cX12_odds 147 = .ok (.pop, 1) := by decide +kernel
theorem dX12_odds_148 : decode cX12_odds 148 = .ok (.iload 5, 2) := by decide +kernel
theorem dX12_odds_150 : decode cX12_odds 150 = .ok (.aload_n 0, 1) := by decide +kernel
theorem dX12_odds_151 : decode cX12_odds 151 = .ok (.iconst 1, 1) := by decide +kernel
theorem dX12_odds_152 : decode cX12_odds 152 = .ok (.iload 4, 2) := by decide +kernel
theorem dX12_odds_154 : decode cX12_odds 154 = .ok (.invokevirtual 460, 3) := by decide +kernel
theorem dX12_odds_157 : decode cX12_odds 157 = .ok (.ifCond .eq 15, 3) := by decide +kernel
theorem dX12_odds_160 : decode cX12_odds 160 = .ok (.aload_n 0, 1) := by decide +kernel
theorem dX12_odds_161 : decode cX12_odds 161 = .ok (.getfield 66, 3) := by decide +kernel
theorem dX12_odds_164 : decode cX12_odds 164 = .ok (.aload_n 0, 1) := by decide +kernel
theorem dX12_odds_165 : decode cX12_odds 165 = .ok (.getfield 51, 3) := by decide +kernel
theorem dX12_odds_168 : decode cX12_odds 168 = .ok (.iaload, 1) := by decide +kernel
theorem dX12_odds_169 : decode cX12_odds 169 = .ok (.goto 4, 3) := by decide +kernel
theorem dX12_odds_172 : decode cX12_odds 172 = .ok (.iconst 0, 1) := by decide +kernel
theorem dX12_odds_173 : decode cX12_odds 173 = .ok (.iadd, 1) := by decide +kernel
theorem dX12_odds_174 : decode cX12_odds 174 = .ok (.istore 5, 2) := by decide +kernel
theorem dX12_odds_176 : decode cX12_odds 176 = .ok (.iinc 6 1, 3) := by decide +kernel
theorem dX12_odds_179 : decode cX12_odds 179 = .ok (.goto (-70), 3) := by decide +kernel
theorem dX12_odds_182 : decode cX12_odds 182 = .ok (.iload 5, 2) := by decide +kernel
theorem dX12_odds_184 : decode cX12_odds 184 = .ok (.ireturn, 1) := by decide +kernel
theorem dX12_cellsOn_0 : decode cX12_cellsOn 0 = .ok (.iload_n 1, 1) := by decide +kernel
theorem dX12_cellsOn_1 : decode cX12_cellsOn 1 = .ok (.istore_n 2, 1) := by decide +kernel
theorem dX12_cellsOn_2 : decode cX12_cellsOn 2 = .ok (.iconst 0, 1) := by decide +kernel
theorem dX12_cellsOn_3 : decode cX12_cellsOn 3 = .ok (.istore_n 3, 1) := by decide +kernel
theorem dX12_cellsOn_4 : decode cX12_cellsOn 4 = .ok (.iload_n 3, 1) := by decide +kernel
theorem dX12_cellsOn_5 : decode cX12_cellsOn 5 = .ok (.bipush 64, 2) := by decide +kernel
theorem dX12_cellsOn_7 : decode cX12_cellsOn 7 = .ok (.if_icmp .ge 113, 3) := by decide +kernel
theorem dX12_cellsOn_10 : decode cX12_cellsOn 10 = .ok (.aload_n 0, 1) := by decide +kernel
theorem dX12_cellsOn_11 : decode cX12_cellsOn 11 = .ok (.iload_n 3, 1) := by decide +kernel
theorem dX12_cellsOn_12 : decode cX12_cellsOn 12 = .ok (.invokevirtual 503, 3) := by decide +kernel
theorem dX12_cellsOn_15 : decode cX12_cellsOn 15 = .ok (.ifCond .ne 6, 3) := by decide +kernel
theorem dX12_cellsOn_18 : decode cX12_cellsOn 18 = .ok (.goto 96, 3) := by decide +kernel
theorem dX12_cellsOn_21 : decode cX12_cellsOn 21 = .ok (.aload_n 0, 1) := by decide +kernel
theorem dX12_cellsOn_22 : decode cX12_cellsOn 22 = .ok (.getfield 7, 3) := by decide +kernel
theorem dX12_cellsOn_25 : decode cX12_cellsOn 25 = .ok (.iload_n 2, 1) := by decide +kernel
theorem dX12_cellsOn_26 : decode cX12_cellsOn 26 = .ok (.iaload, 1) := by decide +kernel
theorem dX12_cellsOn_27 : decode cX12_cellsOn 27 = .ok (.istore 4, 2) := by decide +kernel
theorem dX12_cellsOn_29 : decode cX12_cellsOn 29 = .ok (.iload 4, 2) := by decide +kernel
theorem dX12_cellsOn_31 : decode cX12_cellsOn 31 = .ok (.bipush 9, 2) := by decide +kernel
theorem dX12_cellsOn_33 : decode cX12_cellsOn 33 = .ok (.if_icmp .le 11, 3) := by decide +kernel
theorem dX12_cellsOn_36 : decode cX12_cellsOn 36 = .ok (.iload 4, 2) := by decide +kernel
theorem dX12_cellsOn_38 : decode cX12_cellsOn 38 = .ok (.sipush 254, 3) := by decide +kernel
theorem dX12_cellsOn_41 : decode cX12_cellsOn 41 = .ok (.if_icmp .lt 24, 3) := by decide +kernel
theorem dX12_cellsOn_44 : decode cX12_cellsOn 44 = .ok (.iload_n 3, 1) := by decide +kernel
theorem dX12_cellsOn_45 : decode cX12_cellsOn 45 = .ok (.aload_n 0, 1) := by decide +kernel
theorem dX12_cellsOn_46 : decode cX12_cellsOn 46 = .ok (.getfield 60, 3) := by decide +kernel
theorem dX12_cellsOn_49 : decode cX12_cellsOn 49 = .ok (.aload_n 0, 1) := by decide +kernel
theorem dX12_cellsOn_50 : decode cX12_cellsOn 50 = .ok (.getfield 51, 3) := by decide +kernel
theorem dX12_cellsOn_53 : decode cX12_cellsOn 53 = .ok (.iaload, 1) := by decide +kernel
theorem dX12_cellsOn_54 : decode cX12_cellsOn 54 = .ok (.if_icmp .ne 13, 3) := by decide +kernel
theorem dX12_cellsOn_57 : decode cX12_cellsOn 57 = .ok (.iload 4, 2) := by decide +kernel
theorem dX12_cellsOn_59 : decode cX12_cellsOn 59 = .ok (.sipush 255, 3) := by decide +kernel
theorem dX12_cellsOn_62 : decode cX12_cellsOn 62 = .ok (.if_icmp .eq 5, 3) := by decide +kernel
theorem dX12_cellsOn_65 : decode cX12_cellsOn 65 = .ok (.iconst 0, 1) := by decide +kernel
theorem dX12_cellsOn_66 : decode cX12_cellsOn 66 = .ok (.ireturn, 1) := by decide +kernel
theorem dX12_cellsOn_67 : decode cX12_cellsOn 67 = .ok (.aload_n 0, 1) := by decide +kernel
theorem dX12_cellsOn_68 : decode cX12_cellsOn 68 = .ok (.getfield 168, 3) := by decide +kernel
theorem dX12_cellsOn_71 : decode cX12_cellsOn 71 = .ok (.bipush 64, 2) := by decide +kernel
theorem dX12_cellsOn_73 : decode cX12_cellsOn 73 = .ok (.iload_n 3, 1) := by decide +kernel
theorem dX12_cellsOn_74 : decode cX12_cellsOn 74 = .ok (.iadd, 1) := by decide +kernel
theorem dX12_cellsOn_75 : decode cX12_cellsOn 75 = .ok (.iload 4, 2) := by decide +kernel
theorem dX12_cellsOn_77 : decode cX12_cellsOn 77 = .ok (.bipush 9, 2) := by decide +kernel
theorem dX12_cellsOn_79 : decode cX12_cellsOn 79 = .ok (.if_icmp .le 7, 3) := by decide +kernel
theorem dX12_cellsOn_82 : decode cX12_cellsOn 82 = .ok (.iconst (-1), 1) := by decide +kernel
theorem dX12_cellsOn_83 : decode cX12_cellsOn 83 = .ok (.goto 5, 3) := by decide +kernel
theorem dX12_cellsOn_86 : decode cX12_cellsOn 86 = .ok (.iload 4, 2) := by decide +kernel
theorem dX12_cellsOn_88 : decode cX12_cellsOn 88 = .ok (.iastore, 1) := by decide +kernel
theorem dX12_cellsOn_89 : decode cX12_cellsOn 89 = .ok (.aload_n 0, 1) := by decide +kernel
theorem dX12_cellsOn_90 : decode cX12_cellsOn 90 = .ok (.getfield 171, 3) := by decide +kernel
theorem dX12_cellsOn_93 : decode cX12_cellsOn 93 = .ok (.bipush 64, 2) := by decide +kernel
theorem dX12_cellsOn_95 : decode cX12_cellsOn 95 = .ok (.iload_n 3, 1) := by decide +kernel
theorem dX12_cellsOn_96 : decode cX12_cellsOn 96 = .ok (.iadd, 1) := by decide +kernel
theorem dX12_cellsOn_97 : decode cX12_cellsOn 97 = .ok (.iload 4, 2) := by decide +kernel
theorem dX12_cellsOn_99 : decode cX12_cellsOn 99 = .ok (.sipush 254, 3) := by decide +kernel
theorem dX12_cellsOn_102 : decode cX12_cellsOn 102 = .ok (.if_icmp .ne 7, 3) := by decide +kernel
theorem dX12_cellsOn_105 : decode cX12_cellsOn 105 = .ok (.iconst 1, 1) := by decide +kernel
theorem dX12_cellsOn_106 : decode cX12_cellsOn 106 = .ok (.goto 4, 3) := by decide +kernel
theorem dX12_cellsOn_109 : decode cX12_cellsOn 109 = .ok (.iconst 0, 1) := by decide +kernel
theorem dX12_cellsOn_110 : decode cX12_cellsOn 110 = .ok (.iastore, 1) := by decide +kernel
theorem dX12_cellsOn_111 : decode cX12_cellsOn 111 = .ok (.iinc 2 1, 3) := by decide +kernel
theorem dX12_cellsOn_114 : decode cX12_cellsOn 114 = .ok (.iinc 3 1, 3) := by decide +kernel
theorem dX12_cellsOn_117 : decode cX12_cellsOn 117 = .ok (.goto (-113), 3) := by decide +kernel
theorem dX12_cellsOn_120 : decode cX12_cellsOn 120 = .ok (.iconst 1, 1) := by decide +kernel
theorem dX12_cellsOn_121 : decode cX12_cellsOn 121 = .ok (.ireturn, 1) := by decide +kernel
theorem dX12_plansOn_0 : decode cX12_plansOn 0 = .ok (.iconst 0, 1) := by decide +kernel
theorem dX12_plansOn_1 : decode cX12_plansOn 1 = .ok (.istore_n 2, 1) := by decide +kernel
theorem dX12_plansOn_2 : decode cX12_plansOn 2 = .ok (.iload_n 2, 1) := by decide +kernel
theorem dX12_plansOn_3 : decode cX12_plansOn 3 = .ok (.aload_n 0, 1) := by decide +kernel
theorem dX12_plansOn_4 : decode cX12_plansOn 4 = .ok (.getfield 75, 3) := by decide +kernel
theorem dX12_plansOn_7 : decode cX12_plansOn 7 = .ok (.aload_n 0, 1) := by decide +kernel
theorem dX12_plansOn_8 : decode cX12_plansOn 8 = .ok (.getfield 51, 3) := by decide +kernel
theorem dX12_plansOn_11 : decode cX12_plansOn 11 = .ok (.iaload, 1) := by decide +kernel
theorem dX12_plansOn_12 : decode cX12_plansOn 12 = .ok (.if_icmp .ge 97, 3) := by decide +kernel
theorem dX12_plansOn_15 : decode cX12_plansOn 15 = .ok (.iload_n 1, 1) := by decide +kernel
theorem dX12_plansOn_16 : decode cX12_plansOn 16 = .ok (.iconst 3, 1) := by decide +kernel
theorem dX12_plansOn_17 : decode cX12_plansOn 17 = .ok (.iload_n 2, 1) := by decide +kernel
theorem dX12_plansOn_18 : decode cX12_plansOn 18 = .ok (.imul, 1) := by decide +kernel
theorem dX12_plansOn_19 : decode cX12_plansOn 19 = .ok (.iadd, 1) := by decide +kernel
theorem dX12_plansOn_20 : decode cX12_plansOn 20 = .ok (.istore_n 3, 1) := by decide +kernel
theorem dX12_plansOn_21 : decode cX12_plansOn 21 = .ok (.aload_n 0, 1) := by decide +kernel
theorem dX12_plansOn_22 : decode cX12_plansOn 22 = .ok (.aload_n 0, 1) := by decide +kernel
theorem dX12_plansOn_23 : decode cX12_plansOn 23 = .ok (.getfield 7, 3) := by decide +kernel
theorem dX12_plansOn_26 : decode cX12_plansOn 26 = .ok (.iload_n 3, 1) := by decide +kernel
theorem dX12_plansOn_27 : decode cX12_plansOn 27 = .ok (.iaload, 1) := by decide +kernel
theorem dX12_plansOn_28 : decode cX12_plansOn 28 = .ok (.invokevirtual 521, 3) := by decide +kernel
theorem dX12_plansOn_31 : decode cX12_plansOn 31 = .ok (.ifCond .eq 26, 3) := by decide +kernel
theorem dX12_plansOn_34 : decode cX12_plansOn 34 = .ok (.aload_n 0, 1) := by decide +kernel
theorem dX12_plansOn_35 : decode cX12_plansOn 35 = .ok (.aload_n 0, 1) := by decide +kernel
theorem dX12_plansOn_36 : decode cX12_plansOn 36 = .ok (.getfield 7, 3) := by decide +kernel
theorem dX12_plansOn_39 : decode cX12_plansOn 39 = .ok (.iload_n 3, 1) := by decide +kernel
theorem dX12_plansOn_40 : decode cX12_plansOn 40 = .ok (.iconst 1, 1) := by decide +kernel
theorem dX12_plansOn_41 : decode cX12_plansOn 41 = .ok (.iadd, 1) := by decide +kernel
theorem dX12_plansOn_42 : decode cX12_plansOn 42 = .ok (.iaload, 1) := by decide +kernel
theorem dX12_plansOn_43 : decode cX12_plansOn 43 = .ok (.aload_n 0, 1) := by decide +kernel
theorem dX12_plansOn_44 : decode cX12_plansOn 44 = .ok (.getfield 7, 3) := by decide +kernel
theorem dX12_plansOn_47 : decode cX12_plansOn 47 = .ok (.iload_n 3, 1) := by decide +kernel
theorem dX12_plansOn_48 : decode cX12_plansOn 48 = .ok (.iconst 2, 1) := by decide +kernel
theorem dX12_plansOn_49 : decode cX12_plansOn 49 = .ok (.iadd, 1) := by decide +kernel
theorem dX12_plansOn_50 : decode cX12_plansOn 50 = .ok (.iaload, 1) := by decide +kernel
theorem dX12_plansOn_51 : decode cX12_plansOn 51 = .ok (.invokevirtual 452, 3) := by decide +kernel
theorem dX12_plansOn_54 : decode cX12_plansOn 54 = .ok (.ifCond .ne 5, 3) := by decide +kernel
theorem dX12_plansOn_57 : decode cX12_plansOn 57 = .ok (.iconst 0, 1) := by decide +kernel
theorem dX12_plansOn_58 : decode cX12_plansOn 58 = .ok (.ireturn, 1) := by decide +kernel
theorem dX12_plansOn_59 : decode cX12_plansOn 59 = .ok (.aload_n 0, 1) := by decide +kernel
theorem dX12_plansOn_60 : decode cX12_plansOn 60 = .ok (.getfield 180, 3) := by decide +kernel
theorem dX12_plansOn_63 : decode cX12_plansOn 63 = .ok (.bipush 16, 2) := by decide +kernel
theorem dX12_plansOn_65 : decode cX12_plansOn 65 = .ok (.iload_n 2, 1) := by decide +kernel
theorem dX12_plansOn_66 : decode cX12_plansOn 66 = .ok (.iadd, 1) := by decide +kernel
theorem dX12_plansOn_67 : decode cX12_plansOn 67 = .ok (.aload_n 0, 1) := by decide +kernel
theorem dX12_plansOn_68 : decode cX12_plansOn 68 = .ok (.getfield 7, 3) := by decide +kernel
theorem dX12_plansOn_71 : decode cX12_plansOn 71 = .ok (.iload_n 3, 1) := by decide +kernel
theorem dX12_plansOn_72 : decode cX12_plansOn 72 = .ok (.iaload, 1) := by decide +kernel
theorem dX12_plansOn_73 : decode cX12_plansOn 73 = .ok (.iastore, 1) := by decide +kernel
theorem dX12_plansOn_74 : decode cX12_plansOn 74 = .ok (.aload_n 0, 1) := by decide +kernel
theorem dX12_plansOn_75 : decode cX12_plansOn 75 = .ok (.getfield 183, 3) := by decide +kernel
theorem dX12_plansOn_78 : decode cX12_plansOn 78 = .ok (.bipush 16, 2) := by decide +kernel
theorem dX12_plansOn_80 : decode cX12_plansOn 80 = .ok (.iload_n 2, 1) := by decide +kernel
theorem dX12_plansOn_81 : decode cX12_plansOn 81 = .ok (.iadd, 1) := by decide +kernel
theorem dX12_plansOn_82 : decode cX12_plansOn 82 = .ok (.bipush 8, 2) := by decide +kernel
theorem dX12_plansOn_84 : decode cX12_plansOn 84 = .ok (.aload_n 0, 1) := by decide +kernel
theorem dX12_plansOn_85 : decode cX12_plansOn 85 = .ok (.getfield 7, 3) := by decide +kernel
theorem dX12_plansOn_88 : decode cX12_plansOn 88 = .ok (.iload_n 3, 1) := by decide +kernel
theorem dX12_plansOn_89 : decode cX12_plansOn 89 = .ok (.iconst 2, 1) := by decide +kernel
theorem dX12_plansOn_90 : decode cX12_plansOn 90 = .ok (.iadd, 1) := by decide +kernel
theorem dX12_plansOn_91 : decode cX12_plansOn 91 = .ok (.iaload, 1) := by decide +kernel
theorem dX12_plansOn_92 : decode cX12_plansOn 92 = .ok (.imul, 1) := by decide +kernel
theorem dX12_plansOn_93 : decode cX12_plansOn 93 = .ok (.aload_n 0, 1) := by decide +kernel
theorem dX12_plansOn_94 : decode cX12_plansOn 94 = .ok (.getfield 7, 3) := by decide +kernel
theorem dX12_plansOn_97 : decode cX12_plansOn 97 = .ok (.iload_n 3, 1) := by decide +kernel
theorem dX12_plansOn_98 : decode cX12_plansOn 98 = .ok (.iconst 1, 1) := by decide +kernel
theorem dX12_plansOn_99 : decode cX12_plansOn 99 = .ok (.iadd, 1) := by decide +kernel
theorem dX12_plansOn_100 : decode cX12_plansOn 100 = .ok (.iaload, 1) := by decide +kernel
theorem dX12_plansOn_101 : decode cX12_plansOn 101 = .ok (.iadd, 1) := by decide +kernel
theorem dX12_plansOn_102 : decode cX12_plansOn 102 = .ok (.iastore, 1) := by decide +kernel
theorem dX12_plansOn_103 : decode cX12_plansOn 103 = .ok (.iinc 2 1, 3) := by decide +kernel
theorem dX12_plansOn_106 : decode cX12_plansOn 106 = .ok (.goto (-104), 3) := by decide +kernel
theorem dX12_plansOn_109 : decode cX12_plansOn 109 = .ok (.iconst 1, 1) := by decide +kernel
theorem dX12_plansOn_110 : decode cX12_plansOn 110 = .ok (.ireturn, 1) := by decide +kernel
theorem dX12_flagsOn_0 : decode cX12_flagsOn 0 = .ok (.iconst 0, 1) := by decide +kernel
theorem dX12_flagsOn_1 : decode cX12_flagsOn 1 = .ok (.istore_n 3, 1) := by decide +kernel
theorem dX12_flagsOn_2 : decode cX12_flagsOn 2 = .ok (.iconst 0, 1) := by decide +kernel
theorem dX12_flagsOn_3 : decode cX12_flagsOn 3 = .ok (.istore 4, 2) := by decide +kernel
theorem dX12_flagsOn_5 : decode cX12_flagsOn 5 = .ok (.iload 4, 2) := by decide +kernel
theorem dX12_flagsOn_7 : decode cX12_flagsOn 7 = .ok (.iload_n 2, 1) := by decide +kernel
theorem dX12_flagsOn_8 : decode cX12_flagsOn 8 = .ok (.if_icmp .ge 39, 3) := by decide +kernel
theorem dX12_flagsOn_11 : decode cX12_flagsOn 11 = .ok (.aload_n 0, 1) := by decide +kernel
theorem dX12_flagsOn_12 : decode cX12_flagsOn 12 = .ok (.getfield 7, 3) := by decide +kernel
theorem dX12_flagsOn_15 : decode cX12_flagsOn 15 = .ok (.iload_n 1, 1) := by decide +kernel
theorem dX12_flagsOn_16 : decode cX12_flagsOn 16 = .ok (.iload 4, 2) := by decide +kernel
theorem dX12_flagsOn_18 : decode cX12_flagsOn 18 = .ok (.iadd, 1) := by decide +kernel
theorem dX12_flagsOn_19 : decode cX12_flagsOn 19 = .ok (.iaload, 1) := by decide +kernel
theorem dX12_flagsOn_20 : decode cX12_flagsOn 20 = .ok (.iconst 1, 1) := by decide +kernel
theorem dX12_flagsOn_21 : decode cX12_flagsOn 21 = .ok (.if_icmp .le 5, 3) := by decide +kernel
theorem dX12_flagsOn_24 : decode cX12_flagsOn 24 = .ok (.iconst (-1), 1) := by decide +kernel
theorem dX12_flagsOn_25 : decode cX12_flagsOn 25 = .ok (.ireturn, 1) := by decide +kernel
theorem dX12_flagsOn_26 : decode cX12_flagsOn 26 = .ok (.iload_n 3, 1) := by decide +kernel
theorem dX12_flagsOn_27 : decode cX12_flagsOn 27 = .ok (.aload_n 0, 1) := by decide +kernel
theorem dX12_flagsOn_28 : decode cX12_flagsOn 28 = .ok (.getfield 7, 3) := by decide +kernel
theorem dX12_flagsOn_31 : decode cX12_flagsOn 31 = .ok (.iload_n 1, 1) := by decide +kernel
theorem dX12_flagsOn_32 : decode cX12_flagsOn 32 = .ok (.iload 4, 2) := by decide +kernel
theorem dX12_flagsOn_34 : decode cX12_flagsOn 34 = .ok (.iadd, 1) := by decide +kernel
theorem dX12_flagsOn_35 : decode cX12_flagsOn 35 = .ok (.iaload, 1) := by decide +kernel
theorem dX12_flagsOn_36 : decode cX12_flagsOn 36 = .ok (.iload 4, 2) := by decide +kernel
theorem dX12_flagsOn_38 : decode cX12_flagsOn 38 = .ok (.ishl, 1) := by decide +kernel
theorem dX12_flagsOn_39 : decode cX12_flagsOn 39 = .ok (.ior, 1) := by decide +kernel
theorem dX12_flagsOn_40 : decode cX12_flagsOn 40 = .ok (.istore_n 3, 1) := by decide +kernel
theorem dX12_flagsOn_41 : decode cX12_flagsOn 41 = .ok (.iinc 4 1, 3) := by decide +kernel
theorem dX12_flagsOn_44 : decode cX12_flagsOn 44 = .ok (.goto (-39), 3) := by decide +kernel
theorem dX12_flagsOn_47 : decode cX12_flagsOn 47 = .ok (.iload_n 3, 1) := by decide +kernel
theorem dX12_flagsOn_48 : decode cX12_flagsOn 48 = .ok (.ireturn, 1) := by decide +kernel
theorem wB_1263 : Cond.code yX12_isSolidBy cX12_isSolidBy 3 (some .boolean) ∈ dgB := List.mem_filter.mpr ⟨tbl_9 _ (List.mem_of_getElem? (i := 85) rfl), rfl⟩
theorem wB_1264 : Cond.methodLink RX12 556 yX12_isSolidBy ∈ dgB := List.mem_filter.mpr ⟨tbl_9 _ (List.mem_of_getElem? (i := 82) (by decide +kernel)), by decide +kernel⟩
theorem wB_1265 : Cond.instanceMethod yX12_isSolidBy ∈ dgB := List.mem_filter.mpr ⟨tbl_9 _ (List.mem_of_getElem? (i := 84) (by decide +kernel)), by decide +kernel⟩
theorem wB_1266 : Cond.selects RX12 yX12_isSolidBy yX12_isSolidBy ∈ dgB := List.mem_filter.mpr ⟨List.mem_of_getElem? (i := 146) (by decide +kernel), by decide +kernel⟩
set_option maxHeartbeats 8000000 in
set_option maxRecDepth 100000 in
theorem c_m_flagsOn (l : Launch) (g : Nat → ClassId) (D : va_G) (o : Nat) (S : dg_S) (a1 : Int32) (b_a1 : 0 ≤ (a1).toInt ∧ (a1).toInt ≤ 1700) (a2 : Int32) (b_a2 : 0 ≤ (a2).toInt ∧ (a2).toInt ≤ 6) (I : CM o S) (sz : Nat) : Met l yX12_flagsOn (bw yX12_flagsOn cX12_flagsOn 5 (some .int)) ({ frames := 1, cells := 0, slots := 0, locals := 32 } : Room) (dk_Pc g D (dg_w g shM o rfM S) sz [.ref (o + 0), .int a1, .int a2]) (va_Qi (fun (r : Int32) S' => S' = S ∧ True) (dg_B g D shM o rfM) (dg_A o shM.length sz)) 0 0 (dg_A o shM.length sz) := by
  refine dg_met (cc := cX12_flagsOn) (maxL := 5) (ret := (some .int)) (by decide) rfl (Nat.le_of_ble_eq_true rfl) ?_
  intro p e s m args below meth c A hAe harg hx hb hr hml hts hown hlocks hin hP K hS hA1 hA ST hsz ls hl
  rw [← hAe]
  have F : CallFix p m c cX12_flagsOn 5 s args (bw yX12_flagsOn cX12_flagsOn 5 (some .int)) RX12 := ⟨hx, hb, hml, hown, hts⟩
  have hl : lv_has ls 5 [(0, .ref (o + 0)), (1, .int a1), (2, .int a2)] := hl
  have M_0 : dg_sm shM [] [] S S := dg_sm.rf
  refine lv_iconst (v := 0) hx hb dX12_flagsOn_0 (by decide +kernel) ?_
  refine lv_istore_n (lv' := [(3, .int 0), (0, .ref (o + 0)), (1, .int a1), (2, .int a2)]) hx hb dX12_flagsOn_1 rfl hl (by decide) rfl (fun ls hl => ?_)
  refine lv_iconst (v := 0) hx hb dX12_flagsOn_2 (by decide +kernel) ?_
  refine lv_istore (lv' := [(4, .int 0), (3, .int 0), (0, .ref (o + 0)), (1, .int a1), (2, .int a2)]) hx hb dX12_flagsOn_3 hl (by decide) rfl (fun ls hl => ?_)
  have L_65 : ∀ (n : Nat) (x_63 : Int32) (x_64 : Int32), (0 ≤ (x_63).toInt ∧ (x_63).toInt ≤ 6) → ((7 - (x_63).toInt).toNat < n) → ∀ (H : Heap) (locs : List Loc), va_P D vwCl (dg_w g shM o rfM S) H → va_S A s.heap H locs → ∀ ls : Array Slot, lv_has ls 5 [(4, .int x_63), (3, .int x_64), (0, .ref (o + 0)), (1, .int a1), (2, .int a2)] → W p l e ({ frames := 1, cells := 0, slots := 0, locals := 32 } : Room) s m args below meth c H locs 0 0 (MQ below (va_Qi (fun (r : Int32) S' => S' = S ∧ True) (dg_B g D shM o rfM) A) args s 0 0 A) (F0 m 5 ls []) := by
    intro n
    induction n with
    | zero =>
      intro x_63 x_64 b_x_63 hmu H locs hP hS ls hl
      omega
    | succ n ih =>
      intro x_63 x_64 b_x_63 hmu H locs hP hS ls hl
      refine lv_iload hx hb dX12_flagsOn_5 (lv_at hl 0 rfl) ?_
      refine lv_iload_n hx hb dX12_flagsOn_7 rfl (lv_at hl 4 rfl) ?_
      refine lv_icmp_ge (tgt := 47) hx hb dX12_flagsOn_8 (by decide) (fun c_66 => ?_) (fun c_66 => ?_)
      · have jc_66 := dk_gec (k := (a2).toInt) rfl c_66
        refine lv_iload_n hx hb dX12_flagsOn_47 rfl (lv_at hl 1 rfl) ?_
        refine W.widen (k := 0) (n := 0) (Nat.le_of_ble_eq_true rfl) (Nat.le_of_ble_eq_true rfl) ?_
        exact dg_iret hx hb hr hlocks rfl hP hS ⟨rfl, trivial⟩ dX12_flagsOn_48
      · have jc_66 := dk_ngec (k := (a2).toInt) rfl c_66
        refine lv_aload_n hx hb dX12_flagsOn_11 rfl (lv_at hl 2 rfl) ?_
        refine dg_get (C := RX12) (T := TX12) (N := 77) hx hb hts (fun w h => bw_mem (wU_X12 w h)) hown K hP sM_0 rfl 0 (by decide) (hts _ (bw_mem wB_290)) (fun _ h9 => h9) (v := .ref (o + 1)) (show S.1 0 0 = .ref (o + 1) from dg_I.rel (d := 1) I sM_0 (by decide +kernel)) dX12_flagsOn_12 ?_
        refine lv_iload_n hx hb dX12_flagsOn_15 rfl (lv_at hl 3 rfl) ?_
        refine lv_iload hx hb dX12_flagsOn_16 (lv_at hl 0 rfl) ?_
        refine lv_iadd hx hb dX12_flagsOn_18 ?_
        refine lv_topi (fun x_67 ex_67 => ?_)
        have jx_67 : (x_67).toInt = (a1).toInt + (x_63).toInt := by rw [ex_67]; exact dk_addT rfl rfl (by omega) (by omega)
        have hin_68 : vp_in x_67 1800 := (dk_inv (by omega) (by omega))
        refine dg_iald hx hb K hP sM_1 hin_68 dX12_flagsOn_19 (fun x_69 ex_69 => ?_)
        have b_x_69 := dk_all_at (dg_I.row (lo := 0) (hi := 255) I sM_1 (by decide +kernel)) hin_68 ex_69
        refine lv_iconst (v := 1) hx hb dX12_flagsOn_20 (by decide +kernel) ?_
        refine lv_icmp_le (tgt := 26) hx hb dX12_flagsOn_21 (by decide) (fun c_70 => ?_) (fun c_70 => ?_)
        · have jc_70 := dk_lec (k := 1) (by decide +kernel) c_70
          refine lv_iload_n hx hb dX12_flagsOn_26 rfl (lv_at hl 1 rfl) ?_
          refine lv_aload_n hx hb dX12_flagsOn_27 rfl (lv_at hl 2 rfl) ?_
          refine dg_get (C := RX12) (T := TX12) (N := 77) hx hb hts (fun w h => bw_mem (wU_X12 w h)) hown K hP sM_0 rfl 0 (by decide) (hts _ (bw_mem wB_290)) (fun _ h9 => h9) (v := .ref (o + 1)) (show S.1 0 0 = .ref (o + 1) from dg_I.rel (d := 1) I sM_0 (by decide +kernel)) dX12_flagsOn_28 ?_
          refine lv_iload_n hx hb dX12_flagsOn_31 rfl (lv_at hl 3 rfl) ?_
          refine lv_iload hx hb dX12_flagsOn_32 (lv_at hl 0 rfl) ?_
          refine lv_iadd hx hb dX12_flagsOn_34 ?_
          refine lv_topi (fun x_71 ex_71 => ?_)
          have jx_71 : (x_71).toInt = (a1).toInt + (x_63).toInt := by rw [ex_71]; exact dk_addT rfl rfl (by omega) (by omega)
          have hin_72 : vp_in x_71 1800 := (dk_inv (by omega) (by omega))
          refine dg_iald hx hb K hP sM_1 hin_72 dX12_flagsOn_35 (fun x_73 ex_73 => ?_)
          have b_x_73 := dk_all_at (dg_I.row (lo := 0) (hi := 255) I sM_1 (by decide +kernel)) hin_72 ex_73
          refine lv_iload hx hb dX12_flagsOn_36 (lv_at hl 0 rfl) ?_
          refine lv_ishl hx hb dX12_flagsOn_38 ?_
          refine lv_topi (fun x_74 ex_74 => ?_)
          refine lv_ior hx hb dX12_flagsOn_39 ?_
          refine lv_topi (fun x_75 ex_75 => ?_)
          refine lv_istore_n (lv' := [(3, .int x_75), (4, .int x_63), (0, .ref (o + 0)), (1, .int a1), (2, .int a2)]) hx hb dX12_flagsOn_40 rfl hl (by decide) rfl (fun ls hl => ?_)
          obtain ⟨x_76, ex_76⟩ : ∃ z, z = x_63 + 1 := ⟨_, rfl⟩
          have jx_76 : (x_76).toInt = (x_63).toInt + 1 := by rw [ex_76]; exact dk_addT rfl (by decide +kernel) (by omega) (by omega)
          refine lv_iinc (v := x_76) (lv' := [(4, .int x_76), (3, .int x_75), (0, .ref (o + 0)), (1, .int a1), (2, .int a2)]) hx hb dX12_flagsOn_41 hl (k := 1) rfl (by rw [ex_76]; rfl) (by decide) rfl (fun ls hl => ?_)
          refine lv_goto (tgt := 5) hx hb dX12_flagsOn_44 (by decide) ?_
          exact ih x_76 x_75 (by omega) (by omega) _ _ hP hS _ (lv_sub hl [0, 1, 2, 3, 4] rfl)
        · have jc_70 := dk_nlec (k := 1) (by decide +kernel) c_70
          refine lv_iconst (v := (-1)) hx hb dX12_flagsOn_24 (by decide +kernel) ?_
          refine W.widen (k := 0) (n := 0) (Nat.le_of_ble_eq_true rfl) (Nat.le_of_ble_eq_true rfl) ?_
          exact dg_iret hx hb hr hlocks rfl hP hS ⟨rfl, trivial⟩ dX12_flagsOn_25
  have hz_77 : (0 : Int32).toInt = 0 := by decide +kernel
  have hz_78 : (0 : Int32).toInt = 0 := by decide +kernel
  have hz_79 : (0 : Int32).toInt = 0 := by decide +kernel
  exact L_65 ((7 - ((0 : Int32)).toInt).toNat + 1) 0 0 (by decide +kernel) (by omega) _ _ hP hS _ (lv_sub hl [0, 1, 2, 3, 4] rfl)
set_option maxHeartbeats 8000000 in
set_option maxRecDepth 100000 in
theorem c_m_cellsOn (l : Launch) (g : Nat → ClassId) (D : va_G) (o : Nat) (S : dg_S) (a1 : Int32) (b_a1 : 0 ≤ (a1).toInt ∧ (a1).toInt ≤ 100) (ZB : ZBM S) (I : CM o S) (sz : Nat) : Met l yX12_cellsOn (bw yX12_cellsOn cX12_cellsOn 5 (some .boolean)) ({ frames := 4, cells := 0, slots := 0, locals := 97 } : Room) (dk_Pc g D (dg_w g shM o rfM S) sz [.ref (o + 0), .int a1]) (va_Qi (fun (r : Int32) S' => CM o S' ∧ dg_sm shM [] [31, 32] S S' ∧ (0 ≤ (r).toInt ∧ (r).toInt ≤ 1) ∧ True) (dg_B g D shM o rfM) (dg_A o shM.length sz)) 0 0 (dg_A o shM.length sz) := by
  refine dg_met (cc := cX12_cellsOn) (maxL := 5) (ret := (some .boolean)) (by decide) rfl (Nat.le_of_ble_eq_true rfl) ?_
  intro p e s m args below meth c A hAe harg hx hb hr hml hts hown hlocks hin hP K hS hA1 hA ST hsz ls hl
  rw [← hAe]
  have F : CallFix p m c cX12_cellsOn 5 s args (bw yX12_cellsOn cX12_cellsOn 5 (some .boolean)) RX12 := ⟨hx, hb, hml, hown, hts⟩
  have hl : lv_has ls 5 [(0, .ref (o + 0)), (1, .int a1)] := hl
  have M_0 : dg_sm shM [] [31, 32] S S := dg_sm.rf
  refine lv_iload_n hx hb dX12_cellsOn_0 rfl (lv_at hl 1 rfl) ?_
  refine lv_istore_n (lv' := [(2, .int a1), (0, .ref (o + 0)), (1, .int a1)]) hx hb dX12_cellsOn_1 rfl hl (by decide) rfl (fun ls hl => ?_)
  refine lv_iconst (v := 0) hx hb dX12_cellsOn_2 (by decide +kernel) ?_
  refine lv_istore_n (lv' := [(3, .int 0), (2, .int a1), (0, .ref (o + 0)), (1, .int a1)]) hx hb dX12_cellsOn_3 rfl hl (by decide) rfl (fun ls hl => ?_)
  have L_180 : ∀ (n : Nat) (x_177 : Int32) (x_178 : Int32), (0 ≤ (x_177).toInt ∧ (x_177).toInt ≤ 64) → (0 ≤ (x_178).toInt ∧ (x_178).toInt ≤ 164) → (0 ≤ (x_178).toInt ∧ (x_178).toInt ≤ (a1).toInt + (x_177).toInt) → ((65 - (x_177).toInt).toNat < n) → ∀ S_179 : dg_S, CM o S_179 → dg_sm shM [] [31, 32] S S_179 → ∀ (H : Heap) (locs : List Loc), va_P D vwCl (dg_w g shM o rfM S_179) H → va_S A s.heap H locs → ∀ ls : Array Slot, lv_has ls 5 [(3, .int x_177), (2, .int x_178), (0, .ref (o + 0)), (1, .int a1)] → W p l e ({ frames := 4, cells := 0, slots := 0, locals := 97 } : Room) s m args below meth c H locs 0 0 (MQ below (va_Qi (fun (r : Int32) S' => CM o S' ∧ dg_sm shM [] [31, 32] S S' ∧ (0 ≤ (r).toInt ∧ (r).toInt ≤ 1) ∧ True) (dg_B g D shM o rfM) A) args s 0 0 A) (F0 m 4 ls []) := by
    intro n
    induction n with
    | zero =>
      intro x_177 x_178 b_x_177 b_x_178 rel_0 hmu S_179 I_179 M_179 H locs hP hS ls hl
      omega
    | succ n ih =>
      intro x_177 x_178 b_x_177 b_x_178 rel_0 hmu S_179 I_179 M_179 H locs hP hS ls hl
      refine lv_iload_n hx hb dX12_cellsOn_4 rfl (lv_at hl 0 rfl) ?_
      refine lv_bipush (v := 64) hx hb dX12_cellsOn_5 (by decide +kernel) ?_
      refine lv_icmp_ge (tgt := 120) hx hb dX12_cellsOn_7 (by decide) (fun c_181 => ?_) (fun c_181 => ?_)
      · have jc_181 := dk_gec (k := 64) (by decide +kernel) c_181
        refine lv_iconst (v := 1) hx hb dX12_cellsOn_120 (by decide +kernel) ?_
        have hz_182 : (1 : Int32).toInt = 1 := by decide +kernel
        refine W.widen (k := 0) (n := 0) (Nat.le_of_ble_eq_true rfl) (Nat.le_of_ble_eq_true rfl) ?_
        exact dg_iret hx hb hr hlocks (by decide +kernel) hP hS ⟨I_179, M_179, (by decide +kernel), trivial⟩ dX12_cellsOn_121
      · have jc_181 := dk_ngec (k := 64) (by decide +kernel) c_181
        refine lv_aload_n hx hb dX12_cellsOn_10 rfl (lv_at hl 2 rfl) ?_
        refine lv_iload_n hx hb dX12_cellsOn_11 rfl (lv_at hl 0 rfl) ?_
        obtain ⟨x_183, f_x_183, b_x_183⟩ := dg_I.int (i := 0) (k := 13) (lo := 0) (hi := 1) I sM_0 (by decide +kernel)
        obtain ⟨x_184, f_x_184, b_x_184⟩ := dg_I.int (i := 0) (k := 47) (lo := 0) (hi := 1) I sM_0 (by decide +kernel)
        obtain ⟨x_185, f_x_185⟩ : ∃ x, S_179.2.1 2 (x_183 : Int32).toNatClampNeg = x := ⟨_, rfl⟩
        have hin_186 : vp_in (x_183 : Int32) 2 := (dk_inv (by omega) (by omega))
        have b_x_185 := dk_all_at (dg_I.row (lo := 0) (hi := 9999) I_179 sM_2 (by decide +kernel)) hin_186 f_x_185.symm
        have ex_185 := f_x_185.symm
        have zb_x_185 : (x_185).toInt ≤ 7 ∧ ((x_184 : Int32).toInt = 1 → 3 ≤ (x_185).toInt) := by rw [ex_185]; exact ⟨((ZBM.keep ZB M_179 (by decide) (by decide) (by decide) (by decide) (by decide)) x_183 x_184 ((M_179.1 0 13 _ sM_0 (by decide)).trans f_x_183) ((M_179.1 0 47 _ sM_0 (by decide)).trans f_x_184)).1, fun h9 => (((ZBM.keep ZB M_179 (by decide) (by decide) (by decide) (by decide) (by decide)) x_183 x_184 ((M_179.1 0 13 _ sM_0 (by decide)).trans f_x_183) ((M_179.1 0 47 _ sM_0 (by decide)).trans f_x_184)).2.2.2 h9).1⟩
        obtain ⟨x_187, f_x_187⟩ : ∃ x, S_179.2.1 3 (x_183 : Int32).toNatClampNeg = x := ⟨_, rfl⟩
        have hin_188 : vp_in (x_183 : Int32) 2 := (dk_inv (by omega) (by omega))
        have b_x_187 := dk_all_at (dg_I.row (lo := 0) (hi := 9999) I_179 sM_3 (by decide +kernel)) hin_188 f_x_187.symm
        have ex_187 := f_x_187.symm
        have zb_x_187 : (x_187).toInt ≤ 7 ∧ ((x_184 : Int32).toInt = 1 → 3 ≤ (x_187).toInt) := by rw [ex_187]; exact ⟨((ZBM.keep ZB M_179 (by decide) (by decide) (by decide) (by decide) (by decide)) x_183 x_184 ((M_179.1 0 13 _ sM_0 (by decide)).trans f_x_183) ((M_179.1 0 47 _ sM_0 (by decide)).trans f_x_184)).2.1, fun h9 => (((ZBM.keep ZB M_179 (by decide) (by decide) (by decide) (by decide) (by decide)) x_183 x_184 ((M_179.1 0 13 _ sM_0 (by decide)).trans f_x_183) ((M_179.1 0 47 _ sM_0 (by decide)).trans f_x_184)).2.2.2 h9).2⟩
        refine dg_calli hS hA1 hA (va_runV (As := [.int x_177]) (rest := []) F (c_m_isCellOf l g D o S_179 x_177 (by omega) x_183 ((M_179.1 0 13 _ sM_0 (by decide)).trans f_x_183) (by omega) x_184 ((M_179.1 0 47 _ sM_0 (by decide)).trans f_x_184) (by omega) x_185 f_x_185 (by omega) x_187 f_x_187 (by omega) (ZBM.keep ZB M_179 (by decide) (by decide) (by decide) (by decide) (by decide)) I_179 H.size) (cwV 1 hts (bw_V wB_1123 wB_1124 wB_1125 wB_297 wB_1122) rfl rfl rfl (by decide +kernel) ⟨Nat.le_of_ble_eq_true rfl, Nat.le_of_ble_eq_true rfl⟩) (dg_preV sM_0 rfl K ST hP hS hA1 hA) rfl rfl hl.1 rfl (lv_room (Nat.le_of_ble_eq_true rfl)) dX12_cellsOn_12 ⟨Nat.le_of_ble_eq_true rfl, Nat.le_of_ble_eq_true rfl⟩) (fun x_189 S_190 hw_190 H locs hP hS => ?_)
        rw [hw_190.1] at hP
        obtain ⟨hq_190, w_190_0, w_190_1, w_190_2, -⟩ := hw_190
        have w_190_0 : 0 ≤ (x_189).toInt ∧ (x_189).toInt ≤ 1 := w_190_0
        have w_190_1 : (x_189).toInt = 1 → 0 ≤ (x_177).toInt := w_190_1
        have w_190_2 : (x_189).toInt = 1 ↔ ((x_184).toInt = 1 ∧ 0 ≤ (x_177).toInt ∧ (x_177).toInt % 8 < (x_185).toInt ∧ (x_177).toInt / 8 < (x_187).toInt) := w_190_2
        refine lv_if_ne (tgt := 21) hx hb dX12_cellsOn_15 (by decide) (fun c_191 => ?_) (fun c_191 => ?_)
        · have jc_191 := dk_neqc (k := 0) (by decide +kernel) c_191
          refine lv_aload_n hx hb dX12_cellsOn_21 rfl (lv_at hl 2 rfl) ?_
          refine dg_get (C := RX12) (T := TX12) (N := 77) hx hb hts (fun w h => bw_mem (wU_X12 w h)) hown K hP sM_0 rfl 0 (by decide) (hts _ (bw_mem wB_290)) (fun _ h9 => h9) (v := .ref (o + 1)) (show S_179.1 0 0 = .ref (o + 1) from dg_I.rel (d := 1) I_179 sM_0 (by decide +kernel)) dX12_cellsOn_22 ?_
          refine lv_iload_n hx hb dX12_cellsOn_25 rfl (lv_at hl 1 rfl) ?_
          have hin_192 : vp_in x_178 1800 := (dk_inv (by omega) (by omega))
          refine dg_iald hx hb K hP sM_1 hin_192 dX12_cellsOn_26 (fun x_193 ex_193 => ?_)
          have b_x_193 := dk_all_at (dg_I.row (lo := 0) (hi := 255) I_179 sM_1 (by decide +kernel)) hin_192 ex_193
          refine lv_istore (lv' := [(4, .int x_193), (3, .int x_177), (2, .int x_178), (0, .ref (o + 0)), (1, .int a1)]) hx hb dX12_cellsOn_27 hl (by decide) rfl (fun ls hl => ?_)
          refine lv_iload hx hb dX12_cellsOn_29 (lv_at hl 0 rfl) ?_
          refine lv_bipush (v := 9) hx hb dX12_cellsOn_31 (by decide +kernel) ?_
          have J_214 : ∀ (H : Heap) (locs : List Loc), va_P D vwCl (dg_w g shM o rfM S_179) H → va_S A s.heap H locs → ∀ ls : Array Slot, lv_has ls 5 [(4, .int x_193), (3, .int x_177), (2, .int x_178), (0, .ref (o + 0)), (1, .int a1)] → W p l e ({ frames := 4, cells := 0, slots := 0, locals := 97 } : Room) s m args below meth c H locs 0 0 (MQ below (va_Qi (fun (r : Int32) S' => CM o S' ∧ dg_sm shM [] [31, 32] S S' ∧ (0 ≤ (r).toInt ∧ (r).toInt ≤ 1) ∧ True) (dg_B g D shM o rfM) A) args s 0 0 A) (F0 m 44 ls []) := by
            intro H locs hP hS ls hl
            refine lv_iload_n hx hb dX12_cellsOn_44 rfl (lv_at hl 1 rfl) ?_
            refine lv_aload_n hx hb dX12_cellsOn_45 rfl (lv_at hl 3 rfl) ?_
            refine dg_get (C := RX12) (T := TX12) (N := 77) hx hb hts (fun w h => bw_mem (wU_X12 w h)) hown K hP sM_0 rfl 16 (by decide) (hts _ (bw_mem wB_481)) (fun _ h9 => h9) (v := .ref (o + 4)) (show S_179.1 0 16 = .ref (o + 4) from dg_I.rel (d := 4) I_179 sM_0 (by decide +kernel)) dX12_cellsOn_46 ?_
            refine lv_aload_n hx hb dX12_cellsOn_49 rfl (lv_at hl 3 rfl) ?_
            refine dg_get (C := RX12) (T := TX12) (N := 77) hx hb hts (fun w h => bw_mem (wU_X12 w h)) hown K hP sM_0 rfl 13 (by decide) (hts _ (bw_mem wB_1085)) (fun _ h9 => h9) (v := .int x_183) ((M_179.1 0 13 _ sM_0 (by decide)).trans f_x_183) dX12_cellsOn_50 ?_
            have hin_215 : vp_in x_183 2 := (dk_inv (by omega) (by omega))
            refine dg_iald hx hb K hP sM_4 hin_215 dX12_cellsOn_53 (fun x_216 ex_216 => ?_)
            have b_x_216 := dk_all_at (dg_I.row (lo := 0) (hi := 9999) I_179 sM_4 (by decide +kernel)) hin_215 ex_216
            have zb_x_216 : (x_216).toInt ≤ 63 := by rw [ex_216]; exact ((ZBM.keep ZB M_179 (by decide) (by decide) (by decide) (by decide) (by decide)) x_183 x_184 ((M_179.1 0 13 _ sM_0 (by decide)).trans f_x_183) ((M_179.1 0 47 _ sM_0 (by decide)).trans f_x_184)).2.2.1
            have J_232 : ∀ (H : Heap) (locs : List Loc), va_P D vwCl (dg_w g shM o rfM S_179) H → va_S A s.heap H locs → ∀ ls : Array Slot, lv_has ls 5 [(4, .int x_193), (3, .int x_177), (2, .int x_178), (0, .ref (o + 0)), (1, .int a1)] → W p l e ({ frames := 4, cells := 0, slots := 0, locals := 97 } : Room) s m args below meth c H locs 0 0 (MQ below (va_Qi (fun (r : Int32) S' => CM o S' ∧ dg_sm shM [] [31, 32] S S' ∧ (0 ≤ (r).toInt ∧ (r).toInt ≤ 1) ∧ True) (dg_B g D shM o rfM) A) args s 0 0 A) (F0 m 67 ls []) := by
              intro H locs hP hS ls hl
              refine lv_aload_n hx hb dX12_cellsOn_67 rfl (lv_at hl 3 rfl) ?_
              refine dg_get (C := RX12) (T := TX12) (N := 77) hx hb hts (fun w h => bw_mem (wU_X12 w h)) hown K hP sM_0 rfl 51 (by decide) (hts _ (bw_mem wB_1090)) (fun _ h9 => h9) (v := .ref (o + 31)) (show S_179.1 0 51 = .ref (o + 31) from dg_I.rel (d := 31) I_179 sM_0 (by decide +kernel)) dX12_cellsOn_68 ?_
              refine lv_bipush (v := 64) hx hb dX12_cellsOn_71 (by decide +kernel) ?_
              refine lv_iload_n hx hb dX12_cellsOn_73 rfl (lv_at hl 1 rfl) ?_
              refine lv_iadd hx hb dX12_cellsOn_74 ?_
              refine lv_topi (fun x_233 ex_233 => ?_)
              have jx_233 : (x_233).toInt = 64 + (x_177).toInt := by rw [ex_233]; exact dk_addT (by decide +kernel) rfl (by omega) (by omega)
              refine lv_iload hx hb dX12_cellsOn_75 (lv_at hl 0 rfl) ?_
              refine lv_bipush (v := 9) hx hb dX12_cellsOn_77 (by decide +kernel) ?_
              have J_245 : ∀ (x_235 : Int32), ((-1) ≤ (x_235).toInt ∧ (x_235).toInt ≤ 9) → ∀ (H : Heap) (locs : List Loc), va_P D vwCl (dg_w g shM o rfM S_179) H → va_S A s.heap H locs → ∀ ls : Array Slot, lv_has ls 5 [(4, .int x_193), (3, .int x_177), (2, .int x_178), (0, .ref (o + 0)), (1, .int a1)] → W p l e ({ frames := 4, cells := 0, slots := 0, locals := 97 } : Room) s m args below meth c H locs 0 0 (MQ below (va_Qi (fun (r : Int32) S' => CM o S' ∧ dg_sm shM [] [31, 32] S S' ∧ (0 ≤ (r).toInt ∧ (r).toInt ≤ 1) ∧ True) (dg_B g D shM o rfM) A) args s 0 0 A) (F0 m 88 ls [.int x_235, .int x_233, .ref (o + 31)]) := by
                intro x_235 b_x_235 H locs hP hS ls hl
                have hin_246 : vp_in x_233 1408 := (dk_inv (by omega) (by omega))
                refine dg_iast hx hb K hP hS hA1 sM_31 hin_246 dX12_cellsOn_88 (fun S_247 e_247 H locs hP hS => ?_)
                have I_247 := dg_I.ufu (lo := (-1)) (hi := 9) I_179 e_247 sM_31 (by decide +kernel) (show (-1) ≤ (x_235).toInt ∧ (x_235).toInt ≤ 9 from (by omega))
                have M_247 := dg_sm.uf M_179 e_247 sM_31 (by decide)
                refine lv_aload_n hx hb dX12_cellsOn_89 rfl (lv_at hl 3 rfl) ?_
                refine dg_get (C := RX12) (T := TX12) (N := 77) hx hb hts (fun w h => bw_mem (wU_X12 w h)) hown K hP sM_0 rfl 52 (by decide) (hts _ (bw_mem wB_1097)) (fun _ h9 => h9) (v := .ref (o + 32)) (show S_247.1 0 52 = .ref (o + 32) from dg_I.rel (d := 32) I_247 sM_0 (by decide +kernel)) dX12_cellsOn_90 ?_
                refine lv_bipush (v := 64) hx hb dX12_cellsOn_93 (by decide +kernel) ?_
                refine lv_iload_n hx hb dX12_cellsOn_95 rfl (lv_at hl 1 rfl) ?_
                refine lv_iadd hx hb dX12_cellsOn_96 ?_
                refine lv_topi (fun x_248 ex_248 => ?_)
                have jx_248 : (x_248).toInt = 64 + (x_177).toInt := by rw [ex_248]; exact dk_addT (by decide +kernel) rfl (by omega) (by omega)
                refine lv_iload hx hb dX12_cellsOn_97 (lv_at hl 0 rfl) ?_
                refine lv_sipush (v := 254) hx hb dX12_cellsOn_99 (by decide +kernel) ?_
                have J_255 : ∀ (x_250 : Int32), (0 ≤ (x_250).toInt ∧ (x_250).toInt ≤ 1) → ∀ (H : Heap) (locs : List Loc), va_P D vwCl (dg_w g shM o rfM S_247) H → va_S A s.heap H locs → ∀ ls : Array Slot, lv_has ls 5 [(4, .int x_193), (3, .int x_177), (2, .int x_178), (0, .ref (o + 0)), (1, .int a1)] → W p l e ({ frames := 4, cells := 0, slots := 0, locals := 97 } : Room) s m args below meth c H locs 0 0 (MQ below (va_Qi (fun (r : Int32) S' => CM o S' ∧ dg_sm shM [] [31, 32] S S' ∧ (0 ≤ (r).toInt ∧ (r).toInt ≤ 1) ∧ True) (dg_B g D shM o rfM) A) args s 0 0 A) (F0 m 110 ls [.int x_250, .int x_248, .ref (o + 32)]) := by
                  intro x_250 b_x_250 H locs hP hS ls hl
                  have hin_256 : vp_in x_248 1408 := (dk_inv (by omega) (by omega))
                  refine dg_iast hx hb K hP hS hA1 sM_32 hin_256 dX12_cellsOn_110 (fun S_257 e_257 H locs hP hS => ?_)
                  have I_257 := dg_I.uf0 I_247 e_257 sM_32 (by decide +kernel)
                  have M_257 := dg_sm.uf M_247 e_257 sM_32 (by decide)
                  obtain ⟨x_258, ex_258⟩ : ∃ z, z = x_178 + 1 := ⟨_, rfl⟩
                  have jx_258 : (x_258).toInt = (x_178).toInt + 1 := by rw [ex_258]; exact dk_addT rfl (by decide +kernel) (by omega) (by omega)
                  refine lv_iinc (v := x_258) (lv' := [(2, .int x_258), (4, .int x_193), (3, .int x_177), (0, .ref (o + 0)), (1, .int a1)]) hx hb dX12_cellsOn_111 hl (k := 2) rfl (by rw [ex_258]; rfl) (by decide) rfl (fun ls hl => ?_)
                  obtain ⟨x_259, ex_259⟩ : ∃ z, z = x_177 + 1 := ⟨_, rfl⟩
                  have jx_259 : (x_259).toInt = (x_177).toInt + 1 := by rw [ex_259]; exact dk_addT rfl (by decide +kernel) (by omega) (by omega)
                  refine lv_iinc (v := x_259) (lv' := [(3, .int x_259), (2, .int x_258), (4, .int x_193), (0, .ref (o + 0)), (1, .int a1)]) hx hb dX12_cellsOn_114 hl (k := 2) rfl (by rw [ex_259]; rfl) (by decide) rfl (fun ls hl => ?_)
                  refine lv_goto (tgt := 4) hx hb dX12_cellsOn_117 (by decide) ?_
                  exact ih x_259 x_258 (by omega) (by omega) (by omega) (by omega) S_257 I_257 M_257  _ _ hP hS _ (lv_sub hl [0, 1, 3, 4] rfl)
                refine lv_icmp_ne (tgt := 109) hx hb dX12_cellsOn_102 (by decide) (fun c_260 => ?_) (fun c_260 => ?_)
                · have jc_260 := dk_neqc (k := 254) (by decide +kernel) c_260
                  refine lv_iconst (v := 0) hx hb dX12_cellsOn_109 (by decide +kernel) ?_
                  have hz_261 : (0 : Int32).toInt = 0 := by decide +kernel
                  exact J_255 0 (by decide +kernel) _ _ hP hS _ (lv_sub hl [0, 1, 2, 3, 4] rfl)
                · have jc_260 := dk_eqc (k := 254) (by decide +kernel) c_260
                  refine lv_iconst (v := 1) hx hb dX12_cellsOn_105 (by decide +kernel) ?_
                  refine lv_goto (tgt := 110) hx hb dX12_cellsOn_106 (by decide) ?_
                  have hz_262 : (1 : Int32).toInt = 1 := by decide +kernel
                  exact J_255 1 (by decide +kernel) _ _ hP hS _ (lv_sub hl [0, 1, 2, 3, 4] rfl)
              refine lv_icmp_le (tgt := 86) hx hb dX12_cellsOn_79 (by decide) (fun c_263 => ?_) (fun c_263 => ?_)
              · have jc_263 := dk_lec (k := 9) (by decide +kernel) c_263
                refine lv_iload hx hb dX12_cellsOn_86 (lv_at hl 0 rfl) ?_
                exact J_245 x_193 (by omega) _ _ hP hS _ (lv_sub hl [0, 1, 2, 3, 4] rfl)
              · have jc_263 := dk_nlec (k := 9) (by decide +kernel) c_263
                refine lv_iconst (v := (-1)) hx hb dX12_cellsOn_82 (by decide +kernel) ?_
                refine lv_goto (tgt := 88) hx hb dX12_cellsOn_83 (by decide) ?_
                have hz_264 : (-1 : Int32).toInt = (-1) := by decide +kernel
                exact J_245 (-1) (by decide +kernel) _ _ hP hS _ (lv_sub hl [0, 1, 2, 3, 4] rfl)
            refine lv_icmp_ne (tgt := 67) hx hb dX12_cellsOn_54 (by decide) (fun c_265 => ?_) (fun c_265 => ?_)
            · have jc_265 := dk_neqc (k := (x_216).toInt) rfl c_265
              exact J_232   _ _ hP hS _ (lv_sub hl [0, 1, 2, 3, 4] rfl)
            · have jc_265 := dk_eqc (k := (x_216).toInt) rfl c_265
              refine lv_iload hx hb dX12_cellsOn_57 (lv_at hl 0 rfl) ?_
              refine lv_sipush (v := 255) hx hb dX12_cellsOn_59 (by decide +kernel) ?_
              refine lv_icmp_eq (tgt := 67) hx hb dX12_cellsOn_62 (by decide) (fun c_266 => ?_) (fun c_266 => ?_)
              · have jc_266 := dk_eqc (k := 255) (by decide +kernel) c_266
                exact J_232   _ _ hP hS _ (lv_sub hl [0, 1, 2, 3, 4] rfl)
              · have jc_266 := dk_neqc (k := 255) (by decide +kernel) c_266
                refine lv_iconst (v := 0) hx hb dX12_cellsOn_65 (by decide +kernel) ?_
                have hz_267 : (0 : Int32).toInt = 0 := by decide +kernel
                refine W.widen (k := 0) (n := 0) (Nat.le_of_ble_eq_true rfl) (Nat.le_of_ble_eq_true rfl) ?_
                exact dg_iret hx hb hr hlocks (by decide +kernel) hP hS ⟨I_179, M_179, (by decide +kernel), trivial⟩ dX12_cellsOn_66
          refine lv_icmp_le (tgt := 44) hx hb dX12_cellsOn_33 (by decide) (fun c_268 => ?_) (fun c_268 => ?_)
          · have jc_268 := dk_lec (k := 9) (by decide +kernel) c_268
            exact J_214   _ _ hP hS _ (lv_sub hl [0, 1, 2, 3, 4] rfl)
          · have jc_268 := dk_nlec (k := 9) (by decide +kernel) c_268
            refine lv_iload hx hb dX12_cellsOn_36 (lv_at hl 0 rfl) ?_
            refine lv_sipush (v := 254) hx hb dX12_cellsOn_38 (by decide +kernel) ?_
            refine lv_icmp_lt (tgt := 65) hx hb dX12_cellsOn_41 (by decide) (fun c_269 => ?_) (fun c_269 => ?_)
            · have jc_269 := dk_ltc (k := 254) (by decide +kernel) c_269
              refine lv_iconst (v := 0) hx hb dX12_cellsOn_65 (by decide +kernel) ?_
              have hz_270 : (0 : Int32).toInt = 0 := by decide +kernel
              refine W.widen (k := 0) (n := 0) (Nat.le_of_ble_eq_true rfl) (Nat.le_of_ble_eq_true rfl) ?_
              exact dg_iret hx hb hr hlocks (by decide +kernel) hP hS ⟨I_179, M_179, (by decide +kernel), trivial⟩ dX12_cellsOn_66
            · have jc_269 := dk_nltc (k := 254) (by decide +kernel) c_269
              exact J_214   _ _ hP hS _ (lv_sub hl [0, 1, 2, 3, 4] rfl)
        · have jc_191 := dk_eqc (k := 0) (by decide +kernel) c_191
          refine lv_goto (tgt := 114) hx hb dX12_cellsOn_18 (by decide) ?_
          obtain ⟨x_271, ex_271⟩ : ∃ z, z = x_177 + 1 := ⟨_, rfl⟩
          have jx_271 : (x_271).toInt = (x_177).toInt + 1 := by rw [ex_271]; exact dk_addT rfl (by decide +kernel) (by omega) (by omega)
          refine lv_iinc (v := x_271) (lv' := [(3, .int x_271), (2, .int x_178), (0, .ref (o + 0)), (1, .int a1)]) hx hb dX12_cellsOn_114 hl (k := 0) rfl (by rw [ex_271]; rfl) (by decide) rfl (fun ls hl => ?_)
          refine lv_goto (tgt := 4) hx hb dX12_cellsOn_117 (by decide) ?_
          exact ih x_271 x_178 (by omega) (by omega) (by omega) (by omega) S_179 I_179 M_179  _ _ hP hS _ (lv_sub hl [0, 1, 2, 3] rfl)
  have hz_272 : (0 : Int32).toInt = 0 := by decide +kernel
  have hz_273 : (0 : Int32).toInt = 0 := by decide +kernel
  have hz_274 : (0 : Int32).toInt = 0 := by decide +kernel
  exact L_180 ((65 - ((0 : Int32)).toInt).toNat + 1) 0 a1 (by decide +kernel) (by omega) (by omega) (by omega) S I M_0  _ _ hP hS _ (lv_sub hl [0, 1, 2, 3] rfl)
set_option maxHeartbeats 8000000 in
set_option maxRecDepth 100000 in
theorem c_m_plansOn (l : Launch) (g : Nat → ClassId) (D : va_G) (o : Nat) (S : dg_S) (a1 : Int32) (b_a1 : 0 ≤ (a1).toInt ∧ (a1).toInt ≤ 200) (ZB : ZBM S) (I : CM o S) (sz : Nat) : Met l yX12_plansOn (bw yX12_plansOn cX12_plansOn 4 (some .boolean)) ({ frames := 3, cells := 0, slots := 0, locals := 76 } : Room) (dk_Pc g D (dg_w g shM o rfM S) sz [.ref (o + 0), .int a1]) (va_Qi (fun (r : Int32) S' => CM o S' ∧ dg_sm shM [] [35, 36] S S' ∧ (0 ≤ (r).toInt ∧ (r).toInt ≤ 1) ∧ True) (dg_B g D shM o rfM) (dg_A o shM.length sz)) 0 0 (dg_A o shM.length sz) := by
  refine dg_met (cc := cX12_plansOn) (maxL := 4) (ret := (some .boolean)) (by decide) rfl (Nat.le_of_ble_eq_true rfl) ?_
  intro p e s m args below meth c A hAe harg hx hb hr hml hts hown hlocks hin hP K hS hA1 hA ST hsz ls hl
  rw [← hAe]
  have F : CallFix p m c cX12_plansOn 4 s args (bw yX12_plansOn cX12_plansOn 4 (some .boolean)) RX12 := ⟨hx, hb, hml, hown, hts⟩
  have hl : lv_has ls 4 [(0, .ref (o + 0)), (1, .int a1)] := hl
  have M_0 : dg_sm shM [] [35, 36] S S := dg_sm.rf
  refine lv_iconst (v := 0) hx hb dX12_plansOn_0 (by decide +kernel) ?_
  refine lv_istore_n (lv' := [(2, .int 0), (0, .ref (o + 0)), (1, .int a1)]) hx hb dX12_plansOn_1 rfl hl (by decide) rfl (fun ls hl => ?_)
  have L_295 : ∀ (n : Nat) (x_293 : Int32), (0 ≤ (x_293).toInt ∧ (x_293).toInt ≤ 16) → ((17 - (x_293).toInt).toNat < n) → ∀ S_294 : dg_S, CM o S_294 → dg_sm shM [] [35, 36] S S_294 → ∀ (H : Heap) (locs : List Loc), va_P D vwCl (dg_w g shM o rfM S_294) H → va_S A s.heap H locs → ∀ ls : Array Slot, lv_has ls 4 [(2, .int x_293), (0, .ref (o + 0)), (1, .int a1)] → W p l e ({ frames := 3, cells := 0, slots := 0, locals := 76 } : Room) s m args below meth c H locs 0 0 (MQ below (va_Qi (fun (r : Int32) S' => CM o S' ∧ dg_sm shM [] [35, 36] S S' ∧ (0 ≤ (r).toInt ∧ (r).toInt ≤ 1) ∧ True) (dg_B g D shM o rfM) A) args s 0 0 A) (F0 m 2 ls []) := by
    intro n
    induction n with
    | zero =>
      intro x_293 b_x_293 hmu S_294 I_294 M_294 H locs hP hS ls hl
      omega
    | succ n ih =>
      intro x_293 b_x_293 hmu S_294 I_294 M_294 H locs hP hS ls hl
      refine lv_iload_n hx hb dX12_plansOn_2 rfl (lv_at hl 0 rfl) ?_
      refine lv_aload_n hx hb dX12_plansOn_3 rfl (lv_at hl 1 rfl) ?_
      refine dg_get (C := RX12) (T := TX12) (N := 77) hx hb hts (fun w h => bw_mem (wU_X12 w h)) hown K hP sM_0 rfl 21 (by decide) (hts _ (bw_mem wB_391)) (fun _ h9 => h9) (v := .ref (o + 9)) (show S_294.1 0 21 = .ref (o + 9) from dg_I.rel (d := 9) I_294 sM_0 (by decide +kernel)) dX12_plansOn_4 ?_
      refine lv_aload_n hx hb dX12_plansOn_7 rfl (lv_at hl 1 rfl) ?_
      obtain ⟨x_296, f_x_296, b_x_296⟩ := dg_I.int (i := 0) (k := 13) (lo := 0) (hi := 1) I sM_0 (by decide +kernel)
      refine dg_get (C := RX12) (T := TX12) (N := 77) hx hb hts (fun w h => bw_mem (wU_X12 w h)) hown K hP sM_0 rfl 13 (by decide) (hts _ (bw_mem wB_1085)) (fun _ h9 => h9) (v := .int x_296) ((M_294.1 0 13 _ sM_0 (by decide)).trans f_x_296) dX12_plansOn_8 ?_
      have hin_297 : vp_in x_296 2 := (dk_inv (by omega) (by omega))
      refine dg_iald hx hb K hP sM_9 hin_297 dX12_plansOn_11 (fun x_298 ex_298 => ?_)
      have b_x_298 := dk_all_at (dg_I.row (lo := 0) (hi := 16) I_294 sM_9 (by decide +kernel)) hin_297 ex_298
      refine lv_icmp_ge (tgt := 109) hx hb dX12_plansOn_12 (by decide) (fun c_299 => ?_) (fun c_299 => ?_)
      · have jc_299 := dk_gec (k := (x_298).toInt) rfl c_299
        refine lv_iconst (v := 1) hx hb dX12_plansOn_109 (by decide +kernel) ?_
        have hz_300 : (1 : Int32).toInt = 1 := by decide +kernel
        refine W.widen (k := 0) (n := 0) (Nat.le_of_ble_eq_true rfl) (Nat.le_of_ble_eq_true rfl) ?_
        exact dg_iret hx hb hr hlocks (by decide +kernel) hP hS ⟨I_294, M_294, (by decide +kernel), trivial⟩ dX12_plansOn_110
      · have jc_299 := dk_ngec (k := (x_298).toInt) rfl c_299
        refine lv_iload_n hx hb dX12_plansOn_15 rfl (lv_at hl 2 rfl) ?_
        refine lv_iconst (v := 3) hx hb dX12_plansOn_16 (by decide +kernel) ?_
        refine lv_iload_n hx hb dX12_plansOn_17 rfl (lv_at hl 0 rfl) ?_
        refine lv_imul hx hb dX12_plansOn_18 ?_
        refine lv_topi (fun x_301 ex_301 => ?_)
        have jx_301 : (x_301).toInt = 3 * (x_293).toInt := by rw [ex_301]; exact dk_mulT (by decide +kernel) rfl (by omega) (by omega)
        refine lv_iadd hx hb dX12_plansOn_19 ?_
        refine lv_topi (fun x_302 ex_302 => ?_)
        have jx_302 : (x_302).toInt = (a1).toInt + (x_301).toInt := by rw [ex_302]; exact dk_addT rfl rfl (by omega) (by omega)
        refine lv_istore_n (lv' := [(3, .int x_302), (2, .int x_293), (0, .ref (o + 0)), (1, .int a1)]) hx hb dX12_plansOn_20 rfl hl (by decide) rfl (fun ls hl => ?_)
        refine lv_aload_n hx hb dX12_plansOn_21 rfl (lv_at hl 2 rfl) ?_
        refine lv_aload_n hx hb dX12_plansOn_22 rfl (lv_at hl 2 rfl) ?_
        refine dg_get (C := RX12) (T := TX12) (N := 77) hx hb hts (fun w h => bw_mem (wU_X12 w h)) hown K hP sM_0 rfl 0 (by decide) (hts _ (bw_mem wB_290)) (fun _ h9 => h9) (v := .ref (o + 1)) (show S_294.1 0 0 = .ref (o + 1) from dg_I.rel (d := 1) I_294 sM_0 (by decide +kernel)) dX12_plansOn_23 ?_
        refine lv_iload_n hx hb dX12_plansOn_26 rfl (lv_at hl 0 rfl) ?_
        have hin_303 : vp_in x_302 1800 := (dk_inv (by omega) (by omega))
        refine dg_iald hx hb K hP sM_1 hin_303 dX12_plansOn_27 (fun x_304 ex_304 => ?_)
        have b_x_304 := dk_all_at (dg_I.row (lo := 0) (hi := 255) I_294 sM_1 (by decide +kernel)) hin_303 ex_304
        obtain ⟨x_305, f_x_305⟩ : ∃ x, S_294.2.1 8 (x_296 : Int32).toNatClampNeg = x := ⟨_, rfl⟩
        have hin_306 : vp_in (x_296 : Int32) 2 := (dk_inv (by omega) (by omega))
        have b_x_305 := dk_all_at (dg_I.row (lo := 0) (hi := 6) I_294 sM_8 (by decide +kernel)) hin_306 f_x_305.symm
        refine dg_calli hS hA1 hA (va_runV (As := [.int x_304]) (rest := []) F (c_m_isMiner l g D o S_294 x_304 x_296 ((M_294.1 0 13 _ sM_0 (by decide)).trans f_x_296) (by omega) x_305 f_x_305 (by omega) I_294 H.size) (cwV 1 hts (bw_V wB_1208 wB_1209 wB_1210 wB_297 wB_1207) rfl rfl rfl (by decide +kernel) ⟨Nat.le_of_ble_eq_true rfl, Nat.le_of_ble_eq_true rfl⟩) (dg_preV sM_0 rfl K ST hP hS hA1 hA) rfl rfl hl.1 rfl (lv_room (Nat.le_of_ble_eq_true rfl)) dX12_plansOn_28 ⟨Nat.le_of_ble_eq_true rfl, Nat.le_of_ble_eq_true rfl⟩) (fun x_307 S_308 hw_308 H locs hP hS => ?_)
        rw [hw_308.1] at hP
        obtain ⟨hq_308, w_308_0, w_308_1, w_308_2, -⟩ := hw_308
        have w_308_0 : 0 ≤ (x_307).toInt ∧ (x_307).toInt ≤ 1 := w_308_0
        have w_308_1 : (x_307).toInt = 1 → (0 ≤ (x_304).toInt ∧ (x_304).toInt ≤ 5) := w_308_1
        have w_308_2 : (x_307).toInt = 1 ↔ (0 ≤ (x_304).toInt ∧ (x_304).toInt < (x_305).toInt) := w_308_2
        refine lv_if_eq (tgt := 57) hx hb dX12_plansOn_31 (by decide) (fun c_309 => ?_) (fun c_309 => ?_)
        · have jc_309 := dk_eqc (k := 0) (by decide +kernel) c_309
          refine lv_iconst (v := 0) hx hb dX12_plansOn_57 (by decide +kernel) ?_
          have hz_310 : (0 : Int32).toInt = 0 := by decide +kernel
          refine W.widen (k := 0) (n := 0) (Nat.le_of_ble_eq_true rfl) (Nat.le_of_ble_eq_true rfl) ?_
          exact dg_iret hx hb hr hlocks (by decide +kernel) hP hS ⟨I_294, M_294, (by decide +kernel), trivial⟩ dX12_plansOn_58
        · have jc_309 := dk_neqc (k := 0) (by decide +kernel) c_309
          refine lv_aload_n hx hb dX12_plansOn_34 rfl (lv_at hl 2 rfl) ?_
          refine lv_aload_n hx hb dX12_plansOn_35 rfl (lv_at hl 2 rfl) ?_
          refine dg_get (C := RX12) (T := TX12) (N := 77) hx hb hts (fun w h => bw_mem (wU_X12 w h)) hown K hP sM_0 rfl 0 (by decide) (hts _ (bw_mem wB_290)) (fun _ h9 => h9) (v := .ref (o + 1)) (show S_294.1 0 0 = .ref (o + 1) from dg_I.rel (d := 1) I_294 sM_0 (by decide +kernel)) dX12_plansOn_36 ?_
          refine lv_iload_n hx hb dX12_plansOn_39 rfl (lv_at hl 0 rfl) ?_
          refine lv_iconst (v := 1) hx hb dX12_plansOn_40 (by decide +kernel) ?_
          refine lv_iadd hx hb dX12_plansOn_41 ?_
          refine lv_topi (fun x_311 ex_311 => ?_)
          have jx_311 : (x_311).toInt = (x_302).toInt + 1 := by rw [ex_311]; exact dk_addT rfl (by decide +kernel) (by omega) (by omega)
          have hin_312 : vp_in x_311 1800 := (dk_inv (by omega) (by omega))
          refine dg_iald hx hb K hP sM_1 hin_312 dX12_plansOn_42 (fun x_313 ex_313 => ?_)
          have b_x_313 := dk_all_at (dg_I.row (lo := 0) (hi := 255) I_294 sM_1 (by decide +kernel)) hin_312 ex_313
          have htw_313 : (x_311 : Int32).toInt = (x_302 : Int32).toInt → (x_313).toInt = (x_304 : Int32).toInt := fun h => by have h9 := Int32.toInt_inj.mp h; rw [ex_313, h9]; exact congrArg Int32.toInt ex_304.symm
          refine lv_aload_n hx hb dX12_plansOn_43 rfl (lv_at hl 2 rfl) ?_
          refine dg_get (C := RX12) (T := TX12) (N := 77) hx hb hts (fun w h => bw_mem (wU_X12 w h)) hown K hP sM_0 rfl 0 (by decide) (hts _ (bw_mem wB_290)) (fun _ h9 => h9) (v := .ref (o + 1)) (show S_294.1 0 0 = .ref (o + 1) from dg_I.rel (d := 1) I_294 sM_0 (by decide +kernel)) dX12_plansOn_44 ?_
          refine lv_iload_n hx hb dX12_plansOn_47 rfl (lv_at hl 0 rfl) ?_
          refine lv_iconst (v := 2) hx hb dX12_plansOn_48 (by decide +kernel) ?_
          refine lv_iadd hx hb dX12_plansOn_49 ?_
          refine lv_topi (fun x_315 ex_315 => ?_)
          have jx_315 : (x_315).toInt = (x_302).toInt + 2 := by rw [ex_315]; exact dk_addT rfl (by decide +kernel) (by omega) (by omega)
          have hin_316 : vp_in x_315 1800 := (dk_inv (by omega) (by omega))
          refine dg_iald hx hb K hP sM_1 hin_316 dX12_plansOn_50 (fun x_317 ex_317 => ?_)
          have b_x_317 := dk_all_at (dg_I.row (lo := 0) (hi := 255) I_294 sM_1 (by decide +kernel)) hin_316 ex_317
          have htw_317 : (x_315 : Int32).toInt = (x_302 : Int32).toInt → (x_317).toInt = (x_304 : Int32).toInt := fun h => by have h9 := Int32.toInt_inj.mp h; rw [ex_317, h9]; exact congrArg Int32.toInt ex_304.symm
          have htw_318 : (x_315 : Int32).toInt = (x_311 : Int32).toInt → (x_317).toInt = (x_313 : Int32).toInt := fun h => by have h9 := Int32.toInt_inj.mp h; rw [ex_317, h9]; exact congrArg Int32.toInt ex_313.symm
          obtain ⟨x_320, f_x_320, b_x_320⟩ := dg_I.int (i := 0) (k := 47) (lo := 0) (hi := 1) I sM_0 (by decide +kernel)
          obtain ⟨x_321, f_x_321⟩ : ∃ x, S_294.2.1 2 (x_296 : Int32).toNatClampNeg = x := ⟨_, rfl⟩
          have hin_322 : vp_in (x_296 : Int32) 2 := (dk_inv (by omega) (by omega))
          have b_x_321 := dk_all_at (dg_I.row (lo := 0) (hi := 9999) I_294 sM_2 (by decide +kernel)) hin_322 f_x_321.symm
          have ex_321 := f_x_321.symm
          have zb_x_321 : (x_321).toInt ≤ 7 ∧ ((x_320 : Int32).toInt = 1 → 3 ≤ (x_321).toInt) := by rw [ex_321]; exact ⟨((ZBM.keep ZB M_294 (by decide) (by decide) (by decide) (by decide) (by decide)) x_296 x_320 ((M_294.1 0 13 _ sM_0 (by decide)).trans f_x_296) ((M_294.1 0 47 _ sM_0 (by decide)).trans f_x_320)).1, fun h9 => (((ZBM.keep ZB M_294 (by decide) (by decide) (by decide) (by decide) (by decide)) x_296 x_320 ((M_294.1 0 13 _ sM_0 (by decide)).trans f_x_296) ((M_294.1 0 47 _ sM_0 (by decide)).trans f_x_320)).2.2.2 h9).1⟩
          obtain ⟨x_323, f_x_323⟩ : ∃ x, S_294.2.1 3 (x_296 : Int32).toNatClampNeg = x := ⟨_, rfl⟩
          have hin_324 : vp_in (x_296 : Int32) 2 := (dk_inv (by omega) (by omega))
          have b_x_323 := dk_all_at (dg_I.row (lo := 0) (hi := 9999) I_294 sM_3 (by decide +kernel)) hin_324 f_x_323.symm
          have ex_323 := f_x_323.symm
          have zb_x_323 : (x_323).toInt ≤ 7 ∧ ((x_320 : Int32).toInt = 1 → 3 ≤ (x_323).toInt) := by rw [ex_323]; exact ⟨((ZBM.keep ZB M_294 (by decide) (by decide) (by decide) (by decide) (by decide)) x_296 x_320 ((M_294.1 0 13 _ sM_0 (by decide)).trans f_x_296) ((M_294.1 0 47 _ sM_0 (by decide)).trans f_x_320)).2.1, fun h9 => (((ZBM.keep ZB M_294 (by decide) (by decide) (by decide) (by decide) (by decide)) x_296 x_320 ((M_294.1 0 13 _ sM_0 (by decide)).trans f_x_296) ((M_294.1 0 47 _ sM_0 (by decide)).trans f_x_320)).2.2.2 h9).2⟩
          refine dg_calli hS hA1 hA (va_runV (As := [.int x_313, .int x_317]) (rest := []) F (c_m_isCell l g D o S_294 x_313 x_317 x_296 ((M_294.1 0 13 _ sM_0 (by decide)).trans f_x_296) (by omega) x_320 ((M_294.1 0 47 _ sM_0 (by decide)).trans f_x_320) (by omega) x_321 f_x_321 (by omega) x_323 f_x_323 (by omega) (ZBM.keep ZB M_294 (by decide) (by decide) (by decide) (by decide) (by decide)) I_294 H.size) (cwV 2 hts (bw_V wB_1087 wB_1088 wB_1089 wB_297 wB_1086) rfl rfl rfl (by decide +kernel) ⟨Nat.le_of_ble_eq_true rfl, Nat.le_of_ble_eq_true rfl⟩) (dg_preV sM_0 rfl K ST hP hS hA1 hA) rfl rfl hl.1 rfl (lv_room (Nat.le_of_ble_eq_true rfl)) dX12_plansOn_51 ⟨Nat.le_of_ble_eq_true rfl, Nat.le_of_ble_eq_true rfl⟩) (fun x_325 S_326 hw_326 H locs hP hS => ?_)
          rw [hw_326.1] at hP
          obtain ⟨hq_326, w_326_0, w_326_1, w_326_2, -⟩ := hw_326
          have w_326_0 : 0 ≤ (x_325).toInt ∧ (x_325).toInt ≤ 1 := w_326_0
          have w_326_1 : (x_325).toInt = 1 → (0 ≤ (x_313).toInt ∧ (x_313).toInt ≤ 6 ∧ 0 ≤ (x_317).toInt ∧ (x_317).toInt ≤ 6) := w_326_1
          have w_326_2 : (x_325).toInt = 1 ↔ ((x_320).toInt = 1 ∧ 0 ≤ (x_313).toInt ∧ (x_313).toInt < (x_321).toInt ∧ 0 ≤ (x_317).toInt ∧ (x_317).toInt < (x_323).toInt) := w_326_2
          refine lv_if_ne (tgt := 59) hx hb dX12_plansOn_54 (by decide) (fun c_327 => ?_) (fun c_327 => ?_)
          · have jc_327 := dk_neqc (k := 0) (by decide +kernel) c_327
            refine lv_aload_n hx hb dX12_plansOn_59 rfl (lv_at hl 2 rfl) ?_
            refine dg_get (C := RX12) (T := TX12) (N := 77) hx hb hts (fun w h => bw_mem (wU_X12 w h)) hown K hP sM_0 rfl 55 (by decide) (hts _ (bw_mem wB_1132)) (fun _ h9 => h9) (v := .ref (o + 35)) (show S_294.1 0 55 = .ref (o + 35) from dg_I.rel (d := 35) I_294 sM_0 (by decide +kernel)) dX12_plansOn_60 ?_
            refine lv_bipush (v := 16) hx hb dX12_plansOn_63 (by decide +kernel) ?_
            refine lv_iload_n hx hb dX12_plansOn_65 rfl (lv_at hl 1 rfl) ?_
            refine lv_iadd hx hb dX12_plansOn_66 ?_
            refine lv_topi (fun x_328 ex_328 => ?_)
            have jx_328 : (x_328).toInt = 16 + (x_293).toInt := by rw [ex_328]; exact dk_addT (by decide +kernel) rfl (by omega) (by omega)
            refine lv_aload_n hx hb dX12_plansOn_67 rfl (lv_at hl 2 rfl) ?_
            refine dg_get (C := RX12) (T := TX12) (N := 77) hx hb hts (fun w h => bw_mem (wU_X12 w h)) hown K hP sM_0 rfl 0 (by decide) (hts _ (bw_mem wB_290)) (fun _ h9 => h9) (v := .ref (o + 1)) (show S_294.1 0 0 = .ref (o + 1) from dg_I.rel (d := 1) I_294 sM_0 (by decide +kernel)) dX12_plansOn_68 ?_
            refine lv_iload_n hx hb dX12_plansOn_71 rfl (lv_at hl 0 rfl) ?_
            have hin_329 : vp_in x_302 1800 := (dk_inv (by omega) (by omega))
            refine dg_iald hx hb K hP sM_1 hin_329 dX12_plansOn_72 (fun y_330 ey_330 => ?_)
            obtain rfl : x_304 = y_330 := (ey_330.trans ex_304.symm).symm
            have hin_331 : vp_in x_328 352 := (dk_inv (by omega) (by omega))
            refine dg_iast hx hb K hP hS hA1 sM_35 hin_331 dX12_plansOn_73 (fun S_332 e_332 H locs hP hS => ?_)
            have I_332 := dg_I.uf0 I_294 e_332 sM_35 (by decide +kernel)
            have M_332 := dg_sm.uf M_294 e_332 sM_35 (by decide)
            refine lv_aload_n hx hb dX12_plansOn_74 rfl (lv_at hl 2 rfl) ?_
            refine dg_get (C := RX12) (T := TX12) (N := 77) hx hb hts (fun w h => bw_mem (wU_X12 w h)) hown K hP sM_0 rfl 56 (by decide) (hts _ (bw_mem wB_1133)) (fun _ h9 => h9) (v := .ref (o + 36)) (show S_332.1 0 56 = .ref (o + 36) from dg_I.rel (d := 36) I_332 sM_0 (by decide +kernel)) dX12_plansOn_75 ?_
            refine lv_bipush (v := 16) hx hb dX12_plansOn_78 (by decide +kernel) ?_
            refine lv_iload_n hx hb dX12_plansOn_80 rfl (lv_at hl 1 rfl) ?_
            refine lv_iadd hx hb dX12_plansOn_81 ?_
            refine lv_topi (fun x_333 ex_333 => ?_)
            have jx_333 : (x_333).toInt = 16 + (x_293).toInt := by rw [ex_333]; exact dk_addT (by decide +kernel) rfl (by omega) (by omega)
            refine lv_bipush (v := 8) hx hb dX12_plansOn_82 (by decide +kernel) ?_
            refine lv_aload_n hx hb dX12_plansOn_84 rfl (lv_at hl 2 rfl) ?_
            refine dg_get (C := RX12) (T := TX12) (N := 77) hx hb hts (fun w h => bw_mem (wU_X12 w h)) hown K hP sM_0 rfl 0 (by decide) (hts _ (bw_mem wB_290)) (fun _ h9 => h9) (v := .ref (o + 1)) (show S_332.1 0 0 = .ref (o + 1) from dg_I.rel (d := 1) I_332 sM_0 (by decide +kernel)) dX12_plansOn_85 ?_
            refine lv_iload_n hx hb dX12_plansOn_88 rfl (lv_at hl 0 rfl) ?_
            refine lv_iconst (v := 2) hx hb dX12_plansOn_89 (by decide +kernel) ?_
            refine lv_iadd hx hb dX12_plansOn_90 ?_
            refine lv_topi (fun x_334 ex_334 => ?_)
            have jx_334 : (x_334).toInt = (x_302).toInt + 2 := by rw [ex_334]; exact dk_addT rfl (by decide +kernel) (by omega) (by omega)
            have hin_335 : vp_in x_334 1800 := (dk_inv (by omega) (by omega))
            refine dg_iald hx hb K hP sM_1 hin_335 dX12_plansOn_91 (fun x_336 ex_336 => ?_)
            have b_x_336 := dk_all_at (dg_I.row (lo := 0) (hi := 255) I_332 sM_1 (by decide +kernel)) hin_335 ex_336
            have htw_336 : (x_334 : Int32).toInt = (x_302 : Int32).toInt → (x_336).toInt = (x_304 : Int32).toInt := fun h => by have h9 := Int32.toInt_inj.mp h; rw [ex_336, h9]; exact congrArg Int32.toInt ((congrFun (dg_uf_ne e_332 (by decide)) _).trans ex_304.symm)
            have htw_337 : (x_334 : Int32).toInt = (x_311 : Int32).toInt → (x_336).toInt = (x_313 : Int32).toInt := fun h => by have h9 := Int32.toInt_inj.mp h; rw [ex_336, h9]; exact congrArg Int32.toInt ((congrFun (dg_uf_ne e_332 (by decide)) _).trans ex_313.symm)
            have htw_338 : (x_334 : Int32).toInt = (x_315 : Int32).toInt → (x_336).toInt = (x_317 : Int32).toInt := fun h => by have h9 := Int32.toInt_inj.mp h; rw [ex_336, h9]; exact congrArg Int32.toInt ((congrFun (dg_uf_ne e_332 (by decide)) _).trans ex_317.symm)
            refine lv_imul hx hb dX12_plansOn_92 ?_
            refine lv_topi (fun x_340 ex_340 => ?_)
            have jx_340 : (x_340).toInt = 8 * (x_336).toInt := by rw [ex_340]; exact dk_mulT (by decide +kernel) rfl (by omega) (by omega)
            refine lv_aload_n hx hb dX12_plansOn_93 rfl (lv_at hl 2 rfl) ?_
            refine dg_get (C := RX12) (T := TX12) (N := 77) hx hb hts (fun w h => bw_mem (wU_X12 w h)) hown K hP sM_0 rfl 0 (by decide) (hts _ (bw_mem wB_290)) (fun _ h9 => h9) (v := .ref (o + 1)) (show S_332.1 0 0 = .ref (o + 1) from dg_I.rel (d := 1) I_332 sM_0 (by decide +kernel)) dX12_plansOn_94 ?_
            refine lv_iload_n hx hb dX12_plansOn_97 rfl (lv_at hl 0 rfl) ?_
            refine lv_iconst (v := 1) hx hb dX12_plansOn_98 (by decide +kernel) ?_
            refine lv_iadd hx hb dX12_plansOn_99 ?_
            refine lv_topi (fun x_341 ex_341 => ?_)
            have jx_341 : (x_341).toInt = (x_302).toInt + 1 := by rw [ex_341]; exact dk_addT rfl (by decide +kernel) (by omega) (by omega)
            have hin_342 : vp_in x_341 1800 := (dk_inv (by omega) (by omega))
            refine dg_iald hx hb K hP sM_1 hin_342 dX12_plansOn_100 (fun x_343 ex_343 => ?_)
            have b_x_343 := dk_all_at (dg_I.row (lo := 0) (hi := 255) I_332 sM_1 (by decide +kernel)) hin_342 ex_343
            have htw_343 : (x_341 : Int32).toInt = (x_302 : Int32).toInt → (x_343).toInt = (x_304 : Int32).toInt := fun h => by have h9 := Int32.toInt_inj.mp h; rw [ex_343, h9]; exact congrArg Int32.toInt ((congrFun (dg_uf_ne e_332 (by decide)) _).trans ex_304.symm)
            have htw_344 : (x_341 : Int32).toInt = (x_311 : Int32).toInt → (x_343).toInt = (x_313 : Int32).toInt := fun h => by have h9 := Int32.toInt_inj.mp h; rw [ex_343, h9]; exact congrArg Int32.toInt ((congrFun (dg_uf_ne e_332 (by decide)) _).trans ex_313.symm)
            have htw_345 : (x_341 : Int32).toInt = (x_315 : Int32).toInt → (x_343).toInt = (x_317 : Int32).toInt := fun h => by have h9 := Int32.toInt_inj.mp h; rw [ex_343, h9]; exact congrArg Int32.toInt ((congrFun (dg_uf_ne e_332 (by decide)) _).trans ex_317.symm)
            have htw_346 : (x_341 : Int32).toInt = (x_334 : Int32).toInt → (x_343).toInt = (x_336 : Int32).toInt := fun h => by have h9 := Int32.toInt_inj.mp h; rw [ex_343, h9]; exact congrArg Int32.toInt ex_336.symm
            refine lv_iadd hx hb dX12_plansOn_101 ?_
            refine lv_topi (fun x_348 ex_348 => ?_)
            have jx_348 : (x_348).toInt = (x_340).toInt + (x_343).toInt := by rw [ex_348]; exact dk_addT rfl rfl (by omega) (by omega)
            have hin_349 : vp_in x_333 352 := (dk_inv (by omega) (by omega))
            refine dg_iast hx hb K hP hS hA1 sM_36 hin_349 dX12_plansOn_102 (fun S_350 e_350 H locs hP hS => ?_)
            have I_350 := dg_I.ufu (lo := 0) (hi := 63) I_332 e_350 sM_36 (by decide +kernel) (show 0 ≤ (x_348).toInt ∧ (x_348).toInt ≤ 63 from (by omega))
            have M_350 := dg_sm.uf M_332 e_350 sM_36 (by decide)
            obtain ⟨x_351, ex_351⟩ : ∃ z, z = x_293 + 1 := ⟨_, rfl⟩
            have jx_351 : (x_351).toInt = (x_293).toInt + 1 := by rw [ex_351]; exact dk_addT rfl (by decide +kernel) (by omega) (by omega)
            refine lv_iinc (v := x_351) (lv' := [(2, .int x_351), (3, .int x_302), (0, .ref (o + 0)), (1, .int a1)]) hx hb dX12_plansOn_103 hl (k := 1) rfl (by rw [ex_351]; rfl) (by decide) rfl (fun ls hl => ?_)
            refine lv_goto (tgt := 2) hx hb dX12_plansOn_106 (by decide) ?_
            exact ih x_351 (by omega) (by omega) S_350 I_350 M_350  _ _ hP hS _ (lv_sub hl [0, 2, 3] rfl)
          · have jc_327 := dk_eqc (k := 0) (by decide +kernel) c_327
            refine lv_iconst (v := 0) hx hb dX12_plansOn_57 (by decide +kernel) ?_
            have hz_352 : (0 : Int32).toInt = 0 := by decide +kernel
            refine W.widen (k := 0) (n := 0) (Nat.le_of_ble_eq_true rfl) (Nat.le_of_ble_eq_true rfl) ?_
            exact dg_iret hx hb hr hlocks (by decide +kernel) hP hS ⟨I_294, M_294, (by decide +kernel), trivial⟩ dX12_plansOn_58
  have hz_353 : (0 : Int32).toInt = 0 := by decide +kernel
  have hz_354 : (0 : Int32).toInt = 0 := by decide +kernel
  exact L_295 ((17 - ((0 : Int32)).toInt).toNat + 1) 0 (by decide +kernel) (by omega) S I M_0  _ _ hP hS _ (lv_sub hl [0, 1, 2] rfl)
set_option maxHeartbeats 8000000 in
set_option maxRecDepth 100000 in
theorem c_m_opens (l : Launch) (g : Nat → ClassId) (D : va_G) (o : Nat) (S : dg_S) (a1 : Int32) (a2 : Int32) (ZB : ZBM S) (ZS : ZSM S) (ZW : ZWM S) (I : CM o S) (sz : Nat) : Met l yX12_opens (bw yX12_opens cX12_opens 4 (some .int)) ({ frames := 9, cells := 0, slots := 0, locals := 217 } : Room) (dk_Pc g D (dg_w g shM o rfM S) sz [.ref (o + 0), .int a1, .int a2]) (va_Qi (fun (r : Int32) S' => CM o S' ∧ dg_sm shM [] [29, 30, 31, 32, 33, 34, 35, 36, 37, 38, 39, 40, 41, 42, 43, 44] S S' ∧ ((-1) ≤ (r).toInt ∧ (r).toInt ≤ 40) ∧ ZSM S' ∧ True) (dg_B g D shM o rfM) (dg_A o shM.length sz)) 0 0 (dg_A o shM.length sz) := by
  refine dg_met (cc := cX12_opens) (maxL := 4) (ret := (some .int)) (by decide) rfl (Nat.le_of_ble_eq_true rfl) ?_
  intro p e s m args below meth c A hAe harg hx hb hr hml hts hown hlocks hin hP K hS hA1 hA ST hsz ls hl
  rw [← hAe]
  have F : CallFix p m c cX12_opens 4 s args (bw yX12_opens cX12_opens 4 (some .int)) RX12 := ⟨hx, hb, hml, hown, hts⟩
  have hl : lv_has ls 4 [(0, .ref (o + 0)), (1, .int a1), (2, .int a2)] := hl
  have M_0 : dg_sm shM [] [29, 30, 31, 32, 33, 34, 35, 36, 37, 38, 39, 40, 41, 42, 43, 44] S S := dg_sm.rf
  refine lv_aload_n hx hb dX12_opens_0 rfl (lv_at hl 0 rfl) ?_
  refine lv_iload_n hx hb dX12_opens_1 rfl (lv_at hl 1 rfl) ?_
  refine lv_iload_n hx hb dX12_opens_2 rfl (lv_at hl 2 rfl) ?_
  obtain ⟨x_1, f_x_1, b_x_1⟩ := dg_I.int (i := 0) (k := 13) (lo := 0) (hi := 1) I sM_0 (by decide +kernel)
  obtain ⟨x_2, f_x_2, b_x_2⟩ := dg_I.int (i := 0) (k := 47) (lo := 0) (hi := 1) I sM_0 (by decide +kernel)
  obtain ⟨x_3, f_x_3⟩ : ∃ x, S.2.1 2 (x_1 : Int32).toNatClampNeg = x := ⟨_, rfl⟩
  have hin_4 : vp_in (x_1 : Int32) 2 := (dk_inv (by omega) (by omega))
  have b_x_3 := dk_all_at (dg_I.row (lo := 0) (hi := 9999) I sM_2 (by decide +kernel)) hin_4 f_x_3.symm
  have ex_3 := f_x_3.symm
  have zb_x_3 : (x_3).toInt ≤ 7 ∧ ((x_2 : Int32).toInt = 1 → 3 ≤ (x_3).toInt) := by rw [ex_3]; exact ⟨(ZB x_1 x_2 f_x_1 f_x_2).1, fun h9 => ((ZB x_1 x_2 f_x_1 f_x_2).2.2.2 h9).1⟩
  obtain ⟨x_5, f_x_5⟩ : ∃ x, S.2.1 3 (x_1 : Int32).toNatClampNeg = x := ⟨_, rfl⟩
  have hin_6 : vp_in (x_1 : Int32) 2 := (dk_inv (by omega) (by omega))
  have b_x_5 := dk_all_at (dg_I.row (lo := 0) (hi := 9999) I sM_3 (by decide +kernel)) hin_6 f_x_5.symm
  have ex_5 := f_x_5.symm
  have zb_x_5 : (x_5).toInt ≤ 7 ∧ ((x_2 : Int32).toInt = 1 → 3 ≤ (x_5).toInt) := by rw [ex_5]; exact ⟨(ZB x_1 x_2 f_x_1 f_x_2).2.1, fun h9 => ((ZB x_1 x_2 f_x_1 f_x_2).2.2.2 h9).2⟩
  refine dg_calli hS hA1 hA (va_runV (As := [.int a1, .int a2]) (rest := []) F (c_m_isCell l g D o S a1 a2 x_1 f_x_1 (by omega) x_2 f_x_2 (by omega) x_3 f_x_3 (by omega) x_5 f_x_5 (by omega) ZB I s.heap.size) (cwV 2 hts (bw_V wB_1087 wB_1088 wB_1089 wB_297 wB_1086) rfl rfl rfl (by decide +kernel) ⟨Nat.le_of_ble_eq_true rfl, Nat.le_of_ble_eq_true rfl⟩) (dg_preV sM_0 rfl K ST hP hS hA1 hA) rfl rfl hl.1 rfl (lv_room (Nat.le_of_ble_eq_true rfl)) dX12_opens_3 ⟨Nat.le_of_ble_eq_true rfl, Nat.le_of_ble_eq_true rfl⟩) (fun x_7 S_8 hw_8 H locs hP hS => ?_)
  rw [hw_8.1] at hP
  obtain ⟨hq_8, w_8_0, w_8_1, w_8_2, -⟩ := hw_8
  have w_8_0 : 0 ≤ (x_7).toInt ∧ (x_7).toInt ≤ 1 := w_8_0
  have w_8_1 : (x_7).toInt = 1 → (0 ≤ (a1).toInt ∧ (a1).toInt ≤ 6 ∧ 0 ≤ (a2).toInt ∧ (a2).toInt ≤ 6) := w_8_1
  have w_8_2 : (x_7).toInt = 1 ↔ ((x_2).toInt = 1 ∧ 0 ≤ (a1).toInt ∧ (a1).toInt < (x_3).toInt ∧ 0 ≤ (a2).toInt ∧ (a2).toInt < (x_5).toInt) := w_8_2
  refine lv_if_ne (tgt := 11) hx hb dX12_opens_6 (by decide) (fun c_9 => ?_) (fun c_9 => ?_)
  · have jc_9 := dk_neqc (k := 0) (by decide +kernel) c_9
    refine lv_aload_n hx hb dX12_opens_11 rfl (lv_at hl 0 rfl) ?_
    refine lv_iconst (v := 1) hx hb dX12_opens_12 (by decide +kernel) ?_
    refine lv_iconst (v := 0) hx hb dX12_opens_13 (by decide +kernel) ?_
    have hz_10 : (1 : Int32).toInt = 1 := by decide +kernel
    have hz_11 : (0 : Int32).toInt = 0 := by decide +kernel
    obtain ⟨x_12, f_x_12⟩ : ∃ x, S.2.1 29 (0 : Int32).toNatClampNeg = x := ⟨_, rfl⟩
    have hin_13 : vp_in (0 : Int32) 22 := (dk_in (by decide +kernel))
    have b_x_12 := dk_all_at (dg_I.row (lo := 0) (hi := 2000) I sM_29 (by decide +kernel)) hin_13 f_x_12.symm
    have ex_12 := f_x_12.symm
    have hz_14 : (0 : Int32).toInt = 0 := by decide +kernel
    have zs_x_12 : (0 : Int32).toInt ≠ 1 → (x_12).toInt ≤ 999 := fun h => by rw [ex_12]; exact ZS _ (dk_inT hin_13).2 (fun q => by have h9 := (dk_inT hin_13).1; omega)
    refine dg_callv hS hA1 hA (va_runV (As := [.int 1, .int 0]) (rest := []) F (c_m_copies l g D o S 1 (by decide +kernel) 0 (by decide +kernel) x_12 f_x_12 (by omega) x_12 f_x_12 (by omega) (by omega) ZS I H.size) (cwV 2 hts (bw_V wB_1227 wB_1228 wB_1229 wB_297 wB_1226) rfl rfl rfl (by decide +kernel) ⟨Nat.le_of_ble_eq_true rfl, Nat.le_of_ble_eq_true rfl⟩) (dg_preV sM_0 rfl K ST hP hS hA1 hA) rfl rfl hl.1 rfl (lv_room (Nat.le_of_ble_eq_true rfl)) dX12_opens_14 ⟨Nat.le_of_ble_eq_true rfl, Nat.le_of_ble_eq_true rfl⟩) (fun S_15 hw_15 H locs hP hS => ?_)
    obtain ⟨I_15, m_15, w_15_0, w_15_1, w_15_2, -⟩ := hw_15
    have M_15 := dg_sm.tr M_0 m_15 (by decide) (by decide)
    have hz_16 : (1 : Int32).toInt = 1 := by decide +kernel
    have hz_17 : (0 : Int32).toInt = 0 := by decide +kernel
    obtain ⟨x_18, f_x_18⟩ : ∃ x, S_15.2.1 29 (1 : Int32).toNatClampNeg = x := ⟨_, rfl⟩
    have hin_19 : vp_in (1 : Int32) 22 := (dk_in (by decide +kernel))
    have b_x_18 := dk_all_at (dg_I.row (lo := 0) (hi := 2000) I_15 sM_29 (by decide +kernel)) hin_19 f_x_18.symm
    have ex_18 := f_x_18.symm
    have hz_20 : (1 : Int32).toInt = 1 := by decide +kernel
    have zs_x_18 : (1 : Int32).toInt ≠ 1 → (x_18).toInt ≤ 999 := fun h => by rw [ex_18]; exact w_15_2 _ (dk_inT hin_19).2 (fun q => by have h9 := (dk_inT hin_19).1; omega)
    have w_15_0 : (x_18).toInt = (x_12).toInt := w_15_0 x_18 f_x_18
    obtain ⟨x_21, f_x_21⟩ : ∃ x, S_15.2.1 29 (0 : Int32).toNatClampNeg = x := ⟨_, rfl⟩
    have hin_22 : vp_in (0 : Int32) 22 := (dk_in (by decide +kernel))
    have b_x_21 := dk_all_at (dg_I.row (lo := 0) (hi := 2000) I_15 sM_29 (by decide +kernel)) hin_22 f_x_21.symm
    have ex_21 := f_x_21.symm
    have hz_23 : (0 : Int32).toInt = 0 := by decide +kernel
    have zs_x_21 : (0 : Int32).toInt ≠ 1 → (x_21).toInt ≤ 999 := fun h => by rw [ex_21]; exact w_15_2 _ (dk_inT hin_22).2 (fun q => by have h9 := (dk_inT hin_22).1; omega)
    have w_15_1 : ((1 : Int32)).toInt ≠ 0 → (x_21).toInt = (x_12).toInt := w_15_1 x_21 f_x_21
    refine lv_iconst (v := 0) hx hb dX12_opens_17 (by decide +kernel) ?_
    refine lv_istore_n (lv' := [(3, .int 0), (0, .ref (o + 0)), (1, .int a1), (2, .int a2)]) hx hb dX12_opens_18 rfl hl (by decide) rfl (fun ls hl => ?_)
    have L_76 : ∀ (n : Nat) (x_74 : Int32), (0 ≤ (x_74).toInt ∧ (x_74).toInt ≤ 41) → ((42 - (x_74).toInt).toNat < n) → ∀ S_75 : dg_S, CM o S_75 → dg_sm shM [] [29, 30, 31, 32, 33, 34, 35, 36, 37, 38, 39, 40, 41, 42, 43, 44] S S_75 → ∀ rw_75_0 : Int32, S_75.2.1 29 (1 : Int32).toNatClampNeg = rw_75_0 → (0 ≤ (rw_75_0).toInt ∧ (rw_75_0).toInt ≤ 2000) → ZSM S_75 → ((rw_75_0).toInt ≤ 999 + (x_74).toInt) → ∀ (H : Heap) (locs : List Loc), va_P D vwCl (dg_w g shM o rfM S_75) H → va_S A s.heap H locs → ∀ ls : Array Slot, lv_has ls 4 [(3, .int x_74), (0, .ref (o + 0)), (1, .int a1), (2, .int a2)] → W p l e ({ frames := 9, cells := 0, slots := 0, locals := 217 } : Room) s m args below meth c H locs 0 0 (MQ below (va_Qi (fun (r : Int32) S' => CM o S' ∧ dg_sm shM [] [29, 30, 31, 32, 33, 34, 35, 36, 37, 38, 39, 40, 41, 42, 43, 44] S S' ∧ ((-1) ≤ (r).toInt ∧ (r).toInt ≤ 40) ∧ ZSM S' ∧ True) (dg_B g D shM o rfM) A) args s 0 0 A) (F0 m 19 ls []) := by
      intro n
      induction n with
      | zero =>
        intro x_74 b_x_74 hmu S_75 I_75 M_75 rw_75_0 frw_75_0 brw_75_0 ZS_75 srel_75_0 H locs hP hS ls hl
        omega
      | succ n ih =>
        intro x_74 b_x_74 hmu S_75 I_75 M_75 rw_75_0 frw_75_0 brw_75_0 ZS_75 srel_75_0 H locs hP hS ls hl
        refine lv_aload_n hx hb dX12_opens_19 rfl (lv_at hl 1 rfl) ?_
        refine lv_iload_n hx hb dX12_opens_20 rfl (lv_at hl 0 rfl) ?_
        refine lv_iconst (v := 0) hx hb dX12_opens_21 (by decide +kernel) ?_
        refine lv_bipush (v := 40) hx hb dX12_opens_22 (by decide +kernel) ?_
        have hz_77 : (0 : Int32).toInt = 0 := by decide +kernel
        have hz_78 : (40 : Int32).toInt = 40 := by decide +kernel
        obtain ⟨x_79, f_x_79⟩ : ∃ x, S_75.2.1 29 (0 : Int32).toNatClampNeg = x := ⟨_, rfl⟩
        have hin_80 : vp_in (0 : Int32) 22 := (dk_in (by decide +kernel))
        have b_x_79 := dk_all_at (dg_I.row (lo := 0) (hi := 2000) I_75 sM_29 (by decide +kernel)) hin_80 f_x_79.symm
        have ex_79 := f_x_79.symm
        have hz_81 : (0 : Int32).toInt = 0 := by decide +kernel
        have zs_x_79 : (0 : Int32).toInt ≠ 1 → (x_79).toInt ≤ 999 := fun h => by rw [ex_79]; exact ZS_75 _ (dk_inT hin_80).2 (fun q => by have h9 := (dk_inT hin_80).1; omega)
        refine dg_calli hS hA1 hA (va_runV (As := [.int x_74, .int 0, .int 40]) (rest := []) F (c_m_isAhead l g D o S_75 x_74 0 (by decide +kernel) 40 (by decide +kernel) x_2 ((M_75.1 0 47 _ sM_0 (by decide)).trans f_x_2) (by omega) x_79 f_x_79 (by omega) I_75 H.size) (cwV 3 hts (bw_V wB_1235 wB_1236 wB_1237 wB_297 wB_1234) rfl rfl rfl (by decide +kernel) ⟨Nat.le_of_ble_eq_true rfl, Nat.le_of_ble_eq_true rfl⟩) (dg_preV sM_0 rfl K ST hP hS hA1 hA) rfl rfl hl.1 rfl (lv_room (Nat.le_of_ble_eq_true rfl)) dX12_opens_24 ⟨Nat.le_of_ble_eq_true rfl, Nat.le_of_ble_eq_true rfl⟩) (fun x_82 S_83 hw_83 H locs hP hS => ?_)
        rw [hw_83.1] at hP
        obtain ⟨hq_83, w_83_0, w_83_1, -⟩ := hw_83
        have hz_84 : (0 : Int32).toInt = 0 := by decide +kernel
        have hz_85 : (40 : Int32).toInt = 40 := by decide +kernel
        have w_83_0 : 0 ≤ (x_82).toInt ∧ (x_82).toInt ≤ 1 := w_83_0
        have w_83_1 : (x_82).toInt = 1 → ((x_2).toInt = 1 ∧ ((0 : Int32)).toInt ≤ (x_74).toInt ∧ (x_74).toInt ≤ ((40 : Int32)).toInt ∧ (x_79).toInt ≤ 999 - (x_74).toInt) := w_83_1
        refine lv_if_eq (tgt := 58) hx hb dX12_opens_27 (by decide) (fun c_86 => ?_) (fun c_86 => ?_)
        · have jc_86 := dk_eqc (k := 0) (by decide +kernel) c_86
          refine lv_iconst (v := (-1)) hx hb dX12_opens_58 (by decide +kernel) ?_
          have hz_87 : (-1 : Int32).toInt = (-1) := by decide +kernel
          refine W.widen (k := 0) (n := 0) (Nat.le_of_ble_eq_true rfl) (Nat.le_of_ble_eq_true rfl) ?_
          exact dg_iret hx hb hr hlocks rfl hP hS ⟨I_75, M_75, (by decide +kernel), ZS_75, trivial⟩ dX12_opens_59
        · have jc_86 := dk_neqc (k := 0) (by decide +kernel) c_86
          refine lv_aload_n hx hb dX12_opens_30 rfl (lv_at hl 1 rfl) ?_
          refine lv_iconst (v := 1) hx hb dX12_opens_31 (by decide +kernel) ?_
          refine lv_bipush (v := 8) hx hb dX12_opens_32 (by decide +kernel) ?_
          refine lv_iload_n hx hb dX12_opens_34 rfl (lv_at hl 3 rfl) ?_
          refine lv_imul hx hb dX12_opens_35 ?_
          refine lv_topi (fun x_88 ex_88 => ?_)
          have jx_88 : (x_88).toInt = 8 * (a2).toInt := by rw [ex_88]; exact dk_mulT (by decide +kernel) rfl (by omega) (by omega)
          refine lv_iload_n hx hb dX12_opens_36 rfl (lv_at hl 2 rfl) ?_
          refine lv_iadd hx hb dX12_opens_37 ?_
          refine lv_topi (fun x_89 ex_89 => ?_)
          have jx_89 : (x_89).toInt = (x_88).toInt + (a1).toInt := by rw [ex_89]; exact dk_addT rfl rfl (by omega) (by omega)
          have hz_90 : (1 : Int32).toInt = 1 := by decide +kernel
          refine dg_calli hS hA1 hA (va_runV (As := [.int 1, .int x_89]) (rest := []) F (c_m_isOpen l g D o S_75 1 (by decide +kernel) x_89 (by omega) I_75 H.size) (cwV 2 hts (bw_V wB_1092 wB_1093 wB_1094 wB_297 wB_1091) rfl rfl rfl (by decide +kernel) ⟨Nat.le_of_ble_eq_true rfl, Nat.le_of_ble_eq_true rfl⟩) (dg_preV sM_0 rfl K ST hP hS hA1 hA) rfl rfl hl.1 rfl (lv_room (Nat.le_of_ble_eq_true rfl)) dX12_opens_38 ⟨Nat.le_of_ble_eq_true rfl, Nat.le_of_ble_eq_true rfl⟩) (fun x_91 S_92 hw_92 H locs hP hS => ?_)
          rw [hw_92.1] at hP
          obtain ⟨hq_92, w_92_0, -⟩ := hw_92
          have w_92_0 : 0 ≤ (x_91).toInt ∧ (x_91).toInt ≤ 1 := w_92_0
          refine lv_if_eq (tgt := 46) hx hb dX12_opens_41 (by decide) (fun c_93 => ?_) (fun c_93 => ?_)
          · have jc_93 := dk_eqc (k := 0) (by decide +kernel) c_93
            refine lv_aload_n hx hb dX12_opens_46 rfl (lv_at hl 1 rfl) ?_
            refine lv_iconst (v := 1) hx hb dX12_opens_47 (by decide +kernel) ?_
            have hz_94 : (1 : Int32).toInt = 1 := by decide +kernel
            refine dg_calli hS hA1 hA (va_runV (As := [.int 1]) (rest := []) F (c_m_ticks l g D o S_75 1 (by decide +kernel) rw_75_0 frw_75_0 (by omega) (by omega) (ZBM.keep ZB M_75 (by decide) (by decide) (by decide) (by decide) (by decide)) ZS_75 (ZWM.keep ZW M_75 (by decide) (by decide) (by decide) (by decide)) I_75 H.size) (cwV 1 hts (bw_V wB_1231 wB_1232 wB_1233 wB_297 wB_1230) rfl rfl rfl (by decide +kernel) ⟨Nat.le_of_ble_eq_true rfl, Nat.le_of_ble_eq_true rfl⟩) (dg_preV sM_0 rfl K ST hP hS hA1 hA) rfl rfl hl.1 rfl (lv_room (Nat.le_of_ble_eq_true rfl)) dX12_opens_48 ⟨Nat.le_of_ble_eq_true rfl, Nat.le_of_ble_eq_true rfl⟩) (fun x_95 S_96 hw_96 H locs hP hS => ?_)
            obtain ⟨I_96, m_96, w_96_0, w_96_1, w_96_2, -⟩ := hw_96
            have M_96 := dg_sm.tr M_75 m_96 (by decide) (by decide)
            have hz_97 : (1 : Int32).toInt = 1 := by decide +kernel
            have w_96_0 : 0 ≤ (x_95).toInt ∧ (x_95).toInt ≤ 1 := w_96_0
            obtain ⟨x_98, f_x_98⟩ : ∃ x, S_96.2.1 29 (1 : Int32).toNatClampNeg = x := ⟨_, rfl⟩
            have hin_99 : vp_in (1 : Int32) 22 := (dk_in (by decide +kernel))
            have b_x_98 := dk_all_at (dg_I.row (lo := 0) (hi := 2000) I_96 sM_29 (by decide +kernel)) hin_99 f_x_98.symm
            have ex_98 := f_x_98.symm
            have hz_100 : (1 : Int32).toInt = 1 := by decide +kernel
            have zs_x_98 : (1 : Int32).toInt ≠ 1 → (x_98).toInt ≤ 999 := fun h => by rw [ex_98]; exact w_96_2 _ (dk_inT hin_99).2 (fun q => by have h9 := (dk_inT hin_99).1; omega)
            have w_96_1 : (x_98).toInt = (rw_75_0).toInt + 1 := w_96_1 x_98 f_x_98
            refine lv_pop hx hb dX12_opens_51 rfl ?_
            obtain ⟨x_101, ex_101⟩ : ∃ z, z = x_74 + 1 := ⟨_, rfl⟩
            have jx_101 : (x_101).toInt = (x_74).toInt + 1 := by rw [ex_101]; exact dk_addT rfl (by decide +kernel) (by omega) (by omega)
            refine lv_iinc (v := x_101) (lv' := [(3, .int x_101), (0, .ref (o + 0)), (1, .int a1), (2, .int a2)]) hx hb dX12_opens_52 hl (k := 0) rfl (by rw [ex_101]; rfl) (by decide) rfl (fun ls hl => ?_)
            refine lv_goto (tgt := 19) hx hb dX12_opens_55 (by decide) ?_
            exact ih x_101 (by omega) (by omega) S_96 I_96 M_96 x_98 f_x_98 (by omega) w_96_2 (by omega) _ _ hP hS _ (lv_sub hl [0, 1, 2, 3] rfl)
          · have jc_93 := dk_neqc (k := 0) (by decide +kernel) c_93
            refine lv_iload_n hx hb dX12_opens_44 rfl (lv_at hl 0 rfl) ?_
            refine W.widen (k := 0) (n := 0) (Nat.le_of_ble_eq_true rfl) (Nat.le_of_ble_eq_true rfl) ?_
            exact dg_iret hx hb hr hlocks rfl hP hS ⟨I_75, M_75, (by omega), ZS_75, trivial⟩ dX12_opens_45
    have hz_102 : (0 : Int32).toInt = 0 := by decide +kernel
    have hz_103 : (0 : Int32).toInt = 0 := by decide +kernel
    exact L_76 ((42 - ((0 : Int32)).toInt).toNat + 1) 0 (by decide +kernel) (by omega) S_15 I_15 M_15 x_18 f_x_18 (by omega) w_15_2 (by omega) _ _ hP hS _ (lv_sub hl [0, 1, 2, 3] rfl)
  · have jc_9 := dk_eqc (k := 0) (by decide +kernel) c_9
    refine lv_iconst (v := (-1)) hx hb dX12_opens_9 (by decide +kernel) ?_
    have hz_104 : (-1 : Int32).toInt = (-1) := by decide +kernel
    refine W.widen (k := 0) (n := 0) (Nat.le_of_ble_eq_true rfl) (Nat.le_of_ble_eq_true rfl) ?_
    exact dg_iret hx hb hr hlocks rfl hP hS ⟨I, M_0, (by decide +kernel), ZS, trivial⟩ dX12_opens_10
set_option maxHeartbeats 8000000 in
set_option maxRecDepth 100000 in
theorem c_m_odds (l : Launch) (g : Nat → ClassId) (D : va_G) (o : Nat) (S : dg_S) (a1 : Int32) (a2 : Int32) (ZB : ZBM S) (ZS : ZSM S) (ZW : ZWM S) (I : CM o S) (sz : Nat) : Met l yX12_odds (bw yX12_odds cX12_odds 7 (some .int)) ({ frames := 9, cells := 0, slots := 0, locals := 217 } : Room) (dk_Pc g D (dg_w g shM o rfM S) sz [.ref (o + 0), .int a1, .int a2]) (va_Qi (fun (r : Int32) S' => CM o S' ∧ dg_sm shM [] [29, 30, 31, 32, 33, 34, 35, 36, 37, 38, 39, 40, 41, 42, 43, 44] S S' ∧ ZSM S' ∧ True) (dg_B g D shM o rfM) (dg_A o shM.length sz)) 0 0 (dg_A o shM.length sz) := by
  refine dg_met (cc := cX12_odds) (maxL := 7) (ret := (some .int)) (by decide) rfl (Nat.le_of_ble_eq_true rfl) ?_
  intro p e s m args below meth c A hAe harg hx hb hr hml hts hown hlocks hin hP K hS hA1 hA ST hsz ls hl
  rw [← hAe]
  have F : CallFix p m c cX12_odds 7 s args (bw yX12_odds cX12_odds 7 (some .int)) RX12 := ⟨hx, hb, hml, hown, hts⟩
  have hl : lv_has ls 7 [(0, .ref (o + 0)), (1, .int a1), (2, .int a2)] := hl
  have M_0 : dg_sm shM [] [29, 30, 31, 32, 33, 34, 35, 36, 37, 38, 39, 40, 41, 42, 43, 44] S S := dg_sm.rf
  refine lv_aload_n hx hb dX12_odds_0 rfl (lv_at hl 0 rfl) ?_
  refine dg_get (C := RX12) (T := TX12) (N := 77) hx hb hts (fun w h => bw_mem (wU_X12 w h)) hown K hP sM_0 rfl 14 (by decide) (hts _ (bw_mem wB_372)) (fun _ h9 => h9) (v := .ref (o + 2)) (show S.1 0 14 = .ref (o + 2) from dg_I.rel (d := 2) I sM_0 (by decide +kernel)) dX12_odds_1 ?_
  refine lv_aload_n hx hb dX12_odds_4 rfl (lv_at hl 0 rfl) ?_
  obtain ⟨x_1, f_x_1, b_x_1⟩ := dg_I.int (i := 0) (k := 13) (lo := 0) (hi := 1) I sM_0 (by decide +kernel)
  refine dg_get (C := RX12) (T := TX12) (N := 77) hx hb hts (fun w h => bw_mem (wU_X12 w h)) hown K hP sM_0 rfl 13 (by decide) (hts _ (bw_mem wB_1085)) (fun _ h9 => h9) (v := .int x_1) f_x_1 dX12_odds_5 ?_
  have hin_2 : vp_in x_1 2 := (dk_inv (by omega) (by omega))
  refine dg_iald hx hb K hP sM_2 hin_2 dX12_odds_8 (fun x_3 ex_3 => ?_)
  have b_x_3 := dk_all_at (dg_I.row (lo := 0) (hi := 9999) I sM_2 (by decide +kernel)) hin_2 ex_3
  obtain ⟨x_4, f_x_4, b_x_4⟩ := dg_I.int (i := 0) (k := 47) (lo := 0) (hi := 1) I sM_0 (by decide +kernel)
  have zb_x_3 : (x_3).toInt ≤ 7 ∧ ((x_4 : Int32).toInt = 1 → 3 ≤ (x_3).toInt) := by rw [ex_3]; exact ⟨(ZB x_1 x_4 f_x_1 f_x_4).1, fun h9 => ((ZB x_1 x_4 f_x_1 f_x_4).2.2.2 h9).1⟩
  refine lv_aload_n hx hb dX12_odds_9 rfl (lv_at hl 0 rfl) ?_
  refine dg_get (C := RX12) (T := TX12) (N := 77) hx hb hts (fun w h => bw_mem (wU_X12 w h)) hown K hP sM_0 rfl 15 (by decide) (hts _ (bw_mem wB_377)) (fun _ h9 => h9) (v := .ref (o + 3)) (show S.1 0 15 = .ref (o + 3) from dg_I.rel (d := 3) I sM_0 (by decide +kernel)) dX12_odds_10 ?_
  refine lv_aload_n hx hb dX12_odds_13 rfl (lv_at hl 0 rfl) ?_
  refine dg_get (C := RX12) (T := TX12) (N := 77) hx hb hts (fun w h => bw_mem (wU_X12 w h)) hown K hP sM_0 rfl 13 (by decide) (hts _ (bw_mem wB_1085)) (fun _ h9 => h9) (v := .int x_1) f_x_1 dX12_odds_14 ?_
  have hin_5 : vp_in x_1 2 := (dk_inv (by omega) (by omega))
  refine dg_iald hx hb K hP sM_3 hin_5 dX12_odds_17 (fun x_6 ex_6 => ?_)
  have b_x_6 := dk_all_at (dg_I.row (lo := 0) (hi := 9999) I sM_3 (by decide +kernel)) hin_5 ex_6
  have zb_x_6 : (x_6).toInt ≤ 7 ∧ ((x_4 : Int32).toInt = 1 → 3 ≤ (x_6).toInt) := by rw [ex_6]; exact ⟨(ZB x_1 x_4 f_x_1 f_x_4).2.1, fun h9 => ((ZB x_1 x_4 f_x_1 f_x_4).2.2.2 h9).2⟩
  refine lv_imul hx hb dX12_odds_18 ?_
  refine lv_topi (fun x_7 ex_7 => ?_)
  have jx_7 := dk_mulB (x := x_3) (y := x_6) (A := 7) (B := 7) (by omega) (by omega) (by decide)
  rw [← ex_7] at jx_7
  refine lv_istore_n (lv' := [(3, .int x_7), (0, .ref (o + 0)), (1, .int a1), (2, .int a2)]) hx hb dX12_odds_19 rfl hl (by decide) rfl (fun ls hl => ?_)
  refine lv_aload_n hx hb dX12_odds_20 rfl (lv_at hl 1 rfl) ?_
  refine lv_iconst (v := 1) hx hb dX12_odds_21 (by decide +kernel) ?_
  refine lv_iconst (v := 1) hx hb dX12_odds_22 (by decide +kernel) ?_
  refine lv_iconst (v := 1) hx hb dX12_odds_23 (by decide +kernel) ?_
  have hz_8 : (1 : Int32).toInt = 1 := by decide +kernel
  have hz_9 : (1 : Int32).toInt = 1 := by decide +kernel
  obtain ⟨x_10, f_x_10⟩ : ∃ x, S.2.1 29 (0 : Int32).toNatClampNeg = x := ⟨_, rfl⟩
  have hin_11 : vp_in (0 : Int32) 22 := (dk_in (by decide +kernel))
  have b_x_10 := dk_all_at (dg_I.row (lo := 0) (hi := 2000) I sM_29 (by decide +kernel)) hin_11 f_x_10.symm
  have ex_10 := f_x_10.symm
  have hz_12 : (0 : Int32).toInt = 0 := by decide +kernel
  have zs_x_10 : (0 : Int32).toInt ≠ 1 → (x_10).toInt ≤ 999 := fun h => by rw [ex_10]; exact ZS _ (dk_inT hin_11).2 (fun q => by have h9 := (dk_inT hin_11).1; omega)
  refine dg_calli hS hA1 hA (va_runV (As := [.int 1, .int 1, .int 1]) (rest := []) F (c_m_isAhead l g D o S 1 1 (by decide +kernel) 1 (by decide +kernel) x_4 f_x_4 (by omega) x_10 f_x_10 (by omega) I s.heap.size) (cwV 3 hts (bw_V wB_1235 wB_1236 wB_1237 wB_297 wB_1234) rfl rfl rfl (by decide +kernel) ⟨Nat.le_of_ble_eq_true rfl, Nat.le_of_ble_eq_true rfl⟩) (dg_preV sM_0 rfl K ST hP hS hA1 hA) rfl rfl hl.1 rfl (lv_room (Nat.le_of_ble_eq_true rfl)) dX12_odds_24 ⟨Nat.le_of_ble_eq_true rfl, Nat.le_of_ble_eq_true rfl⟩) (fun x_13 S_14 hw_14 H locs hP hS => ?_)
  rw [hw_14.1] at hP
  obtain ⟨hq_14, w_14_0, w_14_1, -⟩ := hw_14
  have hz_15 : (1 : Int32).toInt = 1 := by decide +kernel
  have hz_16 : (1 : Int32).toInt = 1 := by decide +kernel
  have hz_17 : (1 : Int32).toInt = 1 := by decide +kernel
  have w_14_0 : 0 ≤ (x_13).toInt ∧ (x_13).toInt ≤ 1 := w_14_0
  have w_14_1 : (x_13).toInt = 1 → ((x_4).toInt = 1 ∧ ((1 : Int32)).toInt ≤ ((1 : Int32)).toInt ∧ ((1 : Int32)).toInt ≤ ((1 : Int32)).toInt ∧ (x_10).toInt ≤ 999 - ((1 : Int32)).toInt) := w_14_1
  refine lv_if_eq (tgt := 44) hx hb dX12_odds_27 (by decide) (fun c_18 => ?_) (fun c_18 => ?_)
  · have jc_18 := dk_eqc (k := 0) (by decide +kernel) c_18
    refine lv_iconst (v := (-1)) hx hb dX12_odds_44 (by decide +kernel) ?_
    refine W.widen (k := 0) (n := 0) (Nat.le_of_ble_eq_true rfl) (Nat.le_of_ble_eq_true rfl) ?_
    exact dg_iret hx hb hr hlocks rfl hP hS ⟨I, M_0, ZS, trivial⟩ dX12_odds_45
  · have jc_18 := dk_neqc (k := 0) (by decide +kernel) c_18
    refine lv_iload_n hx hb dX12_odds_30 rfl (lv_at hl 2 rfl) ?_
    refine lv_iconst (v := (-1)) hx hb dX12_odds_31 (by decide +kernel) ?_
    refine lv_icmp_eq (tgt := 46) hx hb dX12_odds_32 (by decide) (fun c_19 => ?_) (fun c_19 => ?_)
    · have jc_19 := dk_eqc (k := (-1)) (by decide +kernel) c_19
      refine lv_iload_n hx hb dX12_odds_46 rfl (lv_at hl 2 rfl) ?_
      refine lv_iconst (v := (-1)) hx hb dX12_odds_47 (by decide +kernel) ?_
      refine lv_icmp_ne (tgt := 56) hx hb dX12_odds_48 (by decide) (fun c => absurd (dk_eqp (k := (-1)) (by decide +kernel) (by omega)) c) (fun _ => ?_)
      refine lv_bipush (v := 100) hx hb dX12_odds_51 (by decide +kernel) ?_
      refine lv_iload_n hx hb dX12_odds_53 rfl (lv_at hl 0 rfl) ?_
      refine lv_imul hx hb dX12_odds_54 ?_
      refine lv_topi (fun x_20 ex_20 => ?_)
      have jx_20 : (x_20).toInt = 100 * (x_7).toInt := by rw [ex_20]; exact dk_mulT (by decide +kernel) rfl (by omega) (by omega)
      refine W.widen (k := 0) (n := 0) (Nat.le_of_ble_eq_true rfl) (Nat.le_of_ble_eq_true rfl) ?_
      exact dg_iret hx hb hr hlocks rfl hP hS ⟨I, M_0, ZS, trivial⟩ dX12_odds_55
    · have jc_19 := dk_neqc (k := (-1)) (by decide +kernel) c_19
      refine lv_aload_n hx hb dX12_odds_35 rfl (lv_at hl 1 rfl) ?_
      refine lv_iload_n hx hb dX12_odds_36 rfl (lv_at hl 2 rfl) ?_
      refine lv_iload_n hx hb dX12_odds_37 rfl (lv_at hl 3 rfl) ?_
      refine dg_calli hS hA1 hA (va_runV (As := [.int a1, .int a2]) (rest := []) F (c_m_isCell l g D o S a1 a2 x_1 f_x_1 (by omega) x_4 f_x_4 (by omega) x_3 ex_3.symm (by omega) x_6 ex_6.symm (by omega) ZB I H.size) (cwV 2 hts (bw_V wB_1087 wB_1088 wB_1089 wB_297 wB_1086) rfl rfl rfl (by decide +kernel) ⟨Nat.le_of_ble_eq_true rfl, Nat.le_of_ble_eq_true rfl⟩) (dg_preV sM_0 rfl K ST hP hS hA1 hA) rfl rfl hl.1 rfl (lv_room (Nat.le_of_ble_eq_true rfl)) dX12_odds_38 ⟨Nat.le_of_ble_eq_true rfl, Nat.le_of_ble_eq_true rfl⟩) (fun x_21 S_22 hw_22 H locs hP hS => ?_)
      rw [hw_22.1] at hP
      obtain ⟨hq_22, w_22_0, w_22_1, w_22_2, -⟩ := hw_22
      have w_22_0 : 0 ≤ (x_21).toInt ∧ (x_21).toInt ≤ 1 := w_22_0
      have w_22_1 : (x_21).toInt = 1 → (0 ≤ (a1).toInt ∧ (a1).toInt ≤ 6 ∧ 0 ≤ (a2).toInt ∧ (a2).toInt ≤ 6) := w_22_1
      have w_22_2 : (x_21).toInt = 1 ↔ ((x_4).toInt = 1 ∧ 0 ≤ (a1).toInt ∧ (a1).toInt < (x_3).toInt ∧ 0 ≤ (a2).toInt ∧ (a2).toInt < (x_6).toInt) := w_22_2
      refine lv_if_ne (tgt := 46) hx hb dX12_odds_41 (by decide) (fun c_23 => ?_) (fun c_23 => ?_)
      · have jc_23 := dk_neqc (k := 0) (by decide +kernel) c_23
        refine lv_iload_n hx hb dX12_odds_46 rfl (lv_at hl 2 rfl) ?_
        refine lv_iconst (v := (-1)) hx hb dX12_odds_47 (by decide +kernel) ?_
        refine lv_icmp_ne (tgt := 56) hx hb dX12_odds_48 (by decide) (fun _ => ?_) (fun c => absurd c (fun z => absurd (dk_eqc (k := (-1)) (by decide +kernel) z) (by omega)))
        refine lv_bipush (v := 8) hx hb dX12_odds_56 (by decide +kernel) ?_
        refine lv_iload_n hx hb dX12_odds_58 rfl (lv_at hl 3 rfl) ?_
        refine lv_imul hx hb dX12_odds_59 ?_
        refine lv_topi (fun x_24 ex_24 => ?_)
        have jx_24 : (x_24).toInt = 8 * (a2).toInt := by rw [ex_24]; exact dk_mulT (by decide +kernel) rfl (by omega) (by omega)
        refine lv_iload_n hx hb dX12_odds_60 rfl (lv_at hl 2 rfl) ?_
        refine lv_iadd hx hb dX12_odds_61 ?_
        refine lv_topi (fun x_25 ex_25 => ?_)
        have jx_25 : (x_25).toInt = (x_24).toInt + (a1).toInt := by rw [ex_25]; exact dk_addT rfl rfl (by omega) (by omega)
        refine lv_istore (lv' := [(4, .int x_25), (3, .int x_7), (0, .ref (o + 0)), (1, .int a1), (2, .int a2)]) hx hb dX12_odds_62 hl (by decide) rfl (fun ls hl => ?_)
        refine lv_aload_n hx hb dX12_odds_64 rfl (lv_at hl 2 rfl) ?_
        refine lv_iconst (v := 1) hx hb dX12_odds_65 (by decide +kernel) ?_
        refine lv_iconst (v := 0) hx hb dX12_odds_66 (by decide +kernel) ?_
        have hz_26 : (1 : Int32).toInt = 1 := by decide +kernel
        have hz_27 : (0 : Int32).toInt = 0 := by decide +kernel
        refine dg_callv hS hA1 hA (va_runV (As := [.int 1, .int 0]) (rest := []) F (c_m_copies l g D o S 1 (by decide +kernel) 0 (by decide +kernel) x_10 f_x_10 (by omega) x_10 f_x_10 (by omega) (by omega) ZS I H.size) (cwV 2 hts (bw_V wB_1227 wB_1228 wB_1229 wB_297 wB_1226) rfl rfl rfl (by decide +kernel) ⟨Nat.le_of_ble_eq_true rfl, Nat.le_of_ble_eq_true rfl⟩) (dg_preV sM_0 rfl K ST hP hS hA1 hA) rfl rfl hl.1 rfl (lv_room (Nat.le_of_ble_eq_true rfl)) dX12_odds_67 ⟨Nat.le_of_ble_eq_true rfl, Nat.le_of_ble_eq_true rfl⟩) (fun S_28 hw_28 H locs hP hS => ?_)
        obtain ⟨I_28, m_28, w_28_0, w_28_1, w_28_2, -⟩ := hw_28
        have M_28 := dg_sm.tr M_0 m_28 (by decide) (by decide)
        have hz_29 : (1 : Int32).toInt = 1 := by decide +kernel
        have hz_30 : (0 : Int32).toInt = 0 := by decide +kernel
        obtain ⟨x_31, f_x_31⟩ : ∃ x, S_28.2.1 29 (1 : Int32).toNatClampNeg = x := ⟨_, rfl⟩
        have hin_32 : vp_in (1 : Int32) 22 := (dk_in (by decide +kernel))
        have b_x_31 := dk_all_at (dg_I.row (lo := 0) (hi := 2000) I_28 sM_29 (by decide +kernel)) hin_32 f_x_31.symm
        have ex_31 := f_x_31.symm
        have hz_33 : (1 : Int32).toInt = 1 := by decide +kernel
        have zs_x_31 : (1 : Int32).toInt ≠ 1 → (x_31).toInt ≤ 999 := fun h => by rw [ex_31]; exact w_28_2 _ (dk_inT hin_32).2 (fun q => by have h9 := (dk_inT hin_32).1; omega)
        have w_28_0 : (x_31).toInt = (x_10).toInt := w_28_0 x_31 f_x_31
        obtain ⟨x_34, f_x_34⟩ : ∃ x, S_28.2.1 29 (0 : Int32).toNatClampNeg = x := ⟨_, rfl⟩
        have hin_35 : vp_in (0 : Int32) 22 := (dk_in (by decide +kernel))
        have b_x_34 := dk_all_at (dg_I.row (lo := 0) (hi := 2000) I_28 sM_29 (by decide +kernel)) hin_35 f_x_34.symm
        have ex_34 := f_x_34.symm
        have hz_36 : (0 : Int32).toInt = 0 := by decide +kernel
        have zs_x_34 : (0 : Int32).toInt ≠ 1 → (x_34).toInt ≤ 999 := fun h => by rw [ex_34]; exact w_28_2 _ (dk_inT hin_35).2 (fun q => by have h9 := (dk_inT hin_35).1; omega)
        have w_28_1 : ((1 : Int32)).toInt ≠ 0 → (x_34).toInt = (x_10).toInt := w_28_1 x_34 f_x_34
        refine lv_aload_n hx hb dX12_odds_70 rfl (lv_at hl 2 rfl) ?_
        refine lv_iconst (v := 1) hx hb dX12_odds_71 (by decide +kernel) ?_
        have hz_37 : (1 : Int32).toInt = 1 := by decide +kernel
        refine dg_calli hS hA1 hA (va_runV (As := [.int 1]) (rest := []) F (c_m_ticks l g D o S_28 1 (by decide +kernel) x_31 f_x_31 (by omega) (by omega) (ZBM.keep ZB m_28 (by decide) (by decide) (by decide) (by decide) (by decide)) w_28_2 (ZWM.keep ZW m_28 (by decide) (by decide) (by decide) (by decide)) I_28 H.size) (cwV 1 hts (bw_V wB_1231 wB_1232 wB_1233 wB_297 wB_1230) rfl rfl rfl (by decide +kernel) ⟨Nat.le_of_ble_eq_true rfl, Nat.le_of_ble_eq_true rfl⟩) (dg_preV sM_0 rfl K ST hP hS hA1 hA) rfl rfl hl.1 rfl (lv_room (Nat.le_of_ble_eq_true rfl)) dX12_odds_72 ⟨Nat.le_of_ble_eq_true rfl, Nat.le_of_ble_eq_true rfl⟩) (fun x_38 S_39 hw_39 H locs hP hS => ?_)
        obtain ⟨I_39, m_39, w_39_0, w_39_1, w_39_2, -⟩ := hw_39
        have M_39 := dg_sm.tr M_28 m_39 (by decide) (by decide)
        have hz_40 : (1 : Int32).toInt = 1 := by decide +kernel
        have w_39_0 : 0 ≤ (x_38).toInt ∧ (x_38).toInt ≤ 1 := w_39_0
        obtain ⟨x_41, f_x_41⟩ : ∃ x, S_39.2.1 29 (1 : Int32).toNatClampNeg = x := ⟨_, rfl⟩
        have hin_42 : vp_in (1 : Int32) 22 := (dk_in (by decide +kernel))
        have b_x_41 := dk_all_at (dg_I.row (lo := 0) (hi := 2000) I_39 sM_29 (by decide +kernel)) hin_42 f_x_41.symm
        have ex_41 := f_x_41.symm
        have hz_43 : (1 : Int32).toInt = 1 := by decide +kernel
        have zs_x_41 : (1 : Int32).toInt ≠ 1 → (x_41).toInt ≤ 999 := fun h => by rw [ex_41]; exact w_39_2 _ (dk_inT hin_42).2 (fun q => by have h9 := (dk_inT hin_42).1; omega)
        have w_39_1 : (x_41).toInt = (x_31).toInt + 1 := w_39_1 x_41 f_x_41
        refine lv_pop hx hb dX12_odds_75 rfl ?_
        refine lv_aload_n hx hb dX12_odds_76 rfl (lv_at hl 2 rfl) ?_
        refine lv_iconst (v := 1) hx hb dX12_odds_77 (by decide +kernel) ?_
        refine lv_iload hx hb dX12_odds_78 (lv_at hl 0 rfl) ?_
        have hz_44 : (1 : Int32).toInt = 1 := by decide +kernel
        refine dg_calli hS hA1 hA (va_runV (As := [.int 1, .int x_25]) (rest := []) F (c_m_isOpen l g D o S_39 1 (by decide +kernel) x_25 (by omega) I_39 H.size) (cwV 2 hts (bw_V wB_1092 wB_1093 wB_1094 wB_297 wB_1091) rfl rfl rfl (by decide +kernel) ⟨Nat.le_of_ble_eq_true rfl, Nat.le_of_ble_eq_true rfl⟩) (dg_preV sM_0 rfl K ST hP hS hA1 hA) rfl rfl hl.1 rfl (lv_room (Nat.le_of_ble_eq_true rfl)) dX12_odds_80 ⟨Nat.le_of_ble_eq_true rfl, Nat.le_of_ble_eq_true rfl⟩) (fun x_45 S_46 hw_46 H locs hP hS => ?_)
        rw [hw_46.1] at hP
        obtain ⟨hq_46, w_46_0, -⟩ := hw_46
        have w_46_0 : 0 ≤ (x_45).toInt ∧ (x_45).toInt ≤ 1 := w_46_0
        refine lv_if_eq (tgt := 103) hx hb dX12_odds_83 (by decide) (fun c_47 => ?_) (fun c_47 => ?_)
        · have jc_47 := dk_eqc (k := 0) (by decide +kernel) c_47
          refine lv_iconst (v := 0) hx hb dX12_odds_103 (by decide +kernel) ?_
          refine lv_istore (lv' := [(5, .int 0), (4, .int x_25), (3, .int x_7), (0, .ref (o + 0)), (1, .int a1), (2, .int a2)]) hx hb dX12_odds_104 hl (by decide) rfl (fun ls hl => ?_)
          refine lv_iconst (v := 0) hx hb dX12_odds_106 (by decide +kernel) ?_
          refine lv_istore (lv' := [(6, .int 0), (5, .int 0), (4, .int x_25), (3, .int x_7), (0, .ref (o + 0)), (1, .int a1), (2, .int a2)]) hx hb dX12_odds_107 hl (by decide) rfl (fun ls hl => ?_)
          have L_256 : ∀ (n : Nat) (x_253 : Int32) (x_254 : Int32), (0 ≤ (x_253).toInt ∧ (x_253).toInt ≤ 64) → ((65 - (x_253).toInt).toNat < n) → ∀ S_255 : dg_S, CM o S_255 → dg_sm shM [] [29, 30, 31, 32, 33, 34, 35, 36, 37, 38, 39, 40, 41, 42, 43, 44] S S_255 → ZSM S_255 → ∀ (H : Heap) (locs : List Loc), va_P D vwCl (dg_w g shM o rfM S_255) H → va_S A s.heap H locs → ∀ ls : Array Slot, lv_has ls 7 [(6, .int x_253), (5, .int x_254), (4, .int x_25), (3, .int x_7), (0, .ref (o + 0)), (1, .int a1), (2, .int a2)] → W p l e ({ frames := 9, cells := 0, slots := 0, locals := 217 } : Room) s m args below meth c H locs 0 0 (MQ below (va_Qi (fun (r : Int32) S' => CM o S' ∧ dg_sm shM [] [29, 30, 31, 32, 33, 34, 35, 36, 37, 38, 39, 40, 41, 42, 43, 44] S S' ∧ ZSM S' ∧ True) (dg_B g D shM o rfM) A) args s 0 0 A) (F0 m 109 ls []) := by
            intro n
            induction n with
            | zero =>
              intro x_253 x_254 b_x_253 hmu S_255 I_255 M_255 ZS_255 H locs hP hS ls hl
              omega
            | succ n ih =>
              intro x_253 x_254 b_x_253 hmu S_255 I_255 M_255 ZS_255 H locs hP hS ls hl
              refine lv_iload hx hb dX12_odds_109 (lv_at hl 0 rfl) ?_
              refine lv_bipush (v := 64) hx hb dX12_odds_111 (by decide +kernel) ?_
              refine lv_icmp_ge (tgt := 182) hx hb dX12_odds_113 (by decide) (fun c_257 => ?_) (fun c_257 => ?_)
              · have jc_257 := dk_gec (k := 64) (by decide +kernel) c_257
                refine lv_iload hx hb dX12_odds_182 (lv_at hl 1 rfl) ?_
                refine W.widen (k := 0) (n := 0) (Nat.le_of_ble_eq_true rfl) (Nat.le_of_ble_eq_true rfl) ?_
                exact dg_iret hx hb hr hlocks rfl hP hS ⟨I_255, M_255, ZS_255, trivial⟩ dX12_odds_184
              · have jc_257 := dk_ngec (k := 64) (by decide +kernel) c_257
                refine lv_aload_n hx hb dX12_odds_116 rfl (lv_at hl 4 rfl) ?_
                refine lv_iload hx hb dX12_odds_117 (lv_at hl 0 rfl) ?_
                refine dg_calli hS hA1 hA (va_runV (As := [.int x_253]) (rest := []) F (c_m_isCellOf l g D o S_255 x_253 (by omega) x_1 ((M_255.1 0 13 _ sM_0 (by decide)).trans f_x_1) (by omega) x_4 ((M_255.1 0 47 _ sM_0 (by decide)).trans f_x_4) (by omega) x_3 ((congrFun (M_255.2 2 _ sM_2 (by decide)).1 _).trans ex_3.symm) (by omega) x_6 ((congrFun (M_255.2 3 _ sM_3 (by decide)).1 _).trans ex_6.symm) (by omega) (ZBM.keep ZB M_255 (by decide) (by decide) (by decide) (by decide) (by decide)) I_255 H.size) (cwV 1 hts (bw_V wB_1123 wB_1124 wB_1125 wB_297 wB_1122) rfl rfl rfl (by decide +kernel) ⟨Nat.le_of_ble_eq_true rfl, Nat.le_of_ble_eq_true rfl⟩) (dg_preV sM_0 rfl K ST hP hS hA1 hA) rfl rfl hl.1 rfl (lv_room (Nat.le_of_ble_eq_true rfl)) dX12_odds_119 ⟨Nat.le_of_ble_eq_true rfl, Nat.le_of_ble_eq_true rfl⟩) (fun x_258 S_259 hw_259 H locs hP hS => ?_)
                rw [hw_259.1] at hP
                obtain ⟨hq_259, w_259_0, w_259_1, w_259_2, -⟩ := hw_259
                have w_259_0 : 0 ≤ (x_258).toInt ∧ (x_258).toInt ≤ 1 := w_259_0
                have w_259_1 : (x_258).toInt = 1 → 0 ≤ (x_253).toInt := w_259_1
                have w_259_2 : (x_258).toInt = 1 ↔ ((x_4).toInt = 1 ∧ 0 ≤ (x_253).toInt ∧ (x_253).toInt % 8 < (x_3).toInt ∧ (x_253).toInt / 8 < (x_6).toInt) := w_259_2
                have J_297 : ∀ (x_293 : Int32), ∀ S_296 : dg_S, CM o S_296 → dg_sm shM [] [29, 30, 31, 32, 33, 34, 35, 36, 37, 38, 39, 40, 41, 42, 43, 44] S S_296 → ZSM S_296 → ∀ (H : Heap) (locs : List Loc), va_P D vwCl (dg_w g shM o rfM S_296) H → va_S A s.heap H locs → ∀ ls : Array Slot, lv_has ls 7 [(5, .int x_293), (6, .int x_253), (4, .int x_25), (3, .int x_7), (0, .ref (o + 0)), (1, .int a1), (2, .int a2)] → W p l e ({ frames := 9, cells := 0, slots := 0, locals := 217 } : Room) s m args below meth c H locs 0 0 (MQ below (va_Qi (fun (r : Int32) S' => CM o S' ∧ dg_sm shM [] [29, 30, 31, 32, 33, 34, 35, 36, 37, 38, 39, 40, 41, 42, 43, 44] S S' ∧ ZSM S' ∧ True) (dg_B g D shM o rfM) A) args s 0 0 A) (F0 m 176 ls []) := by
                  intro x_293 S_296 I_296 M_296 ZS_296 H locs hP hS ls hl
                  obtain ⟨x_298, ex_298⟩ : ∃ z, z = x_253 + 1 := ⟨_, rfl⟩
                  have jx_298 : (x_298).toInt = (x_253).toInt + 1 := by rw [ex_298]; exact dk_addT rfl (by decide +kernel) (by omega) (by omega)
                  refine lv_iinc (v := x_298) (lv' := [(6, .int x_298), (5, .int x_293), (4, .int x_25), (3, .int x_7), (0, .ref (o + 0)), (1, .int a1), (2, .int a2)]) hx hb dX12_odds_176 hl (k := 1) rfl (by rw [ex_298]; rfl) (by decide) rfl (fun ls hl => ?_)
                  refine lv_goto (tgt := 109) hx hb dX12_odds_179 (by decide) ?_
                  exact ih x_298 x_293 (by omega) (by omega) S_296 I_296 M_296 ZS_296 _ _ hP hS _ (lv_sub hl [0, 1, 2, 3, 4, 5, 6] rfl)
                refine lv_if_ne (tgt := 128) hx hb dX12_odds_122 (by decide) (fun c_299 => ?_) (fun c_299 => ?_)
                · have jc_299 := dk_neqc (k := 0) (by decide +kernel) c_299
                  refine lv_aload_n hx hb dX12_odds_128 rfl (lv_at hl 4 rfl) ?_
                  refine lv_iconst (v := 1) hx hb dX12_odds_129 (by decide +kernel) ?_
                  refine lv_iconst (v := 0) hx hb dX12_odds_130 (by decide +kernel) ?_
                  have hz_300 : (1 : Int32).toInt = 1 := by decide +kernel
                  have hz_301 : (0 : Int32).toInt = 0 := by decide +kernel
                  obtain ⟨x_302, f_x_302⟩ : ∃ x, S_255.2.1 29 (0 : Int32).toNatClampNeg = x := ⟨_, rfl⟩
                  have hin_303 : vp_in (0 : Int32) 22 := (dk_in (by decide +kernel))
                  have b_x_302 := dk_all_at (dg_I.row (lo := 0) (hi := 2000) I_255 sM_29 (by decide +kernel)) hin_303 f_x_302.symm
                  have ex_302 := f_x_302.symm
                  have hz_304 : (0 : Int32).toInt = 0 := by decide +kernel
                  have zs_x_302 : (0 : Int32).toInt ≠ 1 → (x_302).toInt ≤ 999 := fun h => by rw [ex_302]; exact ZS_255 _ (dk_inT hin_303).2 (fun q => by have h9 := (dk_inT hin_303).1; omega)
                  refine dg_callv hS hA1 hA (va_runV (As := [.int 1, .int 0]) (rest := []) F (c_m_copies l g D o S_255 1 (by decide +kernel) 0 (by decide +kernel) x_302 f_x_302 (by omega) x_302 f_x_302 (by omega) (by omega) ZS_255 I_255 H.size) (cwV 2 hts (bw_V wB_1227 wB_1228 wB_1229 wB_297 wB_1226) rfl rfl rfl (by decide +kernel) ⟨Nat.le_of_ble_eq_true rfl, Nat.le_of_ble_eq_true rfl⟩) (dg_preV sM_0 rfl K ST hP hS hA1 hA) rfl rfl hl.1 rfl (lv_room (Nat.le_of_ble_eq_true rfl)) dX12_odds_131 ⟨Nat.le_of_ble_eq_true rfl, Nat.le_of_ble_eq_true rfl⟩) (fun S_305 hw_305 H locs hP hS => ?_)
                  obtain ⟨I_305, m_305, w_305_0, w_305_1, w_305_2, -⟩ := hw_305
                  have M_305 := dg_sm.tr M_255 m_305 (by decide) (by decide)
                  have hz_306 : (1 : Int32).toInt = 1 := by decide +kernel
                  have hz_307 : (0 : Int32).toInt = 0 := by decide +kernel
                  obtain ⟨x_308, f_x_308⟩ : ∃ x, S_305.2.1 29 (1 : Int32).toNatClampNeg = x := ⟨_, rfl⟩
                  have hin_309 : vp_in (1 : Int32) 22 := (dk_in (by decide +kernel))
                  have b_x_308 := dk_all_at (dg_I.row (lo := 0) (hi := 2000) I_305 sM_29 (by decide +kernel)) hin_309 f_x_308.symm
                  have ex_308 := f_x_308.symm
                  have hz_310 : (1 : Int32).toInt = 1 := by decide +kernel
                  have zs_x_308 : (1 : Int32).toInt ≠ 1 → (x_308).toInt ≤ 999 := fun h => by rw [ex_308]; exact w_305_2 _ (dk_inT hin_309).2 (fun q => by have h9 := (dk_inT hin_309).1; omega)
                  have w_305_0 : (x_308).toInt = (x_302).toInt := w_305_0 x_308 f_x_308
                  obtain ⟨x_311, f_x_311⟩ : ∃ x, S_305.2.1 29 (0 : Int32).toNatClampNeg = x := ⟨_, rfl⟩
                  have hin_312 : vp_in (0 : Int32) 22 := (dk_in (by decide +kernel))
                  have b_x_311 := dk_all_at (dg_I.row (lo := 0) (hi := 2000) I_305 sM_29 (by decide +kernel)) hin_312 f_x_311.symm
                  have ex_311 := f_x_311.symm
                  have hz_313 : (0 : Int32).toInt = 0 := by decide +kernel
                  have zs_x_311 : (0 : Int32).toInt ≠ 1 → (x_311).toInt ≤ 999 := fun h => by rw [ex_311]; exact w_305_2 _ (dk_inT hin_312).2 (fun q => by have h9 := (dk_inT hin_312).1; omega)
                  have w_305_1 : ((1 : Int32)).toInt ≠ 0 → (x_311).toInt = (x_302).toInt := w_305_1 x_311 f_x_311
                  refine lv_aload_n hx hb dX12_odds_134 rfl (lv_at hl 4 rfl) ?_
                  refine lv_iconst (v := 1) hx hb dX12_odds_135 (by decide +kernel) ?_
                  refine lv_iload hx hb dX12_odds_136 (lv_at hl 0 rfl) ?_
                  have hz_314 : (1 : Int32).toInt = 1 := by decide +kernel
                  refine dg_calli hS hA1 hA (va_runV (As := [.int 1, .int x_253]) (rest := []) F (c_m_isSolidBy l g D o S_305 1 (by decide +kernel) x_253 (by omega) I_305 H.size) (cwV 2 hts (bw_V wB_1264 wB_1265 wB_1266 wB_297 wB_1263) rfl rfl rfl (by decide +kernel) ⟨Nat.le_of_ble_eq_true rfl, Nat.le_of_ble_eq_true rfl⟩) (dg_preV sM_0 rfl K ST hP hS hA1 hA) rfl rfl hl.1 rfl (lv_room (Nat.le_of_ble_eq_true rfl)) dX12_odds_138 ⟨Nat.le_of_ble_eq_true rfl, Nat.le_of_ble_eq_true rfl⟩) (fun x_315 S_316 hw_316 H locs hP hS => ?_)
                  obtain ⟨I_316, m_316, w_316_0, -⟩ := hw_316
                  have M_316 := dg_sm.tr M_305 m_316 (by decide) (by decide)
                  have w_316_0 : 0 ≤ (x_315).toInt ∧ (x_315).toInt ≤ 1 := w_316_0
                  refine lv_pop hx hb dX12_odds_141 rfl ?_
                  refine lv_aload_n hx hb dX12_odds_142 rfl (lv_at hl 4 rfl) ?_
                  refine lv_iconst (v := 1) hx hb dX12_odds_143 (by decide +kernel) ?_
                  have hz_317 : (1 : Int32).toInt = 1 := by decide +kernel
                  refine dg_calli hS hA1 hA (va_runV (As := [.int 1]) (rest := []) F (c_m_ticks l g D o S_316 1 (by decide +kernel) x_308 ((congrFun (m_316.2 29 _ sM_29 (by decide)).1 _).trans f_x_308) (by omega) (by omega) (ZBM.keep (ZBM.keep (ZBM.keep ZB M_255 (by decide) (by decide) (by decide) (by decide) (by decide)) m_305 (by decide) (by decide) (by decide) (by decide) (by decide)) m_316 (by decide) (by decide) (by decide) (by decide) (by decide)) (ZSM.keep w_305_2 m_316 (by decide)) (ZWM.keep (ZWM.keep (ZWM.keep ZW M_255 (by decide) (by decide) (by decide) (by decide)) m_305 (by decide) (by decide) (by decide) (by decide)) m_316 (by decide) (by decide) (by decide) (by decide)) I_316 H.size) (cwV 1 hts (bw_V wB_1231 wB_1232 wB_1233 wB_297 wB_1230) rfl rfl rfl (by decide +kernel) ⟨Nat.le_of_ble_eq_true rfl, Nat.le_of_ble_eq_true rfl⟩) (dg_preV sM_0 rfl K ST hP hS hA1 hA) rfl rfl hl.1 rfl (lv_room (Nat.le_of_ble_eq_true rfl)) dX12_odds_144 ⟨Nat.le_of_ble_eq_true rfl, Nat.le_of_ble_eq_true rfl⟩) (fun x_318 S_319 hw_319 H locs hP hS => ?_)
                  obtain ⟨I_319, m_319, w_319_0, w_319_1, w_319_2, -⟩ := hw_319
                  have M_319 := dg_sm.tr M_316 m_319 (by decide) (by decide)
                  have hz_320 : (1 : Int32).toInt = 1 := by decide +kernel
                  have w_319_0 : 0 ≤ (x_318).toInt ∧ (x_318).toInt ≤ 1 := w_319_0
                  obtain ⟨x_321, f_x_321⟩ : ∃ x, S_319.2.1 29 (1 : Int32).toNatClampNeg = x := ⟨_, rfl⟩
                  have hin_322 : vp_in (1 : Int32) 22 := (dk_in (by decide +kernel))
                  have b_x_321 := dk_all_at (dg_I.row (lo := 0) (hi := 2000) I_319 sM_29 (by decide +kernel)) hin_322 f_x_321.symm
                  have ex_321 := f_x_321.symm
                  have hz_323 : (1 : Int32).toInt = 1 := by decide +kernel
                  have zs_x_321 : (1 : Int32).toInt ≠ 1 → (x_321).toInt ≤ 999 := fun h => by rw [ex_321]; exact w_319_2 _ (dk_inT hin_322).2 (fun q => by have h9 := (dk_inT hin_322).1; omega)
                  have w_319_1 : (x_321).toInt = (x_308).toInt + 1 := w_319_1 x_321 f_x_321
                  refine lv_pop hx hb dX12_odds_147 rfl ?_
                  refine lv_iload hx hb dX12_odds_148 (lv_at hl 1 rfl) ?_
                  refine lv_aload_n hx hb dX12_odds_150 rfl (lv_at hl 4 rfl) ?_
                  refine lv_iconst (v := 1) hx hb dX12_odds_151 (by decide +kernel) ?_
                  refine lv_iload hx hb dX12_odds_152 (lv_at hl 2 rfl) ?_
                  have hz_324 : (1 : Int32).toInt = 1 := by decide +kernel
                  refine dg_calli hS hA1 hA (va_runV (As := [.int 1, .int x_25]) (rest := [.int x_254]) F (c_m_isOpen l g D o S_319 1 (by decide +kernel) x_25 (by omega) I_319 H.size) (cwV 2 hts (bw_V wB_1092 wB_1093 wB_1094 wB_297 wB_1091) rfl rfl rfl (by decide +kernel) ⟨Nat.le_of_ble_eq_true rfl, Nat.le_of_ble_eq_true rfl⟩) (dg_preV sM_0 rfl K ST hP hS hA1 hA) rfl rfl hl.1 rfl (lv_room (Nat.le_of_ble_eq_true rfl)) dX12_odds_154 ⟨Nat.le_of_ble_eq_true rfl, Nat.le_of_ble_eq_true rfl⟩) (fun x_325 S_326 hw_326 H locs hP hS => ?_)
                  rw [hw_326.1] at hP
                  obtain ⟨hq_326, w_326_0, -⟩ := hw_326
                  have w_326_0 : 0 ≤ (x_325).toInt ∧ (x_325).toInt ≤ 1 := w_326_0
                  have J_332 : ∀ (x_330 : Int32), (0 ≤ (x_330).toInt ∧ (x_330).toInt ≤ 9999) → ∀ (H : Heap) (locs : List Loc), va_P D vwCl (dg_w g shM o rfM S_319) H → va_S A s.heap H locs → ∀ ls : Array Slot, lv_has ls 7 [(6, .int x_253), (5, .int x_254), (4, .int x_25), (3, .int x_7), (0, .ref (o + 0)), (1, .int a1), (2, .int a2)] → W p l e ({ frames := 9, cells := 0, slots := 0, locals := 217 } : Room) s m args below meth c H locs 0 0 (MQ below (va_Qi (fun (r : Int32) S' => CM o S' ∧ dg_sm shM [] [29, 30, 31, 32, 33, 34, 35, 36, 37, 38, 39, 40, 41, 42, 43, 44] S S' ∧ ZSM S' ∧ True) (dg_B g D shM o rfM) A) args s 0 0 A) (F0 m 173 ls [.int x_330, .int x_254]) := by
                    intro x_330 b_x_330 H locs hP hS ls hl
                    refine lv_iadd hx hb dX12_odds_173 ?_
                    refine lv_topi (fun x_333 ex_333 => ?_)
                    refine lv_istore (lv' := [(5, .int x_333), (6, .int x_253), (4, .int x_25), (3, .int x_7), (0, .ref (o + 0)), (1, .int a1), (2, .int a2)]) hx hb dX12_odds_174 hl (by decide) rfl (fun ls hl => ?_)
                    exact J_297 x_333  S_319 I_319 M_319 w_319_2 _ _ hP hS _ (lv_sub hl [0, 1, 2, 3, 4, 5, 6] rfl)
                  refine lv_if_eq (tgt := 172) hx hb dX12_odds_157 (by decide) (fun c_334 => ?_) (fun c_334 => ?_)
                  · have jc_334 := dk_eqc (k := 0) (by decide +kernel) c_334
                    refine lv_iconst (v := 0) hx hb dX12_odds_172 (by decide +kernel) ?_
                    have hz_335 : (0 : Int32).toInt = 0 := by decide +kernel
                    exact J_332 0 (by decide +kernel) _ _ hP hS _ (lv_sub hl [0, 1, 2, 3, 4, 5, 6] rfl)
                  · have jc_334 := dk_neqc (k := 0) (by decide +kernel) c_334
                    refine lv_aload_n hx hb dX12_odds_160 rfl (lv_at hl 4 rfl) ?_
                    refine dg_get (C := RX12) (T := TX12) (N := 77) hx hb hts (fun w h => bw_mem (wU_X12 w h)) hown K hP sM_0 rfl 18 (by decide) (hts _ (bw_mem wB_475)) (fun _ h9 => h9) (v := .ref (o + 6)) (show S_319.1 0 18 = .ref (o + 6) from dg_I.rel (d := 6) I_319 sM_0 (by decide +kernel)) dX12_odds_161 ?_
                    refine lv_aload_n hx hb dX12_odds_164 rfl (lv_at hl 4 rfl) ?_
                    refine dg_get (C := RX12) (T := TX12) (N := 77) hx hb hts (fun w h => bw_mem (wU_X12 w h)) hown K hP sM_0 rfl 13 (by decide) (hts _ (bw_mem wB_1085)) (fun _ h9 => h9) (v := .int x_1) (((m_319.1 0 13 _ sM_0 (by decide)).trans ((m_316.1 0 13 _ sM_0 (by decide)).trans ((m_305.1 0 13 _ sM_0 (by decide)).trans (M_255.1 0 13 _ sM_0 (by decide))))).trans f_x_1) dX12_odds_165 ?_
                    have hin_336 : vp_in x_1 2 := (dk_inv (by omega) (by omega))
                    refine dg_iald hx hb K hP sM_6 hin_336 dX12_odds_168 (fun x_337 ex_337 => ?_)
                    have b_x_337 := dk_all_at (dg_I.row (lo := 0) (hi := 9999) I_319 sM_6 (by decide +kernel)) hin_336 ex_337
                    refine lv_goto (tgt := 173) hx hb dX12_odds_169 (by decide) ?_
                    exact J_332 x_337 (by omega) _ _ hP hS _ (lv_sub hl [0, 1, 2, 3, 4, 5, 6] rfl)
                · have jc_299 := dk_eqc (k := 0) (by decide +kernel) c_299
                  refine lv_goto (tgt := 176) hx hb dX12_odds_125 (by decide) ?_
                  exact J_297 x_254  S_255 I_255 M_255 ZS_255 _ _ hP hS _ (lv_sub hl [1, 0, 2, 3, 4, 5, 6] rfl)
          have hz_338 : (0 : Int32).toInt = 0 := by decide +kernel
          have hz_339 : (0 : Int32).toInt = 0 := by decide +kernel
          have hz_340 : (0 : Int32).toInt = 0 := by decide +kernel
          exact L_256 ((65 - ((0 : Int32)).toInt).toNat + 1) 0 0 (by decide +kernel) (by omega) S_39 I_39 M_39 w_39_2 _ _ hP hS _ (lv_sub hl [0, 1, 2, 3, 4, 5, 6] rfl)
        · have jc_47 := dk_neqc (k := 0) (by decide +kernel) c_47
          refine lv_bipush (v := 100) hx hb dX12_odds_86 (by decide +kernel) ?_
          refine lv_aload_n hx hb dX12_odds_88 rfl (lv_at hl 2 rfl) ?_
          refine dg_get (C := RX12) (T := TX12) (N := 77) hx hb hts (fun w h => bw_mem (wU_X12 w h)) hown K hP sM_0 rfl 18 (by decide) (hts _ (bw_mem wB_475)) (fun _ h9 => h9) (v := .ref (o + 6)) (show S_39.1 0 18 = .ref (o + 6) from dg_I.rel (d := 6) I_39 sM_0 (by decide +kernel)) dX12_odds_89 ?_
          refine lv_aload_n hx hb dX12_odds_92 rfl (lv_at hl 2 rfl) ?_
          refine dg_get (C := RX12) (T := TX12) (N := 77) hx hb hts (fun w h => bw_mem (wU_X12 w h)) hown K hP sM_0 rfl 13 (by decide) (hts _ (bw_mem wB_1085)) (fun _ h9 => h9) (v := .int x_1) (((m_39.1 0 13 _ sM_0 (by decide)).trans (m_28.1 0 13 _ sM_0 (by decide))).trans f_x_1) dX12_odds_93 ?_
          have hin_341 : vp_in x_1 2 := (dk_inv (by omega) (by omega))
          refine dg_iald hx hb K hP sM_6 hin_341 dX12_odds_96 (fun x_342 ex_342 => ?_)
          have b_x_342 := dk_all_at (dg_I.row (lo := 0) (hi := 9999) I_39 sM_6 (by decide +kernel)) hin_341 ex_342
          refine lv_isub hx hb dX12_odds_97 ?_
          refine lv_topi (fun x_343 ex_343 => ?_)
          have jx_343 : (x_343).toInt = 100 - (x_342).toInt := by rw [ex_343]; exact dk_subT (by decide +kernel) rfl (by omega) (by omega)
          refine lv_iload_n hx hb dX12_odds_98 rfl (lv_at hl 1 rfl) ?_
          refine lv_imul hx hb dX12_odds_99 ?_
          refine lv_topi (fun x_344 ex_344 => ?_)
          refine lv_goto (tgt := 104) hx hb dX12_odds_100 (by decide) ?_
          refine lv_istore (lv' := [(5, .int x_344), (4, .int x_25), (3, .int x_7), (0, .ref (o + 0)), (1, .int a1), (2, .int a2)]) hx hb dX12_odds_104 hl (by decide) rfl (fun ls hl => ?_)
          refine lv_iconst (v := 0) hx hb dX12_odds_106 (by decide +kernel) ?_
          refine lv_istore (lv' := [(6, .int 0), (5, .int x_344), (4, .int x_25), (3, .int x_7), (0, .ref (o + 0)), (1, .int a1), (2, .int a2)]) hx hb dX12_odds_107 hl (by decide) rfl (fun ls hl => ?_)
          have L_554 : ∀ (n : Nat) (x_551 : Int32) (x_552 : Int32), (0 ≤ (x_551).toInt ∧ (x_551).toInt ≤ 64) → ((65 - (x_551).toInt).toNat < n) → ∀ S_553 : dg_S, CM o S_553 → dg_sm shM [] [29, 30, 31, 32, 33, 34, 35, 36, 37, 38, 39, 40, 41, 42, 43, 44] S S_553 → ZSM S_553 → ∀ (H : Heap) (locs : List Loc), va_P D vwCl (dg_w g shM o rfM S_553) H → va_S A s.heap H locs → ∀ ls : Array Slot, lv_has ls 7 [(6, .int x_551), (5, .int x_552), (4, .int x_25), (3, .int x_7), (0, .ref (o + 0)), (1, .int a1), (2, .int a2)] → W p l e ({ frames := 9, cells := 0, slots := 0, locals := 217 } : Room) s m args below meth c H locs 0 0 (MQ below (va_Qi (fun (r : Int32) S' => CM o S' ∧ dg_sm shM [] [29, 30, 31, 32, 33, 34, 35, 36, 37, 38, 39, 40, 41, 42, 43, 44] S S' ∧ ZSM S' ∧ True) (dg_B g D shM o rfM) A) args s 0 0 A) (F0 m 109 ls []) := by
            intro n
            induction n with
            | zero =>
              intro x_551 x_552 b_x_551 hmu S_553 I_553 M_553 ZS_553 H locs hP hS ls hl
              omega
            | succ n ih =>
              intro x_551 x_552 b_x_551 hmu S_553 I_553 M_553 ZS_553 H locs hP hS ls hl
              refine lv_iload hx hb dX12_odds_109 (lv_at hl 0 rfl) ?_
              refine lv_bipush (v := 64) hx hb dX12_odds_111 (by decide +kernel) ?_
              refine lv_icmp_ge (tgt := 182) hx hb dX12_odds_113 (by decide) (fun c_555 => ?_) (fun c_555 => ?_)
              · have jc_555 := dk_gec (k := 64) (by decide +kernel) c_555
                refine lv_iload hx hb dX12_odds_182 (lv_at hl 1 rfl) ?_
                refine W.widen (k := 0) (n := 0) (Nat.le_of_ble_eq_true rfl) (Nat.le_of_ble_eq_true rfl) ?_
                exact dg_iret hx hb hr hlocks rfl hP hS ⟨I_553, M_553, ZS_553, trivial⟩ dX12_odds_184
              · have jc_555 := dk_ngec (k := 64) (by decide +kernel) c_555
                refine lv_aload_n hx hb dX12_odds_116 rfl (lv_at hl 4 rfl) ?_
                refine lv_iload hx hb dX12_odds_117 (lv_at hl 0 rfl) ?_
                refine dg_calli hS hA1 hA (va_runV (As := [.int x_551]) (rest := []) F (c_m_isCellOf l g D o S_553 x_551 (by omega) x_1 ((M_553.1 0 13 _ sM_0 (by decide)).trans f_x_1) (by omega) x_4 ((M_553.1 0 47 _ sM_0 (by decide)).trans f_x_4) (by omega) x_3 ((congrFun (M_553.2 2 _ sM_2 (by decide)).1 _).trans ex_3.symm) (by omega) x_6 ((congrFun (M_553.2 3 _ sM_3 (by decide)).1 _).trans ex_6.symm) (by omega) (ZBM.keep ZB M_553 (by decide) (by decide) (by decide) (by decide) (by decide)) I_553 H.size) (cwV 1 hts (bw_V wB_1123 wB_1124 wB_1125 wB_297 wB_1122) rfl rfl rfl (by decide +kernel) ⟨Nat.le_of_ble_eq_true rfl, Nat.le_of_ble_eq_true rfl⟩) (dg_preV sM_0 rfl K ST hP hS hA1 hA) rfl rfl hl.1 rfl (lv_room (Nat.le_of_ble_eq_true rfl)) dX12_odds_119 ⟨Nat.le_of_ble_eq_true rfl, Nat.le_of_ble_eq_true rfl⟩) (fun x_556 S_557 hw_557 H locs hP hS => ?_)
                rw [hw_557.1] at hP
                obtain ⟨hq_557, w_557_0, w_557_1, w_557_2, -⟩ := hw_557
                have w_557_0 : 0 ≤ (x_556).toInt ∧ (x_556).toInt ≤ 1 := w_557_0
                have w_557_1 : (x_556).toInt = 1 → 0 ≤ (x_551).toInt := w_557_1
                have w_557_2 : (x_556).toInt = 1 ↔ ((x_4).toInt = 1 ∧ 0 ≤ (x_551).toInt ∧ (x_551).toInt % 8 < (x_3).toInt ∧ (x_551).toInt / 8 < (x_6).toInt) := w_557_2
                have J_595 : ∀ (x_591 : Int32), ∀ S_594 : dg_S, CM o S_594 → dg_sm shM [] [29, 30, 31, 32, 33, 34, 35, 36, 37, 38, 39, 40, 41, 42, 43, 44] S S_594 → ZSM S_594 → ∀ (H : Heap) (locs : List Loc), va_P D vwCl (dg_w g shM o rfM S_594) H → va_S A s.heap H locs → ∀ ls : Array Slot, lv_has ls 7 [(5, .int x_591), (6, .int x_551), (4, .int x_25), (3, .int x_7), (0, .ref (o + 0)), (1, .int a1), (2, .int a2)] → W p l e ({ frames := 9, cells := 0, slots := 0, locals := 217 } : Room) s m args below meth c H locs 0 0 (MQ below (va_Qi (fun (r : Int32) S' => CM o S' ∧ dg_sm shM [] [29, 30, 31, 32, 33, 34, 35, 36, 37, 38, 39, 40, 41, 42, 43, 44] S S' ∧ ZSM S' ∧ True) (dg_B g D shM o rfM) A) args s 0 0 A) (F0 m 176 ls []) := by
                  intro x_591 S_594 I_594 M_594 ZS_594 H locs hP hS ls hl
                  obtain ⟨x_596, ex_596⟩ : ∃ z, z = x_551 + 1 := ⟨_, rfl⟩
                  have jx_596 : (x_596).toInt = (x_551).toInt + 1 := by rw [ex_596]; exact dk_addT rfl (by decide +kernel) (by omega) (by omega)
                  refine lv_iinc (v := x_596) (lv' := [(6, .int x_596), (5, .int x_591), (4, .int x_25), (3, .int x_7), (0, .ref (o + 0)), (1, .int a1), (2, .int a2)]) hx hb dX12_odds_176 hl (k := 1) rfl (by rw [ex_596]; rfl) (by decide) rfl (fun ls hl => ?_)
                  refine lv_goto (tgt := 109) hx hb dX12_odds_179 (by decide) ?_
                  exact ih x_596 x_591 (by omega) (by omega) S_594 I_594 M_594 ZS_594 _ _ hP hS _ (lv_sub hl [0, 1, 2, 3, 4, 5, 6] rfl)
                refine lv_if_ne (tgt := 128) hx hb dX12_odds_122 (by decide) (fun c_597 => ?_) (fun c_597 => ?_)
                · have jc_597 := dk_neqc (k := 0) (by decide +kernel) c_597
                  refine lv_aload_n hx hb dX12_odds_128 rfl (lv_at hl 4 rfl) ?_
                  refine lv_iconst (v := 1) hx hb dX12_odds_129 (by decide +kernel) ?_
                  refine lv_iconst (v := 0) hx hb dX12_odds_130 (by decide +kernel) ?_
                  have hz_598 : (1 : Int32).toInt = 1 := by decide +kernel
                  have hz_599 : (0 : Int32).toInt = 0 := by decide +kernel
                  obtain ⟨x_600, f_x_600⟩ : ∃ x, S_553.2.1 29 (0 : Int32).toNatClampNeg = x := ⟨_, rfl⟩
                  have hin_601 : vp_in (0 : Int32) 22 := (dk_in (by decide +kernel))
                  have b_x_600 := dk_all_at (dg_I.row (lo := 0) (hi := 2000) I_553 sM_29 (by decide +kernel)) hin_601 f_x_600.symm
                  have ex_600 := f_x_600.symm
                  have hz_602 : (0 : Int32).toInt = 0 := by decide +kernel
                  have zs_x_600 : (0 : Int32).toInt ≠ 1 → (x_600).toInt ≤ 999 := fun h => by rw [ex_600]; exact ZS_553 _ (dk_inT hin_601).2 (fun q => by have h9 := (dk_inT hin_601).1; omega)
                  refine dg_callv hS hA1 hA (va_runV (As := [.int 1, .int 0]) (rest := []) F (c_m_copies l g D o S_553 1 (by decide +kernel) 0 (by decide +kernel) x_600 f_x_600 (by omega) x_600 f_x_600 (by omega) (by omega) ZS_553 I_553 H.size) (cwV 2 hts (bw_V wB_1227 wB_1228 wB_1229 wB_297 wB_1226) rfl rfl rfl (by decide +kernel) ⟨Nat.le_of_ble_eq_true rfl, Nat.le_of_ble_eq_true rfl⟩) (dg_preV sM_0 rfl K ST hP hS hA1 hA) rfl rfl hl.1 rfl (lv_room (Nat.le_of_ble_eq_true rfl)) dX12_odds_131 ⟨Nat.le_of_ble_eq_true rfl, Nat.le_of_ble_eq_true rfl⟩) (fun S_603 hw_603 H locs hP hS => ?_)
                  obtain ⟨I_603, m_603, w_603_0, w_603_1, w_603_2, -⟩ := hw_603
                  have M_603 := dg_sm.tr M_553 m_603 (by decide) (by decide)
                  have hz_604 : (1 : Int32).toInt = 1 := by decide +kernel
                  have hz_605 : (0 : Int32).toInt = 0 := by decide +kernel
                  obtain ⟨x_606, f_x_606⟩ : ∃ x, S_603.2.1 29 (1 : Int32).toNatClampNeg = x := ⟨_, rfl⟩
                  have hin_607 : vp_in (1 : Int32) 22 := (dk_in (by decide +kernel))
                  have b_x_606 := dk_all_at (dg_I.row (lo := 0) (hi := 2000) I_603 sM_29 (by decide +kernel)) hin_607 f_x_606.symm
                  have ex_606 := f_x_606.symm
                  have hz_608 : (1 : Int32).toInt = 1 := by decide +kernel
                  have zs_x_606 : (1 : Int32).toInt ≠ 1 → (x_606).toInt ≤ 999 := fun h => by rw [ex_606]; exact w_603_2 _ (dk_inT hin_607).2 (fun q => by have h9 := (dk_inT hin_607).1; omega)
                  have w_603_0 : (x_606).toInt = (x_600).toInt := w_603_0 x_606 f_x_606
                  obtain ⟨x_609, f_x_609⟩ : ∃ x, S_603.2.1 29 (0 : Int32).toNatClampNeg = x := ⟨_, rfl⟩
                  have hin_610 : vp_in (0 : Int32) 22 := (dk_in (by decide +kernel))
                  have b_x_609 := dk_all_at (dg_I.row (lo := 0) (hi := 2000) I_603 sM_29 (by decide +kernel)) hin_610 f_x_609.symm
                  have ex_609 := f_x_609.symm
                  have hz_611 : (0 : Int32).toInt = 0 := by decide +kernel
                  have zs_x_609 : (0 : Int32).toInt ≠ 1 → (x_609).toInt ≤ 999 := fun h => by rw [ex_609]; exact w_603_2 _ (dk_inT hin_610).2 (fun q => by have h9 := (dk_inT hin_610).1; omega)
                  have w_603_1 : ((1 : Int32)).toInt ≠ 0 → (x_609).toInt = (x_600).toInt := w_603_1 x_609 f_x_609
                  refine lv_aload_n hx hb dX12_odds_134 rfl (lv_at hl 4 rfl) ?_
                  refine lv_iconst (v := 1) hx hb dX12_odds_135 (by decide +kernel) ?_
                  refine lv_iload hx hb dX12_odds_136 (lv_at hl 0 rfl) ?_
                  have hz_612 : (1 : Int32).toInt = 1 := by decide +kernel
                  refine dg_calli hS hA1 hA (va_runV (As := [.int 1, .int x_551]) (rest := []) F (c_m_isSolidBy l g D o S_603 1 (by decide +kernel) x_551 (by omega) I_603 H.size) (cwV 2 hts (bw_V wB_1264 wB_1265 wB_1266 wB_297 wB_1263) rfl rfl rfl (by decide +kernel) ⟨Nat.le_of_ble_eq_true rfl, Nat.le_of_ble_eq_true rfl⟩) (dg_preV sM_0 rfl K ST hP hS hA1 hA) rfl rfl hl.1 rfl (lv_room (Nat.le_of_ble_eq_true rfl)) dX12_odds_138 ⟨Nat.le_of_ble_eq_true rfl, Nat.le_of_ble_eq_true rfl⟩) (fun x_613 S_614 hw_614 H locs hP hS => ?_)
                  obtain ⟨I_614, m_614, w_614_0, -⟩ := hw_614
                  have M_614 := dg_sm.tr M_603 m_614 (by decide) (by decide)
                  have w_614_0 : 0 ≤ (x_613).toInt ∧ (x_613).toInt ≤ 1 := w_614_0
                  refine lv_pop hx hb dX12_odds_141 rfl ?_
                  refine lv_aload_n hx hb dX12_odds_142 rfl (lv_at hl 4 rfl) ?_
                  refine lv_iconst (v := 1) hx hb dX12_odds_143 (by decide +kernel) ?_
                  have hz_615 : (1 : Int32).toInt = 1 := by decide +kernel
                  refine dg_calli hS hA1 hA (va_runV (As := [.int 1]) (rest := []) F (c_m_ticks l g D o S_614 1 (by decide +kernel) x_606 ((congrFun (m_614.2 29 _ sM_29 (by decide)).1 _).trans f_x_606) (by omega) (by omega) (ZBM.keep (ZBM.keep (ZBM.keep ZB M_553 (by decide) (by decide) (by decide) (by decide) (by decide)) m_603 (by decide) (by decide) (by decide) (by decide) (by decide)) m_614 (by decide) (by decide) (by decide) (by decide) (by decide)) (ZSM.keep w_603_2 m_614 (by decide)) (ZWM.keep (ZWM.keep (ZWM.keep ZW M_553 (by decide) (by decide) (by decide) (by decide)) m_603 (by decide) (by decide) (by decide) (by decide)) m_614 (by decide) (by decide) (by decide) (by decide)) I_614 H.size) (cwV 1 hts (bw_V wB_1231 wB_1232 wB_1233 wB_297 wB_1230) rfl rfl rfl (by decide +kernel) ⟨Nat.le_of_ble_eq_true rfl, Nat.le_of_ble_eq_true rfl⟩) (dg_preV sM_0 rfl K ST hP hS hA1 hA) rfl rfl hl.1 rfl (lv_room (Nat.le_of_ble_eq_true rfl)) dX12_odds_144 ⟨Nat.le_of_ble_eq_true rfl, Nat.le_of_ble_eq_true rfl⟩) (fun x_616 S_617 hw_617 H locs hP hS => ?_)
                  obtain ⟨I_617, m_617, w_617_0, w_617_1, w_617_2, -⟩ := hw_617
                  have M_617 := dg_sm.tr M_614 m_617 (by decide) (by decide)
                  have hz_618 : (1 : Int32).toInt = 1 := by decide +kernel
                  have w_617_0 : 0 ≤ (x_616).toInt ∧ (x_616).toInt ≤ 1 := w_617_0
                  obtain ⟨x_619, f_x_619⟩ : ∃ x, S_617.2.1 29 (1 : Int32).toNatClampNeg = x := ⟨_, rfl⟩
                  have hin_620 : vp_in (1 : Int32) 22 := (dk_in (by decide +kernel))
                  have b_x_619 := dk_all_at (dg_I.row (lo := 0) (hi := 2000) I_617 sM_29 (by decide +kernel)) hin_620 f_x_619.symm
                  have ex_619 := f_x_619.symm
                  have hz_621 : (1 : Int32).toInt = 1 := by decide +kernel
                  have zs_x_619 : (1 : Int32).toInt ≠ 1 → (x_619).toInt ≤ 999 := fun h => by rw [ex_619]; exact w_617_2 _ (dk_inT hin_620).2 (fun q => by have h9 := (dk_inT hin_620).1; omega)
                  have w_617_1 : (x_619).toInt = (x_606).toInt + 1 := w_617_1 x_619 f_x_619
                  refine lv_pop hx hb dX12_odds_147 rfl ?_
                  refine lv_iload hx hb dX12_odds_148 (lv_at hl 1 rfl) ?_
                  refine lv_aload_n hx hb dX12_odds_150 rfl (lv_at hl 4 rfl) ?_
                  refine lv_iconst (v := 1) hx hb dX12_odds_151 (by decide +kernel) ?_
                  refine lv_iload hx hb dX12_odds_152 (lv_at hl 2 rfl) ?_
                  have hz_622 : (1 : Int32).toInt = 1 := by decide +kernel
                  refine dg_calli hS hA1 hA (va_runV (As := [.int 1, .int x_25]) (rest := [.int x_552]) F (c_m_isOpen l g D o S_617 1 (by decide +kernel) x_25 (by omega) I_617 H.size) (cwV 2 hts (bw_V wB_1092 wB_1093 wB_1094 wB_297 wB_1091) rfl rfl rfl (by decide +kernel) ⟨Nat.le_of_ble_eq_true rfl, Nat.le_of_ble_eq_true rfl⟩) (dg_preV sM_0 rfl K ST hP hS hA1 hA) rfl rfl hl.1 rfl (lv_room (Nat.le_of_ble_eq_true rfl)) dX12_odds_154 ⟨Nat.le_of_ble_eq_true rfl, Nat.le_of_ble_eq_true rfl⟩) (fun x_623 S_624 hw_624 H locs hP hS => ?_)
                  rw [hw_624.1] at hP
                  obtain ⟨hq_624, w_624_0, -⟩ := hw_624
                  have w_624_0 : 0 ≤ (x_623).toInt ∧ (x_623).toInt ≤ 1 := w_624_0
                  have J_630 : ∀ (x_628 : Int32), (0 ≤ (x_628).toInt ∧ (x_628).toInt ≤ 9999) → ∀ (H : Heap) (locs : List Loc), va_P D vwCl (dg_w g shM o rfM S_617) H → va_S A s.heap H locs → ∀ ls : Array Slot, lv_has ls 7 [(6, .int x_551), (5, .int x_552), (4, .int x_25), (3, .int x_7), (0, .ref (o + 0)), (1, .int a1), (2, .int a2)] → W p l e ({ frames := 9, cells := 0, slots := 0, locals := 217 } : Room) s m args below meth c H locs 0 0 (MQ below (va_Qi (fun (r : Int32) S' => CM o S' ∧ dg_sm shM [] [29, 30, 31, 32, 33, 34, 35, 36, 37, 38, 39, 40, 41, 42, 43, 44] S S' ∧ ZSM S' ∧ True) (dg_B g D shM o rfM) A) args s 0 0 A) (F0 m 173 ls [.int x_628, .int x_552]) := by
                    intro x_628 b_x_628 H locs hP hS ls hl
                    refine lv_iadd hx hb dX12_odds_173 ?_
                    refine lv_topi (fun x_631 ex_631 => ?_)
                    refine lv_istore (lv' := [(5, .int x_631), (6, .int x_551), (4, .int x_25), (3, .int x_7), (0, .ref (o + 0)), (1, .int a1), (2, .int a2)]) hx hb dX12_odds_174 hl (by decide) rfl (fun ls hl => ?_)
                    exact J_595 x_631  S_617 I_617 M_617 w_617_2 _ _ hP hS _ (lv_sub hl [0, 1, 2, 3, 4, 5, 6] rfl)
                  refine lv_if_eq (tgt := 172) hx hb dX12_odds_157 (by decide) (fun c_632 => ?_) (fun c_632 => ?_)
                  · have jc_632 := dk_eqc (k := 0) (by decide +kernel) c_632
                    refine lv_iconst (v := 0) hx hb dX12_odds_172 (by decide +kernel) ?_
                    have hz_633 : (0 : Int32).toInt = 0 := by decide +kernel
                    exact J_630 0 (by decide +kernel) _ _ hP hS _ (lv_sub hl [0, 1, 2, 3, 4, 5, 6] rfl)
                  · have jc_632 := dk_neqc (k := 0) (by decide +kernel) c_632
                    refine lv_aload_n hx hb dX12_odds_160 rfl (lv_at hl 4 rfl) ?_
                    refine dg_get (C := RX12) (T := TX12) (N := 77) hx hb hts (fun w h => bw_mem (wU_X12 w h)) hown K hP sM_0 rfl 18 (by decide) (hts _ (bw_mem wB_475)) (fun _ h9 => h9) (v := .ref (o + 6)) (show S_617.1 0 18 = .ref (o + 6) from dg_I.rel (d := 6) I_617 sM_0 (by decide +kernel)) dX12_odds_161 ?_
                    refine lv_aload_n hx hb dX12_odds_164 rfl (lv_at hl 4 rfl) ?_
                    refine dg_get (C := RX12) (T := TX12) (N := 77) hx hb hts (fun w h => bw_mem (wU_X12 w h)) hown K hP sM_0 rfl 13 (by decide) (hts _ (bw_mem wB_1085)) (fun _ h9 => h9) (v := .int x_1) (((m_617.1 0 13 _ sM_0 (by decide)).trans ((m_614.1 0 13 _ sM_0 (by decide)).trans ((m_603.1 0 13 _ sM_0 (by decide)).trans (M_553.1 0 13 _ sM_0 (by decide))))).trans f_x_1) dX12_odds_165 ?_
                    have hin_634 : vp_in x_1 2 := (dk_inv (by omega) (by omega))
                    refine dg_iald hx hb K hP sM_6 hin_634 dX12_odds_168 (fun x_635 ex_635 => ?_)
                    have b_x_635 := dk_all_at (dg_I.row (lo := 0) (hi := 9999) I_617 sM_6 (by decide +kernel)) hin_634 ex_635
                    refine lv_goto (tgt := 173) hx hb dX12_odds_169 (by decide) ?_
                    exact J_630 x_635 (by omega) _ _ hP hS _ (lv_sub hl [0, 1, 2, 3, 4, 5, 6] rfl)
                · have jc_597 := dk_eqc (k := 0) (by decide +kernel) c_597
                  refine lv_goto (tgt := 176) hx hb dX12_odds_125 (by decide) ?_
                  exact J_595 x_552  S_553 I_553 M_553 ZS_553 _ _ hP hS _ (lv_sub hl [1, 0, 2, 3, 4, 5, 6] rfl)
          have hz_636 : (0 : Int32).toInt = 0 := by decide +kernel
          have hz_637 : (0 : Int32).toInt = 0 := by decide +kernel
          exact L_554 ((65 - ((0 : Int32)).toInt).toNat + 1) 0 x_344 (by decide +kernel) (by omega) S_39 I_39 M_39 w_39_2 _ _ hP hS _ (lv_sub hl [0, 1, 2, 3, 4, 5, 6] rfl)
      · have jc_23 := dk_eqc (k := 0) (by decide +kernel) c_23
        refine lv_iconst (v := (-1)) hx hb dX12_odds_44 (by decide +kernel) ?_
        refine W.widen (k := 0) (n := 0) (Nat.le_of_ble_eq_true rfl) (Nat.le_of_ble_eq_true rfl) ?_
        exact dg_iret hx hb hr hlocks rfl hP hS ⟨I, M_0, ZS, trivial⟩ dX12_odds_45
