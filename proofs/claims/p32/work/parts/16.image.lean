/-! 16.image.lean.txt -/
theorem dX4_write_0 : decode cX4_write 0 = .ok (.aload_n 0, 1) := by decide +kernel
theorem dX4_write_1 : decode cX4_write 1 = .ok (.iconst 0, 1) := by decide +kernel
theorem dX4_write_2 : decode cX4_write 2 = .ok (.putfield 19, 3) := by decide +kernel
theorem dX4_write_5 : decode cX4_write 5 = .ok (.aload_n 0, 1) := by decide +kernel
theorem dX4_write_6 : decode cX4_write 6 = .ok (.sipush 233, 3) := by decide +kernel
theorem dX4_write_9 : decode cX4_write 9 = .ok (.putfield 23, 3) := by decide +kernel
theorem dX4_write_12 : decode cX4_write 12 = .ok (.aload_n 0, 1) := by decide +kernel
theorem dX4_write_13 : decode cX4_write 13 = .ok (.aload_n 2, 1) := by decide +kernel
theorem dX4_write_14 : decode cX4_write 14 = .ok (.getfield 26, 3) := by decide +kernel
theorem dX4_write_17 : decode cX4_write 17 = .ok (.bipush 8, 2) := by decide +kernel
theorem dX4_write_19 : decode cX4_write 19 = .ok (.ishr, 1) := by decide +kernel
theorem dX4_write_20 : decode cX4_write 20 = .ok (.invokevirtual 31, 3) := by decide +kernel
theorem dX4_write_23 : decode cX4_write 23 = .ok (.aload_n 0, 1) := by decide +kernel
theorem dX4_write_24 : decode cX4_write 24 = .ok (.aload_n 2, 1) := by decide +kernel
theorem dX4_write_25 : decode cX4_write 25 = .ok (.getfield 26, 3) := by decide +kernel
theorem dX4_write_28 : decode cX4_write 28 = .ok (.sipush 255, 3) := by decide +kernel
theorem dX4_write_31 : decode cX4_write 31 = .ok (.iand, 1) := by decide +kernel
theorem dX4_write_32 : decode cX4_write 32 = .ok (.invokevirtual 31, 3) := by decide +kernel
theorem dX4_write_35 : decode cX4_write 35 = .ok (.aload_n 0, 1) := by decide +kernel
theorem dX4_write_36 : decode cX4_write 36 = .ok (.aload_n 2, 1) := by decide +kernel
theorem dX4_write_37 : decode cX4_write 37 = .ok (.getfield 35, 3) := by decide +kernel
theorem dX4_write_40 : decode cX4_write 40 = .ok (.bipush 16, 2) := by decide +kernel
theorem dX4_write_42 : decode cX4_write 42 = .ok (.ishr, 1) := by decide +kernel
theorem dX4_write_43 : decode cX4_write 43 = .ok (.invokevirtual 31, 3) := by decide +kernel
theorem dX4_write_46 : decode cX4_write 46 = .ok (.aload_n 0, 1) := by decide +kernel
theorem dX4_write_47 : decode cX4_write 47 = .ok (.aload_n 2, 1) := by decide +kernel
theorem dX4_write_48 : decode cX4_write 48 = .ok (.getfield 35, 3) := by decide +kernel
theorem dX4_write_51 : decode cX4_write 51 = .ok (.bipush 8, 2) := by decide +kernel
theorem dX4_write_53 : decode cX4_write 53 = .ok (.ishr, 1) := by decide +kernel
theorem dX4_write_54 : decode cX4_write 54 = .ok (.sipush 255, 3) := by decide +kernel
theorem dX4_write_57 : decode cX4_write 57 = .ok (.iand, 1) := by decide +kernel
theorem dX4_write_58 : decode cX4_write 58 = .ok (.invokevirtual 31, 3) := by decide +kernel
theorem dX4_write_61 : decode cX4_write 61 = .ok (.aload_n 0, 1) := by decide +kernel
theorem dX4_write_62 : decode cX4_write 62 = .ok (.aload_n 2, 1) := by decide +kernel
theorem dX4_write_63 : decode cX4_write 63 = .ok (.getfield 35, 3) := by decide +kernel
theorem dX4_write_66 : decode cX4_write 66 = .ok (.sipush 255, 3) := by decide +kernel
theorem dX4_write_69 : decode cX4_write 69 = .ok (.iand, 1) := by decide +kernel
theorem dX4_write_70 : decode cX4_write 70 = .ok (.invokevirtual 31, 3) := by decide +kernel
theorem dX4_write_73 : decode cX4_write 73 = .ok (.iconst 0, 1) := by decide +kernel
theorem dX4_write_74 : decode cX4_write 74 = .ok (.istore_n 3, 1) := by decide +kernel
theorem dX4_write_75 : decode cX4_write 75 = .ok (.iload_n 3, 1) := by decide +kernel
theorem dX4_write_76 : decode cX4_write 76 = .ok (.aload_n 1, 1) := by decide +kernel
theorem dX4_write_77 : decode cX4_write 77 = .ok (.getfield 38, 3) := by decide +kernel
theorem dX4_write_80 : decode cX4_write 80 = .ok (.if_icmp .ge 28, 3) := by decide +kernel
theorem dX4_write_83 : decode cX4_write 83 = .ok (.aload_n 0, 1) := by decide +kernel
theorem dX4_write_84 : decode cX4_write 84 = .ok (.aload_n 2, 1) := by decide +kernel
theorem dX4_write_85 : decode cX4_write 85 = .ok (.getfield 43, 3) := by decide +kernel
theorem dX4_write_88 : decode cX4_write 88 = .ok (.bipush 8, 2) := by decide +kernel
theorem dX4_write_90 : decode cX4_write 90 = .ok (.iload_n 3, 1) := by decide +kernel
theorem dX4_write_91 : decode cX4_write 91 = .ok (.imul, 1) := by decide +kernel
theorem dX4_write_92 : decode cX4_write 92 = .ok (.bipush 8, 2) := by decide +kernel
theorem dX4_write_94 : decode cX4_write 94 = .ok (.iadd, 1) := by decide +kernel
theorem dX4_write_95 : decode cX4_write 95 = .ok (.aload_n 1, 1) := by decide +kernel
theorem dX4_write_96 : decode cX4_write 96 = .ok (.getfield 46, 3) := by decide +kernel
theorem dX4_write_99 : decode cX4_write 99 = .ok (.invokevirtual 49, 3) := by decide +kernel
theorem dX4_write_102 : decode cX4_write 102 = .ok (.iinc 3 1, 3) := by decide +kernel
theorem dX4_write_105 : decode cX4_write 105 = .ok (.goto (-30), 3) := by decide +kernel
theorem dX4_write_108 : decode cX4_write 108 = .ok (.aload_n 0, 1) := by decide +kernel
theorem dX4_write_109 : decode cX4_write 109 = .ok (.aload_n 2, 1) := by decide +kernel
theorem dX4_write_110 : decode cX4_write 110 = .ok (.getfield 53, 3) := by decide +kernel
theorem dX4_write_113 : decode cX4_write 113 = .ok (.iconst 0, 1) := by decide +kernel
theorem dX4_write_114 : decode cX4_write 114 = .ok (.aload_n 1, 1) := by decide +kernel
theorem dX4_write_115 : decode cX4_write 115 = .ok (.getfield 56, 3) := by decide +kernel
theorem dX4_write_118 : decode cX4_write 118 = .ok (.invokevirtual 49, 3) := by decide +kernel
theorem dX4_write_121 : decode cX4_write 121 = .ok (.iconst 0, 1) := by decide +kernel
theorem dX4_write_122 : decode cX4_write 122 = .ok (.istore_n 3, 1) := by decide +kernel
theorem dX4_write_123 : decode cX4_write 123 = .ok (.iload_n 3, 1) := by decide +kernel
theorem dX4_write_124 : decode cX4_write 124 = .ok (.aload_n 1, 1) := by decide +kernel
theorem dX4_write_125 : decode cX4_write 125 = .ok (.getfield 59, 3) := by decide +kernel
theorem dX4_write_128 : decode cX4_write 128 = .ok (.if_icmp .ge 45, 3) := by decide +kernel
theorem dX4_write_131 : decode cX4_write 131 = .ok (.aload_n 0, 1) := by decide +kernel
theorem dX4_write_132 : decode cX4_write 132 = .ok (.aload_n 2, 1) := by decide +kernel
theorem dX4_write_133 : decode cX4_write 133 = .ok (.getfield 62, 3) := by decide +kernel
theorem dX4_write_136 : decode cX4_write 136 = .ok (.iload_n 3, 1) := by decide +kernel
theorem dX4_write_137 : decode cX4_write 137 = .ok (.iaload, 1) := by decide +kernel
theorem dX4_write_138 : decode cX4_write 138 = .ok (.invokevirtual 31, 3) := by decide +kernel
theorem dX4_write_141 : decode cX4_write 141 = .ok (.aload_n 0, 1) := by decide +kernel
theorem dX4_write_142 : decode cX4_write 142 = .ok (.aload_n 2, 1) := by decide +kernel
theorem dX4_write_143 : decode cX4_write 143 = .ok (.getfield 65, 3) := by decide +kernel
theorem dX4_write_146 : decode cX4_write 146 = .ok (.iload_n 3, 1) := by decide +kernel
theorem dX4_write_147 : decode cX4_write 147 = .ok (.iaload, 1) := by decide +kernel
theorem dX4_write_148 : decode cX4_write 148 = .ok (.invokestatic 68, 3) := by decide +kernel
theorem dX4_write_151 : decode cX4_write 151 = .ok (.invokevirtual 31, 3) := by decide +kernel
theorem dX4_write_154 : decode cX4_write 154 = .ok (.aload_n 0, 1) := by decide +kernel
theorem dX4_write_155 : decode cX4_write 155 = .ok (.aload_n 2, 1) := by decide +kernel
theorem dX4_write_156 : decode cX4_write 156 = .ok (.getfield 65, 3) := by decide +kernel
theorem dX4_write_159 : decode cX4_write 159 = .ok (.iload_n 3, 1) := by decide +kernel
theorem dX4_write_160 : decode cX4_write 160 = .ok (.iaload, 1) := by decide +kernel
theorem dX4_write_161 : decode cX4_write 161 = .ok (.invokestatic 72, 3) := by decide +kernel
theorem dX4_write_164 : decode cX4_write 164 = .ok (.invokevirtual 31, 3) := by decide +kernel
theorem dX4_write_167 : decode cX4_write 167 = .ok (.iinc 3 1, 3) := by decide +kernel
theorem dX4_write_170 : decode cX4_write 170 = .ok (.goto (-47), 3) := by decide +kernel
theorem dX4_write_173 : decode cX4_write 173 = .ok (.aload_n 0, 1) := by decide +kernel
theorem dX4_write_174 : decode cX4_write 174 = .ok (.aload_n 2, 1) := by decide +kernel
theorem dX4_write_175 : decode cX4_write 175 = .ok (.getfield 75, 3) := by decide +kernel
theorem dX4_write_178 : decode cX4_write 178 = .ok (.iconst 0, 1) := by decide +kernel
theorem dX4_write_179 : decode cX4_write 179 = .ok (.aload_n 1, 1) := by decide +kernel
theorem dX4_write_180 : decode cX4_write 180 = .ok (.getfield 78, 3) := by decide +kernel
theorem dX4_write_183 : decode cX4_write 183 = .ok (.invokevirtual 49, 3) := by decide +kernel
theorem dX4_write_186 : decode cX4_write 186 = .ok (.aload_n 0, 1) := by decide +kernel
theorem dX4_write_187 : decode cX4_write 187 = .ok (.aload_n 2, 1) := by decide +kernel
theorem dX4_write_188 : decode cX4_write 188 = .ok (.getfield 81, 3) := by decide +kernel
theorem dX4_write_191 : decode cX4_write 191 = .ok (.iconst 0, 1) := by decide +kernel
theorem dX4_write_192 : decode cX4_write 192 = .ok (.bipush 10, 2) := by decide +kernel
theorem dX4_write_194 : decode cX4_write 194 = .ok (.invokevirtual 49, 3) := by decide +kernel
theorem dX4_write_197 : decode cX4_write 197 = .ok (.aload_n 0, 1) := by decide +kernel
theorem dX4_write_198 : decode cX4_write 198 = .ok (.aload_n 0, 1) := by decide +kernel
theorem dX4_write_199 : decode cX4_write 199 = .ok (.getfield 23, 3) := by decide +kernel
theorem dX4_write_202 : decode cX4_write 202 = .ok (.invokevirtual 31, 3) := by decide +kernel
theorem dX4_write_205 : decode cX4_write 205 = .ok (.return_, 1) := by decide +kernel
theorem dX4_putAll_0 : decode cX4_putAll 0 = .ok (.iconst 0, 1) := by decide +kernel
theorem dX4_putAll_1 : decode cX4_putAll 1 = .ok (.istore 4, 2) := by decide +kernel
theorem dX4_putAll_3 : decode cX4_putAll 3 = .ok (.iload 4, 2) := by decide +kernel
theorem dX4_putAll_5 : decode cX4_putAll 5 = .ok (.iload_n 3, 1) := by decide +kernel
theorem dX4_putAll_6 : decode cX4_putAll 6 = .ok (.if_icmp .ge 19, 3) := by decide +kernel
theorem dX4_putAll_9 : decode cX4_putAll 9 = .ok (.aload_n 0, 1) := by decide +kernel
theorem dX4_putAll_10 : decode cX4_putAll 10 = .ok (.aload_n 1, 1) := by decide +kernel
theorem dX4_putAll_11 : decode cX4_putAll 11 = .ok (.iload_n 2, 1) := by decide +kernel
theorem dX4_putAll_12 : decode cX4_putAll 12 = .ok (.iload 4, 2) := by decide +kernel
theorem dX4_putAll_14 : decode cX4_putAll 14 = .ok (.iadd, 1) := by decide +kernel
theorem dX4_putAll_15 : decode cX4_putAll 15 = .ok (.iaload, 1) := by decide +kernel
theorem dX4_putAll_16 : decode cX4_putAll 16 = .ok (.invokevirtual 31, 3) := by decide +kernel
theorem dX4_putAll_19 : decode cX4_putAll 19 = .ok (.iinc 4 1, 3) := by decide +kernel
theorem dX4_putAll_22 : decode cX4_putAll 22 = .ok (.goto (-19), 3) := by decide +kernel
theorem dX4_putAll_25 : decode cX4_putAll 25 = .ok (.return_, 1) := by decide +kernel
theorem dX4_put_0 : decode cX4_put 0 = .ok (.aload_n 0, 1) := by decide +kernel
theorem dX4_put_1 : decode cX4_put 1 = .ok (.getfield 19, 3) := by decide +kernel
theorem dX4_put_4 : decode cX4_put 4 = .ok (.bipush 124, 2) := by decide +kernel
theorem dX4_put_6 : decode cX4_put 6 = .ok (.if_icmp .ge 39, 3) := by decide +kernel
theorem dX4_put_9 : decode cX4_put 9 = .ok (.aload_n 0, 1) := by decide +kernel
theorem dX4_put_10 : decode cX4_put 10 = .ok (.getfield 9, 3) := by decide +kernel
theorem dX4_put_13 : decode cX4_put 13 = .ok (.aload_n 0, 1) := by decide +kernel
theorem dX4_put_14 : decode cX4_put 14 = .ok (.getfield 19, 3) := by decide +kernel
theorem dX4_put_17 : decode cX4_put 17 = .ok (.iload_n 1, 1) := by decide +kernel
theorem dX4_put_18 : decode cX4_put 18 = .ok (.iastore, 1) := by decide +kernel
theorem dX4_put_19 : decode cX4_put 19 = .ok (.aload_n 0, 1) := by decide +kernel
theorem dX4_put_20 : decode cX4_put 20 = .ok (.dup, 1) := by decide +kernel
theorem dX4_put_21 : decode cX4_put 21 = .ok (.getfield 19, 3) := by decide +kernel
theorem dX4_put_24 : decode cX4_put 24 = .ok (.iconst 1, 1) := by decide +kernel
theorem dX4_put_25 : decode cX4_put 25 = .ok (.iadd, 1) := by decide +kernel
theorem dX4_put_26 : decode cX4_put 26 = .ok (.putfield 19, 3) := by decide +kernel
theorem dX4_put_29 : decode cX4_put 29 = .ok (.aload_n 0, 1) := by decide +kernel
theorem dX4_put_30 : decode cX4_put 30 = .ok (.iconst 5, 1) := by decide +kernel
theorem dX4_put_31 : decode cX4_put 31 = .ok (.aload_n 0, 1) := by decide +kernel
theorem dX4_put_32 : decode cX4_put 32 = .ok (.getfield 23, 3) := by decide +kernel
theorem dX4_put_35 : decode cX4_put 35 = .ok (.imul, 1) := by decide +kernel
theorem dX4_put_36 : decode cX4_put 36 = .ok (.iload_n 1, 1) := by decide +kernel
theorem dX4_put_37 : decode cX4_put 37 = .ok (.iadd, 1) := by decide +kernel
theorem dX4_put_38 : decode cX4_put 38 = .ok (.sipush 251, 3) := by decide +kernel
theorem dX4_put_41 : decode cX4_put 41 = .ok (.irem, 1) := by decide +kernel
theorem dX4_put_42 : decode cX4_put 42 = .ok (.putfield 23, 3) := by decide +kernel
theorem dX4_put_45 : decode cX4_put 45 = .ok (.return_, 1) := by decide +kernel
theorem dX4_tellsPit_0 : decode cX4_tellsPit 0 = .ok (.aload_n 0, 1) := by decide +kernel
theorem dX4_tellsPit_1 : decode cX4_tellsPit 1 = .ok (.iconst 0, 1) := by decide +kernel
theorem dX4_tellsPit_2 : decode cX4_tellsPit 2 = .ok (.putfield 84, 3) := by decide +kernel
theorem dX4_tellsPit_5 : decode cX4_tellsPit 5 = .ok (.aload_n 0, 1) := by decide +kernel
theorem dX4_tellsPit_6 : decode cX4_tellsPit 6 = .ok (.sipush 233, 3) := by decide +kernel
theorem dX4_tellsPit_9 : decode cX4_tellsPit 9 = .ok (.putfield 23, 3) := by decide +kernel
theorem dX4_tellsPit_12 : decode cX4_tellsPit 12 = .ok (.aload_n 0, 1) := by decide +kernel
theorem dX4_tellsPit_13 : decode cX4_tellsPit 13 = .ok (.iconst 1, 1) := by decide +kernel
theorem dX4_tellsPit_14 : decode cX4_tellsPit 14 = .ok (.putfield 87, 3) := by decide +kernel
theorem dX4_tellsPit_17 : decode cX4_tellsPit 17 = .ok (.aload_n 2, 1) := by decide +kernel
theorem dX4_tellsPit_18 : decode cX4_tellsPit 18 = .ok (.aload_n 1, 1) := by decide +kernel
theorem dX4_tellsPit_19 : decode cX4_tellsPit 19 = .ok (.invokevirtual 91, 3) := by decide +kernel
theorem dX4_tellsPit_22 : decode cX4_tellsPit 22 = .ok (.aload_n 2, 1) := by decide +kernel
theorem dX4_tellsPit_23 : decode cX4_tellsPit 23 = .ok (.aload_n 0, 1) := by decide +kernel
theorem dX4_tellsPit_24 : decode cX4_tellsPit 24 = .ok (.sipush 255, 3) := by decide +kernel
theorem dX4_tellsPit_27 : decode cX4_tellsPit 27 = .ok (.invokevirtual 95, 3) := by decide +kernel
theorem dX4_tellsPit_30 : decode cX4_tellsPit 30 = .ok (.bipush 8, 2) := by decide +kernel
theorem dX4_tellsPit_32 : decode cX4_tellsPit 32 = .ok (.ishl, 1) := by decide +kernel
theorem dX4_tellsPit_33 : decode cX4_tellsPit 33 = .ok (.putfield 26, 3) := by decide +kernel
theorem dX4_tellsPit_36 : decode cX4_tellsPit 36 = .ok (.aload_n 2, 1) := by decide +kernel
theorem dX4_tellsPit_37 : decode cX4_tellsPit 37 = .ok (.dup, 1) := by decide +kernel
theorem dX4_tellsPit_38 : decode cX4_tellsPit 38 = .ok (.getfield 26, 3) := by decide +kernel
theorem dX4_tellsPit_41 : decode cX4_tellsPit 41 = .ok (.aload_n 0, 1) := by decide +kernel
theorem dX4_tellsPit_42 : decode cX4_tellsPit 42 = .ok (.sipush 255, 3) := by decide +kernel
theorem dX4_tellsPit_45 : decode cX4_tellsPit 45 = .ok (.invokevirtual 95, 3) := by decide +kernel
theorem dX4_tellsPit_48 : decode cX4_tellsPit 48 = .ok (.iadd, 1) := by decide +kernel
theorem dX4_tellsPit_49 : decode cX4_tellsPit 49 = .ok (.putfield 26, 3) := by decide +kernel
theorem dX4_tellsPit_52 : decode cX4_tellsPit 52 = .ok (.aload_n 2, 1) := by decide +kernel
theorem dX4_tellsPit_53 : decode cX4_tellsPit 53 = .ok (.aload_n 0, 1) := by decide +kernel
theorem dX4_tellsPit_54 : decode cX4_tellsPit 54 = .ok (.sipush 255, 3) := by decide +kernel
theorem dX4_tellsPit_57 : decode cX4_tellsPit 57 = .ok (.invokevirtual 95, 3) := by decide +kernel
theorem dX4_tellsPit_60 : decode cX4_tellsPit 60 = .ok (.bipush 16, 2) := by decide +kernel
theorem dX4_tellsPit_62 : decode cX4_tellsPit 62 = .ok (.ishl, 1) := by decide +kernel
theorem dX4_tellsPit_63 : decode cX4_tellsPit 63 = .ok (.putfield 35, 3) := by decide +kernel
theorem dX4_tellsPit_66 : decode cX4_tellsPit 66 = .ok (.aload_n 2, 1) := by decide +kernel
theorem dX4_tellsPit_67 : decode cX4_tellsPit 67 = .ok (.dup, 1) := by decide +kernel
theorem dX4_tellsPit_68 : decode cX4_tellsPit 68 = .ok (.getfield 35, 3) := by decide +kernel
theorem dX4_tellsPit_71 : decode cX4_tellsPit 71 = .ok (.aload_n 0, 1) := by decide +kernel
theorem dX4_tellsPit_72 : decode cX4_tellsPit 72 = .ok (.sipush 255, 3) := by decide +kernel
theorem dX4_tellsPit_75 : decode cX4_tellsPit 75 = .ok (.invokevirtual 95, 3) := by decide +kernel
theorem dX4_tellsPit_78 : decode cX4_tellsPit 78 = .ok (.bipush 8, 2) := by decide +kernel
theorem dX4_tellsPit_80 : decode cX4_tellsPit 80 = .ok (.ishl, 1) := by decide +kernel
theorem dX4_tellsPit_81 : decode cX4_tellsPit 81 = .ok (.iadd, 1) := by decide +kernel
theorem dX4_tellsPit_82 : decode cX4_tellsPit 82 = .ok (.putfield 35, 3) := by decide +kernel
theorem dX4_tellsPit_85 : decode cX4_tellsPit 85 = .ok (.aload_n 2, 1) := by decide +kernel
theorem dX4_tellsPit_86 : decode cX4_tellsPit 86 = .ok (.dup, 1) := by decide +kernel
theorem dX4_tellsPit_87 : decode cX4_tellsPit 87 = .ok (.getfield 35, 3) := by decide +kernel
theorem dX4_tellsPit_90 : decode cX4_tellsPit 90 = .ok (.aload_n 0, 1) := by decide +kernel
theorem dX4_tellsPit_91 : decode cX4_tellsPit 91 = .ok (.sipush 255, 3) := by decide +kernel
theorem dX4_tellsPit_94 : decode cX4_tellsPit 94 = .ok (.invokevirtual 95, 3) := by decide +kernel
theorem dX4_tellsPit_97 : decode cX4_tellsPit 97 = .ok (.iadd, 1) := by decide +kernel
theorem dX4_tellsPit_98 : decode cX4_tellsPit 98 = .ok (.putfield 35, 3) := by decide +kernel
theorem dX4_tellsPit_101 : decode cX4_tellsPit 101 = .ok (.aload_n 0, 1) := by decide +kernel
theorem dX4_tellsPit_102 : decode cX4_tellsPit 102 = .ok (.aload_n 1, 1) := by decide +kernel
theorem dX4_tellsPit_103 : decode cX4_tellsPit 103 = .ok (.aload_n 2, 1) := by decide +kernel
theorem dX4_tellsPit_104 : decode cX4_tellsPit 104 = .ok (.invokevirtual 98, 3) := by decide +kernel
theorem dX4_tellsPit_107 : decode cX4_tellsPit 107 = .ok (.aload_n 0, 1) := by decide +kernel
theorem dX4_tellsPit_108 : decode cX4_tellsPit 108 = .ok (.aload_n 2, 1) := by decide +kernel
theorem dX4_tellsPit_109 : decode cX4_tellsPit 109 = .ok (.getfield 53, 3) := by decide +kernel
theorem dX4_tellsPit_112 : decode cX4_tellsPit 112 = .ok (.aload_n 1, 1) := by decide +kernel
theorem dX4_tellsPit_113 : decode cX4_tellsPit 113 = .ok (.getfield 56, 3) := by decide +kernel
theorem dX4_tellsPit_116 : decode cX4_tellsPit 116 = .ok (.iconst 1, 1) := by decide +kernel
theorem dX4_tellsPit_117 : decode cX4_tellsPit 117 = .ok (.invokevirtual 102, 3) := by decide +kernel
theorem dX4_tellsPit_120 : decode cX4_tellsPit 120 = .ok (.aload_n 0, 1) := by decide +kernel
theorem dX4_tellsPit_121 : decode cX4_tellsPit 121 = .ok (.aload_n 1, 1) := by decide +kernel
theorem dX4_tellsPit_122 : decode cX4_tellsPit 122 = .ok (.aload_n 2, 1) := by decide +kernel
theorem dX4_tellsPit_123 : decode cX4_tellsPit 123 = .ok (.invokevirtual 105, 3) := by decide +kernel
theorem dX4_tellsPit_126 : decode cX4_tellsPit 126 = .ok (.aload_n 0, 1) := by decide +kernel
theorem dX4_tellsPit_127 : decode cX4_tellsPit 127 = .ok (.aload_n 2, 1) := by decide +kernel
theorem dX4_tellsPit_128 : decode cX4_tellsPit 128 = .ok (.getfield 75, 3) := by decide +kernel
theorem dX4_tellsPit_131 : decode cX4_tellsPit 131 = .ok (.aload_n 1, 1) := by decide +kernel
theorem dX4_tellsPit_132 : decode cX4_tellsPit 132 = .ok (.getfield 78, 3) := by decide +kernel
theorem dX4_tellsPit_135 : decode cX4_tellsPit 135 = .ok (.iconst 1, 1) := by decide +kernel
theorem dX4_tellsPit_136 : decode cX4_tellsPit 136 = .ok (.invokevirtual 102, 3) := by decide +kernel
theorem dX4_tellsPit_139 : decode cX4_tellsPit 139 = .ok (.aload_n 0, 1) := by decide +kernel
theorem dX4_tellsPit_140 : decode cX4_tellsPit 140 = .ok (.aload_n 2, 1) := by decide +kernel
theorem dX4_tellsPit_141 : decode cX4_tellsPit 141 = .ok (.getfield 81, 3) := by decide +kernel
theorem dX4_tellsPit_144 : decode cX4_tellsPit 144 = .ok (.bipush 10, 2) := by decide +kernel
theorem dX4_tellsPit_146 : decode cX4_tellsPit 146 = .ok (.bipush 99, 2) := by decide +kernel
theorem dX4_tellsPit_148 : decode cX4_tellsPit 148 = .ok (.invokevirtual 102, 3) := by decide +kernel
theorem dX4_tellsPit_151 : decode cX4_tellsPit 151 = .ok (.aload_n 0, 1) := by decide +kernel
theorem dX4_tellsPit_152 : decode cX4_tellsPit 152 = .ok (.getfield 23, 3) := by decide +kernel
theorem dX4_tellsPit_155 : decode cX4_tellsPit 155 = .ok (.istore_n 3, 1) := by decide +kernel
theorem dX4_tellsPit_156 : decode cX4_tellsPit 156 = .ok (.aload_n 0, 1) := by decide +kernel
theorem dX4_tellsPit_157 : decode cX4_tellsPit 157 = .ok (.sipush 255, 3) := by decide +kernel
theorem dX4_tellsPit_160 : decode cX4_tellsPit 160 = .ok (.invokevirtual 95, 3) := by decide +kernel
theorem dX4_tellsPit_163 : decode cX4_tellsPit 163 = .ok (.iload_n 3, 1) := by decide +kernel
theorem dX4_tellsPit_164 : decode cX4_tellsPit 164 = .ok (.if_icmp .ne 47, 3) := by decide +kernel
theorem dX4_tellsPit_167 : decode cX4_tellsPit 167 = .ok (.aload_n 0, 1) := by decide +kernel
theorem dX4_tellsPit_168 : decode cX4_tellsPit 168 = .ok (.getfield 87, 3) := by decide +kernel
theorem dX4_tellsPit_171 : decode cX4_tellsPit 171 = .ok (.ifCond .eq 40, 3) := by decide +kernel
theorem dX4_tellsPit_174 : decode cX4_tellsPit 174 = .ok (.aload_n 0, 1) := by decide +kernel
theorem dX4_tellsPit_175 : decode cX4_tellsPit 175 = .ok (.getfield 84, 3) := by decide +kernel
theorem dX4_tellsPit_178 : decode cX4_tellsPit 178 = .ok (.aload_n 0, 1) := by decide +kernel
theorem dX4_tellsPit_179 : decode cX4_tellsPit 179 = .ok (.getfield 15, 3) := by decide +kernel
theorem dX4_tellsPit_182 : decode cX4_tellsPit 182 = .ok (.getfield 108, 3) := by decide +kernel
theorem dX4_tellsPit_185 : decode cX4_tellsPit 185 = .ok (.if_icmp .ne 26, 3) := by decide +kernel
theorem dX4_tellsPit_188 : decode cX4_tellsPit 188 = .ok (.aload_n 2, 1) := by decide +kernel
theorem dX4_tellsPit_189 : decode cX4_tellsPit 189 = .ok (.getfield 26, 3) := by decide +kernel
theorem dX4_tellsPit_192 : decode cX4_tellsPit 192 = .ok (.sipush 999, 3) := by decide +kernel
theorem dX4_tellsPit_195 : decode cX4_tellsPit 195 = .ok (.if_icmp .gt 16, 3) := by decide +kernel
theorem dX4_tellsPit_198 : decode cX4_tellsPit 198 = .ok (.aload_n 2, 1) := by decide +kernel
theorem dX4_tellsPit_199 : decode cX4_tellsPit 199 = .ok (.getfield 35, 3) := by decide +kernel
theorem dX4_tellsPit_202 : decode cX4_tellsPit 202 = .ok (.ldc 111, 2) := by decide +kernel
theorem dX4_tellsPit_204 : decode cX4_tellsPit 204 = .ok (.if_icmp .gt 7, 3) := by decide +kernel
theorem dX4_tellsPit_207 : decode cX4_tellsPit 207 = .ok (.iconst 1, 1) := by decide +kernel
theorem dX4_tellsPit_208 : decode cX4_tellsPit 208 = .ok (.goto 4, 3) := by decide +kernel
theorem dX4_tellsPit_211 : decode cX4_tellsPit 211 = .ok (.iconst 0, 1) := by decide +kernel
theorem dX4_tellsPit_212 : decode cX4_tellsPit 212 = .ok (.ireturn, 1) := by decide +kernel
theorem dX4_takeCells_0 : decode cX4_takeCells 0 = .ok (.bipush 8, 2) := by decide +kernel
theorem dX4_takeCells_2 : decode cX4_takeCells 2 = .ok (.istore_n 3, 1) := by decide +kernel
theorem dX4_takeCells_3 : decode cX4_takeCells 3 = .ok (.iload_n 3, 1) := by decide +kernel
theorem dX4_takeCells_4 : decode cX4_takeCells 4 = .ok (.aload_n 1, 1) := by decide +kernel
theorem dX4_takeCells_5 : decode cX4_takeCells 5 = .ok (.invokevirtual 112, 3) := by decide +kernel
theorem dX4_takeCells_8 : decode cX4_takeCells 8 = .ok (.if_icmp .ge 106, 3) := by decide +kernel
theorem dX4_takeCells_11 : decode cX4_takeCells 11 = .ok (.aload_n 2, 1) := by decide +kernel
theorem dX4_takeCells_12 : decode cX4_takeCells 12 = .ok (.getfield 43, 3) := by decide +kernel
theorem dX4_takeCells_15 : decode cX4_takeCells 15 = .ok (.iload_n 3, 1) := by decide +kernel
theorem dX4_takeCells_16 : decode cX4_takeCells 16 = .ok (.iaload, 1) := by decide +kernel
theorem dX4_takeCells_17 : decode cX4_takeCells 17 = .ok (.bipush 100, 2) := by decide +kernel
theorem dX4_takeCells_19 : decode cX4_takeCells 19 = .ok (.if_icmp .ne 6, 3) := by decide +kernel
theorem dX4_takeCells_22 : decode cX4_takeCells 22 = .ok (.goto 86, 3) := by decide +kernel
theorem dX4_takeCells_25 : decode cX4_takeCells 25 = .ok (.aload_n 0, 1) := by decide +kernel
theorem dX4_takeCells_26 : decode cX4_takeCells 26 = .ok (.sipush 255, 3) := by decide +kernel
theorem dX4_takeCells_29 : decode cX4_takeCells 29 = .ok (.invokevirtual 95, 3) := by decide +kernel
theorem dX4_takeCells_32 : decode cX4_takeCells 32 = .ok (.istore 4, 2) := by decide +kernel
theorem dX4_takeCells_34 : decode cX4_takeCells 34 = .ok (.iload_n 3, 1) := by decide +kernel
theorem dX4_takeCells_35 : decode cX4_takeCells 35 = .ok (.aload_n 1, 1) := by decide +kernel
theorem dX4_takeCells_36 : decode cX4_takeCells 36 = .ok (.getfield 116, 3) := by decide +kernel
theorem dX4_takeCells_39 : decode cX4_takeCells 39 = .ok (.if_icmp .ne 30, 3) := by decide +kernel
theorem dX4_takeCells_42 : decode cX4_takeCells 42 = .ok (.aload_n 0, 1) := by decide +kernel
theorem dX4_takeCells_43 : decode cX4_takeCells 43 = .ok (.aload_n 0, 1) := by decide +kernel
theorem dX4_takeCells_44 : decode cX4_takeCells 44 = .ok (.getfield 87, 3) := by decide +kernel
theorem dX4_takeCells_47 : decode cX4_takeCells 47 = .ok (.ifCond .eq 15, 3) := by decide +kernel
theorem dX4_takeCells_50 : decode cX4_takeCells 50 = .ok (.iload 4, 2) := by decide +kernel
theorem dX4_takeCells_52 : decode cX4_takeCells 52 = .ok (.sipush 255, 3) := by decide +kernel
theorem dX4_takeCells_55 : decode cX4_takeCells 55 = .ok (.if_icmp .ne 7, 3) := by decide +kernel
theorem dX4_takeCells_58 : decode cX4_takeCells 58 = .ok (.iconst 1, 1) := by decide +kernel
theorem dX4_takeCells_59 : decode cX4_takeCells 59 = .ok (.goto 4, 3) := by decide +kernel
theorem dX4_takeCells_62 : decode cX4_takeCells 62 = .ok (.iconst 0, 1) := by decide +kernel
theorem dX4_takeCells_63 : decode cX4_takeCells 63 = .ok (.putfield 87, 3) := by decide +kernel
theorem dX4_takeCells_66 : decode cX4_takeCells 66 = .ok (.goto 34, 3) := by decide +kernel
theorem dX4_takeCells_69 : decode cX4_takeCells 69 = .ok (.aload_n 0, 1) := by decide +kernel
theorem dX4_takeCells_70 : decode cX4_takeCells 70 = .ok (.aload_n 0, 1) := by decide +kernel
theorem dX4_takeCells_71 : decode cX4_takeCells 71 = .ok (.getfield 87, 3) := by decide +kernel
theorem dX4_takeCells_74 : decode cX4_takeCells 74 = .ok (.ifCond .eq 22, 3) := by decide +kernel
theorem dX4_takeCells_77 : decode cX4_takeCells 77 = .ok (.iload 4, 2) := by decide +kernel
theorem dX4_takeCells_79 : decode cX4_takeCells 79 = .ok (.bipush 9, 2) := by decide +kernel
theorem dX4_takeCells_81 : decode cX4_takeCells 81 = .ok (.if_icmp .le 11, 3) := by decide +kernel
theorem dX4_takeCells_84 : decode cX4_takeCells 84 = .ok (.iload 4, 2) := by decide +kernel
theorem dX4_takeCells_86 : decode cX4_takeCells 86 = .ok (.sipush 254, 3) := by decide +kernel
theorem dX4_takeCells_89 : decode cX4_takeCells 89 = .ok (.if_icmp .lt 7, 3) := by decide +kernel
theorem dX4_takeCells_92 : decode cX4_takeCells 92 = .ok (.iconst 1, 1) := by decide +kernel
theorem dX4_takeCells_93 : decode cX4_takeCells 93 = .ok (.goto 4, 3) := by decide +kernel
theorem dX4_takeCells_96 : decode cX4_takeCells 96 = .ok (.iconst 0, 1) := by decide +kernel
theorem dX4_takeCells_97 : decode cX4_takeCells 97 = .ok (.putfield 87, 3) := by decide +kernel
theorem dX4_takeCells_100 : decode cX4_takeCells 100 = .ok (.aload_n 2, 1) := by decide +kernel
theorem dX4_takeCells_101 : decode cX4_takeCells 101 = .ok (.getfield 43, 3) := by decide +kernel
theorem dX4_takeCells_104 : decode cX4_takeCells 104 = .ok (.iload_n 3, 1) := by decide +kernel
theorem dX4_takeCells_105 : decode cX4_takeCells 105 = .ok (.iload 4, 2) := by decide +kernel
theorem dX4_takeCells_107 : decode cX4_takeCells 107 = .ok (.iastore, 1) := by decide +kernel
theorem dX4_takeCells_108 : decode cX4_takeCells 108 = .ok (.iinc 3 1, 3) := by decide +kernel
theorem dX4_takeCells_111 : decode cX4_takeCells 111 = .ok (.goto (-108), 3) := by decide +kernel
theorem dX4_takeCells_114 : decode cX4_takeCells 114 = .ok (.return_, 1) := by decide +kernel
theorem dX4_takePlan_0 : decode cX4_takePlan 0 = .ok (.iconst 0, 1) := by decide +kernel
theorem dX4_takePlan_1 : decode cX4_takePlan 1 = .ok (.istore_n 3, 1) := by decide +kernel
theorem dX4_takePlan_2 : decode cX4_takePlan 2 = .ok (.iload_n 3, 1) := by decide +kernel
theorem dX4_takePlan_3 : decode cX4_takePlan 3 = .ok (.aload_n 1, 1) := by decide +kernel
theorem dX4_takePlan_4 : decode cX4_takePlan 4 = .ok (.getfield 59, 3) := by decide +kernel
theorem dX4_takePlan_7 : decode cX4_takePlan 7 = .ok (.if_icmp .ge 59, 3) := by decide +kernel
theorem dX4_takePlan_10 : decode cX4_takePlan 10 = .ok (.aload_n 2, 1) := by decide +kernel
theorem dX4_takePlan_11 : decode cX4_takePlan 11 = .ok (.getfield 62, 3) := by decide +kernel
theorem dX4_takePlan_14 : decode cX4_takePlan 14 = .ok (.iload_n 3, 1) := by decide +kernel
theorem dX4_takePlan_15 : decode cX4_takePlan 15 = .ok (.aload_n 0, 1) := by decide +kernel
theorem dX4_takePlan_16 : decode cX4_takePlan 16 = .ok (.aload_n 1, 1) := by decide +kernel
theorem dX4_takePlan_17 : decode cX4_takePlan 17 = .ok (.getfield 56, 3) := by decide +kernel
theorem dX4_takePlan_20 : decode cX4_takePlan 20 = .ok (.iconst 1, 1) := by decide +kernel
theorem dX4_takePlan_21 : decode cX4_takePlan 21 = .ok (.isub, 1) := by decide +kernel
theorem dX4_takePlan_22 : decode cX4_takePlan 22 = .ok (.invokevirtual 95, 3) := by decide +kernel
theorem dX4_takePlan_25 : decode cX4_takePlan 25 = .ok (.iastore, 1) := by decide +kernel
theorem dX4_takePlan_26 : decode cX4_takePlan 26 = .ok (.aload_n 0, 1) := by decide +kernel
theorem dX4_takePlan_27 : decode cX4_takePlan 27 = .ok (.aload_n 1, 1) := by decide +kernel
theorem dX4_takePlan_28 : decode cX4_takePlan 28 = .ok (.getfield 46, 3) := by decide +kernel
theorem dX4_takePlan_31 : decode cX4_takePlan 31 = .ok (.iconst 1, 1) := by decide +kernel
theorem dX4_takePlan_32 : decode cX4_takePlan 32 = .ok (.isub, 1) := by decide +kernel
theorem dX4_takePlan_33 : decode cX4_takePlan 33 = .ok (.invokevirtual 95, 3) := by decide +kernel
theorem dX4_takePlan_36 : decode cX4_takePlan 36 = .ok (.istore 4, 2) := by decide +kernel
theorem dX4_takePlan_38 : decode cX4_takePlan 38 = .ok (.aload_n 2, 1) := by decide +kernel
theorem dX4_takePlan_39 : decode cX4_takePlan 39 = .ok (.getfield 65, 3) := by decide +kernel
theorem dX4_takePlan_42 : decode cX4_takePlan 42 = .ok (.iload_n 3, 1) := by decide +kernel
theorem dX4_takePlan_43 : decode cX4_takePlan 43 = .ok (.aload_n 1, 1) := by decide +kernel
theorem dX4_takePlan_44 : decode cX4_takePlan 44 = .ok (.iload 4, 2) := by decide +kernel
theorem dX4_takePlan_46 : decode cX4_takePlan 46 = .ok (.aload_n 0, 1) := by decide +kernel
theorem dX4_takePlan_47 : decode cX4_takePlan 47 = .ok (.aload_n 1, 1) := by decide +kernel
theorem dX4_takePlan_48 : decode cX4_takePlan 48 = .ok (.getfield 38, 3) := by decide +kernel
theorem dX4_takePlan_51 : decode cX4_takePlan 51 = .ok (.iconst 1, 1) := by decide +kernel
theorem dX4_takePlan_52 : decode cX4_takePlan 52 = .ok (.isub, 1) := by decide +kernel
theorem dX4_takePlan_53 : decode cX4_takePlan 53 = .ok (.invokevirtual 95, 3) := by decide +kernel
theorem dX4_takePlan_56 : decode cX4_takePlan 56 = .ok (.invokevirtual 119, 3) := by decide +kernel
theorem dX4_takePlan_59 : decode cX4_takePlan 59 = .ok (.iastore, 1) := by decide +kernel
theorem dX4_takePlan_60 : decode cX4_takePlan 60 = .ok (.iinc 3 1, 3) := by decide +kernel
theorem dX4_takePlan_63 : decode cX4_takePlan 63 = .ok (.goto (-61), 3) := by decide +kernel
theorem dX4_takePlan_66 : decode cX4_takePlan 66 = .ok (.return_, 1) := by decide +kernel
theorem dX4_takeAll_0 : decode cX4_takeAll 0 = .ok (.iconst 0, 1) := by decide +kernel
theorem dX4_takeAll_1 : decode cX4_takeAll 1 = .ok (.istore 4, 2) := by decide +kernel
theorem dX4_takeAll_3 : decode cX4_takeAll 3 = .ok (.iload 4, 2) := by decide +kernel
theorem dX4_takeAll_5 : decode cX4_takeAll 5 = .ok (.iload_n 2, 1) := by decide +kernel
theorem dX4_takeAll_6 : decode cX4_takeAll 6 = .ok (.if_icmp .ge 18, 3) := by decide +kernel
theorem dX4_takeAll_9 : decode cX4_takeAll 9 = .ok (.aload_n 1, 1) := by decide +kernel
theorem dX4_takeAll_10 : decode cX4_takeAll 10 = .ok (.iload 4, 2) := by decide +kernel
theorem dX4_takeAll_12 : decode cX4_takeAll 12 = .ok (.aload_n 0, 1) := by decide +kernel
theorem dX4_takeAll_13 : decode cX4_takeAll 13 = .ok (.iload_n 3, 1) := by decide +kernel
theorem dX4_takeAll_14 : decode cX4_takeAll 14 = .ok (.invokevirtual 95, 3) := by decide +kernel
theorem dX4_takeAll_17 : decode cX4_takeAll 17 = .ok (.iastore, 1) := by decide +kernel
theorem dX4_takeAll_18 : decode cX4_takeAll 18 = .ok (.iinc 4 1, 3) := by decide +kernel
theorem dX4_takeAll_21 : decode cX4_takeAll 21 = .ok (.goto (-18), 3) := by decide +kernel
theorem dX4_takeAll_24 : decode cX4_takeAll 24 = .ok (.return_, 1) := by decide +kernel
theorem dX4_next_0 : decode cX4_next 0 = .ok (.aload_n 0, 1) := by decide +kernel
theorem dX4_next_1 : decode cX4_next 1 = .ok (.getfield 84, 3) := by decide +kernel
theorem dX4_next_4 : decode cX4_next 4 = .ok (.aload_n 0, 1) := by decide +kernel
theorem dX4_next_5 : decode cX4_next 5 = .ok (.getfield 15, 3) := by decide +kernel
theorem dX4_next_8 : decode cX4_next 8 = .ok (.getfield 108, 3) := by decide +kernel
theorem dX4_next_11 : decode cX4_next 11 = .ok (.if_icmp .ge 19, 3) := by decide +kernel
theorem dX4_next_14 : decode cX4_next 14 = .ok (.aload_n 0, 1) := by decide +kernel
theorem dX4_next_15 : decode cX4_next 15 = .ok (.getfield 15, 3) := by decide +kernel
theorem dX4_next_18 : decode cX4_next 18 = .ok (.getfield 123, 3) := by decide +kernel
theorem dX4_next_21 : decode cX4_next 21 = .ok (.aload_n 0, 1) := by decide +kernel
theorem dX4_next_22 : decode cX4_next 22 = .ok (.getfield 84, 3) := by decide +kernel
theorem dX4_next_25 : decode cX4_next 25 = .ok (.iaload, 1) := by decide +kernel
theorem dX4_next_26 : decode cX4_next 26 = .ok (.iload_n 1, 1) := by decide +kernel
theorem dX4_next_27 : decode cX4_next 27 = .ok (.if_icmp .le 10, 3) := by decide +kernel
theorem dX4_next_30 : decode cX4_next 30 = .ok (.aload_n 0, 1) := by decide +kernel
theorem dX4_next_31 : decode cX4_next 31 = .ok (.iconst 0, 1) := by decide +kernel
theorem dX4_next_32 : decode cX4_next 32 = .ok (.putfield 87, 3) := by decide +kernel
theorem dX4_next_35 : decode cX4_next 35 = .ok (.iconst 0, 1) := by decide +kernel
theorem dX4_next_36 : decode cX4_next 36 = .ok (.ireturn, 1) := by decide +kernel
theorem dX4_next_37 : decode cX4_next 37 = .ok (.aload_n 0, 1) := by decide +kernel
theorem dX4_next_38 : decode cX4_next 38 = .ok (.getfield 15, 3) := by decide +kernel
theorem dX4_next_41 : decode cX4_next 41 = .ok (.getfield 123, 3) := by decide +kernel
theorem dX4_next_44 : decode cX4_next 44 = .ok (.aload_n 0, 1) := by decide +kernel
theorem dX4_next_45 : decode cX4_next 45 = .ok (.getfield 84, 3) := by decide +kernel
theorem dX4_next_48 : decode cX4_next 48 = .ok (.iaload, 1) := by decide +kernel
theorem dX4_next_49 : decode cX4_next 49 = .ok (.istore_n 2, 1) := by decide +kernel
theorem dX4_next_50 : decode cX4_next 50 = .ok (.aload_n 0, 1) := by decide +kernel
theorem dX4_next_51 : decode cX4_next 51 = .ok (.dup, 1) := by decide +kernel
theorem dX4_next_52 : decode cX4_next 52 = .ok (.getfield 84, 3) := by decide +kernel
theorem dX4_next_55 : decode cX4_next 55 = .ok (.iconst 1, 1) := by decide +kernel
theorem dX4_next_56 : decode cX4_next 56 = .ok (.iadd, 1) := by decide +kernel
theorem dX4_next_57 : decode cX4_next 57 = .ok (.putfield 84, 3) := by decide +kernel
theorem dX4_next_60 : decode cX4_next 60 = .ok (.aload_n 0, 1) := by decide +kernel
theorem dX4_next_61 : decode cX4_next 61 = .ok (.iconst 5, 1) := by decide +kernel
theorem dX4_next_62 : decode cX4_next 62 = .ok (.aload_n 0, 1) := by decide +kernel
theorem dX4_next_63 : decode cX4_next 63 = .ok (.getfield 23, 3) := by decide +kernel
theorem dX4_next_66 : decode cX4_next 66 = .ok (.imul, 1) := by decide +kernel
theorem dX4_next_67 : decode cX4_next 67 = .ok (.iload_n 2, 1) := by decide +kernel
theorem dX4_next_68 : decode cX4_next 68 = .ok (.iadd, 1) := by decide +kernel
theorem dX4_next_69 : decode cX4_next 69 = .ok (.sipush 251, 3) := by decide +kernel
theorem dX4_next_72 : decode cX4_next 72 = .ok (.irem, 1) := by decide +kernel
theorem dX4_next_73 : decode cX4_next 73 = .ok (.putfield 23, 3) := by decide +kernel
theorem dX4_next_76 : decode cX4_next 76 = .ok (.iload_n 2, 1) := by decide +kernel
theorem dX4_next_77 : decode cX4_next 77 = .ok (.ireturn, 1) := by decide +kernel
theorem wB_777 : Cond.fieldLink RX4 19 "DarkMine$Image" "length" "I" ∈ dgB := List.mem_filter.mpr ⟨tbl_1 _ (List.mem_of_getElem? (i := 150) (by decide +kernel)), by decide +kernel⟩
theorem wB_778 : Cond.fieldLink RX4 9 "DarkMine$Image" "bytes" "[I" ∈ dgB := List.mem_filter.mpr ⟨tbl_1 _ (List.mem_of_getElem? (i := 148) (by decide +kernel)), by decide +kernel⟩
theorem wB_779 : Cond.fieldLink RX4 23 "DarkMine$Image" "sum" "I" ∈ dgB := List.mem_filter.mpr ⟨tbl_1 _ (List.mem_of_getElem? (i := 153) (by decide +kernel)), by decide +kernel⟩
theorem wB_780 : Cond.code yX4_put cX4_put 2 none ∈ dgB := List.mem_filter.mpr ⟨tbl_6 _ (List.mem_of_getElem? (i := 113) rfl), rfl⟩
theorem wB_781 : Cond.methodLink RX4 31 yX4_put ∈ dgB := List.mem_filter.mpr ⟨tbl_6 _ (List.mem_of_getElem? (i := 110) (by decide +kernel)), by decide +kernel⟩
theorem wB_782 : Cond.instanceMethod yX4_put ∈ dgB := List.mem_filter.mpr ⟨tbl_6 _ (List.mem_of_getElem? (i := 112) (by decide +kernel)), by decide +kernel⟩
theorem wB_783 : Cond.selects RX4 yX4_put yX4_put ∈ dgB := List.mem_filter.mpr ⟨List.mem_of_getElem? (i := 75) (by decide +kernel), by decide +kernel⟩
theorem wB_784 : Cond.initialized RX4 ∈ dgB := List.mem_filter.mpr ⟨tbl_1 _ (List.mem_of_getElem? (i := 5) (by decide +kernel)), by decide +kernel⟩
theorem wB_785 : Cond.fieldLink RX4 26 "DarkMine$Pit" "shift" "I" ∈ dgB := List.mem_filter.mpr ⟨tbl_1 _ (List.mem_of_getElem? (i := 58) (by decide +kernel)), by decide +kernel⟩
theorem wB_786 : Cond.fieldLink RX4 35 "DarkMine$Pit" "purse" "I" ∈ dgB := List.mem_filter.mpr ⟨tbl_1 _ (List.mem_of_getElem? (i := 63) (by decide +kernel)), by decide +kernel⟩
theorem wB_787 : Cond.fieldLink RX4 38 "DarkMine$Ground" "rows" "I" ∈ dgB := List.mem_filter.mpr ⟨tbl_1 _ (List.mem_of_getElem? (i := 183) (by decide +kernel)), by decide +kernel⟩
theorem wB_788 : Cond.fieldLink RX4 43 "DarkMine$Pit" "cells" "[I" ∈ dgB := List.mem_filter.mpr ⟨tbl_1 _ (List.mem_of_getElem? (i := 66) (by decide +kernel)), by decide +kernel⟩
theorem wB_789 : Cond.fieldLink RX4 46 "DarkMine$Ground" "columns" "I" ∈ dgB := List.mem_filter.mpr ⟨tbl_1 _ (List.mem_of_getElem? (i := 177) (by decide +kernel)), by decide +kernel⟩
theorem wB_790 : Cond.code yX4_putAll cX4_putAll 5 none ∈ dgB := List.mem_filter.mpr ⟨tbl_6 _ (List.mem_of_getElem? (i := 117) rfl), rfl⟩
theorem wB_791 : Cond.methodLink RX4 49 yX4_putAll ∈ dgB := List.mem_filter.mpr ⟨tbl_6 _ (List.mem_of_getElem? (i := 114) (by decide +kernel)), by decide +kernel⟩
theorem wB_792 : Cond.instanceMethod yX4_putAll ∈ dgB := List.mem_filter.mpr ⟨tbl_6 _ (List.mem_of_getElem? (i := 116) (by decide +kernel)), by decide +kernel⟩
theorem wB_793 : Cond.selects RX4 yX4_putAll yX4_putAll ∈ dgB := List.mem_filter.mpr ⟨List.mem_of_getElem? (i := 76) (by decide +kernel), by decide +kernel⟩
theorem wB_794 : Cond.fieldLink RX4 53 "DarkMine$Pit" "hurts" "[I" ∈ dgB := List.mem_filter.mpr ⟨tbl_1 _ (List.mem_of_getElem? (i := 72) (by decide +kernel)), by decide +kernel⟩
theorem wB_795 : Cond.fieldLink RX4 56 "DarkMine$Ground" "miners" "I" ∈ dgB := List.mem_filter.mpr ⟨tbl_1 _ (List.mem_of_getElem? (i := 206) (by decide +kernel)), by decide +kernel⟩
theorem wB_796 : Cond.fieldLink RX4 59 "DarkMine$Ground" "planRows" "I" ∈ dgB := List.mem_filter.mpr ⟨tbl_1 _ (List.mem_of_getElem? (i := 213) (by decide +kernel)), by decide +kernel⟩
theorem wB_797 : Cond.fieldLink RX4 62 "DarkMine$Pit" "planMiners" "[I" ∈ dgB := List.mem_filter.mpr ⟨tbl_1 _ (List.mem_of_getElem? (i := 76) (by decide +kernel)), by decide +kernel⟩
theorem wB_798 : Cond.fieldLink RX4 65 "DarkMine$Pit" "planPlaces" "[I" ∈ dgB := List.mem_filter.mpr ⟨tbl_1 _ (List.mem_of_getElem? (i := 80) (by decide +kernel)), by decide +kernel⟩
theorem wB_799 : Cond.code yX11_columnOf cX11_columnOf 1 (some .int) ∈ dgB := List.mem_filter.mpr ⟨tbl_5 _ (List.mem_of_getElem? (i := 62) rfl), rfl⟩
theorem wB_800 : Cond.static yX11_columnOf ∈ dgB := List.mem_filter.mpr ⟨tbl_5 _ (List.mem_of_getElem? (i := 61) (by decide +kernel)), by decide +kernel⟩
theorem wB_801 : Cond.fieldLink RX4 75 "DarkMine$Pit" "sold" "[I" ∈ dgB := List.mem_filter.mpr ⟨tbl_1 _ (List.mem_of_getElem? (i := 84) (by decide +kernel)), by decide +kernel⟩
theorem wB_802 : Cond.fieldLink RX4 78 "DarkMine$Ground" "orders" "I" ∈ dgB := List.mem_filter.mpr ⟨tbl_1 _ (List.mem_of_getElem? (i := 225) (by decide +kernel)), by decide +kernel⟩
theorem wB_803 : Cond.fieldLink RX4 81 "DarkMine$Pit" "tubCounts" "[I" ∈ dgB := List.mem_filter.mpr ⟨tbl_1 _ (List.mem_of_getElem? (i := 87) (by decide +kernel)), by decide +kernel⟩
theorem wB_804 : Cond.fieldLink RX4 84 "DarkMine$Image" "at" "I" ∈ dgB := List.mem_filter.mpr ⟨tbl_1 _ (List.mem_of_getElem? (i := 154) (by decide +kernel)), by decide +kernel⟩
theorem wB_805 : Cond.fieldLink RX4 15 "DarkMine$Image" "tape" "LDarkMine$Tape;" ∈ dgB := List.mem_filter.mpr ⟨tbl_1 _ (List.mem_of_getElem? (i := 152) (by decide +kernel)), by decide +kernel⟩
theorem wB_806 : Cond.fieldLink RX4 108 "DarkMine$Tape" "length" "I" ∈ dgB := List.mem_filter.mpr ⟨tbl_1 _ (List.mem_of_getElem? (i := 44) (by decide +kernel)), by decide +kernel⟩
theorem wB_807 : Cond.fieldLink RX4 87 "DarkMine$Image" "fits" "Z" ∈ dgB := List.mem_filter.mpr ⟨tbl_1 _ (List.mem_of_getElem? (i := 155) (by decide +kernel)), by decide +kernel⟩
theorem wB_808 : Cond.fieldLink RX4 123 "DarkMine$Tape" "bytes" "[I" ∈ dgB := List.mem_filter.mpr ⟨tbl_1 _ (List.mem_of_getElem? (i := 39) (by decide +kernel)), by decide +kernel⟩
theorem wB_809 : Cond.methodLink RX4 112 yX2_endOfPlaces ∈ dgB := List.mem_filter.mpr ⟨tbl_6 _ (List.mem_of_getElem? (i := 141) (by decide +kernel)), by decide +kernel⟩
theorem wB_810 : Cond.code yX4_next cX4_next 3 (some .int) ∈ dgB := List.mem_filter.mpr ⟨tbl_6 _ (List.mem_of_getElem? (i := 136) rfl), rfl⟩
theorem wB_811 : Cond.methodLink RX4 95 yX4_next ∈ dgB := List.mem_filter.mpr ⟨tbl_6 _ (List.mem_of_getElem? (i := 133) (by decide +kernel)), by decide +kernel⟩
theorem wB_812 : Cond.instanceMethod yX4_next ∈ dgB := List.mem_filter.mpr ⟨tbl_6 _ (List.mem_of_getElem? (i := 135) (by decide +kernel)), by decide +kernel⟩
theorem wB_813 : Cond.selects RX4 yX4_next yX4_next ∈ dgB := List.mem_filter.mpr ⟨List.mem_of_getElem? (i := 77) (by decide +kernel), by decide +kernel⟩
theorem wB_814 : Cond.fieldLink RX4 116 "DarkMine$Ground" "shaftPlace" "I" ∈ dgB := List.mem_filter.mpr ⟨tbl_1 _ (List.mem_of_getElem? (i := 192) (by decide +kernel)), by decide +kernel⟩
theorem wB_815 : Cond.methodLink RX4 119 yX2_placeOf ∈ dgB := List.mem_filter.mpr ⟨tbl_6 _ (List.mem_of_getElem? (i := 150) (by decide +kernel)), by decide +kernel⟩
theorem wB_816 : Cond.code yX5_begin cX5_begin 4 none ∈ dgB := List.mem_filter.mpr ⟨tbl_3 _ (List.mem_of_getElem? (i := 37) rfl), rfl⟩
theorem wB_817 : Cond.methodLink RX4 91 yX5_begin ∈ dgB := List.mem_filter.mpr ⟨tbl_6 _ (List.mem_of_getElem? (i := 132) (by decide +kernel)), by decide +kernel⟩
theorem wB_818 : Cond.instanceMethod yX5_begin ∈ dgB := List.mem_filter.mpr ⟨tbl_3 _ (List.mem_of_getElem? (i := 35) (by decide +kernel)), by decide +kernel⟩
theorem wB_819 : Cond.selects RX5 yX5_begin yX5_begin ∈ dgB := List.mem_filter.mpr ⟨tbl_3 _ (List.mem_of_getElem? (i := 36) (by decide +kernel)), by decide +kernel⟩
theorem wB_820 : Cond.code yX4_takeCells cX4_takeCells 5 none ∈ dgB := List.mem_filter.mpr ⟨tbl_6 _ (List.mem_of_getElem? (i := 140) rfl), rfl⟩
theorem wB_821 : Cond.methodLink RX4 98 yX4_takeCells ∈ dgB := List.mem_filter.mpr ⟨tbl_6 _ (List.mem_of_getElem? (i := 137) (by decide +kernel)), by decide +kernel⟩
theorem wB_822 : Cond.instanceMethod yX4_takeCells ∈ dgB := List.mem_filter.mpr ⟨tbl_6 _ (List.mem_of_getElem? (i := 139) (by decide +kernel)), by decide +kernel⟩
theorem wB_823 : Cond.selects RX4 yX4_takeCells yX4_takeCells ∈ dgB := List.mem_filter.mpr ⟨List.mem_of_getElem? (i := 78) (by decide +kernel), by decide +kernel⟩
theorem wB_824 : Cond.code yX4_takeAll cX4_takeAll 5 none ∈ dgB := List.mem_filter.mpr ⟨tbl_6 _ (List.mem_of_getElem? (i := 145) rfl), rfl⟩
theorem wB_825 : Cond.methodLink RX4 102 yX4_takeAll ∈ dgB := List.mem_filter.mpr ⟨tbl_6 _ (List.mem_of_getElem? (i := 142) (by decide +kernel)), by decide +kernel⟩
theorem wB_826 : Cond.instanceMethod yX4_takeAll ∈ dgB := List.mem_filter.mpr ⟨tbl_6 _ (List.mem_of_getElem? (i := 144) (by decide +kernel)), by decide +kernel⟩
theorem wB_827 : Cond.selects RX4 yX4_takeAll yX4_takeAll ∈ dgB := List.mem_filter.mpr ⟨List.mem_of_getElem? (i := 79) (by decide +kernel), by decide +kernel⟩
theorem wB_828 : Cond.code yX4_takePlan cX4_takePlan 5 none ∈ dgB := List.mem_filter.mpr ⟨tbl_6 _ (List.mem_of_getElem? (i := 149) rfl), rfl⟩
theorem wB_829 : Cond.methodLink RX4 105 yX4_takePlan ∈ dgB := List.mem_filter.mpr ⟨tbl_6 _ (List.mem_of_getElem? (i := 146) (by decide +kernel)), by decide +kernel⟩
theorem wB_830 : Cond.instanceMethod yX4_takePlan ∈ dgB := List.mem_filter.mpr ⟨tbl_6 _ (List.mem_of_getElem? (i := 148) (by decide +kernel)), by decide +kernel⟩
theorem wB_831 : Cond.selects RX4 yX4_takePlan yX4_takePlan ∈ dgB := List.mem_filter.mpr ⟨List.mem_of_getElem? (i := 80) (by decide +kernel), by decide +kernel⟩
theorem wB_832 : Cond.constant RX4 111 (99999) ∈ dgB := List.mem_filter.mpr ⟨tbl_6 _ (List.mem_of_getElem? (i := 151) (by decide +kernel)), by decide +kernel⟩
set_option maxHeartbeats 8000000 in
set_option maxRecDepth 100000 in
theorem c_i_put (l : Launch) (g : Nat → ClassId) (D : va_G) (o : Nat) (S : dg_S) (a1 : Int32) (ln : Int32) (f_ln : S.1 182 1 = .int ln) (b_ln : 0 ≤ (ln).toInt ∧ (ln).toInt ≤ 124) (I : CX o S) (sz : Nat) : Met l yX4_put (bw yX4_put cX4_put 2 none) ({ frames := 1, cells := 0, slots := 0, locals := 32 } : Room) (dk_Pc g D (dg_w g shX o rfX S) sz [.ref (o + 182), .int a1]) (va_Qv (fun S' => CX o S' ∧ dg_sm shX [(16, 1), (16, 3)] [17] S S' ∧ (∃ y9 : Int32, S'.1 182 1 = .int y9 ∧ (((ln).toInt < 124 → (y9).toInt = (ln).toInt + 1) ∧ (124 ≤ (ln).toInt → (y9).toInt = (ln).toInt))) ∧ True) (dg_B g D shX o rfX) (dg_A o shX.length sz)) 0 0 (dg_A o shX.length sz) := by
  refine dg_met (cc := cX4_put) (maxL := 2) (ret := none) (by decide) rfl (Nat.le_of_ble_eq_true rfl) ?_
  intro p e s m args below meth c A hAe harg hx hb hr hml hts hown hlocks hin hP K hS hA1 hA ST hsz ls hl
  rw [← hAe]
  have F : CallFix p m c cX4_put 2 s args (bw yX4_put cX4_put 2 none) RX4 := ⟨hx, hb, hml, hown, hts⟩
  have hl : lv_has ls 2 [(0, .ref (o + 182)), (1, .int a1)] := hl
  have M_0 : dg_sm shX [(16, 1), (16, 3)] [17] S S := dg_sm.rf
  refine lv_aload_n hx hb dX4_put_0 rfl (lv_at hl 0 rfl) ?_
  refine dg_get (C := RX4) (T := TX4) (N := 6) hx hb hts (fun w h => bw_mem (wU_X4 w h)) hown K hP sX_182 rfl 1 (by decide) (hts _ (bw_mem wB_777)) (fun _ h9 => h9) (v := .int ln) f_ln dX4_put_1 ?_
  refine lv_bipush (v := 124) hx hb dX4_put_4 (by decide +kernel) ?_
  refine lv_icmp_ge (tgt := 45) hx hb dX4_put_6 (by decide) (fun c_1 => ?_) (fun c_1 => ?_)
  · have jc_1 := dk_gec (k := 124) (by decide +kernel) c_1
    refine W.widen (k := 0) (n := 0) (Nat.le_of_ble_eq_true rfl) (Nat.le_of_ble_eq_true rfl) ?_
    exact dg_vret hx hb hr hlocks hP hS ⟨I, M_0, ⟨ln, f_ln, (by omega)⟩, trivial⟩ dX4_put_45
  · have jc_1 := dk_ngec (k := 124) (by decide +kernel) c_1
    refine lv_aload_n hx hb dX4_put_9 rfl (lv_at hl 0 rfl) ?_
    refine dg_get (C := RX4) (T := TX4) (N := 6) hx hb hts (fun w h => bw_mem (wU_X4 w h)) hown K hP sX_182 rfl 0 (by decide) (hts _ (bw_mem wB_778)) (fun _ h9 => h9) (v := .ref (o + 183)) (show S.1 182 0 = .ref (o + 183) from dg_I.rel (d := 1) I sX_182 (by decide +kernel)) dX4_put_10 ?_
    refine lv_aload_n hx hb dX4_put_13 rfl (lv_at hl 0 rfl) ?_
    refine dg_get (C := RX4) (T := TX4) (N := 6) hx hb hts (fun w h => bw_mem (wU_X4 w h)) hown K hP sX_182 rfl 1 (by decide) (hts _ (bw_mem wB_777)) (fun _ h9 => h9) (v := .int ln) f_ln dX4_put_14 ?_
    refine lv_iload_n hx hb dX4_put_17 rfl (lv_at hl 1 rfl) ?_
    have hin_2 : vp_in ln 124 := (dk_inv (by omega) (by omega))
    refine dg_iast hx hb K hP hS hA1 sX_183 hin_2 dX4_put_18 (fun S_3 e_3 H locs hP hS => ?_)
    have I_3 := dg_I.uf0 I e_3 sX_183 (by decide +kernel)
    have M_3 := dg_sm.uf M_0 e_3 sX_183 (by decide)
    refine lv_aload_n hx hb dX4_put_19 rfl (lv_at hl 0 rfl) ?_
    refine lv_dup hx hb dX4_put_20 rfl ?_
    refine dg_get (C := RX4) (T := TX4) (N := 6) hx hb hts (fun w h => bw_mem (wU_X4 w h)) hown K hP sX_182 rfl 1 (by decide) (hts _ (bw_mem wB_777)) (fun _ h9 => h9) (v := .int ln) ((dg_uf_F e_3 182 1).trans f_ln) dX4_put_21 ?_
    refine lv_iconst (v := 1) hx hb dX4_put_24 (by decide +kernel) ?_
    refine lv_iadd hx hb dX4_put_25 ?_
    refine lv_topi (fun x_4 ex_4 => ?_)
    have jx_4 : (x_4).toInt = (ln).toInt + 1 := by rw [ex_4]; exact dk_addT rfl (by decide +kernel) (by omega) (by omega)
    refine dg_put (ci := 4) (v := .int x_4) (ty := tyX4 1) (C := RX4) (T := TX4) (N := 6) hx hb hts (fun w h => bw_mem (wU_X4 w h)) tyX4 tyX4_ok nmX4 hown K hP hS hA1 sX_182 rfl 1 (by decide) (hts _ (bw_mem wB_777)) (fun _ h9 => h9) rfl (by decide +kernel) rfl rfl dX4_put_26 (fun S_5 e_5 H locs hP hS => ?_)
    have I_5 := dg_I.uFi (lo := 0) (hi := 124) I_3 e_5 sX_182 (by decide +kernel) (show 0 ≤ (x_4).toInt ∧ (x_4).toInt ≤ 124 from (by omega))
    have M_5 := dg_sm.uF M_3 e_5 sX_182 (by decide)
    refine lv_aload_n hx hb dX4_put_29 rfl (lv_at hl 0 rfl) ?_
    refine lv_iconst (v := 5) hx hb dX4_put_30 (by decide +kernel) ?_
    refine lv_aload_n hx hb dX4_put_31 rfl (lv_at hl 0 rfl) ?_
    obtain ⟨x_6, f_x_6, b_x_6⟩ := dg_I.int (i := 182) (k := 3) (lo := (-2147483648)) (hi := 2147483647) I_5 sX_182 (by decide +kernel)
    refine dg_get (C := RX4) (T := TX4) (N := 6) hx hb hts (fun w h => bw_mem (wU_X4 w h)) hown K hP sX_182 rfl 3 (by decide) (hts _ (bw_mem wB_779)) (fun _ h9 => h9) (v := .int x_6) f_x_6 dX4_put_32 ?_
    refine lv_imul hx hb dX4_put_35 ?_
    refine lv_topi (fun x_7 ex_7 => ?_)
    refine lv_iload_n hx hb dX4_put_36 rfl (lv_at hl 1 rfl) ?_
    refine lv_iadd hx hb dX4_put_37 ?_
    refine lv_topi (fun x_8 ex_8 => ?_)
    refine lv_sipush (v := 251) hx hb dX4_put_38 (by decide +kernel) ?_
    refine lv_irem hx hb dX4_put_41 (by decide +kernel) ?_
    refine lv_topi (fun x_9 ex_9 => ?_)
    refine dg_put (ci := 4) (v := .int x_9) (ty := tyX4 3) (C := RX4) (T := TX4) (N := 6) hx hb hts (fun w h => bw_mem (wU_X4 w h)) tyX4 tyX4_ok nmX4 hown K hP hS hA1 sX_182 rfl 3 (by decide) (hts _ (bw_mem wB_779)) (fun _ h9 => h9) rfl (by decide +kernel) rfl rfl dX4_put_42 (fun S_10 e_10 H locs hP hS => ?_)
    have I_10 := dg_I.uFi (lo := (-2147483648)) (hi := 2147483647) I_5 e_10 sX_182 (by decide +kernel) (show (-2147483648) ≤ (x_9).toInt ∧ (x_9).toInt ≤ 2147483647 from (dk_full _))
    have M_10 := dg_sm.uF M_5 e_10 sX_182 (by decide)
    refine W.widen (k := 0) (n := 0) (Nat.le_of_ble_eq_true rfl) (Nat.le_of_ble_eq_true rfl) ?_
    exact dg_vret hx hb hr hlocks hP hS ⟨I_10, M_10, ⟨x_4, ((dg_uF_ne e_10 (fun z => absurd z.2 (by decide))).trans (dg_uF_at e_5)), (by omega)⟩, trivial⟩ dX4_put_45
set_option maxHeartbeats 8000000 in
set_option maxRecDepth 100000 in
theorem c_i_putAll_cells (l : Launch) (g : Nat → ClassId) (D : va_G) (o : Nat) (S : dg_S) (pt : Nat) (hk_pt : pX pt) (a2 : Int32) (b_a2 : 0 ≤ (a2).toInt ∧ (a2).toInt ≤ 64) (a3 : Int32) (b_a3 : 0 ≤ (a3).toInt ∧ (a3).toInt ≤ 7) (ln : Int32) (f_ln : S.1 182 1 = .int ln) (b_ln : 0 ≤ (ln).toInt ∧ (ln).toInt ≤ 124) (I : CX o S) (sz : Nat) : Met l yX4_putAll (bw yX4_putAll cX4_putAll 5 none) ({ frames := 2, cells := 0, slots := 0, locals := 53 } : Room) (dk_Pc g D (dg_w g shX o rfX S) sz [.ref (o + 182), .ref (o + (pt + 1)), .int a2, .int a3]) (va_Qv (fun S' => CX o S' ∧ dg_sm shX [(16, 1), (16, 3)] [17] S S' ∧ (∃ y9 : Int32, S'.1 182 1 = .int y9 ∧ ((ln).toInt + (a3).toInt ≤ 124 → (y9).toInt = (ln).toInt + (a3).toInt)) ∧ True) (dg_B g D shX o rfX) (dg_A o shX.length sz)) 0 0 (dg_A o shX.length sz) := by
  refine dg_met (cc := cX4_putAll) (maxL := 5) (ret := none) (by decide) rfl (Nat.le_of_ble_eq_true rfl) ?_
  intro p e s m args below meth c A hAe harg hx hb hr hml hts hown hlocks hin hP K hS hA1 hA ST hsz ls hl
  rw [← hAe]
  have F : CallFix p m c cX4_putAll 5 s args (bw yX4_putAll cX4_putAll 5 none) RX4 := ⟨hx, hb, hml, hown, hts⟩
  have hl : lv_has ls 5 [(0, .ref (o + 182)), (1, .ref (o + (pt + 1))), (2, .int a2), (3, .int a3)] := hl
  have M_0 : dg_sm shX [(16, 1), (16, 3)] [17] S S := dg_sm.rf
  refine lv_iconst (v := 0) hx hb dX4_putAll_0 (by decide +kernel) ?_
  refine lv_istore (lv' := [(4, .int 0), (0, .ref (o + 182)), (1, .ref (o + (pt + 1))), (2, .int a2), (3, .int a3)]) hx hb dX4_putAll_1 hl (by decide) rfl (fun ls hl => ?_)
  have L_51 : ∀ (n : Nat) (x_48 : Int32) (x_49 : Int32), (0 ≤ (x_48).toInt ∧ (x_48).toInt ≤ 7) → (0 ≤ (x_49).toInt ∧ (x_49).toInt ≤ 124) → ((8 - (x_48).toInt).toNat < n) → ∀ S_50 : dg_S, CX o S_50 → dg_sm shX [(16, 1), (16, 3)] [17] S S_50 → S_50.1 182 1 = .int x_49 → ((ln).toInt + (a3).toInt ≤ 124 → (x_49).toInt = (ln).toInt + (x_48).toInt) → ((x_48).toInt ≤ (a3).toInt) → ∀ (H : Heap) (locs : List Loc), va_P D vwCl (dg_w g shX o rfX S_50) H → va_S A s.heap H locs → ∀ ls : Array Slot, lv_has ls 5 [(4, .int x_48), (0, .ref (o + 182)), (1, .ref (o + (pt + 1))), (2, .int a2), (3, .int a3)] → W p l e ({ frames := 2, cells := 0, slots := 0, locals := 53 } : Room) s m args below meth c H locs 0 0 (MQ below (va_Qv (fun S' => CX o S' ∧ dg_sm shX [(16, 1), (16, 3)] [17] S S' ∧ (∃ y9 : Int32, S'.1 182 1 = .int y9 ∧ ((ln).toInt + (a3).toInt ≤ 124 → (y9).toInt = (ln).toInt + (a3).toInt)) ∧ True) (dg_B g D shX o rfX) A) args s 0 0 A) (F0 m 3 ls []) := by
    intro n
    induction n with
    | zero =>
      intro x_48 x_49 b_x_48 b_x_49 hmu S_50 I_50 M_50 ff_50_1_182 srel_50_0 srel_50_1 H locs hP hS ls hl
      omega
    | succ n ih =>
      intro x_48 x_49 b_x_48 b_x_49 hmu S_50 I_50 M_50 ff_50_1_182 srel_50_0 srel_50_1 H locs hP hS ls hl
      refine lv_iload hx hb dX4_putAll_3 (lv_at hl 0 rfl) ?_
      refine lv_iload_n hx hb dX4_putAll_5 rfl (lv_at hl 4 rfl) ?_
      refine lv_icmp_ge (tgt := 25) hx hb dX4_putAll_6 (by decide) (fun c_52 => ?_) (fun c_52 => ?_)
      · have jc_52 := dk_gec (k := (a3).toInt) rfl c_52
        refine W.widen (k := 0) (n := 0) (Nat.le_of_ble_eq_true rfl) (Nat.le_of_ble_eq_true rfl) ?_
        exact dg_vret hx hb hr hlocks hP hS ⟨I_50, M_50, ⟨x_49, ff_50_1_182, (by omega)⟩, trivial⟩ dX4_putAll_25
      · have jc_52 := dk_ngec (k := (a3).toInt) rfl c_52
        refine lv_aload_n hx hb dX4_putAll_9 rfl (lv_at hl 1 rfl) ?_
        refine lv_aload_n hx hb dX4_putAll_10 rfl (lv_at hl 2 rfl) ?_
        refine lv_iload_n hx hb dX4_putAll_11 rfl (lv_at hl 3 rfl) ?_
        refine lv_iload hx hb dX4_putAll_12 (lv_at hl 0 rfl) ?_
        refine lv_iadd hx hb dX4_putAll_14 ?_
        refine lv_topi (fun x_53 ex_53 => ?_)
        have jx_53 : (x_53).toInt = (a2).toInt + (x_48).toInt := by rw [ex_53]; exact dk_addT rfl rfl (by omega) (by omega)
        have hin_54 : vp_in x_53 72 := (dk_inv (by omega) (by omega))
        refine dg_iald hx hb K hP (pX_1 pt hk_pt) hin_54 dX4_putAll_15 (fun x_55 ex_55 => ?_)
        have b_x_55 := dg_c0_at (dg_I.cel0 (lo := 0) (hi := 255) I_50 (pX_1 pt hk_pt) (by decide +kernel)) hin_54 ex_55
        refine dg_callv hS hA1 hA (va_runV (As := [.int x_55]) (rest := []) F (c_i_put l g D o S_50 x_55 x_49 ff_50_1_182 (by omega) I_50 H.size) (cwV 1 hts (bw_V wB_781 wB_782 wB_783 wB_784 wB_780) rfl rfl rfl (by decide +kernel) ⟨Nat.le_of_ble_eq_true rfl, Nat.le_of_ble_eq_true rfl⟩) (dg_preV sX_182 rfl K ST hP hS hA1 hA) rfl rfl hl.1 rfl (lv_room (Nat.le_of_ble_eq_true rfl)) dX4_putAll_16 ⟨Nat.le_of_ble_eq_true rfl, Nat.le_of_ble_eq_true rfl⟩) (fun S_56 hw_56 H locs hP hS => ?_)
        obtain ⟨I_56, m_56, w_56_0, -⟩ := hw_56
        have M_56 := dg_sm.tr M_50 m_56 (by decide) (by decide)
        obtain ⟨y_57, f_y_57, w_56_0⟩ := w_56_0
        have w_56_0 : ((x_49).toInt < 124 → (y_57).toInt = (x_49).toInt + 1) ∧ (124 ≤ (x_49).toInt → (y_57).toInt = (x_49).toInt) := w_56_0
        have b_y_57 : 0 ≤ (y_57).toInt ∧ (y_57).toInt ≤ 124 := dg_I.intb (lo := 0) (hi := 124) I_56 sX_182 (by decide +kernel) f_y_57
        obtain ⟨x_58, ex_58⟩ : ∃ z, z = x_48 + 1 := ⟨_, rfl⟩
        have jx_58 : (x_58).toInt = (x_48).toInt + 1 := by rw [ex_58]; exact dk_addT rfl (by decide +kernel) (by omega) (by omega)
        refine lv_iinc (v := x_58) (lv' := [(4, .int x_58), (0, .ref (o + 182)), (1, .ref (o + (pt + 1))), (2, .int a2), (3, .int a3)]) hx hb dX4_putAll_19 hl (k := 0) rfl (by rw [ex_58]; rfl) (by decide) rfl (fun ls hl => ?_)
        refine lv_goto (tgt := 3) hx hb dX4_putAll_22 (by decide) ?_
        exact ih x_58 y_57 (by omega) (by omega) (by omega) S_56 I_56 M_56 f_y_57 (by omega) (by omega) _ _ hP hS _ (lv_sub hl [0, 1, 2, 3, 4] rfl)
  have hz_59 : (0 : Int32).toInt = 0 := by decide +kernel
  have hz_60 : (0 : Int32).toInt = 0 := by decide +kernel
  exact L_51 ((8 - ((0 : Int32)).toInt).toNat + 1) 0 ln (by decide +kernel) (by omega) (by omega) S I M_0 f_ln (by omega) (by omega) _ _ hP hS _ (lv_sub hl [0, 1, 2, 3, 4] rfl)
set_option maxHeartbeats 8000000 in
set_option maxRecDepth 100000 in
theorem c_i_putAll_hurts (l : Launch) (g : Nat → ClassId) (D : va_G) (o : Nat) (S : dg_S) (pt : Nat) (hk_pt : pX pt) (a2 : Int32) (b_a2 : 0 ≤ (a2).toInt ∧ (a2).toInt ≤ 0) (a3 : Int32) (b_a3 : 0 ≤ (a3).toInt ∧ (a3).toInt ≤ 6) (ln : Int32) (f_ln : S.1 182 1 = .int ln) (b_ln : 0 ≤ (ln).toInt ∧ (ln).toInt ≤ 124) (I : CX o S) (sz : Nat) : Met l yX4_putAll (bw yX4_putAll cX4_putAll 5 none) ({ frames := 2, cells := 0, slots := 0, locals := 53 } : Room) (dk_Pc g D (dg_w g shX o rfX S) sz [.ref (o + 182), .ref (o + (pt + 2)), .int a2, .int a3]) (va_Qv (fun S' => CX o S' ∧ dg_sm shX [(16, 1), (16, 3)] [17] S S' ∧ (∃ y9 : Int32, S'.1 182 1 = .int y9 ∧ ((ln).toInt + (a3).toInt ≤ 124 → (y9).toInt = (ln).toInt + (a3).toInt)) ∧ True) (dg_B g D shX o rfX) (dg_A o shX.length sz)) 0 0 (dg_A o shX.length sz) := by
  refine dg_met (cc := cX4_putAll) (maxL := 5) (ret := none) (by decide) rfl (Nat.le_of_ble_eq_true rfl) ?_
  intro p e s m args below meth c A hAe harg hx hb hr hml hts hown hlocks hin hP K hS hA1 hA ST hsz ls hl
  rw [← hAe]
  have F : CallFix p m c cX4_putAll 5 s args (bw yX4_putAll cX4_putAll 5 none) RX4 := ⟨hx, hb, hml, hown, hts⟩
  have hl : lv_has ls 5 [(0, .ref (o + 182)), (1, .ref (o + (pt + 2))), (2, .int a2), (3, .int a3)] := hl
  have M_0 : dg_sm shX [(16, 1), (16, 3)] [17] S S := dg_sm.rf
  refine lv_iconst (v := 0) hx hb dX4_putAll_0 (by decide +kernel) ?_
  refine lv_istore (lv' := [(4, .int 0), (0, .ref (o + 182)), (1, .ref (o + (pt + 2))), (2, .int a2), (3, .int a3)]) hx hb dX4_putAll_1 hl (by decide) rfl (fun ls hl => ?_)
  have L_51 : ∀ (n : Nat) (x_48 : Int32) (x_49 : Int32), (0 ≤ (x_48).toInt ∧ (x_48).toInt ≤ 6) → (0 ≤ (x_49).toInt ∧ (x_49).toInt ≤ 124) → ((7 - (x_48).toInt).toNat < n) → ∀ S_50 : dg_S, CX o S_50 → dg_sm shX [(16, 1), (16, 3)] [17] S S_50 → S_50.1 182 1 = .int x_49 → ((ln).toInt + (a3).toInt ≤ 124 → (x_49).toInt = (ln).toInt + (x_48).toInt) → ((x_48).toInt ≤ (a3).toInt) → ∀ (H : Heap) (locs : List Loc), va_P D vwCl (dg_w g shX o rfX S_50) H → va_S A s.heap H locs → ∀ ls : Array Slot, lv_has ls 5 [(4, .int x_48), (0, .ref (o + 182)), (1, .ref (o + (pt + 2))), (2, .int a2), (3, .int a3)] → W p l e ({ frames := 2, cells := 0, slots := 0, locals := 53 } : Room) s m args below meth c H locs 0 0 (MQ below (va_Qv (fun S' => CX o S' ∧ dg_sm shX [(16, 1), (16, 3)] [17] S S' ∧ (∃ y9 : Int32, S'.1 182 1 = .int y9 ∧ ((ln).toInt + (a3).toInt ≤ 124 → (y9).toInt = (ln).toInt + (a3).toInt)) ∧ True) (dg_B g D shX o rfX) A) args s 0 0 A) (F0 m 3 ls []) := by
    intro n
    induction n with
    | zero =>
      intro x_48 x_49 b_x_48 b_x_49 hmu S_50 I_50 M_50 ff_50_1_182 srel_50_0 srel_50_1 H locs hP hS ls hl
      omega
    | succ n ih =>
      intro x_48 x_49 b_x_48 b_x_49 hmu S_50 I_50 M_50 ff_50_1_182 srel_50_0 srel_50_1 H locs hP hS ls hl
      refine lv_iload hx hb dX4_putAll_3 (lv_at hl 0 rfl) ?_
      refine lv_iload_n hx hb dX4_putAll_5 rfl (lv_at hl 4 rfl) ?_
      refine lv_icmp_ge (tgt := 25) hx hb dX4_putAll_6 (by decide) (fun c_52 => ?_) (fun c_52 => ?_)
      · have jc_52 := dk_gec (k := (a3).toInt) rfl c_52
        refine W.widen (k := 0) (n := 0) (Nat.le_of_ble_eq_true rfl) (Nat.le_of_ble_eq_true rfl) ?_
        exact dg_vret hx hb hr hlocks hP hS ⟨I_50, M_50, ⟨x_49, ff_50_1_182, (by omega)⟩, trivial⟩ dX4_putAll_25
      · have jc_52 := dk_ngec (k := (a3).toInt) rfl c_52
        refine lv_aload_n hx hb dX4_putAll_9 rfl (lv_at hl 1 rfl) ?_
        refine lv_aload_n hx hb dX4_putAll_10 rfl (lv_at hl 2 rfl) ?_
        refine lv_iload_n hx hb dX4_putAll_11 rfl (lv_at hl 3 rfl) ?_
        refine lv_iload hx hb dX4_putAll_12 (lv_at hl 0 rfl) ?_
        refine lv_iadd hx hb dX4_putAll_14 ?_
        refine lv_topi (fun x_53 ex_53 => ?_)
        have jx_53 : (x_53).toInt = (a2).toInt + (x_48).toInt := by rw [ex_53]; exact dk_addT rfl rfl (by omega) (by omega)
        have hin_54 : vp_in x_53 6 := (dk_inv (by omega) (by omega))
        refine dg_iald hx hb K hP (pX_2 pt hk_pt) hin_54 dX4_putAll_15 (fun x_55 ex_55 => ?_)
        refine dg_callv hS hA1 hA (va_runV (As := [.int x_55]) (rest := []) F (c_i_put l g D o S_50 x_55 x_49 ff_50_1_182 (by omega) I_50 H.size) (cwV 1 hts (bw_V wB_781 wB_782 wB_783 wB_784 wB_780) rfl rfl rfl (by decide +kernel) ⟨Nat.le_of_ble_eq_true rfl, Nat.le_of_ble_eq_true rfl⟩) (dg_preV sX_182 rfl K ST hP hS hA1 hA) rfl rfl hl.1 rfl (lv_room (Nat.le_of_ble_eq_true rfl)) dX4_putAll_16 ⟨Nat.le_of_ble_eq_true rfl, Nat.le_of_ble_eq_true rfl⟩) (fun S_56 hw_56 H locs hP hS => ?_)
        obtain ⟨I_56, m_56, w_56_0, -⟩ := hw_56
        have M_56 := dg_sm.tr M_50 m_56 (by decide) (by decide)
        obtain ⟨y_57, f_y_57, w_56_0⟩ := w_56_0
        have w_56_0 : ((x_49).toInt < 124 → (y_57).toInt = (x_49).toInt + 1) ∧ (124 ≤ (x_49).toInt → (y_57).toInt = (x_49).toInt) := w_56_0
        have b_y_57 : 0 ≤ (y_57).toInt ∧ (y_57).toInt ≤ 124 := dg_I.intb (lo := 0) (hi := 124) I_56 sX_182 (by decide +kernel) f_y_57
        obtain ⟨x_58, ex_58⟩ : ∃ z, z = x_48 + 1 := ⟨_, rfl⟩
        have jx_58 : (x_58).toInt = (x_48).toInt + 1 := by rw [ex_58]; exact dk_addT rfl (by decide +kernel) (by omega) (by omega)
        refine lv_iinc (v := x_58) (lv' := [(4, .int x_58), (0, .ref (o + 182)), (1, .ref (o + (pt + 2))), (2, .int a2), (3, .int a3)]) hx hb dX4_putAll_19 hl (k := 0) rfl (by rw [ex_58]; rfl) (by decide) rfl (fun ls hl => ?_)
        refine lv_goto (tgt := 3) hx hb dX4_putAll_22 (by decide) ?_
        exact ih x_58 y_57 (by omega) (by omega) (by omega) S_56 I_56 M_56 f_y_57 (by omega) (by omega) _ _ hP hS _ (lv_sub hl [0, 1, 2, 3, 4] rfl)
  have hz_59 : (0 : Int32).toInt = 0 := by decide +kernel
  have hz_60 : (0 : Int32).toInt = 0 := by decide +kernel
  exact L_51 ((7 - ((0 : Int32)).toInt).toNat + 1) 0 ln (by decide +kernel) (by omega) (by omega) S I M_0 f_ln (by omega) (by omega) _ _ hP hS _ (lv_sub hl [0, 1, 2, 3, 4] rfl)
set_option maxHeartbeats 8000000 in
set_option maxRecDepth 100000 in
theorem c_i_putAll_sold (l : Launch) (g : Nat → ClassId) (D : va_G) (o : Nat) (S : dg_S) (pt : Nat) (hk_pt : pX pt) (a2 : Int32) (b_a2 : 0 ≤ (a2).toInt ∧ (a2).toInt ≤ 0) (a3 : Int32) (b_a3 : 0 ≤ (a3).toInt ∧ (a3).toInt ≤ 5) (ln : Int32) (f_ln : S.1 182 1 = .int ln) (b_ln : 0 ≤ (ln).toInt ∧ (ln).toInt ≤ 124) (I : CX o S) (sz : Nat) : Met l yX4_putAll (bw yX4_putAll cX4_putAll 5 none) ({ frames := 2, cells := 0, slots := 0, locals := 53 } : Room) (dk_Pc g D (dg_w g shX o rfX S) sz [.ref (o + 182), .ref (o + (pt + 5)), .int a2, .int a3]) (va_Qv (fun S' => CX o S' ∧ dg_sm shX [(16, 1), (16, 3)] [17] S S' ∧ (∃ y9 : Int32, S'.1 182 1 = .int y9 ∧ ((ln).toInt + (a3).toInt ≤ 124 → (y9).toInt = (ln).toInt + (a3).toInt)) ∧ True) (dg_B g D shX o rfX) (dg_A o shX.length sz)) 0 0 (dg_A o shX.length sz) := by
  refine dg_met (cc := cX4_putAll) (maxL := 5) (ret := none) (by decide) rfl (Nat.le_of_ble_eq_true rfl) ?_
  intro p e s m args below meth c A hAe harg hx hb hr hml hts hown hlocks hin hP K hS hA1 hA ST hsz ls hl
  rw [← hAe]
  have F : CallFix p m c cX4_putAll 5 s args (bw yX4_putAll cX4_putAll 5 none) RX4 := ⟨hx, hb, hml, hown, hts⟩
  have hl : lv_has ls 5 [(0, .ref (o + 182)), (1, .ref (o + (pt + 5))), (2, .int a2), (3, .int a3)] := hl
  have M_0 : dg_sm shX [(16, 1), (16, 3)] [17] S S := dg_sm.rf
  refine lv_iconst (v := 0) hx hb dX4_putAll_0 (by decide +kernel) ?_
  refine lv_istore (lv' := [(4, .int 0), (0, .ref (o + 182)), (1, .ref (o + (pt + 5))), (2, .int a2), (3, .int a3)]) hx hb dX4_putAll_1 hl (by decide) rfl (fun ls hl => ?_)
  have L_51 : ∀ (n : Nat) (x_48 : Int32) (x_49 : Int32), (0 ≤ (x_48).toInt ∧ (x_48).toInt ≤ 5) → (0 ≤ (x_49).toInt ∧ (x_49).toInt ≤ 124) → ((6 - (x_48).toInt).toNat < n) → ∀ S_50 : dg_S, CX o S_50 → dg_sm shX [(16, 1), (16, 3)] [17] S S_50 → S_50.1 182 1 = .int x_49 → ((ln).toInt + (a3).toInt ≤ 124 → (x_49).toInt = (ln).toInt + (x_48).toInt) → ((x_48).toInt ≤ (a3).toInt) → ∀ (H : Heap) (locs : List Loc), va_P D vwCl (dg_w g shX o rfX S_50) H → va_S A s.heap H locs → ∀ ls : Array Slot, lv_has ls 5 [(4, .int x_48), (0, .ref (o + 182)), (1, .ref (o + (pt + 5))), (2, .int a2), (3, .int a3)] → W p l e ({ frames := 2, cells := 0, slots := 0, locals := 53 } : Room) s m args below meth c H locs 0 0 (MQ below (va_Qv (fun S' => CX o S' ∧ dg_sm shX [(16, 1), (16, 3)] [17] S S' ∧ (∃ y9 : Int32, S'.1 182 1 = .int y9 ∧ ((ln).toInt + (a3).toInt ≤ 124 → (y9).toInt = (ln).toInt + (a3).toInt)) ∧ True) (dg_B g D shX o rfX) A) args s 0 0 A) (F0 m 3 ls []) := by
    intro n
    induction n with
    | zero =>
      intro x_48 x_49 b_x_48 b_x_49 hmu S_50 I_50 M_50 ff_50_1_182 srel_50_0 srel_50_1 H locs hP hS ls hl
      omega
    | succ n ih =>
      intro x_48 x_49 b_x_48 b_x_49 hmu S_50 I_50 M_50 ff_50_1_182 srel_50_0 srel_50_1 H locs hP hS ls hl
      refine lv_iload hx hb dX4_putAll_3 (lv_at hl 0 rfl) ?_
      refine lv_iload_n hx hb dX4_putAll_5 rfl (lv_at hl 4 rfl) ?_
      refine lv_icmp_ge (tgt := 25) hx hb dX4_putAll_6 (by decide) (fun c_52 => ?_) (fun c_52 => ?_)
      · have jc_52 := dk_gec (k := (a3).toInt) rfl c_52
        refine W.widen (k := 0) (n := 0) (Nat.le_of_ble_eq_true rfl) (Nat.le_of_ble_eq_true rfl) ?_
        exact dg_vret hx hb hr hlocks hP hS ⟨I_50, M_50, ⟨x_49, ff_50_1_182, (by omega)⟩, trivial⟩ dX4_putAll_25
      · have jc_52 := dk_ngec (k := (a3).toInt) rfl c_52
        refine lv_aload_n hx hb dX4_putAll_9 rfl (lv_at hl 1 rfl) ?_
        refine lv_aload_n hx hb dX4_putAll_10 rfl (lv_at hl 2 rfl) ?_
        refine lv_iload_n hx hb dX4_putAll_11 rfl (lv_at hl 3 rfl) ?_
        refine lv_iload hx hb dX4_putAll_12 (lv_at hl 0 rfl) ?_
        refine lv_iadd hx hb dX4_putAll_14 ?_
        refine lv_topi (fun x_53 ex_53 => ?_)
        have jx_53 : (x_53).toInt = (a2).toInt + (x_48).toInt := by rw [ex_53]; exact dk_addT rfl rfl (by omega) (by omega)
        have hin_54 : vp_in x_53 5 := (dk_inv (by omega) (by omega))
        refine dg_iald hx hb K hP (pX_5 pt hk_pt) hin_54 dX4_putAll_15 (fun x_55 ex_55 => ?_)
        refine dg_callv hS hA1 hA (va_runV (As := [.int x_55]) (rest := []) F (c_i_put l g D o S_50 x_55 x_49 ff_50_1_182 (by omega) I_50 H.size) (cwV 1 hts (bw_V wB_781 wB_782 wB_783 wB_784 wB_780) rfl rfl rfl (by decide +kernel) ⟨Nat.le_of_ble_eq_true rfl, Nat.le_of_ble_eq_true rfl⟩) (dg_preV sX_182 rfl K ST hP hS hA1 hA) rfl rfl hl.1 rfl (lv_room (Nat.le_of_ble_eq_true rfl)) dX4_putAll_16 ⟨Nat.le_of_ble_eq_true rfl, Nat.le_of_ble_eq_true rfl⟩) (fun S_56 hw_56 H locs hP hS => ?_)
        obtain ⟨I_56, m_56, w_56_0, -⟩ := hw_56
        have M_56 := dg_sm.tr M_50 m_56 (by decide) (by decide)
        obtain ⟨y_57, f_y_57, w_56_0⟩ := w_56_0
        have w_56_0 : ((x_49).toInt < 124 → (y_57).toInt = (x_49).toInt + 1) ∧ (124 ≤ (x_49).toInt → (y_57).toInt = (x_49).toInt) := w_56_0
        have b_y_57 : 0 ≤ (y_57).toInt ∧ (y_57).toInt ≤ 124 := dg_I.intb (lo := 0) (hi := 124) I_56 sX_182 (by decide +kernel) f_y_57
        obtain ⟨x_58, ex_58⟩ : ∃ z, z = x_48 + 1 := ⟨_, rfl⟩
        have jx_58 : (x_58).toInt = (x_48).toInt + 1 := by rw [ex_58]; exact dk_addT rfl (by decide +kernel) (by omega) (by omega)
        refine lv_iinc (v := x_58) (lv' := [(4, .int x_58), (0, .ref (o + 182)), (1, .ref (o + (pt + 5))), (2, .int a2), (3, .int a3)]) hx hb dX4_putAll_19 hl (k := 0) rfl (by rw [ex_58]; rfl) (by decide) rfl (fun ls hl => ?_)
        refine lv_goto (tgt := 3) hx hb dX4_putAll_22 (by decide) ?_
        exact ih x_58 y_57 (by omega) (by omega) (by omega) S_56 I_56 M_56 f_y_57 (by omega) (by omega) _ _ hP hS _ (lv_sub hl [0, 1, 2, 3, 4] rfl)
  have hz_59 : (0 : Int32).toInt = 0 := by decide +kernel
  have hz_60 : (0 : Int32).toInt = 0 := by decide +kernel
  exact L_51 ((6 - ((0 : Int32)).toInt).toNat + 1) 0 ln (by decide +kernel) (by omega) (by omega) S I M_0 f_ln (by omega) (by omega) _ _ hP hS _ (lv_sub hl [0, 1, 2, 3, 4] rfl)
set_option maxHeartbeats 8000000 in
set_option maxRecDepth 100000 in
theorem c_i_putAll_tubs (l : Launch) (g : Nat → ClassId) (D : va_G) (o : Nat) (S : dg_S) (pt : Nat) (hk_pt : pX pt) (a2 : Int32) (b_a2 : 0 ≤ (a2).toInt ∧ (a2).toInt ≤ 0) (a3 : Int32) (b_a3 : 0 ≤ (a3).toInt ∧ (a3).toInt ≤ 10) (ln : Int32) (f_ln : S.1 182 1 = .int ln) (b_ln : 0 ≤ (ln).toInt ∧ (ln).toInt ≤ 124) (I : CX o S) (sz : Nat) : Met l yX4_putAll (bw yX4_putAll cX4_putAll 5 none) ({ frames := 2, cells := 0, slots := 0, locals := 53 } : Room) (dk_Pc g D (dg_w g shX o rfX S) sz [.ref (o + 182), .ref (o + (pt + 6)), .int a2, .int a3]) (va_Qv (fun S' => CX o S' ∧ dg_sm shX [(16, 1), (16, 3)] [17] S S' ∧ (∃ y9 : Int32, S'.1 182 1 = .int y9 ∧ ((ln).toInt + (a3).toInt ≤ 124 → (y9).toInt = (ln).toInt + (a3).toInt)) ∧ True) (dg_B g D shX o rfX) (dg_A o shX.length sz)) 0 0 (dg_A o shX.length sz) := by
  refine dg_met (cc := cX4_putAll) (maxL := 5) (ret := none) (by decide) rfl (Nat.le_of_ble_eq_true rfl) ?_
  intro p e s m args below meth c A hAe harg hx hb hr hml hts hown hlocks hin hP K hS hA1 hA ST hsz ls hl
  rw [← hAe]
  have F : CallFix p m c cX4_putAll 5 s args (bw yX4_putAll cX4_putAll 5 none) RX4 := ⟨hx, hb, hml, hown, hts⟩
  have hl : lv_has ls 5 [(0, .ref (o + 182)), (1, .ref (o + (pt + 6))), (2, .int a2), (3, .int a3)] := hl
  have M_0 : dg_sm shX [(16, 1), (16, 3)] [17] S S := dg_sm.rf
  refine lv_iconst (v := 0) hx hb dX4_putAll_0 (by decide +kernel) ?_
  refine lv_istore (lv' := [(4, .int 0), (0, .ref (o + 182)), (1, .ref (o + (pt + 6))), (2, .int a2), (3, .int a3)]) hx hb dX4_putAll_1 hl (by decide) rfl (fun ls hl => ?_)
  have L_51 : ∀ (n : Nat) (x_48 : Int32) (x_49 : Int32), (0 ≤ (x_48).toInt ∧ (x_48).toInt ≤ 10) → (0 ≤ (x_49).toInt ∧ (x_49).toInt ≤ 124) → ((11 - (x_48).toInt).toNat < n) → ∀ S_50 : dg_S, CX o S_50 → dg_sm shX [(16, 1), (16, 3)] [17] S S_50 → S_50.1 182 1 = .int x_49 → ((ln).toInt + (a3).toInt ≤ 124 → (x_49).toInt = (ln).toInt + (x_48).toInt) → ((x_48).toInt ≤ (a3).toInt) → ∀ (H : Heap) (locs : List Loc), va_P D vwCl (dg_w g shX o rfX S_50) H → va_S A s.heap H locs → ∀ ls : Array Slot, lv_has ls 5 [(4, .int x_48), (0, .ref (o + 182)), (1, .ref (o + (pt + 6))), (2, .int a2), (3, .int a3)] → W p l e ({ frames := 2, cells := 0, slots := 0, locals := 53 } : Room) s m args below meth c H locs 0 0 (MQ below (va_Qv (fun S' => CX o S' ∧ dg_sm shX [(16, 1), (16, 3)] [17] S S' ∧ (∃ y9 : Int32, S'.1 182 1 = .int y9 ∧ ((ln).toInt + (a3).toInt ≤ 124 → (y9).toInt = (ln).toInt + (a3).toInt)) ∧ True) (dg_B g D shX o rfX) A) args s 0 0 A) (F0 m 3 ls []) := by
    intro n
    induction n with
    | zero =>
      intro x_48 x_49 b_x_48 b_x_49 hmu S_50 I_50 M_50 ff_50_1_182 srel_50_0 srel_50_1 H locs hP hS ls hl
      omega
    | succ n ih =>
      intro x_48 x_49 b_x_48 b_x_49 hmu S_50 I_50 M_50 ff_50_1_182 srel_50_0 srel_50_1 H locs hP hS ls hl
      refine lv_iload hx hb dX4_putAll_3 (lv_at hl 0 rfl) ?_
      refine lv_iload_n hx hb dX4_putAll_5 rfl (lv_at hl 4 rfl) ?_
      refine lv_icmp_ge (tgt := 25) hx hb dX4_putAll_6 (by decide) (fun c_52 => ?_) (fun c_52 => ?_)
      · have jc_52 := dk_gec (k := (a3).toInt) rfl c_52
        refine W.widen (k := 0) (n := 0) (Nat.le_of_ble_eq_true rfl) (Nat.le_of_ble_eq_true rfl) ?_
        exact dg_vret hx hb hr hlocks hP hS ⟨I_50, M_50, ⟨x_49, ff_50_1_182, (by omega)⟩, trivial⟩ dX4_putAll_25
      · have jc_52 := dk_ngec (k := (a3).toInt) rfl c_52
        refine lv_aload_n hx hb dX4_putAll_9 rfl (lv_at hl 1 rfl) ?_
        refine lv_aload_n hx hb dX4_putAll_10 rfl (lv_at hl 2 rfl) ?_
        refine lv_iload_n hx hb dX4_putAll_11 rfl (lv_at hl 3 rfl) ?_
        refine lv_iload hx hb dX4_putAll_12 (lv_at hl 0 rfl) ?_
        refine lv_iadd hx hb dX4_putAll_14 ?_
        refine lv_topi (fun x_53 ex_53 => ?_)
        have jx_53 : (x_53).toInt = (a2).toInt + (x_48).toInt := by rw [ex_53]; exact dk_addT rfl rfl (by omega) (by omega)
        have hin_54 : vp_in x_53 10 := (dk_inv (by omega) (by omega))
        refine dg_iald hx hb K hP (pX_6 pt hk_pt) hin_54 dX4_putAll_15 (fun x_55 ex_55 => ?_)
        refine dg_callv hS hA1 hA (va_runV (As := [.int x_55]) (rest := []) F (c_i_put l g D o S_50 x_55 x_49 ff_50_1_182 (by omega) I_50 H.size) (cwV 1 hts (bw_V wB_781 wB_782 wB_783 wB_784 wB_780) rfl rfl rfl (by decide +kernel) ⟨Nat.le_of_ble_eq_true rfl, Nat.le_of_ble_eq_true rfl⟩) (dg_preV sX_182 rfl K ST hP hS hA1 hA) rfl rfl hl.1 rfl (lv_room (Nat.le_of_ble_eq_true rfl)) dX4_putAll_16 ⟨Nat.le_of_ble_eq_true rfl, Nat.le_of_ble_eq_true rfl⟩) (fun S_56 hw_56 H locs hP hS => ?_)
        obtain ⟨I_56, m_56, w_56_0, -⟩ := hw_56
        have M_56 := dg_sm.tr M_50 m_56 (by decide) (by decide)
        obtain ⟨y_57, f_y_57, w_56_0⟩ := w_56_0
        have w_56_0 : ((x_49).toInt < 124 → (y_57).toInt = (x_49).toInt + 1) ∧ (124 ≤ (x_49).toInt → (y_57).toInt = (x_49).toInt) := w_56_0
        have b_y_57 : 0 ≤ (y_57).toInt ∧ (y_57).toInt ≤ 124 := dg_I.intb (lo := 0) (hi := 124) I_56 sX_182 (by decide +kernel) f_y_57
        obtain ⟨x_58, ex_58⟩ : ∃ z, z = x_48 + 1 := ⟨_, rfl⟩
        have jx_58 : (x_58).toInt = (x_48).toInt + 1 := by rw [ex_58]; exact dk_addT rfl (by decide +kernel) (by omega) (by omega)
        refine lv_iinc (v := x_58) (lv' := [(4, .int x_58), (0, .ref (o + 182)), (1, .ref (o + (pt + 6))), (2, .int a2), (3, .int a3)]) hx hb dX4_putAll_19 hl (k := 0) rfl (by rw [ex_58]; rfl) (by decide) rfl (fun ls hl => ?_)
        refine lv_goto (tgt := 3) hx hb dX4_putAll_22 (by decide) ?_
        exact ih x_58 y_57 (by omega) (by omega) (by omega) S_56 I_56 M_56 f_y_57 (by omega) (by omega) _ _ hP hS _ (lv_sub hl [0, 1, 2, 3, 4] rfl)
  have hz_59 : (0 : Int32).toInt = 0 := by decide +kernel
  have hz_60 : (0 : Int32).toInt = 0 := by decide +kernel
  exact L_51 ((11 - ((0 : Int32)).toInt).toNat + 1) 0 ln (by decide +kernel) (by omega) (by omega) S I M_0 f_ln (by omega) (by omega) _ _ hP hS _ (lv_sub hl [0, 1, 2, 3, 4] rfl)
set_option maxHeartbeats 8000000 in
set_option maxRecDepth 100000 in
theorem c_i_write (l : Launch) (g : Nat → ClassId) (D : va_G) (o : Nat) (S : dg_S) (gr : Nat) (hk_gr : rX gr) (pt : Nat) (hk_pt : pX pt) (cx : Int32) (f_cx : S.1 gr 0 = .int cx) (b_cx : 0 ≤ (cx).toInt ∧ (cx).toInt ≤ 7) (ry : Int32) (f_ry : S.1 gr 1 = .int ry) (b_ry : 0 ≤ (ry).toInt ∧ (ry).toInt ≤ 7) (mi : Int32) (f_mi : S.1 gr 6 = .int mi) (b_mi : 0 ≤ (mi).toInt ∧ (mi).toInt ≤ 6) (pl : Int32) (f_pl : S.1 gr 8 = .int pl) (b_pl : 0 ≤ (pl).toInt ∧ (pl).toInt ≤ 16) (od : Int32) (f_od : S.1 gr 11 = .int od) (b_od : 0 ≤ (od).toInt ∧ (od).toInt ≤ 5) (I : CX o S) (sz : Nat) : Met l yX4_write (bw yX4_write cX4_write 4 none) ({ frames := 3, cells := 0, slots := 0, locals := 77 } : Room) (dk_Pc g D (dg_w g shX o rfX S) sz [.ref (o + 182), .ref (o + gr), .ref (o + pt)]) (va_Qv (fun S' => CX o S' ∧ dg_sm shX [(16, 1), (16, 3)] [17] S S' ∧ (∃ y9 : Int32, S'.1 182 1 = .int y9 ∧ ((y9).toInt = 16 + IMm (ry).toInt (cx).toInt + (mi).toInt + 3 * (pl).toInt + (od).toInt)) ∧ True) (dg_B g D shX o rfX) (dg_A o shX.length sz)) 0 0 (dg_A o shX.length sz) := by
  refine dg_met (cc := cX4_write) (maxL := 4) (ret := none) (by decide) rfl (Nat.le_of_ble_eq_true rfl) ?_
  intro p e s m args below meth c A hAe harg hx hb hr hml hts hown hlocks hin hP K hS hA1 hA ST hsz ls hl
  rw [← hAe]
  have F : CallFix p m c cX4_write 4 s args (bw yX4_write cX4_write 4 none) RX4 := ⟨hx, hb, hml, hown, hts⟩
  have hl : lv_has ls 4 [(0, .ref (o + 182)), (1, .ref (o + gr)), (2, .ref (o + pt))] := hl
  have M_0 : dg_sm shX [(16, 1), (16, 3)] [17] S S := dg_sm.rf
  refine lv_aload_n hx hb dX4_write_0 rfl (lv_at hl 0 rfl) ?_
  refine lv_iconst (v := 0) hx hb dX4_write_1 (by decide +kernel) ?_
  have hz_1 : (0 : Int32).toInt = 0 := by decide +kernel
  refine dg_put (ci := 4) (v := .int 0) (ty := tyX4 1) (C := RX4) (T := TX4) (N := 6) hx hb hts (fun w h => bw_mem (wU_X4 w h)) tyX4 tyX4_ok nmX4 hown K hP hS hA1 sX_182 rfl 1 (by decide) (hts _ (bw_mem wB_777)) (fun _ h9 => h9) rfl (by decide +kernel) rfl rfl dX4_write_2 (fun S_2 e_2 H locs hP hS => ?_)
  have I_2 := dg_I.uFi (lo := 0) (hi := 124) I e_2 sX_182 (by decide +kernel) (show 0 ≤ ((0 : Int32)).toInt ∧ ((0 : Int32)).toInt ≤ 124 from (by decide +kernel))
  have M_2 := dg_sm.uF M_0 e_2 sX_182 (by decide)
  refine lv_aload_n hx hb dX4_write_5 rfl (lv_at hl 0 rfl) ?_
  refine lv_sipush (v := 233) hx hb dX4_write_6 (by decide +kernel) ?_
  have hz_3 : (233 : Int32).toInt = 233 := by decide +kernel
  refine dg_put (ci := 4) (v := .int 233) (ty := tyX4 3) (C := RX4) (T := TX4) (N := 6) hx hb hts (fun w h => bw_mem (wU_X4 w h)) tyX4 tyX4_ok nmX4 hown K hP hS hA1 sX_182 rfl 3 (by decide) (hts _ (bw_mem wB_779)) (fun _ h9 => h9) rfl (by decide +kernel) rfl rfl dX4_write_9 (fun S_4 e_4 H locs hP hS => ?_)
  have I_4 := dg_I.uFi (lo := (-2147483648)) (hi := 2147483647) I_2 e_4 sX_182 (by decide +kernel) (show (-2147483648) ≤ ((233 : Int32)).toInt ∧ ((233 : Int32)).toInt ≤ 2147483647 from (by decide +kernel))
  have M_4 := dg_sm.uF M_2 e_4 sX_182 (by decide)
  refine lv_aload_n hx hb dX4_write_12 rfl (lv_at hl 0 rfl) ?_
  refine lv_aload_n hx hb dX4_write_13 rfl (lv_at hl 2 rfl) ?_
  obtain ⟨x_5, f_x_5, b_x_5⟩ := dg_I.int (i := pt) (k := 0) (lo := 0) (hi := 65535) I (pX_0 pt hk_pt) (by decide +kernel)
  refine dg_get (C := RX5) (T := TX5) (N := 8) hx hb hts (fun w h => bw_mem (wU_X5 w h)) hown K hP (pX_0 pt hk_pt) rfl 0 (by decide) (hts _ (bw_mem wB_785)) (fun _ h9 => h9) (v := .int x_5) (((dg_uF_ne e_4 (fun z => absurd z.2 (by decide))).trans (dg_uF_ne e_2 (fun z => absurd z.2 (by decide)))).trans f_x_5) dX4_write_14 ?_
  refine lv_bipush (v := 8) hx hb dX4_write_17 (by decide +kernel) ?_
  refine lv_ishr hx hb dX4_write_19 ?_
  refine lv_topi (fun x_6 ex_6 => ?_)
  have hz_7 : (0 : Int32).toInt = 0 := by decide +kernel
  refine dg_callv hS hA1 hA (va_runV (As := [.int x_6]) (rest := []) F (c_i_put l g D o S_4 x_6 0 ((dg_uF_ne e_4 (fun z => absurd z.2 (by decide))).trans (dg_uF_at e_2)) (by decide +kernel) I_4 H.size) (cwV 1 hts (bw_V wB_781 wB_782 wB_783 wB_784 wB_780) rfl rfl rfl (by decide +kernel) ⟨Nat.le_of_ble_eq_true rfl, Nat.le_of_ble_eq_true rfl⟩) (dg_preV sX_182 rfl K ST hP hS hA1 hA) rfl rfl hl.1 rfl (lv_room (Nat.le_of_ble_eq_true rfl)) dX4_write_20 ⟨Nat.le_of_ble_eq_true rfl, Nat.le_of_ble_eq_true rfl⟩) (fun S_8 hw_8 H locs hP hS => ?_)
  obtain ⟨I_8, m_8, w_8_0, -⟩ := hw_8
  have M_8 := dg_sm.tr M_4 m_8 (by decide) (by decide)
  have hz_9 : (0 : Int32).toInt = 0 := by decide +kernel
  obtain ⟨y_10, f_y_10, w_8_0⟩ := w_8_0
  have w_8_0 : (((0 : Int32)).toInt < 124 → (y_10).toInt = ((0 : Int32)).toInt + 1) ∧ (124 ≤ ((0 : Int32)).toInt → (y_10).toInt = ((0 : Int32)).toInt) := w_8_0
  have b_y_10 : 0 ≤ (y_10).toInt ∧ (y_10).toInt ≤ 124 := dg_I.intb (lo := 0) (hi := 124) I_8 sX_182 (by decide +kernel) f_y_10
  refine lv_aload_n hx hb dX4_write_23 rfl (lv_at hl 0 rfl) ?_
  refine lv_aload_n hx hb dX4_write_24 rfl (lv_at hl 2 rfl) ?_
  refine dg_get (C := RX5) (T := TX5) (N := 8) hx hb hts (fun w h => bw_mem (wU_X5 w h)) hown K hP (pX_0 pt hk_pt) rfl 0 (by decide) (hts _ (bw_mem wB_785)) (fun _ h9 => h9) (v := .int x_5) (((m_8.1 pt 0 _ (pX_0 pt hk_pt) (by decide)).trans ((dg_uF_ne e_4 (fun z => absurd z.2 (by decide))).trans (dg_uF_ne e_2 (fun z => absurd z.2 (by decide))))).trans f_x_5) dX4_write_25 ?_
  refine lv_sipush (v := 255) hx hb dX4_write_28 (by decide +kernel) ?_
  refine lv_iand hx hb dX4_write_31 ?_
  refine lv_topi (fun x_11 ex_11 => ?_)
  have jx_11 := dk_and255 x_5
  rw [← ex_11] at jx_11
  refine dg_callv hS hA1 hA (va_runV (As := [.int x_11]) (rest := []) F (c_i_put l g D o S_8 x_11 y_10 f_y_10 (by omega) I_8 H.size) (cwV 1 hts (bw_V wB_781 wB_782 wB_783 wB_784 wB_780) rfl rfl rfl (by decide +kernel) ⟨Nat.le_of_ble_eq_true rfl, Nat.le_of_ble_eq_true rfl⟩) (dg_preV sX_182 rfl K ST hP hS hA1 hA) rfl rfl hl.1 rfl (lv_room (Nat.le_of_ble_eq_true rfl)) dX4_write_32 ⟨Nat.le_of_ble_eq_true rfl, Nat.le_of_ble_eq_true rfl⟩) (fun S_12 hw_12 H locs hP hS => ?_)
  obtain ⟨I_12, m_12, w_12_0, -⟩ := hw_12
  have M_12 := dg_sm.tr M_8 m_12 (by decide) (by decide)
  obtain ⟨y_13, f_y_13, w_12_0⟩ := w_12_0
  have w_12_0 : ((y_10).toInt < 124 → (y_13).toInt = (y_10).toInt + 1) ∧ (124 ≤ (y_10).toInt → (y_13).toInt = (y_10).toInt) := w_12_0
  have b_y_13 : 0 ≤ (y_13).toInt ∧ (y_13).toInt ≤ 124 := dg_I.intb (lo := 0) (hi := 124) I_12 sX_182 (by decide +kernel) f_y_13
  refine lv_aload_n hx hb dX4_write_35 rfl (lv_at hl 0 rfl) ?_
  refine lv_aload_n hx hb dX4_write_36 rfl (lv_at hl 2 rfl) ?_
  obtain ⟨x_14, f_x_14, b_x_14⟩ := dg_I.int (i := pt) (k := 1) (lo := (-2147483648)) (hi := 2147483647) I (pX_0 pt hk_pt) (by decide +kernel)
  refine dg_get (C := RX5) (T := TX5) (N := 8) hx hb hts (fun w h => bw_mem (wU_X5 w h)) hown K hP (pX_0 pt hk_pt) rfl 1 (by decide) (hts _ (bw_mem wB_786)) (fun _ h9 => h9) (v := .int x_14) (((m_12.1 pt 1 _ (pX_0 pt hk_pt) (by decide)).trans ((m_8.1 pt 1 _ (pX_0 pt hk_pt) (by decide)).trans ((dg_uF_ne e_4 (fun z => absurd z.2 (by decide))).trans (dg_uF_ne e_2 (fun z => by have h9 := (pX_0 pt hk_pt); rw [z.1, sX_182] at h9; cases h9))))).trans f_x_14) dX4_write_37 ?_
  refine lv_bipush (v := 16) hx hb dX4_write_40 (by decide +kernel) ?_
  refine lv_ishr hx hb dX4_write_42 ?_
  refine lv_topi (fun x_15 ex_15 => ?_)
  refine dg_callv hS hA1 hA (va_runV (As := [.int x_15]) (rest := []) F (c_i_put l g D o S_12 x_15 y_13 f_y_13 (by omega) I_12 H.size) (cwV 1 hts (bw_V wB_781 wB_782 wB_783 wB_784 wB_780) rfl rfl rfl (by decide +kernel) ⟨Nat.le_of_ble_eq_true rfl, Nat.le_of_ble_eq_true rfl⟩) (dg_preV sX_182 rfl K ST hP hS hA1 hA) rfl rfl hl.1 rfl (lv_room (Nat.le_of_ble_eq_true rfl)) dX4_write_43 ⟨Nat.le_of_ble_eq_true rfl, Nat.le_of_ble_eq_true rfl⟩) (fun S_16 hw_16 H locs hP hS => ?_)
  obtain ⟨I_16, m_16, w_16_0, -⟩ := hw_16
  have M_16 := dg_sm.tr M_12 m_16 (by decide) (by decide)
  obtain ⟨y_17, f_y_17, w_16_0⟩ := w_16_0
  have w_16_0 : ((y_13).toInt < 124 → (y_17).toInt = (y_13).toInt + 1) ∧ (124 ≤ (y_13).toInt → (y_17).toInt = (y_13).toInt) := w_16_0
  have b_y_17 : 0 ≤ (y_17).toInt ∧ (y_17).toInt ≤ 124 := dg_I.intb (lo := 0) (hi := 124) I_16 sX_182 (by decide +kernel) f_y_17
  refine lv_aload_n hx hb dX4_write_46 rfl (lv_at hl 0 rfl) ?_
  refine lv_aload_n hx hb dX4_write_47 rfl (lv_at hl 2 rfl) ?_
  refine dg_get (C := RX5) (T := TX5) (N := 8) hx hb hts (fun w h => bw_mem (wU_X5 w h)) hown K hP (pX_0 pt hk_pt) rfl 1 (by decide) (hts _ (bw_mem wB_786)) (fun _ h9 => h9) (v := .int x_14) (((m_16.1 pt 1 _ (pX_0 pt hk_pt) (by decide)).trans ((m_12.1 pt 1 _ (pX_0 pt hk_pt) (by decide)).trans ((m_8.1 pt 1 _ (pX_0 pt hk_pt) (by decide)).trans ((dg_uF_ne e_4 (fun z => absurd z.2 (by decide))).trans (dg_uF_ne e_2 (fun z => by have h9 := (pX_0 pt hk_pt); rw [z.1, sX_182] at h9; cases h9)))))).trans f_x_14) dX4_write_48 ?_
  refine lv_bipush (v := 8) hx hb dX4_write_51 (by decide +kernel) ?_
  refine lv_ishr hx hb dX4_write_53 ?_
  refine lv_topi (fun x_18 ex_18 => ?_)
  refine lv_sipush (v := 255) hx hb dX4_write_54 (by decide +kernel) ?_
  refine lv_iand hx hb dX4_write_57 ?_
  refine lv_topi (fun x_19 ex_19 => ?_)
  have jx_19 := dk_and255 x_18
  rw [← ex_19] at jx_19
  refine dg_callv hS hA1 hA (va_runV (As := [.int x_19]) (rest := []) F (c_i_put l g D o S_16 x_19 y_17 f_y_17 (by omega) I_16 H.size) (cwV 1 hts (bw_V wB_781 wB_782 wB_783 wB_784 wB_780) rfl rfl rfl (by decide +kernel) ⟨Nat.le_of_ble_eq_true rfl, Nat.le_of_ble_eq_true rfl⟩) (dg_preV sX_182 rfl K ST hP hS hA1 hA) rfl rfl hl.1 rfl (lv_room (Nat.le_of_ble_eq_true rfl)) dX4_write_58 ⟨Nat.le_of_ble_eq_true rfl, Nat.le_of_ble_eq_true rfl⟩) (fun S_20 hw_20 H locs hP hS => ?_)
  obtain ⟨I_20, m_20, w_20_0, -⟩ := hw_20
  have M_20 := dg_sm.tr M_16 m_20 (by decide) (by decide)
  obtain ⟨y_21, f_y_21, w_20_0⟩ := w_20_0
  have w_20_0 : ((y_17).toInt < 124 → (y_21).toInt = (y_17).toInt + 1) ∧ (124 ≤ (y_17).toInt → (y_21).toInt = (y_17).toInt) := w_20_0
  have b_y_21 : 0 ≤ (y_21).toInt ∧ (y_21).toInt ≤ 124 := dg_I.intb (lo := 0) (hi := 124) I_20 sX_182 (by decide +kernel) f_y_21
  refine lv_aload_n hx hb dX4_write_61 rfl (lv_at hl 0 rfl) ?_
  refine lv_aload_n hx hb dX4_write_62 rfl (lv_at hl 2 rfl) ?_
  refine dg_get (C := RX5) (T := TX5) (N := 8) hx hb hts (fun w h => bw_mem (wU_X5 w h)) hown K hP (pX_0 pt hk_pt) rfl 1 (by decide) (hts _ (bw_mem wB_786)) (fun _ h9 => h9) (v := .int x_14) (((m_20.1 pt 1 _ (pX_0 pt hk_pt) (by decide)).trans ((m_16.1 pt 1 _ (pX_0 pt hk_pt) (by decide)).trans ((m_12.1 pt 1 _ (pX_0 pt hk_pt) (by decide)).trans ((m_8.1 pt 1 _ (pX_0 pt hk_pt) (by decide)).trans ((dg_uF_ne e_4 (fun z => absurd z.2 (by decide))).trans (dg_uF_ne e_2 (fun z => by have h9 := (pX_0 pt hk_pt); rw [z.1, sX_182] at h9; cases h9))))))).trans f_x_14) dX4_write_63 ?_
  refine lv_sipush (v := 255) hx hb dX4_write_66 (by decide +kernel) ?_
  refine lv_iand hx hb dX4_write_69 ?_
  refine lv_topi (fun x_22 ex_22 => ?_)
  have jx_22 := dk_and255 x_14
  rw [← ex_22] at jx_22
  refine dg_callv hS hA1 hA (va_runV (As := [.int x_22]) (rest := []) F (c_i_put l g D o S_20 x_22 y_21 f_y_21 (by omega) I_20 H.size) (cwV 1 hts (bw_V wB_781 wB_782 wB_783 wB_784 wB_780) rfl rfl rfl (by decide +kernel) ⟨Nat.le_of_ble_eq_true rfl, Nat.le_of_ble_eq_true rfl⟩) (dg_preV sX_182 rfl K ST hP hS hA1 hA) rfl rfl hl.1 rfl (lv_room (Nat.le_of_ble_eq_true rfl)) dX4_write_70 ⟨Nat.le_of_ble_eq_true rfl, Nat.le_of_ble_eq_true rfl⟩) (fun S_23 hw_23 H locs hP hS => ?_)
  obtain ⟨I_23, m_23, w_23_0, -⟩ := hw_23
  have M_23 := dg_sm.tr M_20 m_23 (by decide) (by decide)
  obtain ⟨y_24, f_y_24, w_23_0⟩ := w_23_0
  have w_23_0 : ((y_21).toInt < 124 → (y_24).toInt = (y_21).toInt + 1) ∧ (124 ≤ (y_21).toInt → (y_24).toInt = (y_21).toInt) := w_23_0
  have b_y_24 : 0 ≤ (y_24).toInt ∧ (y_24).toInt ≤ 124 := dg_I.intb (lo := 0) (hi := 124) I_23 sX_182 (by decide +kernel) f_y_24
  refine lv_iconst (v := 0) hx hb dX4_write_73 (by decide +kernel) ?_
  refine lv_istore_n (lv' := [(3, .int 0), (0, .ref (o + 182)), (1, .ref (o + gr)), (2, .ref (o + pt))]) hx hb dX4_write_74 rfl hl (by decide) rfl (fun ls hl => ?_)
  have J_133 : ∀ (x_50 : Int32) (x_51 : Int32), (0 ≤ (x_50).toInt ∧ (x_50).toInt ≤ 7) → (0 ≤ (x_51).toInt ∧ (x_51).toInt ≤ 124) → ∀ S_132 : dg_S, CX o S_132 → dg_sm shX [(16, 1), (16, 3)] [17] S S_132 → S_132.1 182 1 = .int x_51 → ((x_51).toInt = 5 + IMm (ry).toInt (cx).toInt) → ∀ (H : Heap) (locs : List Loc), va_P D vwCl (dg_w g shX o rfX S_132) H → va_S A s.heap H locs → ∀ ls : Array Slot, lv_has ls 4 [(3, .int x_50), (0, .ref (o + 182)), (1, .ref (o + gr)), (2, .ref (o + pt))] → W p l e ({ frames := 3, cells := 0, slots := 0, locals := 77 } : Room) s m args below meth c H locs 0 0 (MQ below (va_Qv (fun S' => CX o S' ∧ dg_sm shX [(16, 1), (16, 3)] [17] S S' ∧ (∃ y9 : Int32, S'.1 182 1 = .int y9 ∧ ((y9).toInt = 16 + IMm (ry).toInt (cx).toInt + (mi).toInt + 3 * (pl).toInt + (od).toInt)) ∧ True) (dg_B g D shX o rfX) A) args s 0 0 A) (F0 m 108 ls []) := by
    intro x_50 x_51 b_x_50 b_x_51 S_132 I_132 M_132 ff_132_1_182 srel_132_0 H locs hP hS ls hl
    have hib := IMm.bd (a := (ry).toInt) (b := (cx).toInt) (by omega) (by omega) (by omega) (by omega)
    refine lv_aload_n hx hb dX4_write_108 rfl (lv_at hl 1 rfl) ?_
    refine lv_aload_n hx hb dX4_write_109 rfl (lv_at hl 3 rfl) ?_
    refine dg_get (C := RX5) (T := TX5) (N := 8) hx hb hts (fun w h => bw_mem (wU_X5 w h)) hown K hP (pX_0 pt hk_pt) rfl 3 (by decide) (hts _ (bw_mem wB_794)) (fun _ h9 => h9) (v := .ref (o + (pt + 2))) (show S_132.1 pt 3 = .ref (o + (pt + 2)) from dg_I.rel (d := 2) I_132 (pX_0 pt hk_pt) (by decide +kernel)) dX4_write_110 ?_
    refine lv_iconst (v := 0) hx hb dX4_write_113 (by decide +kernel) ?_
    refine lv_aload_n hx hb dX4_write_114 rfl (lv_at hl 2 rfl) ?_
    refine dg_get (C := RX2) (T := TX2) (N := 19) hx hb hts (fun w h => bw_mem (wU_X2 w h)) hown K hP (rX_0 gr hk_gr) rfl 6 (by decide) (hts _ (bw_mem wB_795)) (fun _ h9 => h9) (v := .int mi) ((M_132.1 gr 6 _ (rX_0 gr hk_gr) (by decide)).trans f_mi) dX4_write_115 ?_
    have hz_134 : (0 : Int32).toInt = 0 := by decide +kernel
    refine dg_callv hS hA1 hA (va_runV (As := [.ref (o + (pt + 2)), .int 0, .int mi]) (rest := []) F (c_i_putAll_hurts l g D o S_132 pt hk_pt 0 (by decide +kernel) mi (by omega) x_51 ff_132_1_182 (by omega) I_132 H.size) (cwV 3 hts (bw_V wB_791 wB_792 wB_793 wB_784 wB_790) rfl rfl rfl (by decide +kernel) ⟨Nat.le_of_ble_eq_true rfl, Nat.le_of_ble_eq_true rfl⟩) (dg_preV sX_182 rfl K ST hP hS hA1 hA) rfl rfl hl.1 rfl (lv_room (Nat.le_of_ble_eq_true rfl)) dX4_write_118 ⟨Nat.le_of_ble_eq_true rfl, Nat.le_of_ble_eq_true rfl⟩) (fun S_135 hw_135 H locs hP hS => ?_)
    obtain ⟨I_135, m_135, w_135_0, -⟩ := hw_135
    have M_135 := dg_sm.tr M_132 m_135 (by decide) (by decide)
    have hz_136 : (0 : Int32).toInt = 0 := by decide +kernel
    obtain ⟨y_137, f_y_137, w_135_0⟩ := w_135_0
    have w_135_0 : (x_51).toInt + (mi).toInt ≤ 124 → (y_137).toInt = (x_51).toInt + (mi).toInt := w_135_0
    have b_y_137 : 0 ≤ (y_137).toInt ∧ (y_137).toInt ≤ 124 := dg_I.intb (lo := 0) (hi := 124) I_135 sX_182 (by decide +kernel) f_y_137
    refine lv_iconst (v := 0) hx hb dX4_write_121 (by decide +kernel) ?_
    refine lv_istore_n (lv' := [(3, .int 0), (0, .ref (o + 182)), (1, .ref (o + gr)), (2, .ref (o + pt))]) hx hb dX4_write_122 rfl hl (by decide) rfl (fun ls hl => ?_)
    have J_214 : ∀ (x_197 : Int32) (x_198 : Int32), (0 ≤ (x_197).toInt ∧ (x_197).toInt ≤ 16) → (0 ≤ (x_198).toInt ∧ (x_198).toInt ≤ 124) → ∀ S_213 : dg_S, CX o S_213 → dg_sm shX [(16, 1), (16, 3)] [17] S S_213 → S_213.1 182 1 = .int x_198 → ((x_198).toInt = 5 + IMm (ry).toInt (cx).toInt + (mi).toInt + 3 * (pl).toInt) → ∀ (H : Heap) (locs : List Loc), va_P D vwCl (dg_w g shX o rfX S_213) H → va_S A s.heap H locs → ∀ ls : Array Slot, lv_has ls 4 [(3, .int x_197), (0, .ref (o + 182)), (1, .ref (o + gr)), (2, .ref (o + pt))] → W p l e ({ frames := 3, cells := 0, slots := 0, locals := 77 } : Room) s m args below meth c H locs 0 0 (MQ below (va_Qv (fun S' => CX o S' ∧ dg_sm shX [(16, 1), (16, 3)] [17] S S' ∧ (∃ y9 : Int32, S'.1 182 1 = .int y9 ∧ ((y9).toInt = 16 + IMm (ry).toInt (cx).toInt + (mi).toInt + 3 * (pl).toInt + (od).toInt)) ∧ True) (dg_B g D shX o rfX) A) args s 0 0 A) (F0 m 173 ls []) := by
      intro x_197 x_198 b_x_197 b_x_198 S_213 I_213 M_213 ff_213_1_182 srel_213_0 H locs hP hS ls hl
      have hib9 := IMm.bd (a := (ry).toInt) (b := (cx).toInt) (by omega) (by omega) (by omega) (by omega)
      refine lv_aload_n hx hb dX4_write_173 rfl (lv_at hl 1 rfl) ?_
      refine lv_aload_n hx hb dX4_write_174 rfl (lv_at hl 3 rfl) ?_
      refine dg_get (C := RX5) (T := TX5) (N := 8) hx hb hts (fun w h => bw_mem (wU_X5 w h)) hown K hP (pX_0 pt hk_pt) rfl 6 (by decide) (hts _ (bw_mem wB_801)) (fun _ h9 => h9) (v := .ref (o + (pt + 5))) (show S_213.1 pt 6 = .ref (o + (pt + 5)) from dg_I.rel (d := 5) I_213 (pX_0 pt hk_pt) (by decide +kernel)) dX4_write_175 ?_
      refine lv_iconst (v := 0) hx hb dX4_write_178 (by decide +kernel) ?_
      refine lv_aload_n hx hb dX4_write_179 rfl (lv_at hl 2 rfl) ?_
      refine dg_get (C := RX2) (T := TX2) (N := 19) hx hb hts (fun w h => bw_mem (wU_X2 w h)) hown K hP (rX_0 gr hk_gr) rfl 11 (by decide) (hts _ (bw_mem wB_802)) (fun _ h9 => h9) (v := .int od) ((M_213.1 gr 11 _ (rX_0 gr hk_gr) (by decide)).trans f_od) dX4_write_180 ?_
      have hz_215 : (0 : Int32).toInt = 0 := by decide +kernel
      refine dg_callv hS hA1 hA (va_runV (As := [.ref (o + (pt + 5)), .int 0, .int od]) (rest := []) F (c_i_putAll_sold l g D o S_213 pt hk_pt 0 (by decide +kernel) od (by omega) x_198 ff_213_1_182 (by omega) I_213 H.size) (cwV 3 hts (bw_V wB_791 wB_792 wB_793 wB_784 wB_790) rfl rfl rfl (by decide +kernel) ⟨Nat.le_of_ble_eq_true rfl, Nat.le_of_ble_eq_true rfl⟩) (dg_preV sX_182 rfl K ST hP hS hA1 hA) rfl rfl hl.1 rfl (lv_room (Nat.le_of_ble_eq_true rfl)) dX4_write_183 ⟨Nat.le_of_ble_eq_true rfl, Nat.le_of_ble_eq_true rfl⟩) (fun S_216 hw_216 H locs hP hS => ?_)
      obtain ⟨I_216, m_216, w_216_0, -⟩ := hw_216
      have M_216 := dg_sm.tr M_213 m_216 (by decide) (by decide)
      have hz_217 : (0 : Int32).toInt = 0 := by decide +kernel
      obtain ⟨y_218, f_y_218, w_216_0⟩ := w_216_0
      have w_216_0 : (x_198).toInt + (od).toInt ≤ 124 → (y_218).toInt = (x_198).toInt + (od).toInt := w_216_0
      have b_y_218 : 0 ≤ (y_218).toInt ∧ (y_218).toInt ≤ 124 := dg_I.intb (lo := 0) (hi := 124) I_216 sX_182 (by decide +kernel) f_y_218
      refine lv_aload_n hx hb dX4_write_186 rfl (lv_at hl 1 rfl) ?_
      refine lv_aload_n hx hb dX4_write_187 rfl (lv_at hl 3 rfl) ?_
      refine dg_get (C := RX5) (T := TX5) (N := 8) hx hb hts (fun w h => bw_mem (wU_X5 w h)) hown K hP (pX_0 pt hk_pt) rfl 7 (by decide) (hts _ (bw_mem wB_803)) (fun _ h9 => h9) (v := .ref (o + (pt + 6))) (show S_216.1 pt 7 = .ref (o + (pt + 6)) from dg_I.rel (d := 6) I_216 (pX_0 pt hk_pt) (by decide +kernel)) dX4_write_188 ?_
      refine lv_iconst (v := 0) hx hb dX4_write_191 (by decide +kernel) ?_
      refine lv_bipush (v := 10) hx hb dX4_write_192 (by decide +kernel) ?_
      have hz_219 : (0 : Int32).toInt = 0 := by decide +kernel
      have hz_220 : (10 : Int32).toInt = 10 := by decide +kernel
      refine dg_callv hS hA1 hA (va_runV (As := [.ref (o + (pt + 6)), .int 0, .int 10]) (rest := []) F (c_i_putAll_tubs l g D o S_216 pt hk_pt 0 (by decide +kernel) 10 (by decide +kernel) y_218 f_y_218 (by omega) I_216 H.size) (cwV 3 hts (bw_V wB_791 wB_792 wB_793 wB_784 wB_790) rfl rfl rfl (by decide +kernel) ⟨Nat.le_of_ble_eq_true rfl, Nat.le_of_ble_eq_true rfl⟩) (dg_preV sX_182 rfl K ST hP hS hA1 hA) rfl rfl hl.1 rfl (lv_room (Nat.le_of_ble_eq_true rfl)) dX4_write_194 ⟨Nat.le_of_ble_eq_true rfl, Nat.le_of_ble_eq_true rfl⟩) (fun S_221 hw_221 H locs hP hS => ?_)
      obtain ⟨I_221, m_221, w_221_0, -⟩ := hw_221
      have M_221 := dg_sm.tr M_216 m_221 (by decide) (by decide)
      have hz_222 : (0 : Int32).toInt = 0 := by decide +kernel
      have hz_223 : (10 : Int32).toInt = 10 := by decide +kernel
      obtain ⟨y_224, f_y_224, w_221_0⟩ := w_221_0
      have w_221_0 : (y_218).toInt + ((10 : Int32)).toInt ≤ 124 → (y_224).toInt = (y_218).toInt + ((10 : Int32)).toInt := w_221_0
      have b_y_224 : 0 ≤ (y_224).toInt ∧ (y_224).toInt ≤ 124 := dg_I.intb (lo := 0) (hi := 124) I_221 sX_182 (by decide +kernel) f_y_224
      refine lv_aload_n hx hb dX4_write_197 rfl (lv_at hl 1 rfl) ?_
      refine lv_aload_n hx hb dX4_write_198 rfl (lv_at hl 1 rfl) ?_
      obtain ⟨x_225, f_x_225, b_x_225⟩ := dg_I.int (i := 182) (k := 3) (lo := (-2147483648)) (hi := 2147483647) I_221 sX_182 (by decide +kernel)
      refine dg_get (C := RX4) (T := TX4) (N := 6) hx hb hts (fun w h => bw_mem (wU_X4 w h)) hown K hP sX_182 rfl 3 (by decide) (hts _ (bw_mem wB_779)) (fun _ h9 => h9) (v := .int x_225) f_x_225 dX4_write_199 ?_
      refine dg_callv hS hA1 hA (va_runV (As := [.int x_225]) (rest := []) F (c_i_put l g D o S_221 x_225 y_224 f_y_224 (by omega) I_221 H.size) (cwV 1 hts (bw_V wB_781 wB_782 wB_783 wB_784 wB_780) rfl rfl rfl (by decide +kernel) ⟨Nat.le_of_ble_eq_true rfl, Nat.le_of_ble_eq_true rfl⟩) (dg_preV sX_182 rfl K ST hP hS hA1 hA) rfl rfl hl.1 rfl (lv_room (Nat.le_of_ble_eq_true rfl)) dX4_write_202 ⟨Nat.le_of_ble_eq_true rfl, Nat.le_of_ble_eq_true rfl⟩) (fun S_226 hw_226 H locs hP hS => ?_)
      obtain ⟨I_226, m_226, w_226_0, -⟩ := hw_226
      have M_226 := dg_sm.tr M_221 m_226 (by decide) (by decide)
      obtain ⟨y_227, f_y_227, w_226_0⟩ := w_226_0
      have w_226_0 : ((y_224).toInt < 124 → (y_227).toInt = (y_224).toInt + 1) ∧ (124 ≤ (y_224).toInt → (y_227).toInt = (y_224).toInt) := w_226_0
      have b_y_227 : 0 ≤ (y_227).toInt ∧ (y_227).toInt ≤ 124 := dg_I.intb (lo := 0) (hi := 124) I_226 sX_182 (by decide +kernel) f_y_227
      refine W.widen (k := 0) (n := 0) (Nat.le_of_ble_eq_true rfl) (Nat.le_of_ble_eq_true rfl) ?_
      exact dg_vret hx hb hr hlocks hP hS ⟨I_226, M_226, ⟨y_227, f_y_227, (by omega)⟩, trivial⟩ dX4_write_205
    have L_270 : ∀ (n : Nat) (x_267 : Int32) (x_268 : Int32), (0 ≤ (x_267).toInt ∧ (x_267).toInt ≤ 16) → (0 ≤ (x_268).toInt ∧ (x_268).toInt ≤ 124) → ((17 - (x_267).toInt).toNat < n) → ∀ S_269 : dg_S, CX o S_269 → dg_sm shX [(16, 1), (16, 3)] [17] S S_269 → S_269.1 182 1 = .int x_268 → ((x_268).toInt = 5 + IMm (ry).toInt (cx).toInt + (mi).toInt + 3 * (x_267 : Int32).toInt) → ((x_267 : Int32).toInt ≤ (pl).toInt) → ∀ (H : Heap) (locs : List Loc), va_P D vwCl (dg_w g shX o rfX S_269) H → va_S A s.heap H locs → ∀ ls : Array Slot, lv_has ls 4 [(3, .int x_267), (0, .ref (o + 182)), (1, .ref (o + gr)), (2, .ref (o + pt))] → W p l e ({ frames := 3, cells := 0, slots := 0, locals := 77 } : Room) s m args below meth c H locs 0 0 (MQ below (va_Qv (fun S' => CX o S' ∧ dg_sm shX [(16, 1), (16, 3)] [17] S S' ∧ (∃ y9 : Int32, S'.1 182 1 = .int y9 ∧ ((y9).toInt = 16 + IMm (ry).toInt (cx).toInt + (mi).toInt + 3 * (pl).toInt + (od).toInt)) ∧ True) (dg_B g D shX o rfX) A) args s 0 0 A) (F0 m 123 ls []) := by
      intro n
      induction n with
      | zero =>
        intro x_267 x_268 b_x_267 b_x_268 hmu S_269 I_269 M_269 ff_269_1_182 srel_269_0 srel_269_1 H locs hP hS ls hl
        omega
      | succ n ih =>
        intro x_267 x_268 b_x_267 b_x_268 hmu S_269 I_269 M_269 ff_269_1_182 srel_269_0 srel_269_1 H locs hP hS ls hl
        refine lv_iload_n hx hb dX4_write_123 rfl (lv_at hl 0 rfl) ?_
        refine lv_aload_n hx hb dX4_write_124 rfl (lv_at hl 2 rfl) ?_
        refine dg_get (C := RX2) (T := TX2) (N := 19) hx hb hts (fun w h => bw_mem (wU_X2 w h)) hown K hP (rX_0 gr hk_gr) rfl 8 (by decide) (hts _ (bw_mem wB_796)) (fun _ h9 => h9) (v := .int pl) ((M_269.1 gr 8 _ (rX_0 gr hk_gr) (by decide)).trans f_pl) dX4_write_125 ?_
        refine lv_icmp_ge (tgt := 173) hx hb dX4_write_128 (by decide) (fun c_271 => ?_) (fun c_271 => ?_)
        · have jc_271 := dk_gec (k := (pl).toInt) rfl c_271
          exact J_214 x_267 x_268 (by omega) (by omega) S_269 I_269 M_269 ff_269_1_182 (by omega) _ _ hP hS _ (lv_sub hl [0, 1, 2, 3] rfl)
        · have jc_271 := dk_ngec (k := (pl).toInt) rfl c_271
          refine lv_aload_n hx hb dX4_write_131 rfl (lv_at hl 1 rfl) ?_
          refine lv_aload_n hx hb dX4_write_132 rfl (lv_at hl 3 rfl) ?_
          refine dg_get (C := RX5) (T := TX5) (N := 8) hx hb hts (fun w h => bw_mem (wU_X5 w h)) hown K hP (pX_0 pt hk_pt) rfl 4 (by decide) (hts _ (bw_mem wB_797)) (fun _ h9 => h9) (v := .ref (o + (pt + 3))) (show S_269.1 pt 4 = .ref (o + (pt + 3)) from dg_I.rel (d := 3) I_269 (pX_0 pt hk_pt) (by decide +kernel)) dX4_write_133 ?_
          refine lv_iload_n hx hb dX4_write_136 rfl (lv_at hl 0 rfl) ?_
          have hin_272 : vp_in x_267 16 := (dk_inv (by omega) (by omega))
          refine dg_iald hx hb K hP (pX_3 pt hk_pt) hin_272 dX4_write_137 (fun x_273 ex_273 => ?_)
          have b_x_273 := dk_all_at (dg_I.row (lo := 0) (hi := 5) I_269 (pX_3 pt hk_pt) (by decide +kernel)) hin_272 ex_273
          refine dg_callv hS hA1 hA (va_runV (As := [.int x_273]) (rest := []) F (c_i_put l g D o S_269 x_273 x_268 ff_269_1_182 (by omega) I_269 H.size) (cwV 1 hts (bw_V wB_781 wB_782 wB_783 wB_784 wB_780) rfl rfl rfl (by decide +kernel) ⟨Nat.le_of_ble_eq_true rfl, Nat.le_of_ble_eq_true rfl⟩) (dg_preV sX_182 rfl K ST hP hS hA1 hA) rfl rfl hl.1 rfl (lv_room (Nat.le_of_ble_eq_true rfl)) dX4_write_138 ⟨Nat.le_of_ble_eq_true rfl, Nat.le_of_ble_eq_true rfl⟩) (fun S_274 hw_274 H locs hP hS => ?_)
          obtain ⟨I_274, m_274, w_274_0, -⟩ := hw_274
          have M_274 := dg_sm.tr M_269 m_274 (by decide) (by decide)
          obtain ⟨y_275, f_y_275, w_274_0⟩ := w_274_0
          have w_274_0 : ((x_268).toInt < 124 → (y_275).toInt = (x_268).toInt + 1) ∧ (124 ≤ (x_268).toInt → (y_275).toInt = (x_268).toInt) := w_274_0
          have b_y_275 : 0 ≤ (y_275).toInt ∧ (y_275).toInt ≤ 124 := dg_I.intb (lo := 0) (hi := 124) I_274 sX_182 (by decide +kernel) f_y_275
          refine lv_aload_n hx hb dX4_write_141 rfl (lv_at hl 1 rfl) ?_
          refine lv_aload_n hx hb dX4_write_142 rfl (lv_at hl 3 rfl) ?_
          refine dg_get (C := RX5) (T := TX5) (N := 8) hx hb hts (fun w h => bw_mem (wU_X5 w h)) hown K hP (pX_0 pt hk_pt) rfl 5 (by decide) (hts _ (bw_mem wB_798)) (fun _ h9 => h9) (v := .ref (o + (pt + 4))) (show S_274.1 pt 5 = .ref (o + (pt + 4)) from dg_I.rel (d := 4) I_274 (pX_0 pt hk_pt) (by decide +kernel)) dX4_write_143 ?_
          refine lv_iload_n hx hb dX4_write_146 rfl (lv_at hl 0 rfl) ?_
          have hin_276 : vp_in x_267 16 := (dk_inv (by omega) (by omega))
          refine dg_iald hx hb K hP (pX_4 pt hk_pt) hin_276 dX4_write_147 (fun x_277 ex_277 => ?_)
          have b_x_277 := dk_all_at (dg_I.row (lo := 0) (hi := 63) I_274 (pX_4 pt hk_pt) (by decide +kernel)) hin_276 ex_277
          refine dg_calli hS hA1 hA (va_runSN (As := [.int x_277]) (rest := [.ref (o + 182)]) F (c_columnOf l g D o S_274 x_277 I_274 H.size) ⟨va_cnB 1 hts (bw_in wB_799) rfl rfl rfl (K.2.1 _ (List.mem_of_getElem? (i := 9) rfl)) (hts _ (bw_mem wB_610)) (by decide +kernel) ⟨Nat.le_of_ble_eq_true rfl, Nat.le_of_ble_eq_true rfl⟩, (hts _ (bw_mem wB_800)), trivial⟩ (dg_preS K ST hP hS hA1 hA) rfl rfl hl.1 rfl (lv_room (Nat.le_of_ble_eq_true rfl)) dX4_write_148 ⟨Nat.le_of_ble_eq_true rfl, Nat.le_of_ble_eq_true rfl⟩) (fun x_278 S_279 hw_279 H locs hP hS => ?_)
          rw [hw_279.1] at hP
          obtain ⟨hq_279, w_279_0, -⟩ := hw_279
          have w_279_0 : 0 ≤ (x_278).toInt ∧ (x_278).toInt ≤ 7 := w_279_0
          refine dg_callv hS hA1 hA (va_runV (As := [.int x_278]) (rest := []) F (c_i_put l g D o S_274 x_278 y_275 f_y_275 (by omega) I_274 H.size) (cwV 1 hts (bw_V wB_781 wB_782 wB_783 wB_784 wB_780) rfl rfl rfl (by decide +kernel) ⟨Nat.le_of_ble_eq_true rfl, Nat.le_of_ble_eq_true rfl⟩) (dg_preV sX_182 rfl K ST hP hS hA1 hA) rfl rfl hl.1 rfl (lv_room (Nat.le_of_ble_eq_true rfl)) dX4_write_151 ⟨Nat.le_of_ble_eq_true rfl, Nat.le_of_ble_eq_true rfl⟩) (fun S_280 hw_280 H locs hP hS => ?_)
          obtain ⟨I_280, m_280, w_280_0, -⟩ := hw_280
          have M_280 := dg_sm.tr M_274 m_280 (by decide) (by decide)
          obtain ⟨y_281, f_y_281, w_280_0⟩ := w_280_0
          have w_280_0 : ((y_275).toInt < 124 → (y_281).toInt = (y_275).toInt + 1) ∧ (124 ≤ (y_275).toInt → (y_281).toInt = (y_275).toInt) := w_280_0
          have b_y_281 : 0 ≤ (y_281).toInt ∧ (y_281).toInt ≤ 124 := dg_I.intb (lo := 0) (hi := 124) I_280 sX_182 (by decide +kernel) f_y_281
          refine lv_aload_n hx hb dX4_write_154 rfl (lv_at hl 1 rfl) ?_
          refine lv_aload_n hx hb dX4_write_155 rfl (lv_at hl 3 rfl) ?_
          refine dg_get (C := RX5) (T := TX5) (N := 8) hx hb hts (fun w h => bw_mem (wU_X5 w h)) hown K hP (pX_0 pt hk_pt) rfl 5 (by decide) (hts _ (bw_mem wB_798)) (fun _ h9 => h9) (v := .ref (o + (pt + 4))) (show S_280.1 pt 5 = .ref (o + (pt + 4)) from dg_I.rel (d := 4) I_280 (pX_0 pt hk_pt) (by decide +kernel)) dX4_write_156 ?_
          refine lv_iload_n hx hb dX4_write_159 rfl (lv_at hl 0 rfl) ?_
          have hin_282 : vp_in x_267 16 := (dk_inv (by omega) (by omega))
          refine dg_iald hx hb K hP (pX_4 pt hk_pt) hin_282 dX4_write_160 (fun y_283 ey_283 => ?_)
          obtain rfl : x_277 = y_283 := ((ey_283.trans (congrFun (m_280.2 (pt + 4) _ (pX_4 pt hk_pt) (by decide)).1 _)).trans ex_277.symm).symm
          refine dg_calli hS hA1 hA (va_runSN (As := [.int x_277]) (rest := [.ref (o + 182)]) F (c_rowOf l g D o S_280 x_277 I_280 H.size) ⟨va_cnB 1 hts (bw_in wB_609) rfl rfl rfl (K.2.1 _ (List.mem_of_getElem? (i := 10) rfl)) (hts _ (bw_mem wB_610)) (by decide +kernel) ⟨Nat.le_of_ble_eq_true rfl, Nat.le_of_ble_eq_true rfl⟩, (hts _ (bw_mem wB_611)), trivial⟩ (dg_preS K ST hP hS hA1 hA) rfl rfl hl.1 rfl (lv_room (Nat.le_of_ble_eq_true rfl)) dX4_write_161 ⟨Nat.le_of_ble_eq_true rfl, Nat.le_of_ble_eq_true rfl⟩) (fun x_284 S_285 hw_285 H locs hP hS => ?_)
          rw [hw_285.1] at hP
          refine dg_callv hS hA1 hA (va_runV (As := [.int x_284]) (rest := []) F (c_i_put l g D o S_280 x_284 y_281 f_y_281 (by omega) I_280 H.size) (cwV 1 hts (bw_V wB_781 wB_782 wB_783 wB_784 wB_780) rfl rfl rfl (by decide +kernel) ⟨Nat.le_of_ble_eq_true rfl, Nat.le_of_ble_eq_true rfl⟩) (dg_preV sX_182 rfl K ST hP hS hA1 hA) rfl rfl hl.1 rfl (lv_room (Nat.le_of_ble_eq_true rfl)) dX4_write_164 ⟨Nat.le_of_ble_eq_true rfl, Nat.le_of_ble_eq_true rfl⟩) (fun S_286 hw_286 H locs hP hS => ?_)
          obtain ⟨I_286, m_286, w_286_0, -⟩ := hw_286
          have M_286 := dg_sm.tr M_280 m_286 (by decide) (by decide)
          obtain ⟨y_287, f_y_287, w_286_0⟩ := w_286_0
          have w_286_0 : ((y_281).toInt < 124 → (y_287).toInt = (y_281).toInt + 1) ∧ (124 ≤ (y_281).toInt → (y_287).toInt = (y_281).toInt) := w_286_0
          have b_y_287 : 0 ≤ (y_287).toInt ∧ (y_287).toInt ≤ 124 := dg_I.intb (lo := 0) (hi := 124) I_286 sX_182 (by decide +kernel) f_y_287
          obtain ⟨x_288, ex_288⟩ : ∃ z, z = x_267 + 1 := ⟨_, rfl⟩
          have jx_288 : (x_288).toInt = (x_267).toInt + 1 := by rw [ex_288]; exact dk_addT rfl (by decide +kernel) (by omega) (by omega)
          refine lv_iinc (v := x_288) (lv' := [(3, .int x_288), (0, .ref (o + 182)), (1, .ref (o + gr)), (2, .ref (o + pt))]) hx hb dX4_write_167 hl (k := 0) rfl (by rw [ex_288]; rfl) (by decide) rfl (fun ls hl => ?_)
          refine lv_goto (tgt := 123) hx hb dX4_write_170 (by decide) ?_
          exact ih x_288 y_287 (by omega) (by omega) (by omega) S_286 I_286 M_286 f_y_287 (by omega) (by omega) _ _ hP hS _ (lv_sub hl [0, 1, 2, 3] rfl)
    have hz_289 : (0 : Int32).toInt = 0 := by decide +kernel
    have hz_290 : (0 : Int32).toInt = 0 := by decide +kernel
    exact L_270 ((17 - ((0 : Int32)).toInt).toNat + 1) 0 y_137 (by decide +kernel) (by omega) (by omega) S_135 I_135 M_135 f_y_137 (by omega) (by omega) _ _ hP hS _ (lv_sub hl [0, 1, 2, 3] rfl)
  have L_310 : ∀ (n : Nat) (x_307 : Int32) (x_308 : Int32), (0 ≤ (x_307).toInt ∧ (x_307).toInt ≤ 7) → (0 ≤ (x_308).toInt ∧ (x_308).toInt ≤ 124) → ((8 - (x_307).toInt).toNat < n) → ∀ S_309 : dg_S, CX o S_309 → dg_sm shX [(16, 1), (16, 3)] [17] S S_309 → S_309.1 182 1 = .int x_308 → ((x_308).toInt = 5 + IMm (x_307 : Int32).toInt (cx).toInt) → ((x_307 : Int32).toInt ≤ (ry).toInt) → ∀ (H : Heap) (locs : List Loc), va_P D vwCl (dg_w g shX o rfX S_309) H → va_S A s.heap H locs → ∀ ls : Array Slot, lv_has ls 4 [(3, .int x_307), (0, .ref (o + 182)), (1, .ref (o + gr)), (2, .ref (o + pt))] → W p l e ({ frames := 3, cells := 0, slots := 0, locals := 77 } : Room) s m args below meth c H locs 0 0 (MQ below (va_Qv (fun S' => CX o S' ∧ dg_sm shX [(16, 1), (16, 3)] [17] S S' ∧ (∃ y9 : Int32, S'.1 182 1 = .int y9 ∧ ((y9).toInt = 16 + IMm (ry).toInt (cx).toInt + (mi).toInt + 3 * (pl).toInt + (od).toInt)) ∧ True) (dg_B g D shX o rfX) A) args s 0 0 A) (F0 m 75 ls []) := by
    intro n
    induction n with
    | zero =>
      intro x_307 x_308 b_x_307 b_x_308 hmu S_309 I_309 M_309 ff_309_1_182 srel_309_0 srel_309_1 H locs hP hS ls hl
      omega
    | succ n ih =>
      intro x_307 x_308 b_x_307 b_x_308 hmu S_309 I_309 M_309 ff_309_1_182 srel_309_0 srel_309_1 H locs hP hS ls hl
      have him_310 := IMm.bd (a := (x_307).toInt) (b := (cx).toInt) (by omega) (by omega) (by omega) (by omega)
      refine lv_iload_n hx hb dX4_write_75 rfl (lv_at hl 0 rfl) ?_
      refine lv_aload_n hx hb dX4_write_76 rfl (lv_at hl 2 rfl) ?_
      refine dg_get (C := RX2) (T := TX2) (N := 19) hx hb hts (fun w h => bw_mem (wU_X2 w h)) hown K hP (rX_0 gr hk_gr) rfl 1 (by decide) (hts _ (bw_mem wB_787)) (fun _ h9 => h9) (v := .int ry) ((M_309.1 gr 1 _ (rX_0 gr hk_gr) (by decide)).trans f_ry) dX4_write_77 ?_
      refine lv_icmp_ge (tgt := 108) hx hb dX4_write_80 (by decide) (fun c_312 => ?_) (fun c_312 => ?_)
      · have jc_312 := dk_gec (k := (ry).toInt) rfl c_312
        exact J_133 x_307 x_308 (by omega) (by omega) S_309 I_309 M_309 ff_309_1_182 (by rw [show (ry).toInt = (x_307 : Int32).toInt from by omega]; omega) _ _ hP hS _ (lv_sub hl [0, 1, 2, 3] rfl)
      · have jc_312 := dk_ngec (k := (ry).toInt) rfl c_312
        refine lv_aload_n hx hb dX4_write_83 rfl (lv_at hl 1 rfl) ?_
        refine lv_aload_n hx hb dX4_write_84 rfl (lv_at hl 3 rfl) ?_
        refine dg_get (C := RX5) (T := TX5) (N := 8) hx hb hts (fun w h => bw_mem (wU_X5 w h)) hown K hP (pX_0 pt hk_pt) rfl 2 (by decide) (hts _ (bw_mem wB_788)) (fun _ h9 => h9) (v := .ref (o + (pt + 1))) (show S_309.1 pt 2 = .ref (o + (pt + 1)) from dg_I.rel (d := 1) I_309 (pX_0 pt hk_pt) (by decide +kernel)) dX4_write_85 ?_
        refine lv_bipush (v := 8) hx hb dX4_write_88 (by decide +kernel) ?_
        refine lv_iload_n hx hb dX4_write_90 rfl (lv_at hl 0 rfl) ?_
        refine lv_imul hx hb dX4_write_91 ?_
        refine lv_topi (fun x_313 ex_313 => ?_)
        have jx_313 : (x_313).toInt = 8 * (x_307).toInt := by rw [ex_313]; exact dk_mulT (by decide +kernel) rfl (by omega) (by omega)
        refine lv_bipush (v := 8) hx hb dX4_write_92 (by decide +kernel) ?_
        refine lv_iadd hx hb dX4_write_94 ?_
        refine lv_topi (fun x_314 ex_314 => ?_)
        have jx_314 : (x_314).toInt = (x_313).toInt + 8 := by rw [ex_314]; exact dk_addT rfl (by decide +kernel) (by omega) (by omega)
        refine lv_aload_n hx hb dX4_write_95 rfl (lv_at hl 2 rfl) ?_
        refine dg_get (C := RX2) (T := TX2) (N := 19) hx hb hts (fun w h => bw_mem (wU_X2 w h)) hown K hP (rX_0 gr hk_gr) rfl 0 (by decide) (hts _ (bw_mem wB_789)) (fun _ h9 => h9) (v := .int cx) ((M_309.1 gr 0 _ (rX_0 gr hk_gr) (by decide)).trans f_cx) dX4_write_96 ?_
        refine dg_callv hS hA1 hA (va_runV (As := [.ref (o + (pt + 1)), .int x_314, .int cx]) (rest := []) F (c_i_putAll_cells l g D o S_309 pt hk_pt x_314 (by omega) cx (by omega) x_308 ff_309_1_182 (by omega) I_309 H.size) (cwV 3 hts (bw_V wB_791 wB_792 wB_793 wB_784 wB_790) rfl rfl rfl (by decide +kernel) ⟨Nat.le_of_ble_eq_true rfl, Nat.le_of_ble_eq_true rfl⟩) (dg_preV sX_182 rfl K ST hP hS hA1 hA) rfl rfl hl.1 rfl (lv_room (Nat.le_of_ble_eq_true rfl)) dX4_write_99 ⟨Nat.le_of_ble_eq_true rfl, Nat.le_of_ble_eq_true rfl⟩) (fun S_315 hw_315 H locs hP hS => ?_)
        obtain ⟨I_315, m_315, w_315_0, -⟩ := hw_315
        have M_315 := dg_sm.tr M_309 m_315 (by decide) (by decide)
        obtain ⟨y_316, f_y_316, w_315_0⟩ := w_315_0
        have w_315_0 : (x_308).toInt + (cx).toInt ≤ 124 → (y_316).toInt = (x_308).toInt + (cx).toInt := w_315_0
        have b_y_316 : 0 ≤ (y_316).toInt ∧ (y_316).toInt ≤ 124 := dg_I.intb (lo := 0) (hi := 124) I_315 sX_182 (by decide +kernel) f_y_316
        obtain ⟨x_317, ex_317⟩ : ∃ z, z = x_307 + 1 := ⟨_, rfl⟩
        have jx_317 : (x_317).toInt = (x_307).toInt + 1 := by rw [ex_317]; exact dk_addT rfl (by decide +kernel) (by omega) (by omega)
        refine lv_iinc (v := x_317) (lv' := [(3, .int x_317), (0, .ref (o + 182)), (1, .ref (o + gr)), (2, .ref (o + pt))]) hx hb dX4_write_102 hl (k := 0) rfl (by rw [ex_317]; rfl) (by decide) rfl (fun ls hl => ?_)
        refine lv_goto (tgt := 75) hx hb dX4_write_105 (by decide) ?_
        exact ih x_317 y_316 (by omega) (by omega) (by omega) S_315 I_315 M_315 f_y_316 (by rw [IMm.sc (a := (x_307).toInt) (by omega)]; omega) (by omega) _ _ hP hS _ (lv_sub hl [0, 1, 2, 3] rfl)
  have hz_318 : (0 : Int32).toInt = 0 := by decide +kernel
  have hz_319 : (0 : Int32).toInt = 0 := by decide +kernel
  exact L_310 ((8 - ((0 : Int32)).toInt).toNat + 1) 0 y_24 (by decide +kernel) (by omega) (by omega) S_23 I_23 M_23 f_y_24 (by rw [IMm.zr (by decide +kernel)]; omega) (by omega) _ _ hP hS _ (lv_sub hl [0, 1, 2, 3] rfl)
set_option maxHeartbeats 8000000 in
set_option maxRecDepth 100000 in
theorem c_i_next (l : Launch) (g : Nat → ClassId) (D : va_G) (o : Nat) (S : dg_S) (a1 : Int32) (I : CX o S) (sz : Nat) : Met l yX4_next (bw yX4_next cX4_next 3 (some .int)) ({ frames := 1, cells := 0, slots := 0, locals := 32 } : Room) (dk_Pc g D (dg_w g shX o rfX S) sz [.ref (o + 182), .int a1]) (va_Qi (fun (r : Int32) S' => CX o S' ∧ dg_sm shX [(16, 3), (16, 4), (16, 5)] [] S S' ∧ (0 ≤ (r).toInt ∧ (r).toInt ≤ 255) ∧ ((r).toInt ≤ (a1).toInt ∨ (r).toInt = 0) ∧ True) (dg_B g D shX o rfX) (dg_A o shX.length sz)) 0 0 (dg_A o shX.length sz) := by
  refine dg_met (cc := cX4_next) (maxL := 3) (ret := (some .int)) (by decide) rfl (Nat.le_of_ble_eq_true rfl) ?_
  intro p e s m args below meth c A hAe harg hx hb hr hml hts hown hlocks hin hP K hS hA1 hA ST hsz ls hl
  rw [← hAe]
  have F : CallFix p m c cX4_next 3 s args (bw yX4_next cX4_next 3 (some .int)) RX4 := ⟨hx, hb, hml, hown, hts⟩
  have hl : lv_has ls 3 [(0, .ref (o + 182)), (1, .int a1)] := hl
  have M_0 : dg_sm shX [(16, 3), (16, 4), (16, 5)] [] S S := dg_sm.rf
  refine lv_aload_n hx hb dX4_next_0 rfl (lv_at hl 0 rfl) ?_
  obtain ⟨x_1, f_x_1, b_x_1⟩ := dg_I.int (i := 182) (k := 4) (lo := 0) (hi := 1600) I sX_182 (by decide +kernel)
  refine dg_get (C := RX4) (T := TX4) (N := 6) hx hb hts (fun w h => bw_mem (wU_X4 w h)) hown K hP sX_182 rfl 4 (by decide) (hts _ (bw_mem wB_804)) (fun _ h9 => h9) (v := .int x_1) f_x_1 dX4_next_1 ?_
  refine lv_aload_n hx hb dX4_next_4 rfl (lv_at hl 0 rfl) ?_
  refine dg_get (C := RX4) (T := TX4) (N := 6) hx hb hts (fun w h => bw_mem (wU_X4 w h)) hown K hP sX_182 rfl 2 (by decide) (hts _ (bw_mem wB_805)) (fun _ h9 => h9) (v := .ref (o + 1)) (show S.1 182 2 = .ref (o + 1) from dg_I.abs (d := 1) I sX_182 (by decide +kernel)) dX4_next_5 ?_
  obtain ⟨x_2, f_x_2, b_x_2⟩ := dg_I.int (i := 1) (k := 1) (lo := 0) (hi := 1600) I sX_1 (by decide +kernel)
  refine dg_get (C := RX8) (T := TX8) (N := 2) hx hb hts (fun w h => bw_mem (wU_X8 w h)) hown K hP sX_1 rfl 1 (by decide) (hts _ (bw_mem wB_806)) (fun _ h9 => h9) (v := .int x_2) f_x_2 dX4_next_8 ?_
  refine lv_icmp_ge (tgt := 30) hx hb dX4_next_11 (by decide) (fun c_3 => ?_) (fun c_3 => ?_)
  · have jc_3 := dk_gec (k := (x_2).toInt) rfl c_3
    refine lv_aload_n hx hb dX4_next_30 rfl (lv_at hl 0 rfl) ?_
    refine lv_iconst (v := 0) hx hb dX4_next_31 (by decide +kernel) ?_
    have hz_4 : (0 : Int32).toInt = 0 := by decide +kernel
    refine dg_put (ci := 4) (v := .int 0) (ty := tyX4 5) (C := RX4) (T := TX4) (N := 6) hx hb hts (fun w h => bw_mem (wU_X4 w h)) tyX4 tyX4_ok nmX4 hown K hP hS hA1 sX_182 rfl 5 (by decide) (hts _ (bw_mem wB_807)) (fun _ h9 => h9) rfl (by decide +kernel) (by decide +kernel) (by decide +kernel) dX4_next_32 (fun S_5 e_5 H locs hP hS => ?_)
    have I_5 := dg_I.uFi (lo := 0) (hi := 1) I e_5 sX_182 (by decide +kernel) (show 0 ≤ ((0 : Int32)).toInt ∧ ((0 : Int32)).toInt ≤ 1 from (by decide +kernel))
    have M_5 := dg_sm.uF M_0 e_5 sX_182 (by decide)
    refine lv_iconst (v := 0) hx hb dX4_next_35 (by decide +kernel) ?_
    have hz_6 : (0 : Int32).toInt = 0 := by decide +kernel
    have hz_7 : (0 : Int32).toInt = 0 := by decide +kernel
    refine W.widen (k := 0) (n := 0) (Nat.le_of_ble_eq_true rfl) (Nat.le_of_ble_eq_true rfl) ?_
    exact dg_iret hx hb hr hlocks rfl hP hS ⟨I_5, M_5, (by decide +kernel), (by omega), trivial⟩ dX4_next_36
  · have jc_3 := dk_ngec (k := (x_2).toInt) rfl c_3
    refine lv_aload_n hx hb dX4_next_14 rfl (lv_at hl 0 rfl) ?_
    refine dg_get (C := RX4) (T := TX4) (N := 6) hx hb hts (fun w h => bw_mem (wU_X4 w h)) hown K hP sX_182 rfl 2 (by decide) (hts _ (bw_mem wB_805)) (fun _ h9 => h9) (v := .ref (o + 1)) (show S.1 182 2 = .ref (o + 1) from dg_I.abs (d := 1) I sX_182 (by decide +kernel)) dX4_next_15 ?_
    refine dg_get (C := RX8) (T := TX8) (N := 2) hx hb hts (fun w h => bw_mem (wU_X8 w h)) hown K hP sX_1 rfl 0 (by decide) (hts _ (bw_mem wB_808)) (fun _ h9 => h9) (v := .ref (o + 2)) (show S.1 1 0 = .ref (o + 2) from dg_I.rel (d := 1) I sX_1 (by decide +kernel)) dX4_next_18 ?_
    refine lv_aload_n hx hb dX4_next_21 rfl (lv_at hl 0 rfl) ?_
    refine dg_get (C := RX4) (T := TX4) (N := 6) hx hb hts (fun w h => bw_mem (wU_X4 w h)) hown K hP sX_182 rfl 4 (by decide) (hts _ (bw_mem wB_804)) (fun _ h9 => h9) (v := .int x_1) f_x_1 dX4_next_22 ?_
    have hin_8 : vp_in x_1 1600 := (dk_inv (by omega) (by omega))
    refine dg_iald hx hb K hP sX_2 hin_8 dX4_next_25 (fun x_9 ex_9 => ?_)
    have b_x_9 := dk_all_at (dg_I.row (lo := 0) (hi := 255) I sX_2 (by decide +kernel)) hin_8 ex_9
    refine lv_iload_n hx hb dX4_next_26 rfl (lv_at hl 1 rfl) ?_
    refine lv_icmp_le (tgt := 37) hx hb dX4_next_27 (by decide) (fun c_10 => ?_) (fun c_10 => ?_)
    · have hf_10 := dk_full a1
      have jc_10 := dk_lec (k := (a1).toInt) rfl c_10
      refine lv_aload_n hx hb dX4_next_37 rfl (lv_at hl 0 rfl) ?_
      refine dg_get (C := RX4) (T := TX4) (N := 6) hx hb hts (fun w h => bw_mem (wU_X4 w h)) hown K hP sX_182 rfl 2 (by decide) (hts _ (bw_mem wB_805)) (fun _ h9 => h9) (v := .ref (o + 1)) (show S.1 182 2 = .ref (o + 1) from dg_I.abs (d := 1) I sX_182 (by decide +kernel)) dX4_next_38 ?_
      refine dg_get (C := RX8) (T := TX8) (N := 2) hx hb hts (fun w h => bw_mem (wU_X8 w h)) hown K hP sX_1 rfl 0 (by decide) (hts _ (bw_mem wB_808)) (fun _ h9 => h9) (v := .ref (o + 2)) (show S.1 1 0 = .ref (o + 2) from dg_I.rel (d := 1) I sX_1 (by decide +kernel)) dX4_next_41 ?_
      refine lv_aload_n hx hb dX4_next_44 rfl (lv_at hl 0 rfl) ?_
      refine dg_get (C := RX4) (T := TX4) (N := 6) hx hb hts (fun w h => bw_mem (wU_X4 w h)) hown K hP sX_182 rfl 4 (by decide) (hts _ (bw_mem wB_804)) (fun _ h9 => h9) (v := .int x_1) f_x_1 dX4_next_45 ?_
      have hin_12 : vp_in x_1 1600 := (dk_inv (by omega) (by omega))
      refine dg_iald hx hb K hP sX_2 hin_12 dX4_next_48 (fun y_13 ey_13 => ?_)
      obtain rfl : x_9 = y_13 := (ey_13.trans ex_9.symm).symm
      refine lv_istore_n (lv' := [(2, .int x_9), (0, .ref (o + 182)), (1, .int a1)]) hx hb dX4_next_49 rfl hl (by decide) rfl (fun ls hl => ?_)
      refine lv_aload_n hx hb dX4_next_50 rfl (lv_at hl 1 rfl) ?_
      refine lv_dup hx hb dX4_next_51 rfl ?_
      refine dg_get (C := RX4) (T := TX4) (N := 6) hx hb hts (fun w h => bw_mem (wU_X4 w h)) hown K hP sX_182 rfl 4 (by decide) (hts _ (bw_mem wB_804)) (fun _ h9 => h9) (v := .int x_1) f_x_1 dX4_next_52 ?_
      refine lv_iconst (v := 1) hx hb dX4_next_55 (by decide +kernel) ?_
      refine lv_iadd hx hb dX4_next_56 ?_
      refine lv_topi (fun x_14 ex_14 => ?_)
      have jx_14 : (x_14).toInt = (x_1).toInt + 1 := by rw [ex_14]; exact dk_addT rfl (by decide +kernel) (by omega) (by omega)
      refine dg_put (ci := 4) (v := .int x_14) (ty := tyX4 4) (C := RX4) (T := TX4) (N := 6) hx hb hts (fun w h => bw_mem (wU_X4 w h)) tyX4 tyX4_ok nmX4 hown K hP hS hA1 sX_182 rfl 4 (by decide) (hts _ (bw_mem wB_804)) (fun _ h9 => h9) rfl (by decide +kernel) rfl rfl dX4_next_57 (fun S_15 e_15 H locs hP hS => ?_)
      have I_15 := dg_I.uFi (lo := 0) (hi := 1600) I e_15 sX_182 (by decide +kernel) (show 0 ≤ (x_14).toInt ∧ (x_14).toInt ≤ 1600 from (by omega))
      have M_15 := dg_sm.uF M_0 e_15 sX_182 (by decide)
      refine lv_aload_n hx hb dX4_next_60 rfl (lv_at hl 1 rfl) ?_
      refine lv_iconst (v := 5) hx hb dX4_next_61 (by decide +kernel) ?_
      refine lv_aload_n hx hb dX4_next_62 rfl (lv_at hl 1 rfl) ?_
      obtain ⟨x_16, f_x_16, b_x_16⟩ := dg_I.int (i := 182) (k := 3) (lo := (-2147483648)) (hi := 2147483647) I_15 sX_182 (by decide +kernel)
      refine dg_get (C := RX4) (T := TX4) (N := 6) hx hb hts (fun w h => bw_mem (wU_X4 w h)) hown K hP sX_182 rfl 3 (by decide) (hts _ (bw_mem wB_779)) (fun _ h9 => h9) (v := .int x_16) f_x_16 dX4_next_63 ?_
      refine lv_imul hx hb dX4_next_66 ?_
      refine lv_topi (fun x_17 ex_17 => ?_)
      refine lv_iload_n hx hb dX4_next_67 rfl (lv_at hl 0 rfl) ?_
      refine lv_iadd hx hb dX4_next_68 ?_
      refine lv_topi (fun x_18 ex_18 => ?_)
      refine lv_sipush (v := 251) hx hb dX4_next_69 (by decide +kernel) ?_
      refine lv_irem hx hb dX4_next_72 (by decide +kernel) ?_
      refine lv_topi (fun x_19 ex_19 => ?_)
      refine dg_put (ci := 4) (v := .int x_19) (ty := tyX4 3) (C := RX4) (T := TX4) (N := 6) hx hb hts (fun w h => bw_mem (wU_X4 w h)) tyX4 tyX4_ok nmX4 hown K hP hS hA1 sX_182 rfl 3 (by decide) (hts _ (bw_mem wB_779)) (fun _ h9 => h9) rfl (by decide +kernel) rfl rfl dX4_next_73 (fun S_20 e_20 H locs hP hS => ?_)
      have I_20 := dg_I.uFi (lo := (-2147483648)) (hi := 2147483647) I_15 e_20 sX_182 (by decide +kernel) (show (-2147483648) ≤ (x_19).toInt ∧ (x_19).toInt ≤ 2147483647 from (dk_full _))
      have M_20 := dg_sm.uF M_15 e_20 sX_182 (by decide)
      refine lv_iload_n hx hb dX4_next_76 rfl (lv_at hl 0 rfl) ?_
      refine W.widen (k := 0) (n := 0) (Nat.le_of_ble_eq_true rfl) (Nat.le_of_ble_eq_true rfl) ?_
      exact dg_iret hx hb hr hlocks rfl hP hS ⟨I_20, M_20, (by omega), (by omega), trivial⟩ dX4_next_77
    · have hf_20 := dk_full a1
      have jc_10 := dk_nlec (k := (a1).toInt) rfl c_10
      refine lv_aload_n hx hb dX4_next_30 rfl (lv_at hl 0 rfl) ?_
      refine lv_iconst (v := 0) hx hb dX4_next_31 (by decide +kernel) ?_
      have hz_22 : (0 : Int32).toInt = 0 := by decide +kernel
      refine dg_put (ci := 4) (v := .int 0) (ty := tyX4 5) (C := RX4) (T := TX4) (N := 6) hx hb hts (fun w h => bw_mem (wU_X4 w h)) tyX4 tyX4_ok nmX4 hown K hP hS hA1 sX_182 rfl 5 (by decide) (hts _ (bw_mem wB_807)) (fun _ h9 => h9) rfl (by decide +kernel) (by decide +kernel) (by decide +kernel) dX4_next_32 (fun S_23 e_23 H locs hP hS => ?_)
      have I_23 := dg_I.uFi (lo := 0) (hi := 1) I e_23 sX_182 (by decide +kernel) (show 0 ≤ ((0 : Int32)).toInt ∧ ((0 : Int32)).toInt ≤ 1 from (by decide +kernel))
      have M_23 := dg_sm.uF M_0 e_23 sX_182 (by decide)
      refine lv_iconst (v := 0) hx hb dX4_next_35 (by decide +kernel) ?_
      have hz_24 : (0 : Int32).toInt = 0 := by decide +kernel
      have hz_25 : (0 : Int32).toInt = 0 := by decide +kernel
      refine W.widen (k := 0) (n := 0) (Nat.le_of_ble_eq_true rfl) (Nat.le_of_ble_eq_true rfl) ?_
      exact dg_iret hx hb hr hlocks rfl hP hS ⟨I_23, M_23, (by decide +kernel), (by omega), trivial⟩ dX4_next_36
set_option maxHeartbeats 8000000 in
set_option maxRecDepth 100000 in
theorem c_i_takeCells (l : Launch) (g : Nat → ClassId) (D : va_G) (o : Nat) (S : dg_S) (gr : Nat) (hk_gr : rX gr) (pt : Nat) (hk_pt : pX pt) (I : CX o S) (sz : Nat) : Met l yX4_takeCells (bw yX4_takeCells cX4_takeCells 5 none) ({ frames := 2, cells := 0, slots := 0, locals := 54 } : Room) (dk_Pc g D (dg_w g shX o rfX S) sz [.ref (o + 182), .ref (o + gr), .ref (o + pt)]) (va_Qv (fun S' => CX o S' ∧ dg_sm shX [(16, 3), (16, 4), (16, 5)] [4] S S' ∧ dg_FG S S' ∧ True) (dg_B g D shX o rfX) (dg_A o shX.length sz)) 0 0 (dg_A o shX.length sz) := by
  refine dg_met (cc := cX4_takeCells) (maxL := 5) (ret := none) (by decide) rfl (Nat.le_of_ble_eq_true rfl) ?_
  intro p e s m args below meth c A hAe harg hx hb hr hml hts hown hlocks hin hP K hS hA1 hA ST hsz ls hl
  rw [← hAe]
  have F : CallFix p m c cX4_takeCells 5 s args (bw yX4_takeCells cX4_takeCells 5 none) RX4 := ⟨hx, hb, hml, hown, hts⟩
  have hl : lv_has ls 5 [(0, .ref (o + 182)), (1, .ref (o + gr)), (2, .ref (o + pt))] := hl
  have M_0 : dg_sm shX [(16, 3), (16, 4), (16, 5)] [4] S S := dg_sm.rf
  refine lv_bipush (v := 8) hx hb dX4_takeCells_0 (by decide +kernel) ?_
  refine lv_istore_n (lv' := [(3, .int 8), (0, .ref (o + 182)), (1, .ref (o + gr)), (2, .ref (o + pt))]) hx hb dX4_takeCells_2 rfl hl (by decide) rfl (fun ls hl => ?_)
  have L_149 : ∀ (n : Nat) (x_147 : Int32), (8 ≤ (x_147).toInt ∧ (x_147).toInt ≤ 64) → ((65 - (x_147).toInt).toNat < n) → ∀ S_148 : dg_S, CX o S_148 → dg_sm shX [(16, 3), (16, 4), (16, 5)] [4] S S_148 → dg_FG S S_148 → ∀ (H : Heap) (locs : List Loc), va_P D vwCl (dg_w g shX o rfX S_148) H → va_S A s.heap H locs → ∀ ls : Array Slot, lv_has ls 5 [(3, .int x_147), (0, .ref (o + 182)), (1, .ref (o + gr)), (2, .ref (o + pt))] → W p l e ({ frames := 2, cells := 0, slots := 0, locals := 54 } : Room) s m args below meth c H locs 0 0 (MQ below (va_Qv (fun S' => CX o S' ∧ dg_sm shX [(16, 3), (16, 4), (16, 5)] [4] S S' ∧ dg_FG S S' ∧ True) (dg_B g D shX o rfX) A) args s 0 0 A) (F0 m 3 ls []) := by
    intro n
    induction n with
    | zero =>
      intro x_147 b_x_147 hmu S_148 I_148 M_148 G_148 H locs hP hS ls hl
      omega
    | succ n ih =>
      intro x_147 b_x_147 hmu S_148 I_148 M_148 G_148 H locs hP hS ls hl
      refine lv_iload_n hx hb dX4_takeCells_3 rfl (lv_at hl 0 rfl) ?_
      refine lv_aload_n hx hb dX4_takeCells_4 rfl (lv_at hl 2 rfl) ?_
      refine dg_calli hS hA1 hA (va_runV (As := []) (rest := [.int x_147]) F (c_g_endOfPlaces l g D o S_148 gr hk_gr I_148 H.size) (cwV 0 hts (bw_V wB_809 wB_721 wB_722 wB_7 wB_719) rfl rfl rfl (by decide +kernel) ⟨Nat.le_of_ble_eq_true rfl, Nat.le_of_ble_eq_true rfl⟩) (dg_preV (rX_0 gr hk_gr) rfl K ST hP hS hA1 hA) rfl rfl hl.1 rfl (lv_room (Nat.le_of_ble_eq_true rfl)) dX4_takeCells_5 ⟨Nat.le_of_ble_eq_true rfl, Nat.le_of_ble_eq_true rfl⟩) (fun x_150 S_151 hw_151 H locs hP hS => ?_)
      rw [hw_151.1] at hP
      obtain ⟨hq_151, w_151_0, -⟩ := hw_151
      have w_151_0 : 8 ≤ (x_150).toInt ∧ (x_150).toInt ≤ 64 := w_151_0
      refine lv_icmp_ge (tgt := 114) hx hb dX4_takeCells_8 (by decide) (fun c_152 => ?_) (fun c_152 => ?_)
      · have jc_152 := dk_gec (k := (x_150).toInt) rfl c_152
        refine W.widen (k := 0) (n := 0) (Nat.le_of_ble_eq_true rfl) (Nat.le_of_ble_eq_true rfl) ?_
        exact dg_vret hx hb hr hlocks hP hS ⟨I_148, M_148, G_148, trivial⟩ dX4_takeCells_114
      · have jc_152 := dk_ngec (k := (x_150).toInt) rfl c_152
        refine lv_aload_n hx hb dX4_takeCells_11 rfl (lv_at hl 3 rfl) ?_
        refine dg_get (C := RX5) (T := TX5) (N := 8) hx hb hts (fun w h => bw_mem (wU_X5 w h)) hown K hP (pX_0 pt hk_pt) rfl 2 (by decide) (hts _ (bw_mem wB_788)) (fun _ h9 => h9) (v := .ref (o + (pt + 1))) (show S_148.1 pt 2 = .ref (o + (pt + 1)) from dg_I.rel (d := 1) I_148 (pX_0 pt hk_pt) (by decide +kernel)) dX4_takeCells_12 ?_
        refine lv_iload_n hx hb dX4_takeCells_15 rfl (lv_at hl 0 rfl) ?_
        have hin_153 : vp_in x_147 72 := (dk_inv (by omega) (by omega))
        refine dg_iald hx hb K hP (pX_1 pt hk_pt) hin_153 dX4_takeCells_16 (fun x_154 ex_154 => ?_)
        have b_x_154 := dg_c0_at (dg_I.cel0 (lo := 0) (hi := 255) I_148 (pX_1 pt hk_pt) (by decide +kernel)) hin_153 ex_154
        refine lv_bipush (v := 100) hx hb dX4_takeCells_17 (by decide +kernel) ?_
        have J_178 : ∀ S_177 : dg_S, CX o S_177 → dg_sm shX [(16, 3), (16, 4), (16, 5)] [4] S S_177 → dg_FG S S_177 → ∀ rw_177_0 : Int32, S_177.2.1 (pt + 1) (x_147 : Int32).toNatClampNeg = rw_177_0 → (0 ≤ (rw_177_0).toInt ∧ (rw_177_0).toInt ≤ 255) → ∀ (H : Heap) (locs : List Loc), va_P D vwCl (dg_w g shX o rfX S_177) H → va_S A s.heap H locs → ∀ ls : Array Slot, lv_has ls 5 [(3, .int x_147), (0, .ref (o + 182)), (1, .ref (o + gr)), (2, .ref (o + pt))] → W p l e ({ frames := 2, cells := 0, slots := 0, locals := 54 } : Room) s m args below meth c H locs 0 0 (MQ below (va_Qv (fun S' => CX o S' ∧ dg_sm shX [(16, 3), (16, 4), (16, 5)] [4] S S' ∧ dg_FG S S' ∧ True) (dg_B g D shX o rfX) A) args s 0 0 A) (F0 m 108 ls []) := by
          intro S_177 I_177 M_177 G_177 rw_177_0 frw_177_0 brw_177_0 H locs hP hS ls hl
          obtain ⟨x_179, ex_179⟩ : ∃ z, z = x_147 + 1 := ⟨_, rfl⟩
          have jx_179 : (x_179).toInt = (x_147).toInt + 1 := by rw [ex_179]; exact dk_addT rfl (by decide +kernel) (by omega) (by omega)
          refine lv_iinc (v := x_179) (lv' := [(3, .int x_179), (0, .ref (o + 182)), (1, .ref (o + gr)), (2, .ref (o + pt))]) hx hb dX4_takeCells_108 hl (k := 0) rfl (by rw [ex_179]; rfl) (by decide) rfl (fun ls hl => ?_)
          refine lv_goto (tgt := 3) hx hb dX4_takeCells_111 (by decide) ?_
          exact ih x_179 (by omega) (by omega) S_177 I_177 M_177 G_177 _ _ hP hS _ (lv_sub hl [0, 1, 2, 3] rfl)
        refine lv_icmp_ne (tgt := 25) hx hb dX4_takeCells_19 (by decide) (fun c_180 => ?_) (fun c_180 => ?_)
        · have jc_180 := dk_neqc (k := 100) (by decide +kernel) c_180
          refine lv_aload_n hx hb dX4_takeCells_25 rfl (lv_at hl 1 rfl) ?_
          refine lv_sipush (v := 255) hx hb dX4_takeCells_26 (by decide +kernel) ?_
          refine dg_calli hS hA1 hA (va_runV (As := [.int 255]) (rest := []) F (c_i_next l g D o S_148 255 I_148 H.size) (cwV 1 hts (bw_V wB_811 wB_812 wB_813 wB_784 wB_810) rfl rfl rfl (by decide +kernel) ⟨Nat.le_of_ble_eq_true rfl, Nat.le_of_ble_eq_true rfl⟩) (dg_preV sX_182 rfl K ST hP hS hA1 hA) rfl rfl hl.1 rfl (lv_room (Nat.le_of_ble_eq_true rfl)) dX4_takeCells_29 ⟨Nat.le_of_ble_eq_true rfl, Nat.le_of_ble_eq_true rfl⟩) (fun x_181 S_182 hw_182 H locs hP hS => ?_)
          obtain ⟨I_182, m_182, w_182_0, w_182_1, -⟩ := hw_182
          have M_182 := dg_sm.tr M_148 m_182 (by decide) (by decide)
          have hz_183 : (255 : Int32).toInt = 255 := by decide +kernel
          have w_182_0 : 0 ≤ (x_181).toInt ∧ (x_181).toInt ≤ 255 := w_182_0
          have w_182_1 : (x_181).toInt ≤ ((255 : Int32)).toInt ∨ (x_181).toInt = 0 := w_182_1
          refine lv_istore (lv' := [(4, .int x_181), (3, .int x_147), (0, .ref (o + 182)), (1, .ref (o + gr)), (2, .ref (o + pt))]) hx hb dX4_takeCells_32 hl (by decide) rfl (fun ls hl => ?_)
          refine lv_iload_n hx hb dX4_takeCells_34 rfl (lv_at hl 1 rfl) ?_
          refine lv_aload_n hx hb dX4_takeCells_35 rfl (lv_at hl 3 rfl) ?_
          obtain ⟨x_184, f_x_184, b_x_184⟩ := dg_I.int (i := gr) (k := 2) (lo := (-1)) (hi := 63) I (rX_0 gr hk_gr) (by decide +kernel)
          refine dg_get (C := RX2) (T := TX2) (N := 19) hx hb hts (fun w h => bw_mem (wU_X2 w h)) hown K hP (rX_0 gr hk_gr) rfl 2 (by decide) (hts _ (bw_mem wB_814)) (fun _ h9 => h9) (v := .int x_184) (((m_182.1 gr 2 _ (rX_0 gr hk_gr) (by decide)).trans (M_148.1 gr 2 _ (rX_0 gr hk_gr) (by decide))).trans f_x_184) dX4_takeCells_36 ?_
          have J_201 : ∀ S_200 : dg_S, CX o S_200 → dg_sm shX [(16, 3), (16, 4), (16, 5)] [4] S S_200 → dg_FG S S_200 → ∀ rw_200_0 : Int32, S_200.2.1 (pt + 1) (x_147 : Int32).toNatClampNeg = rw_200_0 → (0 ≤ (rw_200_0).toInt ∧ (rw_200_0).toInt ≤ 255) → ∀ (H : Heap) (locs : List Loc), va_P D vwCl (dg_w g shX o rfX S_200) H → va_S A s.heap H locs → ∀ ls : Array Slot, lv_has ls 5 [(4, .int x_181), (3, .int x_147), (0, .ref (o + 182)), (1, .ref (o + gr)), (2, .ref (o + pt))] → W p l e ({ frames := 2, cells := 0, slots := 0, locals := 54 } : Room) s m args below meth c H locs 0 0 (MQ below (va_Qv (fun S' => CX o S' ∧ dg_sm shX [(16, 3), (16, 4), (16, 5)] [4] S S' ∧ dg_FG S S' ∧ True) (dg_B g D shX o rfX) A) args s 0 0 A) (F0 m 100 ls []) := by
            intro S_200 I_200 M_200 G_200 rw_200_0 frw_200_0 brw_200_0 H locs hP hS ls hl
            refine lv_aload_n hx hb dX4_takeCells_100 rfl (lv_at hl 4 rfl) ?_
            refine dg_get (C := RX5) (T := TX5) (N := 8) hx hb hts (fun w h => bw_mem (wU_X5 w h)) hown K hP (pX_0 pt hk_pt) rfl 2 (by decide) (hts _ (bw_mem wB_788)) (fun _ h9 => h9) (v := .ref (o + (pt + 1))) (show S_200.1 pt 2 = .ref (o + (pt + 1)) from dg_I.rel (d := 1) I_200 (pX_0 pt hk_pt) (by decide +kernel)) dX4_takeCells_101 ?_
            refine lv_iload_n hx hb dX4_takeCells_104 rfl (lv_at hl 1 rfl) ?_
            refine lv_iload hx hb dX4_takeCells_105 (lv_at hl 0 rfl) ?_
            have hin_202 : vp_in x_147 72 := (dk_inv (by omega) (by omega))
            refine dg_iast hx hb K hP hS hA1 (pX_1 pt hk_pt) hin_202 dX4_takeCells_107 (fun S_203 e_203 H locs hP hS => ?_)
            have I_203 := dg_I.ufc (lo := 0) (hi := 255) I_200 e_203 (pX_1 pt hk_pt) (by decide +kernel) hin_202 (show dg_Pcel _ _ from by unfold dg_Pcel; omega) (by omega)
            have gs_203 := dg_FG.st e_203 (by omega)
            have M_203 := dg_sm.uf M_200 e_203 (pX_1 pt hk_pt) (by decide)
            exact J_178   S_203 I_203 M_203 (dg_FG.tr G_200 gs_203) x_181 ((congrFun (dg_uf_at e_203) _).trans (dg_upd_at rfl)) (by omega) _ _ hP hS _ (lv_sub hl [1, 2, 3, 4] rfl)
          refine lv_icmp_ne (tgt := 69) hx hb dX4_takeCells_39 (by decide) (fun c_204 => ?_) (fun c_204 => ?_)
          · have jc_204 := dk_neqc (k := (x_184).toInt) rfl c_204
            refine lv_aload_n hx hb dX4_takeCells_69 rfl (lv_at hl 2 rfl) ?_
            refine lv_aload_n hx hb dX4_takeCells_70 rfl (lv_at hl 2 rfl) ?_
            obtain ⟨x_205, f_x_205, b_x_205⟩ := dg_I.int (i := 182) (k := 5) (lo := 0) (hi := 1) I_182 sX_182 (by decide +kernel)
            refine dg_get (C := RX4) (T := TX4) (N := 6) hx hb hts (fun w h => bw_mem (wU_X4 w h)) hown K hP sX_182 rfl 5 (by decide) (hts _ (bw_mem wB_807)) (fun _ h9 => h9) (v := .int x_205) f_x_205 dX4_takeCells_71 ?_
            have J_211 : ∀ (x_209 : Int32), (0 ≤ (x_209).toInt ∧ (x_209).toInt ≤ 1) → ∀ (H : Heap) (locs : List Loc), va_P D vwCl (dg_w g shX o rfX S_182) H → va_S A s.heap H locs → ∀ ls : Array Slot, lv_has ls 5 [(4, .int x_181), (3, .int x_147), (0, .ref (o + 182)), (1, .ref (o + gr)), (2, .ref (o + pt))] → W p l e ({ frames := 2, cells := 0, slots := 0, locals := 54 } : Room) s m args below meth c H locs 0 0 (MQ below (va_Qv (fun S' => CX o S' ∧ dg_sm shX [(16, 3), (16, 4), (16, 5)] [4] S S' ∧ dg_FG S S' ∧ True) (dg_B g D shX o rfX) A) args s 0 0 A) (F0 m 97 ls [.int x_209, .ref (o + 182)]) := by
              intro x_209 b_x_209 H locs hP hS ls hl
              refine dg_put (ci := 4) (v := .int x_209) (ty := tyX4 5) (C := RX4) (T := TX4) (N := 6) hx hb hts (fun w h => bw_mem (wU_X4 w h)) tyX4 tyX4_ok nmX4 hown K hP hS hA1 sX_182 rfl 5 (by decide) (hts _ (bw_mem wB_807)) (fun _ h9 => h9) rfl (by decide +kernel) (dk_znar (by omega) (by omega)) (dk_zfit (by omega) (by omega)) dX4_takeCells_97 (fun S_212 e_212 H locs hP hS => ?_)
              have I_212 := dg_I.uFi (lo := 0) (hi := 1) I_182 e_212 sX_182 (by decide +kernel) (show 0 ≤ (x_209).toInt ∧ (x_209).toInt ≤ 1 from (by omega))
              have M_212 := dg_sm.uF M_182 e_212 sX_182 (by decide)
              exact J_201   S_212 I_212 M_212 (dg_FG.tr (dg_FG.tr G_148 (dg_FG.sm m_182 (by decide))) (dg_FG.uF e_212)) x_154 ((congrFun ((dg_uF_f e_212 (pt + 1)).trans (m_182.2 (pt + 1) _ (pX_1 pt hk_pt) (by decide)).1) _).trans ex_154.symm) (by omega) _ _ hP hS _ (lv_sub hl [0, 1, 2, 3, 4] rfl)
            have J_213 : ∀ (H : Heap) (locs : List Loc), va_P D vwCl (dg_w g shX o rfX S_182) H → va_S A s.heap H locs → ∀ ls : Array Slot, lv_has ls 5 [(4, .int x_181), (3, .int x_147), (0, .ref (o + 182)), (1, .ref (o + gr)), (2, .ref (o + pt))] → W p l e ({ frames := 2, cells := 0, slots := 0, locals := 54 } : Room) s m args below meth c H locs 0 0 (MQ below (va_Qv (fun S' => CX o S' ∧ dg_sm shX [(16, 3), (16, 4), (16, 5)] [4] S S' ∧ dg_FG S S' ∧ True) (dg_B g D shX o rfX) A) args s 0 0 A) (F0 m 96 ls [.ref (o + 182)]) := by
              intro H locs hP hS ls hl
              refine lv_iconst (v := 0) hx hb dX4_takeCells_96 (by decide +kernel) ?_
              have hz_214 : (0 : Int32).toInt = 0 := by decide +kernel
              exact J_211 0 (by decide +kernel) _ _ hP hS _ (lv_sub hl [0, 1, 2, 3, 4] rfl)
            refine lv_if_eq (tgt := 96) hx hb dX4_takeCells_74 (by decide) (fun c_215 => ?_) (fun c_215 => ?_)
            · have jc_215 := dk_eqc (k := 0) (by decide +kernel) c_215
              exact J_213   _ _ hP hS _ (lv_sub hl [0, 1, 2, 3, 4] rfl)
            · have jc_215 := dk_neqc (k := 0) (by decide +kernel) c_215
              refine lv_iload hx hb dX4_takeCells_77 (lv_at hl 0 rfl) ?_
              refine lv_bipush (v := 9) hx hb dX4_takeCells_79 (by decide +kernel) ?_
              have J_219 : ∀ (H : Heap) (locs : List Loc), va_P D vwCl (dg_w g shX o rfX S_182) H → va_S A s.heap H locs → ∀ ls : Array Slot, lv_has ls 5 [(4, .int x_181), (3, .int x_147), (0, .ref (o + 182)), (1, .ref (o + gr)), (2, .ref (o + pt))] → W p l e ({ frames := 2, cells := 0, slots := 0, locals := 54 } : Room) s m args below meth c H locs 0 0 (MQ below (va_Qv (fun S' => CX o S' ∧ dg_sm shX [(16, 3), (16, 4), (16, 5)] [4] S S' ∧ dg_FG S S' ∧ True) (dg_B g D shX o rfX) A) args s 0 0 A) (F0 m 92 ls [.ref (o + 182)]) := by
                intro H locs hP hS ls hl
                refine lv_iconst (v := 1) hx hb dX4_takeCells_92 (by decide +kernel) ?_
                refine lv_goto (tgt := 97) hx hb dX4_takeCells_93 (by decide) ?_
                have hz_220 : (1 : Int32).toInt = 1 := by decide +kernel
                exact J_211 1 (by decide +kernel) _ _ hP hS _ (lv_sub hl [0, 1, 2, 3, 4] rfl)
              refine lv_icmp_le (tgt := 92) hx hb dX4_takeCells_81 (by decide) (fun c_221 => ?_) (fun c_221 => ?_)
              · have jc_221 := dk_lec (k := 9) (by decide +kernel) c_221
                exact J_219   _ _ hP hS _ (lv_sub hl [0, 1, 2, 3, 4] rfl)
              · have jc_221 := dk_nlec (k := 9) (by decide +kernel) c_221
                refine lv_iload hx hb dX4_takeCells_84 (lv_at hl 0 rfl) ?_
                refine lv_sipush (v := 254) hx hb dX4_takeCells_86 (by decide +kernel) ?_
                refine lv_icmp_lt (tgt := 96) hx hb dX4_takeCells_89 (by decide) (fun c_222 => ?_) (fun c_222 => ?_)
                · have jc_222 := dk_ltc (k := 254) (by decide +kernel) c_222
                  exact J_213   _ _ hP hS _ (lv_sub hl [0, 1, 2, 3, 4] rfl)
                · have jc_222 := dk_nltc (k := 254) (by decide +kernel) c_222
                  exact J_219   _ _ hP hS _ (lv_sub hl [0, 1, 2, 3, 4] rfl)
          · have jc_204 := dk_eqc (k := (x_184).toInt) rfl c_204
            refine lv_aload_n hx hb dX4_takeCells_42 rfl (lv_at hl 2 rfl) ?_
            refine lv_aload_n hx hb dX4_takeCells_43 rfl (lv_at hl 2 rfl) ?_
            obtain ⟨x_223, f_x_223, b_x_223⟩ := dg_I.int (i := 182) (k := 5) (lo := 0) (hi := 1) I_182 sX_182 (by decide +kernel)
            refine dg_get (C := RX4) (T := TX4) (N := 6) hx hb hts (fun w h => bw_mem (wU_X4 w h)) hown K hP sX_182 rfl 5 (by decide) (hts _ (bw_mem wB_807)) (fun _ h9 => h9) (v := .int x_223) f_x_223 dX4_takeCells_44 ?_
            have J_228 : ∀ (x_226 : Int32), (0 ≤ (x_226).toInt ∧ (x_226).toInt ≤ 1) → ∀ (H : Heap) (locs : List Loc), va_P D vwCl (dg_w g shX o rfX S_182) H → va_S A s.heap H locs → ∀ ls : Array Slot, lv_has ls 5 [(4, .int x_181), (3, .int x_147), (0, .ref (o + 182)), (1, .ref (o + gr)), (2, .ref (o + pt))] → W p l e ({ frames := 2, cells := 0, slots := 0, locals := 54 } : Room) s m args below meth c H locs 0 0 (MQ below (va_Qv (fun S' => CX o S' ∧ dg_sm shX [(16, 3), (16, 4), (16, 5)] [4] S S' ∧ dg_FG S S' ∧ True) (dg_B g D shX o rfX) A) args s 0 0 A) (F0 m 63 ls [.int x_226, .ref (o + 182)]) := by
              intro x_226 b_x_226 H locs hP hS ls hl
              refine dg_put (ci := 4) (v := .int x_226) (ty := tyX4 5) (C := RX4) (T := TX4) (N := 6) hx hb hts (fun w h => bw_mem (wU_X4 w h)) tyX4 tyX4_ok nmX4 hown K hP hS hA1 sX_182 rfl 5 (by decide) (hts _ (bw_mem wB_807)) (fun _ h9 => h9) rfl (by decide +kernel) (dk_znar (by omega) (by omega)) (dk_zfit (by omega) (by omega)) dX4_takeCells_63 (fun S_229 e_229 H locs hP hS => ?_)
              have I_229 := dg_I.uFi (lo := 0) (hi := 1) I_182 e_229 sX_182 (by decide +kernel) (show 0 ≤ (x_226).toInt ∧ (x_226).toInt ≤ 1 from (by omega))
              have M_229 := dg_sm.uF M_182 e_229 sX_182 (by decide)
              refine lv_goto (tgt := 100) hx hb dX4_takeCells_66 (by decide) ?_
              exact J_201   S_229 I_229 M_229 (dg_FG.tr (dg_FG.tr G_148 (dg_FG.sm m_182 (by decide))) (dg_FG.uF e_229)) x_154 ((congrFun ((dg_uF_f e_229 (pt + 1)).trans (m_182.2 (pt + 1) _ (pX_1 pt hk_pt) (by decide)).1) _).trans ex_154.symm) (by omega) _ _ hP hS _ (lv_sub hl [0, 1, 2, 3, 4] rfl)
            have J_230 : ∀ (H : Heap) (locs : List Loc), va_P D vwCl (dg_w g shX o rfX S_182) H → va_S A s.heap H locs → ∀ ls : Array Slot, lv_has ls 5 [(4, .int x_181), (3, .int x_147), (0, .ref (o + 182)), (1, .ref (o + gr)), (2, .ref (o + pt))] → W p l e ({ frames := 2, cells := 0, slots := 0, locals := 54 } : Room) s m args below meth c H locs 0 0 (MQ below (va_Qv (fun S' => CX o S' ∧ dg_sm shX [(16, 3), (16, 4), (16, 5)] [4] S S' ∧ dg_FG S S' ∧ True) (dg_B g D shX o rfX) A) args s 0 0 A) (F0 m 62 ls [.ref (o + 182)]) := by
              intro H locs hP hS ls hl
              refine lv_iconst (v := 0) hx hb dX4_takeCells_62 (by decide +kernel) ?_
              have hz_231 : (0 : Int32).toInt = 0 := by decide +kernel
              exact J_228 0 (by decide +kernel) _ _ hP hS _ (lv_sub hl [0, 1, 2, 3, 4] rfl)
            refine lv_if_eq (tgt := 62) hx hb dX4_takeCells_47 (by decide) (fun c_232 => ?_) (fun c_232 => ?_)
            · have jc_232 := dk_eqc (k := 0) (by decide +kernel) c_232
              exact J_230   _ _ hP hS _ (lv_sub hl [0, 1, 2, 3, 4] rfl)
            · have jc_232 := dk_neqc (k := 0) (by decide +kernel) c_232
              refine lv_iload hx hb dX4_takeCells_50 (lv_at hl 0 rfl) ?_
              refine lv_sipush (v := 255) hx hb dX4_takeCells_52 (by decide +kernel) ?_
              refine lv_icmp_ne (tgt := 62) hx hb dX4_takeCells_55 (by decide) (fun c_233 => ?_) (fun c_233 => ?_)
              · have jc_233 := dk_neqc (k := 255) (by decide +kernel) c_233
                exact J_230   _ _ hP hS _ (lv_sub hl [0, 1, 2, 3, 4] rfl)
              · have jc_233 := dk_eqc (k := 255) (by decide +kernel) c_233
                refine lv_iconst (v := 1) hx hb dX4_takeCells_58 (by decide +kernel) ?_
                refine lv_goto (tgt := 63) hx hb dX4_takeCells_59 (by decide) ?_
                have hz_234 : (1 : Int32).toInt = 1 := by decide +kernel
                exact J_228 1 (by decide +kernel) _ _ hP hS _ (lv_sub hl [0, 1, 2, 3, 4] rfl)
        · have jc_180 := dk_eqc (k := 100) (by decide +kernel) c_180
          refine lv_goto (tgt := 108) hx hb dX4_takeCells_22 (by decide) ?_
          exact J_178   S_148 I_148 M_148 G_148 x_154 ex_154.symm (by omega) _ _ hP hS _ (lv_sub hl [0, 1, 2, 3] rfl)
  have hz_235 : (8 : Int32).toInt = 8 := by decide +kernel
  have hz_236 : (8 : Int32).toInt = 8 := by decide +kernel
  exact L_149 ((65 - ((8 : Int32)).toInt).toNat + 1) 8 (by decide +kernel) (by omega) S I M_0 dg_FG.rf _ _ hP hS _ (lv_sub hl [0, 1, 2, 3] rfl)
set_option maxHeartbeats 8000000 in
set_option maxRecDepth 100000 in
theorem c_i_takePlan (l : Launch) (g : Nat → ClassId) (D : va_G) (o : Nat) (S : dg_S) (gr : Nat) (hk_gr : rX gr) (pt : Nat) (hk_pt : pX pt) (cx : Int32) (f_cx : S.1 gr 0 = .int cx) (b_cx : 0 ≤ (cx).toInt ∧ (cx).toInt ≤ 7) (ry : Int32) (f_ry : S.1 gr 1 = .int ry) (b_ry : 0 ≤ (ry).toInt ∧ (ry).toInt ≤ 7) (hcx : 0 < (cx).toInt ∧ 0 < (ry).toInt) (I : CX o S) (sz : Nat) : Met l yX4_takePlan (bw yX4_takePlan cX4_takePlan 5 none) ({ frames := 2, cells := 0, slots := 0, locals := 54 } : Room) (dk_Pc g D (dg_w g shX o rfX S) sz [.ref (o + 182), .ref (o + gr), .ref (o + pt)]) (va_Qv (fun S' => CX o S' ∧ dg_sm shX [(16, 3), (16, 4), (16, 5)] [6, 7] S S' ∧ True) (dg_B g D shX o rfX) (dg_A o shX.length sz)) 0 0 (dg_A o shX.length sz) := by
  refine dg_met (cc := cX4_takePlan) (maxL := 5) (ret := none) (by decide) rfl (Nat.le_of_ble_eq_true rfl) ?_
  intro p e s m args below meth c A hAe harg hx hb hr hml hts hown hlocks hin hP K hS hA1 hA ST hsz ls hl
  rw [← hAe]
  have F : CallFix p m c cX4_takePlan 5 s args (bw yX4_takePlan cX4_takePlan 5 none) RX4 := ⟨hx, hb, hml, hown, hts⟩
  have hl : lv_has ls 5 [(0, .ref (o + 182)), (1, .ref (o + gr)), (2, .ref (o + pt))] := hl
  have M_0 : dg_sm shX [(16, 3), (16, 4), (16, 5)] [6, 7] S S := dg_sm.rf
  refine lv_iconst (v := 0) hx hb dX4_takePlan_0 (by decide +kernel) ?_
  refine lv_istore_n (lv' := [(3, .int 0), (0, .ref (o + 182)), (1, .ref (o + gr)), (2, .ref (o + pt))]) hx hb dX4_takePlan_1 rfl hl (by decide) rfl (fun ls hl => ?_)
  have L_109 : ∀ (n : Nat) (x_107 : Int32), (0 ≤ (x_107).toInt ∧ (x_107).toInt ≤ 16) → ((17 - (x_107).toInt).toNat < n) → ∀ S_108 : dg_S, CX o S_108 → dg_sm shX [(16, 3), (16, 4), (16, 5)] [6, 7] S S_108 → ∀ (H : Heap) (locs : List Loc), va_P D vwCl (dg_w g shX o rfX S_108) H → va_S A s.heap H locs → ∀ ls : Array Slot, lv_has ls 5 [(3, .int x_107), (0, .ref (o + 182)), (1, .ref (o + gr)), (2, .ref (o + pt))] → W p l e ({ frames := 2, cells := 0, slots := 0, locals := 54 } : Room) s m args below meth c H locs 0 0 (MQ below (va_Qv (fun S' => CX o S' ∧ dg_sm shX [(16, 3), (16, 4), (16, 5)] [6, 7] S S' ∧ True) (dg_B g D shX o rfX) A) args s 0 0 A) (F0 m 2 ls []) := by
    intro n
    induction n with
    | zero =>
      intro x_107 b_x_107 hmu S_108 I_108 M_108 H locs hP hS ls hl
      omega
    | succ n ih =>
      intro x_107 b_x_107 hmu S_108 I_108 M_108 H locs hP hS ls hl
      refine lv_iload_n hx hb dX4_takePlan_2 rfl (lv_at hl 0 rfl) ?_
      refine lv_aload_n hx hb dX4_takePlan_3 rfl (lv_at hl 2 rfl) ?_
      obtain ⟨x_110, f_x_110, b_x_110⟩ := dg_I.int (i := gr) (k := 8) (lo := 0) (hi := 16) I (rX_0 gr hk_gr) (by decide +kernel)
      refine dg_get (C := RX2) (T := TX2) (N := 19) hx hb hts (fun w h => bw_mem (wU_X2 w h)) hown K hP (rX_0 gr hk_gr) rfl 8 (by decide) (hts _ (bw_mem wB_796)) (fun _ h9 => h9) (v := .int x_110) ((M_108.1 gr 8 _ (rX_0 gr hk_gr) (by decide)).trans f_x_110) dX4_takePlan_4 ?_
      refine lv_icmp_ge (tgt := 66) hx hb dX4_takePlan_7 (by decide) (fun c_111 => ?_) (fun c_111 => ?_)
      · have jc_111 := dk_gec (k := (x_110).toInt) rfl c_111
        refine W.widen (k := 0) (n := 0) (Nat.le_of_ble_eq_true rfl) (Nat.le_of_ble_eq_true rfl) ?_
        exact dg_vret hx hb hr hlocks hP hS ⟨I_108, M_108, trivial⟩ dX4_takePlan_66
      · have jc_111 := dk_ngec (k := (x_110).toInt) rfl c_111
        refine lv_aload_n hx hb dX4_takePlan_10 rfl (lv_at hl 3 rfl) ?_
        refine dg_get (C := RX5) (T := TX5) (N := 8) hx hb hts (fun w h => bw_mem (wU_X5 w h)) hown K hP (pX_0 pt hk_pt) rfl 4 (by decide) (hts _ (bw_mem wB_797)) (fun _ h9 => h9) (v := .ref (o + (pt + 3))) (show S_108.1 pt 4 = .ref (o + (pt + 3)) from dg_I.rel (d := 3) I_108 (pX_0 pt hk_pt) (by decide +kernel)) dX4_takePlan_11 ?_
        refine lv_iload_n hx hb dX4_takePlan_14 rfl (lv_at hl 0 rfl) ?_
        refine lv_aload_n hx hb dX4_takePlan_15 rfl (lv_at hl 1 rfl) ?_
        refine lv_aload_n hx hb dX4_takePlan_16 rfl (lv_at hl 2 rfl) ?_
        obtain ⟨x_112, f_x_112, b_x_112⟩ := dg_I.int (i := gr) (k := 6) (lo := 0) (hi := 6) I (rX_0 gr hk_gr) (by decide +kernel)
        refine dg_get (C := RX2) (T := TX2) (N := 19) hx hb hts (fun w h => bw_mem (wU_X2 w h)) hown K hP (rX_0 gr hk_gr) rfl 6 (by decide) (hts _ (bw_mem wB_795)) (fun _ h9 => h9) (v := .int x_112) ((M_108.1 gr 6 _ (rX_0 gr hk_gr) (by decide)).trans f_x_112) dX4_takePlan_17 ?_
        refine lv_iconst (v := 1) hx hb dX4_takePlan_20 (by decide +kernel) ?_
        refine lv_isub hx hb dX4_takePlan_21 ?_
        refine lv_topi (fun x_113 ex_113 => ?_)
        have jx_113 : (x_113).toInt = (x_112).toInt - 1 := by rw [ex_113]; exact dk_subT rfl (by decide +kernel) (by omega) (by omega)
        refine dg_calli hS hA1 hA (va_runV (As := [.int x_113]) (rest := [.int x_107, .ref (o + (pt + 3))]) F (c_i_next l g D o S_108 x_113 I_108 H.size) (cwV 1 hts (bw_V wB_811 wB_812 wB_813 wB_784 wB_810) rfl rfl rfl (by decide +kernel) ⟨Nat.le_of_ble_eq_true rfl, Nat.le_of_ble_eq_true rfl⟩) (dg_preV sX_182 rfl K ST hP hS hA1 hA) rfl rfl hl.1 rfl (lv_room (Nat.le_of_ble_eq_true rfl)) dX4_takePlan_22 ⟨Nat.le_of_ble_eq_true rfl, Nat.le_of_ble_eq_true rfl⟩) (fun x_114 S_115 hw_115 H locs hP hS => ?_)
        obtain ⟨I_115, m_115, w_115_0, w_115_1, -⟩ := hw_115
        have M_115 := dg_sm.tr M_108 m_115 (by decide) (by decide)
        have w_115_0 : 0 ≤ (x_114).toInt ∧ (x_114).toInt ≤ 255 := w_115_0
        have w_115_1 : (x_114).toInt ≤ (x_113).toInt ∨ (x_114).toInt = 0 := w_115_1
        have hin_116 : vp_in x_107 16 := (dk_inv (by omega) (by omega))
        refine dg_iast hx hb K hP hS hA1 (pX_3 pt hk_pt) hin_116 dX4_takePlan_25 (fun S_117 e_117 H locs hP hS => ?_)
        have I_117 := dg_I.ufu (lo := 0) (hi := 5) I_115 e_117 (pX_3 pt hk_pt) (by decide +kernel) (show 0 ≤ (x_114).toInt ∧ (x_114).toInt ≤ 5 from (by omega))
        have M_117 := dg_sm.uf M_115 e_117 (pX_3 pt hk_pt) (by decide)
        refine lv_aload_n hx hb dX4_takePlan_26 rfl (lv_at hl 1 rfl) ?_
        refine lv_aload_n hx hb dX4_takePlan_27 rfl (lv_at hl 2 rfl) ?_
        refine dg_get (C := RX2) (T := TX2) (N := 19) hx hb hts (fun w h => bw_mem (wU_X2 w h)) hown K hP (rX_0 gr hk_gr) rfl 0 (by decide) (hts _ (bw_mem wB_789)) (fun _ h9 => h9) (v := .int cx) (((dg_uf_F e_117 gr 0).trans ((m_115.1 gr 0 _ (rX_0 gr hk_gr) (by decide)).trans (M_108.1 gr 0 _ (rX_0 gr hk_gr) (by decide)))).trans f_cx) dX4_takePlan_28 ?_
        refine lv_iconst (v := 1) hx hb dX4_takePlan_31 (by decide +kernel) ?_
        refine lv_isub hx hb dX4_takePlan_32 ?_
        refine lv_topi (fun x_118 ex_118 => ?_)
        have jx_118 : (x_118).toInt = (cx).toInt - 1 := by rw [ex_118]; exact dk_subT rfl (by decide +kernel) (by omega) (by omega)
        refine dg_calli hS hA1 hA (va_runV (As := [.int x_118]) (rest := []) F (c_i_next l g D o S_117 x_118 I_117 H.size) (cwV 1 hts (bw_V wB_811 wB_812 wB_813 wB_784 wB_810) rfl rfl rfl (by decide +kernel) ⟨Nat.le_of_ble_eq_true rfl, Nat.le_of_ble_eq_true rfl⟩) (dg_preV sX_182 rfl K ST hP hS hA1 hA) rfl rfl hl.1 rfl (lv_room (Nat.le_of_ble_eq_true rfl)) dX4_takePlan_33 ⟨Nat.le_of_ble_eq_true rfl, Nat.le_of_ble_eq_true rfl⟩) (fun x_119 S_120 hw_120 H locs hP hS => ?_)
        obtain ⟨I_120, m_120, w_120_0, w_120_1, -⟩ := hw_120
        have M_120 := dg_sm.tr M_117 m_120 (by decide) (by decide)
        have w_120_0 : 0 ≤ (x_119).toInt ∧ (x_119).toInt ≤ 255 := w_120_0
        have w_120_1 : (x_119).toInt ≤ (x_118).toInt ∨ (x_119).toInt = 0 := w_120_1
        refine lv_istore (lv' := [(4, .int x_119), (3, .int x_107), (0, .ref (o + 182)), (1, .ref (o + gr)), (2, .ref (o + pt))]) hx hb dX4_takePlan_36 hl (by decide) rfl (fun ls hl => ?_)
        refine lv_aload_n hx hb dX4_takePlan_38 rfl (lv_at hl 4 rfl) ?_
        refine dg_get (C := RX5) (T := TX5) (N := 8) hx hb hts (fun w h => bw_mem (wU_X5 w h)) hown K hP (pX_0 pt hk_pt) rfl 5 (by decide) (hts _ (bw_mem wB_798)) (fun _ h9 => h9) (v := .ref (o + (pt + 4))) (show S_120.1 pt 5 = .ref (o + (pt + 4)) from dg_I.rel (d := 4) I_120 (pX_0 pt hk_pt) (by decide +kernel)) dX4_takePlan_39 ?_
        refine lv_iload_n hx hb dX4_takePlan_42 rfl (lv_at hl 1 rfl) ?_
        refine lv_aload_n hx hb dX4_takePlan_43 rfl (lv_at hl 3 rfl) ?_
        refine lv_iload hx hb dX4_takePlan_44 (lv_at hl 0 rfl) ?_
        refine lv_aload_n hx hb dX4_takePlan_46 rfl (lv_at hl 2 rfl) ?_
        refine lv_aload_n hx hb dX4_takePlan_47 rfl (lv_at hl 3 rfl) ?_
        refine dg_get (C := RX2) (T := TX2) (N := 19) hx hb hts (fun w h => bw_mem (wU_X2 w h)) hown K hP (rX_0 gr hk_gr) rfl 1 (by decide) (hts _ (bw_mem wB_787)) (fun _ h9 => h9) (v := .int ry) (((m_120.1 gr 1 _ (rX_0 gr hk_gr) (by decide)).trans ((dg_uf_F e_117 gr 1).trans ((m_115.1 gr 1 _ (rX_0 gr hk_gr) (by decide)).trans (M_108.1 gr 1 _ (rX_0 gr hk_gr) (by decide))))).trans f_ry) dX4_takePlan_48 ?_
        refine lv_iconst (v := 1) hx hb dX4_takePlan_51 (by decide +kernel) ?_
        refine lv_isub hx hb dX4_takePlan_52 ?_
        refine lv_topi (fun x_121 ex_121 => ?_)
        have jx_121 : (x_121).toInt = (ry).toInt - 1 := by rw [ex_121]; exact dk_subT rfl (by decide +kernel) (by omega) (by omega)
        refine dg_calli hS hA1 hA (va_runV (As := [.int x_121]) (rest := [.int x_119, .ref (o + gr), .int x_107, .ref (o + (pt + 4))]) F (c_i_next l g D o S_120 x_121 I_120 H.size) (cwV 1 hts (bw_V wB_811 wB_812 wB_813 wB_784 wB_810) rfl rfl rfl (by decide +kernel) ⟨Nat.le_of_ble_eq_true rfl, Nat.le_of_ble_eq_true rfl⟩) (dg_preV sX_182 rfl K ST hP hS hA1 hA) rfl rfl hl.1 rfl (lv_room (Nat.le_of_ble_eq_true rfl)) dX4_takePlan_53 ⟨Nat.le_of_ble_eq_true rfl, Nat.le_of_ble_eq_true rfl⟩) (fun x_122 S_123 hw_123 H locs hP hS => ?_)
        obtain ⟨I_123, m_123, w_123_0, w_123_1, -⟩ := hw_123
        have M_123 := dg_sm.tr M_120 m_123 (by decide) (by decide)
        have w_123_0 : 0 ≤ (x_122).toInt ∧ (x_122).toInt ≤ 255 := w_123_0
        have w_123_1 : (x_122).toInt ≤ (x_121).toInt ∨ (x_122).toInt = 0 := w_123_1
        refine dg_calli hS hA1 hA (va_runV (As := [.int x_119, .int x_122]) (rest := [.int x_107, .ref (o + (pt + 4))]) F (c_g_placeOf l g D o S_123 gr hk_gr x_119 x_122 cx (((m_123.1 gr 0 _ (rX_0 gr hk_gr) (by decide)).trans ((m_120.1 gr 0 _ (rX_0 gr hk_gr) (by decide)).trans ((dg_uf_F e_117 gr 0).trans ((m_115.1 gr 0 _ (rX_0 gr hk_gr) (by decide)).trans (M_108.1 gr 0 _ (rX_0 gr hk_gr) (by decide)))))).trans f_cx) (by omega) ry (((m_123.1 gr 1 _ (rX_0 gr hk_gr) (by decide)).trans ((m_120.1 gr 1 _ (rX_0 gr hk_gr) (by decide)).trans ((dg_uf_F e_117 gr 1).trans ((m_115.1 gr 1 _ (rX_0 gr hk_gr) (by decide)).trans (M_108.1 gr 1 _ (rX_0 gr hk_gr) (by decide)))))).trans f_ry) (by omega) I_123 H.size) (cwV 2 hts (bw_V wB_815 wB_55 wB_56 wB_7 wB_53) rfl rfl rfl (by decide +kernel) ⟨Nat.le_of_ble_eq_true rfl, Nat.le_of_ble_eq_true rfl⟩) (dg_preV (rX_0 gr hk_gr) rfl K ST hP hS hA1 hA) rfl rfl hl.1 rfl (lv_room (Nat.le_of_ble_eq_true rfl)) dX4_takePlan_56 ⟨Nat.le_of_ble_eq_true rfl, Nat.le_of_ble_eq_true rfl⟩) (fun x_124 S_125 hw_125 H locs hP hS => ?_)
        rw [hw_125.1] at hP
        obtain ⟨hq_125, w_125_0, w_125_1, -⟩ := hw_125
        have w_125_0 : ((-1) ≤ (x_124).toInt ∧ (x_124).toInt ≤ 62) ∧ ((x_124).toInt ≤ (-1) ∨ 8 ≤ (x_124).toInt) := w_125_0
        have w_125_1 : (0 ≤ (x_119).toInt ∧ (x_119).toInt < (cx).toInt ∧ 0 ≤ (x_122).toInt ∧ (x_122).toInt < (ry).toInt) → 8 ≤ (x_124).toInt := w_125_1
        have hin_126 : vp_in x_107 16 := (dk_inv (by omega) (by omega))
        refine dg_iast hx hb K hP hS hA1 (pX_4 pt hk_pt) hin_126 dX4_takePlan_59 (fun S_127 e_127 H locs hP hS => ?_)
        have I_127 := dg_I.ufu (lo := 0) (hi := 63) I_123 e_127 (pX_4 pt hk_pt) (by decide +kernel) (show 0 ≤ (x_124).toInt ∧ (x_124).toInt ≤ 63 from (by omega))
        have M_127 := dg_sm.uf M_123 e_127 (pX_4 pt hk_pt) (by decide)
        obtain ⟨x_128, ex_128⟩ : ∃ z, z = x_107 + 1 := ⟨_, rfl⟩
        have jx_128 : (x_128).toInt = (x_107).toInt + 1 := by rw [ex_128]; exact dk_addT rfl (by decide +kernel) (by omega) (by omega)
        refine lv_iinc (v := x_128) (lv' := [(3, .int x_128), (4, .int x_119), (0, .ref (o + 182)), (1, .ref (o + gr)), (2, .ref (o + pt))]) hx hb dX4_takePlan_60 hl (k := 1) rfl (by rw [ex_128]; rfl) (by decide) rfl (fun ls hl => ?_)
        refine lv_goto (tgt := 2) hx hb dX4_takePlan_63 (by decide) ?_
        exact ih x_128 (by omega) (by omega) S_127 I_127 M_127  _ _ hP hS _ (lv_sub hl [0, 2, 3, 4] rfl)
  have hz_129 : (0 : Int32).toInt = 0 := by decide +kernel
  have hz_130 : (0 : Int32).toInt = 0 := by decide +kernel
  exact L_109 ((17 - ((0 : Int32)).toInt).toNat + 1) 0 (by decide +kernel) (by omega) S I M_0  _ _ hP hS _ (lv_sub hl [0, 1, 2, 3] rfl)
set_option maxHeartbeats 8000000 in
set_option maxRecDepth 100000 in
theorem c_i_takeAll_hurts (l : Launch) (g : Nat → ClassId) (D : va_G) (o : Nat) (S : dg_S) (pt : Nat) (hk_pt : pX pt) (a2 : Int32) (b_a2 : 0 ≤ (a2).toInt ∧ (a2).toInt ≤ 6) (a3 : Int32) (I : CX o S) (sz : Nat) : Met l yX4_takeAll (bw yX4_takeAll cX4_takeAll 5 none) ({ frames := 2, cells := 0, slots := 0, locals := 54 } : Room) (dk_Pc g D (dg_w g shX o rfX S) sz [.ref (o + 182), .ref (o + (pt + 2)), .int a2, .int a3]) (va_Qv (fun S' => CX o S' ∧ dg_sm shX [(16, 3), (16, 4), (16, 5)] [5] S S' ∧ True) (dg_B g D shX o rfX) (dg_A o shX.length sz)) 0 0 (dg_A o shX.length sz) := by
  refine dg_met (cc := cX4_takeAll) (maxL := 5) (ret := none) (by decide) rfl (Nat.le_of_ble_eq_true rfl) ?_
  intro p e s m args below meth c A hAe harg hx hb hr hml hts hown hlocks hin hP K hS hA1 hA ST hsz ls hl
  rw [← hAe]
  have F : CallFix p m c cX4_takeAll 5 s args (bw yX4_takeAll cX4_takeAll 5 none) RX4 := ⟨hx, hb, hml, hown, hts⟩
  have hl : lv_has ls 5 [(0, .ref (o + 182)), (1, .ref (o + (pt + 2))), (2, .int a2), (3, .int a3)] := hl
  have M_0 : dg_sm shX [(16, 3), (16, 4), (16, 5)] [5] S S := dg_sm.rf
  refine lv_iconst (v := 0) hx hb dX4_takeAll_0 (by decide +kernel) ?_
  refine lv_istore (lv' := [(4, .int 0), (0, .ref (o + 182)), (1, .ref (o + (pt + 2))), (2, .int a2), (3, .int a3)]) hx hb dX4_takeAll_1 hl (by decide) rfl (fun ls hl => ?_)
  have L_43 : ∀ (n : Nat) (x_41 : Int32), (0 ≤ (x_41).toInt ∧ (x_41).toInt ≤ 6) → ((7 - (x_41).toInt).toNat < n) → ∀ S_42 : dg_S, CX o S_42 → dg_sm shX [(16, 3), (16, 4), (16, 5)] [5] S S_42 → ∀ (H : Heap) (locs : List Loc), va_P D vwCl (dg_w g shX o rfX S_42) H → va_S A s.heap H locs → ∀ ls : Array Slot, lv_has ls 5 [(4, .int x_41), (0, .ref (o + 182)), (1, .ref (o + (pt + 2))), (2, .int a2), (3, .int a3)] → W p l e ({ frames := 2, cells := 0, slots := 0, locals := 54 } : Room) s m args below meth c H locs 0 0 (MQ below (va_Qv (fun S' => CX o S' ∧ dg_sm shX [(16, 3), (16, 4), (16, 5)] [5] S S' ∧ True) (dg_B g D shX o rfX) A) args s 0 0 A) (F0 m 3 ls []) := by
    intro n
    induction n with
    | zero =>
      intro x_41 b_x_41 hmu S_42 I_42 M_42 H locs hP hS ls hl
      omega
    | succ n ih =>
      intro x_41 b_x_41 hmu S_42 I_42 M_42 H locs hP hS ls hl
      refine lv_iload hx hb dX4_takeAll_3 (lv_at hl 0 rfl) ?_
      refine lv_iload_n hx hb dX4_takeAll_5 rfl (lv_at hl 3 rfl) ?_
      refine lv_icmp_ge (tgt := 24) hx hb dX4_takeAll_6 (by decide) (fun c_44 => ?_) (fun c_44 => ?_)
      · have jc_44 := dk_gec (k := (a2).toInt) rfl c_44
        refine W.widen (k := 0) (n := 0) (Nat.le_of_ble_eq_true rfl) (Nat.le_of_ble_eq_true rfl) ?_
        exact dg_vret hx hb hr hlocks hP hS ⟨I_42, M_42, trivial⟩ dX4_takeAll_24
      · have jc_44 := dk_ngec (k := (a2).toInt) rfl c_44
        refine lv_aload_n hx hb dX4_takeAll_9 rfl (lv_at hl 2 rfl) ?_
        refine lv_iload hx hb dX4_takeAll_10 (lv_at hl 0 rfl) ?_
        refine lv_aload_n hx hb dX4_takeAll_12 rfl (lv_at hl 1 rfl) ?_
        refine lv_iload_n hx hb dX4_takeAll_13 rfl (lv_at hl 4 rfl) ?_
        refine dg_calli hS hA1 hA (va_runV (As := [.int a3]) (rest := [.int x_41, .ref (o + (pt + 2))]) F (c_i_next l g D o S_42 a3 I_42 H.size) (cwV 1 hts (bw_V wB_811 wB_812 wB_813 wB_784 wB_810) rfl rfl rfl (by decide +kernel) ⟨Nat.le_of_ble_eq_true rfl, Nat.le_of_ble_eq_true rfl⟩) (dg_preV sX_182 rfl K ST hP hS hA1 hA) rfl rfl hl.1 rfl (lv_room (Nat.le_of_ble_eq_true rfl)) dX4_takeAll_14 ⟨Nat.le_of_ble_eq_true rfl, Nat.le_of_ble_eq_true rfl⟩) (fun x_45 S_46 hw_46 H locs hP hS => ?_)
        obtain ⟨I_46, m_46, w_46_0, w_46_1, -⟩ := hw_46
        have M_46 := dg_sm.tr M_42 m_46 (by decide) (by decide)
        have w_46_0 : 0 ≤ (x_45).toInt ∧ (x_45).toInt ≤ 255 := w_46_0
        have w_46_1 : (x_45).toInt ≤ (a3).toInt ∨ (x_45).toInt = 0 := w_46_1
        have hin_47 : vp_in x_41 6 := (dk_inv (by omega) (by omega))
        refine dg_iast hx hb K hP hS hA1 (pX_2 pt hk_pt) hin_47 dX4_takeAll_17 (fun S_48 e_48 H locs hP hS => ?_)
        have I_48 := dg_I.uf0 I_46 e_48 (pX_2 pt hk_pt) (by decide +kernel)
        have M_48 := dg_sm.uf M_46 e_48 (pX_2 pt hk_pt) (by decide)
        obtain ⟨x_49, ex_49⟩ : ∃ z, z = x_41 + 1 := ⟨_, rfl⟩
        have jx_49 : (x_49).toInt = (x_41).toInt + 1 := by rw [ex_49]; exact dk_addT rfl (by decide +kernel) (by omega) (by omega)
        refine lv_iinc (v := x_49) (lv' := [(4, .int x_49), (0, .ref (o + 182)), (1, .ref (o + (pt + 2))), (2, .int a2), (3, .int a3)]) hx hb dX4_takeAll_18 hl (k := 0) rfl (by rw [ex_49]; rfl) (by decide) rfl (fun ls hl => ?_)
        refine lv_goto (tgt := 3) hx hb dX4_takeAll_21 (by decide) ?_
        exact ih x_49 (by omega) (by omega) S_48 I_48 M_48  _ _ hP hS _ (lv_sub hl [0, 1, 2, 3, 4] rfl)
  have hz_50 : (0 : Int32).toInt = 0 := by decide +kernel
  have hz_51 : (0 : Int32).toInt = 0 := by decide +kernel
  exact L_43 ((7 - ((0 : Int32)).toInt).toNat + 1) 0 (by decide +kernel) (by omega) S I M_0  _ _ hP hS _ (lv_sub hl [0, 1, 2, 3, 4] rfl)
set_option maxHeartbeats 8000000 in
set_option maxRecDepth 100000 in
theorem c_i_takeAll_sold (l : Launch) (g : Nat → ClassId) (D : va_G) (o : Nat) (S : dg_S) (pt : Nat) (hk_pt : pX pt) (a2 : Int32) (b_a2 : 0 ≤ (a2).toInt ∧ (a2).toInt ≤ 5) (a3 : Int32) (I : CX o S) (sz : Nat) : Met l yX4_takeAll (bw yX4_takeAll cX4_takeAll 5 none) ({ frames := 2, cells := 0, slots := 0, locals := 54 } : Room) (dk_Pc g D (dg_w g shX o rfX S) sz [.ref (o + 182), .ref (o + (pt + 5)), .int a2, .int a3]) (va_Qv (fun S' => CX o S' ∧ dg_sm shX [(16, 3), (16, 4), (16, 5)] [8] S S' ∧ True) (dg_B g D shX o rfX) (dg_A o shX.length sz)) 0 0 (dg_A o shX.length sz) := by
  refine dg_met (cc := cX4_takeAll) (maxL := 5) (ret := none) (by decide) rfl (Nat.le_of_ble_eq_true rfl) ?_
  intro p e s m args below meth c A hAe harg hx hb hr hml hts hown hlocks hin hP K hS hA1 hA ST hsz ls hl
  rw [← hAe]
  have F : CallFix p m c cX4_takeAll 5 s args (bw yX4_takeAll cX4_takeAll 5 none) RX4 := ⟨hx, hb, hml, hown, hts⟩
  have hl : lv_has ls 5 [(0, .ref (o + 182)), (1, .ref (o + (pt + 5))), (2, .int a2), (3, .int a3)] := hl
  have M_0 : dg_sm shX [(16, 3), (16, 4), (16, 5)] [8] S S := dg_sm.rf
  refine lv_iconst (v := 0) hx hb dX4_takeAll_0 (by decide +kernel) ?_
  refine lv_istore (lv' := [(4, .int 0), (0, .ref (o + 182)), (1, .ref (o + (pt + 5))), (2, .int a2), (3, .int a3)]) hx hb dX4_takeAll_1 hl (by decide) rfl (fun ls hl => ?_)
  have L_43 : ∀ (n : Nat) (x_41 : Int32), (0 ≤ (x_41).toInt ∧ (x_41).toInt ≤ 5) → ((6 - (x_41).toInt).toNat < n) → ∀ S_42 : dg_S, CX o S_42 → dg_sm shX [(16, 3), (16, 4), (16, 5)] [8] S S_42 → ∀ (H : Heap) (locs : List Loc), va_P D vwCl (dg_w g shX o rfX S_42) H → va_S A s.heap H locs → ∀ ls : Array Slot, lv_has ls 5 [(4, .int x_41), (0, .ref (o + 182)), (1, .ref (o + (pt + 5))), (2, .int a2), (3, .int a3)] → W p l e ({ frames := 2, cells := 0, slots := 0, locals := 54 } : Room) s m args below meth c H locs 0 0 (MQ below (va_Qv (fun S' => CX o S' ∧ dg_sm shX [(16, 3), (16, 4), (16, 5)] [8] S S' ∧ True) (dg_B g D shX o rfX) A) args s 0 0 A) (F0 m 3 ls []) := by
    intro n
    induction n with
    | zero =>
      intro x_41 b_x_41 hmu S_42 I_42 M_42 H locs hP hS ls hl
      omega
    | succ n ih =>
      intro x_41 b_x_41 hmu S_42 I_42 M_42 H locs hP hS ls hl
      refine lv_iload hx hb dX4_takeAll_3 (lv_at hl 0 rfl) ?_
      refine lv_iload_n hx hb dX4_takeAll_5 rfl (lv_at hl 3 rfl) ?_
      refine lv_icmp_ge (tgt := 24) hx hb dX4_takeAll_6 (by decide) (fun c_44 => ?_) (fun c_44 => ?_)
      · have jc_44 := dk_gec (k := (a2).toInt) rfl c_44
        refine W.widen (k := 0) (n := 0) (Nat.le_of_ble_eq_true rfl) (Nat.le_of_ble_eq_true rfl) ?_
        exact dg_vret hx hb hr hlocks hP hS ⟨I_42, M_42, trivial⟩ dX4_takeAll_24
      · have jc_44 := dk_ngec (k := (a2).toInt) rfl c_44
        refine lv_aload_n hx hb dX4_takeAll_9 rfl (lv_at hl 2 rfl) ?_
        refine lv_iload hx hb dX4_takeAll_10 (lv_at hl 0 rfl) ?_
        refine lv_aload_n hx hb dX4_takeAll_12 rfl (lv_at hl 1 rfl) ?_
        refine lv_iload_n hx hb dX4_takeAll_13 rfl (lv_at hl 4 rfl) ?_
        refine dg_calli hS hA1 hA (va_runV (As := [.int a3]) (rest := [.int x_41, .ref (o + (pt + 5))]) F (c_i_next l g D o S_42 a3 I_42 H.size) (cwV 1 hts (bw_V wB_811 wB_812 wB_813 wB_784 wB_810) rfl rfl rfl (by decide +kernel) ⟨Nat.le_of_ble_eq_true rfl, Nat.le_of_ble_eq_true rfl⟩) (dg_preV sX_182 rfl K ST hP hS hA1 hA) rfl rfl hl.1 rfl (lv_room (Nat.le_of_ble_eq_true rfl)) dX4_takeAll_14 ⟨Nat.le_of_ble_eq_true rfl, Nat.le_of_ble_eq_true rfl⟩) (fun x_45 S_46 hw_46 H locs hP hS => ?_)
        obtain ⟨I_46, m_46, w_46_0, w_46_1, -⟩ := hw_46
        have M_46 := dg_sm.tr M_42 m_46 (by decide) (by decide)
        have w_46_0 : 0 ≤ (x_45).toInt ∧ (x_45).toInt ≤ 255 := w_46_0
        have w_46_1 : (x_45).toInt ≤ (a3).toInt ∨ (x_45).toInt = 0 := w_46_1
        have hin_47 : vp_in x_41 5 := (dk_inv (by omega) (by omega))
        refine dg_iast hx hb K hP hS hA1 (pX_5 pt hk_pt) hin_47 dX4_takeAll_17 (fun S_48 e_48 H locs hP hS => ?_)
        have I_48 := dg_I.uf0 I_46 e_48 (pX_5 pt hk_pt) (by decide +kernel)
        have M_48 := dg_sm.uf M_46 e_48 (pX_5 pt hk_pt) (by decide)
        obtain ⟨x_49, ex_49⟩ : ∃ z, z = x_41 + 1 := ⟨_, rfl⟩
        have jx_49 : (x_49).toInt = (x_41).toInt + 1 := by rw [ex_49]; exact dk_addT rfl (by decide +kernel) (by omega) (by omega)
        refine lv_iinc (v := x_49) (lv' := [(4, .int x_49), (0, .ref (o + 182)), (1, .ref (o + (pt + 5))), (2, .int a2), (3, .int a3)]) hx hb dX4_takeAll_18 hl (k := 0) rfl (by rw [ex_49]; rfl) (by decide) rfl (fun ls hl => ?_)
        refine lv_goto (tgt := 3) hx hb dX4_takeAll_21 (by decide) ?_
        exact ih x_49 (by omega) (by omega) S_48 I_48 M_48  _ _ hP hS _ (lv_sub hl [0, 1, 2, 3, 4] rfl)
  have hz_50 : (0 : Int32).toInt = 0 := by decide +kernel
  have hz_51 : (0 : Int32).toInt = 0 := by decide +kernel
  exact L_43 ((6 - ((0 : Int32)).toInt).toNat + 1) 0 (by decide +kernel) (by omega) S I M_0  _ _ hP hS _ (lv_sub hl [0, 1, 2, 3, 4] rfl)
set_option maxHeartbeats 8000000 in
set_option maxRecDepth 100000 in
theorem c_i_takeAll_tubs (l : Launch) (g : Nat → ClassId) (D : va_G) (o : Nat) (S : dg_S) (pt : Nat) (hk_pt : pX pt) (a2 : Int32) (b_a2 : 0 ≤ (a2).toInt ∧ (a2).toInt ≤ 10) (a3 : Int32) (I : CX o S) (sz : Nat) : Met l yX4_takeAll (bw yX4_takeAll cX4_takeAll 5 none) ({ frames := 2, cells := 0, slots := 0, locals := 54 } : Room) (dk_Pc g D (dg_w g shX o rfX S) sz [.ref (o + 182), .ref (o + (pt + 6)), .int a2, .int a3]) (va_Qv (fun S' => CX o S' ∧ dg_sm shX [(16, 3), (16, 4), (16, 5)] [9] S S' ∧ True) (dg_B g D shX o rfX) (dg_A o shX.length sz)) 0 0 (dg_A o shX.length sz) := by
  refine dg_met (cc := cX4_takeAll) (maxL := 5) (ret := none) (by decide) rfl (Nat.le_of_ble_eq_true rfl) ?_
  intro p e s m args below meth c A hAe harg hx hb hr hml hts hown hlocks hin hP K hS hA1 hA ST hsz ls hl
  rw [← hAe]
  have F : CallFix p m c cX4_takeAll 5 s args (bw yX4_takeAll cX4_takeAll 5 none) RX4 := ⟨hx, hb, hml, hown, hts⟩
  have hl : lv_has ls 5 [(0, .ref (o + 182)), (1, .ref (o + (pt + 6))), (2, .int a2), (3, .int a3)] := hl
  have M_0 : dg_sm shX [(16, 3), (16, 4), (16, 5)] [9] S S := dg_sm.rf
  refine lv_iconst (v := 0) hx hb dX4_takeAll_0 (by decide +kernel) ?_
  refine lv_istore (lv' := [(4, .int 0), (0, .ref (o + 182)), (1, .ref (o + (pt + 6))), (2, .int a2), (3, .int a3)]) hx hb dX4_takeAll_1 hl (by decide) rfl (fun ls hl => ?_)
  have L_43 : ∀ (n : Nat) (x_41 : Int32), (0 ≤ (x_41).toInt ∧ (x_41).toInt ≤ 10) → ((11 - (x_41).toInt).toNat < n) → ∀ S_42 : dg_S, CX o S_42 → dg_sm shX [(16, 3), (16, 4), (16, 5)] [9] S S_42 → ∀ (H : Heap) (locs : List Loc), va_P D vwCl (dg_w g shX o rfX S_42) H → va_S A s.heap H locs → ∀ ls : Array Slot, lv_has ls 5 [(4, .int x_41), (0, .ref (o + 182)), (1, .ref (o + (pt + 6))), (2, .int a2), (3, .int a3)] → W p l e ({ frames := 2, cells := 0, slots := 0, locals := 54 } : Room) s m args below meth c H locs 0 0 (MQ below (va_Qv (fun S' => CX o S' ∧ dg_sm shX [(16, 3), (16, 4), (16, 5)] [9] S S' ∧ True) (dg_B g D shX o rfX) A) args s 0 0 A) (F0 m 3 ls []) := by
    intro n
    induction n with
    | zero =>
      intro x_41 b_x_41 hmu S_42 I_42 M_42 H locs hP hS ls hl
      omega
    | succ n ih =>
      intro x_41 b_x_41 hmu S_42 I_42 M_42 H locs hP hS ls hl
      refine lv_iload hx hb dX4_takeAll_3 (lv_at hl 0 rfl) ?_
      refine lv_iload_n hx hb dX4_takeAll_5 rfl (lv_at hl 3 rfl) ?_
      refine lv_icmp_ge (tgt := 24) hx hb dX4_takeAll_6 (by decide) (fun c_44 => ?_) (fun c_44 => ?_)
      · have jc_44 := dk_gec (k := (a2).toInt) rfl c_44
        refine W.widen (k := 0) (n := 0) (Nat.le_of_ble_eq_true rfl) (Nat.le_of_ble_eq_true rfl) ?_
        exact dg_vret hx hb hr hlocks hP hS ⟨I_42, M_42, trivial⟩ dX4_takeAll_24
      · have jc_44 := dk_ngec (k := (a2).toInt) rfl c_44
        refine lv_aload_n hx hb dX4_takeAll_9 rfl (lv_at hl 2 rfl) ?_
        refine lv_iload hx hb dX4_takeAll_10 (lv_at hl 0 rfl) ?_
        refine lv_aload_n hx hb dX4_takeAll_12 rfl (lv_at hl 1 rfl) ?_
        refine lv_iload_n hx hb dX4_takeAll_13 rfl (lv_at hl 4 rfl) ?_
        refine dg_calli hS hA1 hA (va_runV (As := [.int a3]) (rest := [.int x_41, .ref (o + (pt + 6))]) F (c_i_next l g D o S_42 a3 I_42 H.size) (cwV 1 hts (bw_V wB_811 wB_812 wB_813 wB_784 wB_810) rfl rfl rfl (by decide +kernel) ⟨Nat.le_of_ble_eq_true rfl, Nat.le_of_ble_eq_true rfl⟩) (dg_preV sX_182 rfl K ST hP hS hA1 hA) rfl rfl hl.1 rfl (lv_room (Nat.le_of_ble_eq_true rfl)) dX4_takeAll_14 ⟨Nat.le_of_ble_eq_true rfl, Nat.le_of_ble_eq_true rfl⟩) (fun x_45 S_46 hw_46 H locs hP hS => ?_)
        obtain ⟨I_46, m_46, w_46_0, w_46_1, -⟩ := hw_46
        have M_46 := dg_sm.tr M_42 m_46 (by decide) (by decide)
        have w_46_0 : 0 ≤ (x_45).toInt ∧ (x_45).toInt ≤ 255 := w_46_0
        have w_46_1 : (x_45).toInt ≤ (a3).toInt ∨ (x_45).toInt = 0 := w_46_1
        have hin_47 : vp_in x_41 10 := (dk_inv (by omega) (by omega))
        refine dg_iast hx hb K hP hS hA1 (pX_6 pt hk_pt) hin_47 dX4_takeAll_17 (fun S_48 e_48 H locs hP hS => ?_)
        have I_48 := dg_I.uf0 I_46 e_48 (pX_6 pt hk_pt) (by decide +kernel)
        have M_48 := dg_sm.uf M_46 e_48 (pX_6 pt hk_pt) (by decide)
        obtain ⟨x_49, ex_49⟩ : ∃ z, z = x_41 + 1 := ⟨_, rfl⟩
        have jx_49 : (x_49).toInt = (x_41).toInt + 1 := by rw [ex_49]; exact dk_addT rfl (by decide +kernel) (by omega) (by omega)
        refine lv_iinc (v := x_49) (lv' := [(4, .int x_49), (0, .ref (o + 182)), (1, .ref (o + (pt + 6))), (2, .int a2), (3, .int a3)]) hx hb dX4_takeAll_18 hl (k := 0) rfl (by rw [ex_49]; rfl) (by decide) rfl (fun ls hl => ?_)
        refine lv_goto (tgt := 3) hx hb dX4_takeAll_21 (by decide) ?_
        exact ih x_49 (by omega) (by omega) S_48 I_48 M_48  _ _ hP hS _ (lv_sub hl [0, 1, 2, 3, 4] rfl)
  have hz_50 : (0 : Int32).toInt = 0 := by decide +kernel
  have hz_51 : (0 : Int32).toInt = 0 := by decide +kernel
  exact L_43 ((11 - ((0 : Int32)).toInt).toNat + 1) 0 (by decide +kernel) (by omega) S I M_0  _ _ hP hS _ (lv_sub hl [0, 1, 2, 3, 4] rfl)
set_option maxHeartbeats 8000000 in
set_option maxRecDepth 100000 in
theorem c_i_tellsPit (l : Launch) (g : Nat → ClassId) (D : va_G) (o : Nat) (S : dg_S) (gr : Nat) (hk_gr : rX gr) (pt : Nat) (hk_pt : pX pt) (cx : Int32) (f_cx : S.1 gr 0 = .int cx) (b_cx : 0 ≤ (cx).toInt ∧ (cx).toInt ≤ 7) (sx : Int32) (f_sx : S.1 gr 2 = .int sx) (b_sx : (-1) ≤ (sx).toInt ∧ (sx).toInt ≤ 63) (ry : Int32) (f_ry : S.1 gr 1 = .int ry) (b_ry : 0 ≤ (ry).toInt ∧ (ry).toInt ≤ 7) (hcx : 0 < (cx).toInt ∧ 0 < (ry).toInt ∧ 8 ≤ (sx).toInt) (I : CX o S) (sz : Nat) : Met l yX4_tellsPit (bw yX4_tellsPit cX4_tellsPit 4 (some .boolean)) ({ frames := 3, cells := 0, slots := 0, locals := 78 } : Room) (dk_Pc g D (dg_w g shX o rfX S) sz [.ref (o + 182), .ref (o + gr), .ref (o + pt)]) (va_Qi (fun (r : Int32) S' => CX o S' ∧ dg_sm shX [(3, 0), (3, 1), (16, 3), (16, 4), (16, 5)] [4, 5, 6, 7, 8, 9] S S' ∧ (0 ≤ (r).toInt ∧ (r).toInt ≤ 1) ∧ dg_fil S' pt ∧ dg_FG S S' ∧ True) (dg_B g D shX o rfX) (dg_A o shX.length sz)) 0 0 (dg_A o shX.length sz) := by
  refine dg_met (cc := cX4_tellsPit) (maxL := 4) (ret := (some .boolean)) (by decide) rfl (Nat.le_of_ble_eq_true rfl) ?_
  intro p e s m args below meth c A hAe harg hx hb hr hml hts hown hlocks hin hP K hS hA1 hA ST hsz ls hl
  rw [← hAe]
  have F : CallFix p m c cX4_tellsPit 4 s args (bw yX4_tellsPit cX4_tellsPit 4 (some .boolean)) RX4 := ⟨hx, hb, hml, hown, hts⟩
  have hl : lv_has ls 4 [(0, .ref (o + 182)), (1, .ref (o + gr)), (2, .ref (o + pt))] := hl
  have M_0 : dg_sm shX [(3, 0), (3, 1), (16, 3), (16, 4), (16, 5)] [4, 5, 6, 7, 8, 9] S S := dg_sm.rf
  refine lv_aload_n hx hb dX4_tellsPit_0 rfl (lv_at hl 0 rfl) ?_
  refine lv_iconst (v := 0) hx hb dX4_tellsPit_1 (by decide +kernel) ?_
  have hz_1 : (0 : Int32).toInt = 0 := by decide +kernel
  refine dg_put (ci := 4) (v := .int 0) (ty := tyX4 4) (C := RX4) (T := TX4) (N := 6) hx hb hts (fun w h => bw_mem (wU_X4 w h)) tyX4 tyX4_ok nmX4 hown K hP hS hA1 sX_182 rfl 4 (by decide) (hts _ (bw_mem wB_804)) (fun _ h9 => h9) rfl (by decide +kernel) rfl rfl dX4_tellsPit_2 (fun S_2 e_2 H locs hP hS => ?_)
  have I_2 := dg_I.uFi (lo := 0) (hi := 1600) I e_2 sX_182 (by decide +kernel) (show 0 ≤ ((0 : Int32)).toInt ∧ ((0 : Int32)).toInt ≤ 1600 from (by decide +kernel))
  have M_2 := dg_sm.uF M_0 e_2 sX_182 (by decide)
  refine lv_aload_n hx hb dX4_tellsPit_5 rfl (lv_at hl 0 rfl) ?_
  refine lv_sipush (v := 233) hx hb dX4_tellsPit_6 (by decide +kernel) ?_
  have hz_3 : (233 : Int32).toInt = 233 := by decide +kernel
  refine dg_put (ci := 4) (v := .int 233) (ty := tyX4 3) (C := RX4) (T := TX4) (N := 6) hx hb hts (fun w h => bw_mem (wU_X4 w h)) tyX4 tyX4_ok nmX4 hown K hP hS hA1 sX_182 rfl 3 (by decide) (hts _ (bw_mem wB_779)) (fun _ h9 => h9) rfl (by decide +kernel) rfl rfl dX4_tellsPit_9 (fun S_4 e_4 H locs hP hS => ?_)
  have I_4 := dg_I.uFi (lo := (-2147483648)) (hi := 2147483647) I_2 e_4 sX_182 (by decide +kernel) (show (-2147483648) ≤ ((233 : Int32)).toInt ∧ ((233 : Int32)).toInt ≤ 2147483647 from (by decide +kernel))
  have M_4 := dg_sm.uF M_2 e_4 sX_182 (by decide)
  refine lv_aload_n hx hb dX4_tellsPit_12 rfl (lv_at hl 0 rfl) ?_
  refine lv_iconst (v := 1) hx hb dX4_tellsPit_13 (by decide +kernel) ?_
  have hz_5 : (1 : Int32).toInt = 1 := by decide +kernel
  refine dg_put (ci := 4) (v := .int 1) (ty := tyX4 5) (C := RX4) (T := TX4) (N := 6) hx hb hts (fun w h => bw_mem (wU_X4 w h)) tyX4 tyX4_ok nmX4 hown K hP hS hA1 sX_182 rfl 5 (by decide) (hts _ (bw_mem wB_807)) (fun _ h9 => h9) rfl (by decide +kernel) (by decide +kernel) (by decide +kernel) dX4_tellsPit_14 (fun S_6 e_6 H locs hP hS => ?_)
  have I_6 := dg_I.uFi (lo := 0) (hi := 1) I_4 e_6 sX_182 (by decide +kernel) (show 0 ≤ ((1 : Int32)).toInt ∧ ((1 : Int32)).toInt ≤ 1 from (by decide +kernel))
  have M_6 := dg_sm.uF M_4 e_6 sX_182 (by decide)
  refine lv_aload_n hx hb dX4_tellsPit_17 rfl (lv_at hl 2 rfl) ?_
  refine lv_aload_n hx hb dX4_tellsPit_18 rfl (lv_at hl 1 rfl) ?_
  refine dg_callv hS hA1 hA (va_runV (As := [.ref (o + gr)]) (rest := []) F (c_p_begin l g D o S_6 pt hk_pt gr hk_gr cx (((dg_uF_ne e_6 (fun z => absurd z.2 (by decide))).trans ((dg_uF_ne e_4 (fun z => absurd z.2 (by decide))).trans (dg_uF_ne e_2 (fun z => absurd z.2 (by decide))))).trans f_cx) (by omega) sx (((dg_uF_ne e_6 (fun z => absurd z.2 (by decide))).trans ((dg_uF_ne e_4 (fun z => absurd z.2 (by decide))).trans (dg_uF_ne e_2 (fun z => absurd z.2 (by decide))))).trans f_sx) (by omega) (by omega) I_6 H.size) (cwV 1 hts (bw_V wB_817 wB_818 wB_819 wB_493 wB_816) rfl rfl rfl (by decide +kernel) ⟨Nat.le_of_ble_eq_true rfl, Nat.le_of_ble_eq_true rfl⟩) (dg_preV (pX_0 pt hk_pt) rfl K ST hP hS hA1 hA) rfl rfl hl.1 rfl (lv_room (Nat.le_of_ble_eq_true rfl)) dX4_tellsPit_19 ⟨Nat.le_of_ble_eq_true rfl, Nat.le_of_ble_eq_true rfl⟩) (fun S_7 hw_7 H locs hP hS => ?_)
  obtain ⟨I_7, m_7, w_7_0, w_7_1, -⟩ := hw_7
  have M_7 := dg_sm.tr M_6 m_7 (by decide) (by decide)
  refine lv_aload_n hx hb dX4_tellsPit_22 rfl (lv_at hl 2 rfl) ?_
  refine lv_aload_n hx hb dX4_tellsPit_23 rfl (lv_at hl 0 rfl) ?_
  refine lv_sipush (v := 255) hx hb dX4_tellsPit_24 (by decide +kernel) ?_
  refine dg_calli hS hA1 hA (va_runV (As := [.int 255]) (rest := [.ref (o + pt)]) F (c_i_next l g D o S_7 255 I_7 H.size) (cwV 1 hts (bw_V wB_811 wB_812 wB_813 wB_784 wB_810) rfl rfl rfl (by decide +kernel) ⟨Nat.le_of_ble_eq_true rfl, Nat.le_of_ble_eq_true rfl⟩) (dg_preV sX_182 rfl K ST hP hS hA1 hA) rfl rfl hl.1 rfl (lv_room (Nat.le_of_ble_eq_true rfl)) dX4_tellsPit_27 ⟨Nat.le_of_ble_eq_true rfl, Nat.le_of_ble_eq_true rfl⟩) (fun x_8 S_9 hw_9 H locs hP hS => ?_)
  obtain ⟨I_9, m_9, w_9_0, w_9_1, -⟩ := hw_9
  have M_9 := dg_sm.tr M_7 m_9 (by decide) (by decide)
  have hz_10 : (255 : Int32).toInt = 255 := by decide +kernel
  have w_9_0 : 0 ≤ (x_8).toInt ∧ (x_8).toInt ≤ 255 := w_9_0
  have w_9_1 : (x_8).toInt ≤ ((255 : Int32)).toInt ∨ (x_8).toInt = 0 := w_9_1
  refine lv_bipush (v := 8) hx hb dX4_tellsPit_30 (by decide +kernel) ?_
  refine lv_ishl hx hb dX4_tellsPit_32 ?_
  refine lv_topi (fun x_11 ex_11 => ?_)
  have jx_11 := dk_shlB (x := x_8) (s := 8 &&& 31) (b := 255) (k := 8) (p := 256) (B := 65280) (by omega) (by omega) (by decide +kernel) (by decide) (by decide) (by decide)
  rw [← ex_11] at jx_11
  refine dg_put (ci := 5) (v := .int x_11) (ty := tyX5 0) (C := RX5) (T := TX5) (N := 8) hx hb hts (fun w h => bw_mem (wU_X5 w h)) tyX5 tyX5_ok nmX5 hown K hP hS hA1 (pX_0 pt hk_pt) rfl 0 (by decide) (hts _ (bw_mem wB_785)) (fun _ h9 => h9) rfl (by decide +kernel) rfl rfl dX4_tellsPit_33 (fun S_12 e_12 H locs hP hS => ?_)
  have I_12 := dg_I.uFi (lo := 0) (hi := 65535) I_9 e_12 (pX_0 pt hk_pt) (by decide +kernel) (show 0 ≤ (x_11).toInt ∧ (x_11).toInt ≤ 65535 from (by omega))
  have M_12 := dg_sm.uF M_9 e_12 (pX_0 pt hk_pt) (by decide)
  refine lv_aload_n hx hb dX4_tellsPit_36 rfl (lv_at hl 2 rfl) ?_
  refine lv_dup hx hb dX4_tellsPit_37 rfl ?_
  refine dg_get (C := RX5) (T := TX5) (N := 8) hx hb hts (fun w h => bw_mem (wU_X5 w h)) hown K hP (pX_0 pt hk_pt) rfl 0 (by decide) (hts _ (bw_mem wB_785)) (fun _ h9 => h9) (v := .int x_11) (dg_uF_at e_12) dX4_tellsPit_38 ?_
  refine lv_aload_n hx hb dX4_tellsPit_41 rfl (lv_at hl 0 rfl) ?_
  refine lv_sipush (v := 255) hx hb dX4_tellsPit_42 (by decide +kernel) ?_
  refine dg_calli hS hA1 hA (va_runV (As := [.int 255]) (rest := [.int x_11, .ref (o + pt)]) F (c_i_next l g D o S_12 255 I_12 H.size) (cwV 1 hts (bw_V wB_811 wB_812 wB_813 wB_784 wB_810) rfl rfl rfl (by decide +kernel) ⟨Nat.le_of_ble_eq_true rfl, Nat.le_of_ble_eq_true rfl⟩) (dg_preV sX_182 rfl K ST hP hS hA1 hA) rfl rfl hl.1 rfl (lv_room (Nat.le_of_ble_eq_true rfl)) dX4_tellsPit_45 ⟨Nat.le_of_ble_eq_true rfl, Nat.le_of_ble_eq_true rfl⟩) (fun x_13 S_14 hw_14 H locs hP hS => ?_)
  obtain ⟨I_14, m_14, w_14_0, w_14_1, -⟩ := hw_14
  have M_14 := dg_sm.tr M_12 m_14 (by decide) (by decide)
  have hz_15 : (255 : Int32).toInt = 255 := by decide +kernel
  have w_14_0 : 0 ≤ (x_13).toInt ∧ (x_13).toInt ≤ 255 := w_14_0
  have w_14_1 : (x_13).toInt ≤ ((255 : Int32)).toInt ∨ (x_13).toInt = 0 := w_14_1
  refine lv_iadd hx hb dX4_tellsPit_48 ?_
  refine lv_topi (fun x_16 ex_16 => ?_)
  have jx_16 : (x_16).toInt = (x_11).toInt + (x_13).toInt := by rw [ex_16]; exact dk_addT rfl rfl (by omega) (by omega)
  refine dg_put (ci := 5) (v := .int x_16) (ty := tyX5 0) (C := RX5) (T := TX5) (N := 8) hx hb hts (fun w h => bw_mem (wU_X5 w h)) tyX5 tyX5_ok nmX5 hown K hP hS hA1 (pX_0 pt hk_pt) rfl 0 (by decide) (hts _ (bw_mem wB_785)) (fun _ h9 => h9) rfl (by decide +kernel) rfl rfl dX4_tellsPit_49 (fun S_17 e_17 H locs hP hS => ?_)
  have I_17 := dg_I.uFi (lo := 0) (hi := 65535) I_14 e_17 (pX_0 pt hk_pt) (by decide +kernel) (show 0 ≤ (x_16).toInt ∧ (x_16).toInt ≤ 65535 from (by omega))
  have M_17 := dg_sm.uF M_14 e_17 (pX_0 pt hk_pt) (by decide)
  refine lv_aload_n hx hb dX4_tellsPit_52 rfl (lv_at hl 2 rfl) ?_
  refine lv_aload_n hx hb dX4_tellsPit_53 rfl (lv_at hl 0 rfl) ?_
  refine lv_sipush (v := 255) hx hb dX4_tellsPit_54 (by decide +kernel) ?_
  refine dg_calli hS hA1 hA (va_runV (As := [.int 255]) (rest := [.ref (o + pt)]) F (c_i_next l g D o S_17 255 I_17 H.size) (cwV 1 hts (bw_V wB_811 wB_812 wB_813 wB_784 wB_810) rfl rfl rfl (by decide +kernel) ⟨Nat.le_of_ble_eq_true rfl, Nat.le_of_ble_eq_true rfl⟩) (dg_preV sX_182 rfl K ST hP hS hA1 hA) rfl rfl hl.1 rfl (lv_room (Nat.le_of_ble_eq_true rfl)) dX4_tellsPit_57 ⟨Nat.le_of_ble_eq_true rfl, Nat.le_of_ble_eq_true rfl⟩) (fun x_18 S_19 hw_19 H locs hP hS => ?_)
  obtain ⟨I_19, m_19, w_19_0, w_19_1, -⟩ := hw_19
  have M_19 := dg_sm.tr M_17 m_19 (by decide) (by decide)
  have hz_20 : (255 : Int32).toInt = 255 := by decide +kernel
  have w_19_0 : 0 ≤ (x_18).toInt ∧ (x_18).toInt ≤ 255 := w_19_0
  have w_19_1 : (x_18).toInt ≤ ((255 : Int32)).toInt ∨ (x_18).toInt = 0 := w_19_1
  refine lv_bipush (v := 16) hx hb dX4_tellsPit_60 (by decide +kernel) ?_
  refine lv_ishl hx hb dX4_tellsPit_62 ?_
  refine lv_topi (fun x_21 ex_21 => ?_)
  have jx_21 := dk_shlB (x := x_18) (s := 16 &&& 31) (b := 255) (k := 16) (p := 65536) (B := 16711680) (by omega) (by omega) (by decide +kernel) (by decide) (by decide) (by decide)
  rw [← ex_21] at jx_21
  refine dg_put (ci := 5) (v := .int x_21) (ty := tyX5 1) (C := RX5) (T := TX5) (N := 8) hx hb hts (fun w h => bw_mem (wU_X5 w h)) tyX5 tyX5_ok nmX5 hown K hP hS hA1 (pX_0 pt hk_pt) rfl 1 (by decide) (hts _ (bw_mem wB_786)) (fun _ h9 => h9) rfl (by decide +kernel) rfl rfl dX4_tellsPit_63 (fun S_22 e_22 H locs hP hS => ?_)
  have I_22 := dg_I.uFi (lo := (-2147483648)) (hi := 2147483647) I_19 e_22 (pX_0 pt hk_pt) (by decide +kernel) (show (-2147483648) ≤ (x_21).toInt ∧ (x_21).toInt ≤ 2147483647 from (dk_full _))
  have M_22 := dg_sm.uF M_19 e_22 (pX_0 pt hk_pt) (by decide)
  refine lv_aload_n hx hb dX4_tellsPit_66 rfl (lv_at hl 2 rfl) ?_
  refine lv_dup hx hb dX4_tellsPit_67 rfl ?_
  refine dg_get (C := RX5) (T := TX5) (N := 8) hx hb hts (fun w h => bw_mem (wU_X5 w h)) hown K hP (pX_0 pt hk_pt) rfl 1 (by decide) (hts _ (bw_mem wB_786)) (fun _ h9 => h9) (v := .int x_21) (dg_uF_at e_22) dX4_tellsPit_68 ?_
  refine lv_aload_n hx hb dX4_tellsPit_71 rfl (lv_at hl 0 rfl) ?_
  refine lv_sipush (v := 255) hx hb dX4_tellsPit_72 (by decide +kernel) ?_
  refine dg_calli hS hA1 hA (va_runV (As := [.int 255]) (rest := [.int x_21, .ref (o + pt)]) F (c_i_next l g D o S_22 255 I_22 H.size) (cwV 1 hts (bw_V wB_811 wB_812 wB_813 wB_784 wB_810) rfl rfl rfl (by decide +kernel) ⟨Nat.le_of_ble_eq_true rfl, Nat.le_of_ble_eq_true rfl⟩) (dg_preV sX_182 rfl K ST hP hS hA1 hA) rfl rfl hl.1 rfl (lv_room (Nat.le_of_ble_eq_true rfl)) dX4_tellsPit_75 ⟨Nat.le_of_ble_eq_true rfl, Nat.le_of_ble_eq_true rfl⟩) (fun x_23 S_24 hw_24 H locs hP hS => ?_)
  obtain ⟨I_24, m_24, w_24_0, w_24_1, -⟩ := hw_24
  have M_24 := dg_sm.tr M_22 m_24 (by decide) (by decide)
  have hz_25 : (255 : Int32).toInt = 255 := by decide +kernel
  have w_24_0 : 0 ≤ (x_23).toInt ∧ (x_23).toInt ≤ 255 := w_24_0
  have w_24_1 : (x_23).toInt ≤ ((255 : Int32)).toInt ∨ (x_23).toInt = 0 := w_24_1
  refine lv_bipush (v := 8) hx hb dX4_tellsPit_78 (by decide +kernel) ?_
  refine lv_ishl hx hb dX4_tellsPit_80 ?_
  refine lv_topi (fun x_26 ex_26 => ?_)
  have jx_26 := dk_shlB (x := x_23) (s := 8 &&& 31) (b := 255) (k := 8) (p := 256) (B := 65280) (by omega) (by omega) (by decide +kernel) (by decide) (by decide) (by decide)
  rw [← ex_26] at jx_26
  refine lv_iadd hx hb dX4_tellsPit_81 ?_
  refine lv_topi (fun x_27 ex_27 => ?_)
  have jx_27 : (x_27).toInt = (x_21).toInt + (x_26).toInt := by rw [ex_27]; exact dk_addT rfl rfl (by omega) (by omega)
  refine dg_put (ci := 5) (v := .int x_27) (ty := tyX5 1) (C := RX5) (T := TX5) (N := 8) hx hb hts (fun w h => bw_mem (wU_X5 w h)) tyX5 tyX5_ok nmX5 hown K hP hS hA1 (pX_0 pt hk_pt) rfl 1 (by decide) (hts _ (bw_mem wB_786)) (fun _ h9 => h9) rfl (by decide +kernel) rfl rfl dX4_tellsPit_82 (fun S_28 e_28 H locs hP hS => ?_)
  have I_28 := dg_I.uFi (lo := (-2147483648)) (hi := 2147483647) I_24 e_28 (pX_0 pt hk_pt) (by decide +kernel) (show (-2147483648) ≤ (x_27).toInt ∧ (x_27).toInt ≤ 2147483647 from (dk_full _))
  have M_28 := dg_sm.uF M_24 e_28 (pX_0 pt hk_pt) (by decide)
  refine lv_aload_n hx hb dX4_tellsPit_85 rfl (lv_at hl 2 rfl) ?_
  refine lv_dup hx hb dX4_tellsPit_86 rfl ?_
  refine dg_get (C := RX5) (T := TX5) (N := 8) hx hb hts (fun w h => bw_mem (wU_X5 w h)) hown K hP (pX_0 pt hk_pt) rfl 1 (by decide) (hts _ (bw_mem wB_786)) (fun _ h9 => h9) (v := .int x_27) (dg_uF_at e_28) dX4_tellsPit_87 ?_
  refine lv_aload_n hx hb dX4_tellsPit_90 rfl (lv_at hl 0 rfl) ?_
  refine lv_sipush (v := 255) hx hb dX4_tellsPit_91 (by decide +kernel) ?_
  refine dg_calli hS hA1 hA (va_runV (As := [.int 255]) (rest := [.int x_27, .ref (o + pt)]) F (c_i_next l g D o S_28 255 I_28 H.size) (cwV 1 hts (bw_V wB_811 wB_812 wB_813 wB_784 wB_810) rfl rfl rfl (by decide +kernel) ⟨Nat.le_of_ble_eq_true rfl, Nat.le_of_ble_eq_true rfl⟩) (dg_preV sX_182 rfl K ST hP hS hA1 hA) rfl rfl hl.1 rfl (lv_room (Nat.le_of_ble_eq_true rfl)) dX4_tellsPit_94 ⟨Nat.le_of_ble_eq_true rfl, Nat.le_of_ble_eq_true rfl⟩) (fun x_29 S_30 hw_30 H locs hP hS => ?_)
  obtain ⟨I_30, m_30, w_30_0, w_30_1, -⟩ := hw_30
  have M_30 := dg_sm.tr M_28 m_30 (by decide) (by decide)
  have hz_31 : (255 : Int32).toInt = 255 := by decide +kernel
  have w_30_0 : 0 ≤ (x_29).toInt ∧ (x_29).toInt ≤ 255 := w_30_0
  have w_30_1 : (x_29).toInt ≤ ((255 : Int32)).toInt ∨ (x_29).toInt = 0 := w_30_1
  refine lv_iadd hx hb dX4_tellsPit_97 ?_
  refine lv_topi (fun x_32 ex_32 => ?_)
  have jx_32 : (x_32).toInt = (x_27).toInt + (x_29).toInt := by rw [ex_32]; exact dk_addT rfl rfl (by omega) (by omega)
  refine dg_put (ci := 5) (v := .int x_32) (ty := tyX5 1) (C := RX5) (T := TX5) (N := 8) hx hb hts (fun w h => bw_mem (wU_X5 w h)) tyX5 tyX5_ok nmX5 hown K hP hS hA1 (pX_0 pt hk_pt) rfl 1 (by decide) (hts _ (bw_mem wB_786)) (fun _ h9 => h9) rfl (by decide +kernel) rfl rfl dX4_tellsPit_98 (fun S_33 e_33 H locs hP hS => ?_)
  have I_33 := dg_I.uFi (lo := (-2147483648)) (hi := 2147483647) I_30 e_33 (pX_0 pt hk_pt) (by decide +kernel) (show (-2147483648) ≤ (x_32).toInt ∧ (x_32).toInt ≤ 2147483647 from (dk_full _))
  have M_33 := dg_sm.uF M_30 e_33 (pX_0 pt hk_pt) (by decide)
  refine lv_aload_n hx hb dX4_tellsPit_101 rfl (lv_at hl 0 rfl) ?_
  refine lv_aload_n hx hb dX4_tellsPit_102 rfl (lv_at hl 1 rfl) ?_
  refine lv_aload_n hx hb dX4_tellsPit_103 rfl (lv_at hl 2 rfl) ?_
  refine dg_callv hS hA1 hA (va_runV (As := [.ref (o + gr), .ref (o + pt)]) (rest := []) F (c_i_takeCells l g D o S_33 gr hk_gr pt hk_pt I_33 H.size) (cwV 2 hts (bw_V wB_821 wB_822 wB_823 wB_784 wB_820) rfl rfl rfl (by decide +kernel) ⟨Nat.le_of_ble_eq_true rfl, Nat.le_of_ble_eq_true rfl⟩) (dg_preV sX_182 rfl K ST hP hS hA1 hA) rfl rfl hl.1 rfl (lv_room (Nat.le_of_ble_eq_true rfl)) dX4_tellsPit_104 ⟨Nat.le_of_ble_eq_true rfl, Nat.le_of_ble_eq_true rfl⟩) (fun S_34 hw_34 H locs hP hS => ?_)
  obtain ⟨I_34, m_34, w_34_0, -⟩ := hw_34
  have M_34 := dg_sm.tr M_33 m_34 (by decide) (by decide)
  refine lv_aload_n hx hb dX4_tellsPit_107 rfl (lv_at hl 0 rfl) ?_
  refine lv_aload_n hx hb dX4_tellsPit_108 rfl (lv_at hl 2 rfl) ?_
  refine dg_get (C := RX5) (T := TX5) (N := 8) hx hb hts (fun w h => bw_mem (wU_X5 w h)) hown K hP (pX_0 pt hk_pt) rfl 3 (by decide) (hts _ (bw_mem wB_794)) (fun _ h9 => h9) (v := .ref (o + (pt + 2))) (show S_34.1 pt 3 = .ref (o + (pt + 2)) from dg_I.rel (d := 2) I_34 (pX_0 pt hk_pt) (by decide +kernel)) dX4_tellsPit_109 ?_
  refine lv_aload_n hx hb dX4_tellsPit_112 rfl (lv_at hl 1 rfl) ?_
  obtain ⟨x_35, f_x_35, b_x_35⟩ := dg_I.int (i := gr) (k := 6) (lo := 0) (hi := 6) I (rX_0 gr hk_gr) (by decide +kernel)
  refine dg_get (C := RX2) (T := TX2) (N := 19) hx hb hts (fun w h => bw_mem (wU_X2 w h)) hown K hP (rX_0 gr hk_gr) rfl 6 (by decide) (hts _ (bw_mem wB_795)) (fun _ h9 => h9) (v := .int x_35) (((m_34.1 gr 6 _ (rX_0 gr hk_gr) (by decide)).trans ((dg_uF_ne e_33 (fun z => absurd z.2 (by decide))).trans ((m_30.1 gr 6 _ (rX_0 gr hk_gr) (by decide)).trans ((dg_uF_ne e_28 (fun z => absurd z.2 (by decide))).trans ((m_24.1 gr 6 _ (rX_0 gr hk_gr) (by decide)).trans ((dg_uF_ne e_22 (fun z => absurd z.2 (by decide))).trans ((m_19.1 gr 6 _ (rX_0 gr hk_gr) (by decide)).trans ((dg_uF_ne e_17 (fun z => absurd z.2 (by decide))).trans ((m_14.1 gr 6 _ (rX_0 gr hk_gr) (by decide)).trans ((dg_uF_ne e_12 (fun z => absurd z.2 (by decide))).trans ((m_9.1 gr 6 _ (rX_0 gr hk_gr) (by decide)).trans ((m_7.1 gr 6 _ (rX_0 gr hk_gr) (by decide)).trans ((dg_uF_ne e_6 (fun z => absurd z.2 (by decide))).trans ((dg_uF_ne e_4 (fun z => absurd z.2 (by decide))).trans (dg_uF_ne e_2 (fun z => absurd z.2 (by decide))))))))))))))))).trans f_x_35) dX4_tellsPit_113 ?_
  refine lv_iconst (v := 1) hx hb dX4_tellsPit_116 (by decide +kernel) ?_
  refine dg_callv hS hA1 hA (va_runV (As := [.ref (o + (pt + 2)), .int x_35, .int 1]) (rest := []) F (c_i_takeAll_hurts l g D o S_34 pt hk_pt x_35 (by omega) 1 I_34 H.size) (cwV 3 hts (bw_V wB_825 wB_826 wB_827 wB_784 wB_824) rfl rfl rfl (by decide +kernel) ⟨Nat.le_of_ble_eq_true rfl, Nat.le_of_ble_eq_true rfl⟩) (dg_preV sX_182 rfl K ST hP hS hA1 hA) rfl rfl hl.1 rfl (lv_room (Nat.le_of_ble_eq_true rfl)) dX4_tellsPit_117 ⟨Nat.le_of_ble_eq_true rfl, Nat.le_of_ble_eq_true rfl⟩) (fun S_36 hw_36 H locs hP hS => ?_)
  obtain ⟨I_36, m_36, -⟩ := hw_36
  have M_36 := dg_sm.tr M_34 m_36 (by decide) (by decide)
  refine lv_aload_n hx hb dX4_tellsPit_120 rfl (lv_at hl 0 rfl) ?_
  refine lv_aload_n hx hb dX4_tellsPit_121 rfl (lv_at hl 1 rfl) ?_
  refine lv_aload_n hx hb dX4_tellsPit_122 rfl (lv_at hl 2 rfl) ?_
  refine dg_callv hS hA1 hA (va_runV (As := [.ref (o + gr), .ref (o + pt)]) (rest := []) F (c_i_takePlan l g D o S_36 gr hk_gr pt hk_pt cx (((m_36.1 gr 0 _ (rX_0 gr hk_gr) (by decide)).trans ((m_34.1 gr 0 _ (rX_0 gr hk_gr) (by decide)).trans ((dg_uF_ne e_33 (fun z => absurd z.2 (by decide))).trans ((m_30.1 gr 0 _ (rX_0 gr hk_gr) (by decide)).trans ((dg_uF_ne e_28 (fun z => absurd z.2 (by decide))).trans ((m_24.1 gr 0 _ (rX_0 gr hk_gr) (by decide)).trans ((dg_uF_ne e_22 (fun z => absurd z.2 (by decide))).trans ((m_19.1 gr 0 _ (rX_0 gr hk_gr) (by decide)).trans ((dg_uF_ne e_17 (fun z => by have h9 := (rX_0 gr hk_gr); rw [z.1, (pX_0 pt hk_pt)] at h9; cases h9)).trans ((m_14.1 gr 0 _ (rX_0 gr hk_gr) (by decide)).trans ((dg_uF_ne e_12 (fun z => by have h9 := (rX_0 gr hk_gr); rw [z.1, (pX_0 pt hk_pt)] at h9; cases h9)).trans ((m_9.1 gr 0 _ (rX_0 gr hk_gr) (by decide)).trans ((m_7.1 gr 0 _ (rX_0 gr hk_gr) (by decide)).trans ((dg_uF_ne e_6 (fun z => absurd z.2 (by decide))).trans ((dg_uF_ne e_4 (fun z => absurd z.2 (by decide))).trans (dg_uF_ne e_2 (fun z => absurd z.2 (by decide)))))))))))))))))).trans f_cx) (by omega) ry (((m_36.1 gr 1 _ (rX_0 gr hk_gr) (by decide)).trans ((m_34.1 gr 1 _ (rX_0 gr hk_gr) (by decide)).trans ((dg_uF_ne e_33 (fun z => by have h9 := (rX_0 gr hk_gr); rw [z.1, (pX_0 pt hk_pt)] at h9; cases h9)).trans ((m_30.1 gr 1 _ (rX_0 gr hk_gr) (by decide)).trans ((dg_uF_ne e_28 (fun z => by have h9 := (rX_0 gr hk_gr); rw [z.1, (pX_0 pt hk_pt)] at h9; cases h9)).trans ((m_24.1 gr 1 _ (rX_0 gr hk_gr) (by decide)).trans ((dg_uF_ne e_22 (fun z => by have h9 := (rX_0 gr hk_gr); rw [z.1, (pX_0 pt hk_pt)] at h9; cases h9)).trans ((m_19.1 gr 1 _ (rX_0 gr hk_gr) (by decide)).trans ((dg_uF_ne e_17 (fun z => absurd z.2 (by decide))).trans ((m_14.1 gr 1 _ (rX_0 gr hk_gr) (by decide)).trans ((dg_uF_ne e_12 (fun z => absurd z.2 (by decide))).trans ((m_9.1 gr 1 _ (rX_0 gr hk_gr) (by decide)).trans ((m_7.1 gr 1 _ (rX_0 gr hk_gr) (by decide)).trans ((dg_uF_ne e_6 (fun z => absurd z.2 (by decide))).trans ((dg_uF_ne e_4 (fun z => absurd z.2 (by decide))).trans (dg_uF_ne e_2 (fun z => absurd z.2 (by decide)))))))))))))))))).trans f_ry) (by omega) (by omega) I_36 H.size) (cwV 2 hts (bw_V wB_829 wB_830 wB_831 wB_784 wB_828) rfl rfl rfl (by decide +kernel) ⟨Nat.le_of_ble_eq_true rfl, Nat.le_of_ble_eq_true rfl⟩) (dg_preV sX_182 rfl K ST hP hS hA1 hA) rfl rfl hl.1 rfl (lv_room (Nat.le_of_ble_eq_true rfl)) dX4_tellsPit_123 ⟨Nat.le_of_ble_eq_true rfl, Nat.le_of_ble_eq_true rfl⟩) (fun S_37 hw_37 H locs hP hS => ?_)
  obtain ⟨I_37, m_37, -⟩ := hw_37
  have M_37 := dg_sm.tr M_36 m_37 (by decide) (by decide)
  refine lv_aload_n hx hb dX4_tellsPit_126 rfl (lv_at hl 0 rfl) ?_
  refine lv_aload_n hx hb dX4_tellsPit_127 rfl (lv_at hl 2 rfl) ?_
  refine dg_get (C := RX5) (T := TX5) (N := 8) hx hb hts (fun w h => bw_mem (wU_X5 w h)) hown K hP (pX_0 pt hk_pt) rfl 6 (by decide) (hts _ (bw_mem wB_801)) (fun _ h9 => h9) (v := .ref (o + (pt + 5))) (show S_37.1 pt 6 = .ref (o + (pt + 5)) from dg_I.rel (d := 5) I_37 (pX_0 pt hk_pt) (by decide +kernel)) dX4_tellsPit_128 ?_
  refine lv_aload_n hx hb dX4_tellsPit_131 rfl (lv_at hl 1 rfl) ?_
  obtain ⟨x_38, f_x_38, b_x_38⟩ := dg_I.int (i := gr) (k := 11) (lo := 0) (hi := 5) I (rX_0 gr hk_gr) (by decide +kernel)
  refine dg_get (C := RX2) (T := TX2) (N := 19) hx hb hts (fun w h => bw_mem (wU_X2 w h)) hown K hP (rX_0 gr hk_gr) rfl 11 (by decide) (hts _ (bw_mem wB_802)) (fun _ h9 => h9) (v := .int x_38) (((m_37.1 gr 11 _ (rX_0 gr hk_gr) (by decide)).trans ((m_36.1 gr 11 _ (rX_0 gr hk_gr) (by decide)).trans ((m_34.1 gr 11 _ (rX_0 gr hk_gr) (by decide)).trans ((dg_uF_ne e_33 (fun z => absurd z.2 (by decide))).trans ((m_30.1 gr 11 _ (rX_0 gr hk_gr) (by decide)).trans ((dg_uF_ne e_28 (fun z => absurd z.2 (by decide))).trans ((m_24.1 gr 11 _ (rX_0 gr hk_gr) (by decide)).trans ((dg_uF_ne e_22 (fun z => absurd z.2 (by decide))).trans ((m_19.1 gr 11 _ (rX_0 gr hk_gr) (by decide)).trans ((dg_uF_ne e_17 (fun z => absurd z.2 (by decide))).trans ((m_14.1 gr 11 _ (rX_0 gr hk_gr) (by decide)).trans ((dg_uF_ne e_12 (fun z => absurd z.2 (by decide))).trans ((m_9.1 gr 11 _ (rX_0 gr hk_gr) (by decide)).trans ((m_7.1 gr 11 _ (rX_0 gr hk_gr) (by decide)).trans ((dg_uF_ne e_6 (fun z => absurd z.2 (by decide))).trans ((dg_uF_ne e_4 (fun z => absurd z.2 (by decide))).trans (dg_uF_ne e_2 (fun z => absurd z.2 (by decide))))))))))))))))))).trans f_x_38) dX4_tellsPit_132 ?_
  refine lv_iconst (v := 1) hx hb dX4_tellsPit_135 (by decide +kernel) ?_
  refine dg_callv hS hA1 hA (va_runV (As := [.ref (o + (pt + 5)), .int x_38, .int 1]) (rest := []) F (c_i_takeAll_sold l g D o S_37 pt hk_pt x_38 (by omega) 1 I_37 H.size) (cwV 3 hts (bw_V wB_825 wB_826 wB_827 wB_784 wB_824) rfl rfl rfl (by decide +kernel) ⟨Nat.le_of_ble_eq_true rfl, Nat.le_of_ble_eq_true rfl⟩) (dg_preV sX_182 rfl K ST hP hS hA1 hA) rfl rfl hl.1 rfl (lv_room (Nat.le_of_ble_eq_true rfl)) dX4_tellsPit_136 ⟨Nat.le_of_ble_eq_true rfl, Nat.le_of_ble_eq_true rfl⟩) (fun S_39 hw_39 H locs hP hS => ?_)
  obtain ⟨I_39, m_39, -⟩ := hw_39
  have M_39 := dg_sm.tr M_37 m_39 (by decide) (by decide)
  refine lv_aload_n hx hb dX4_tellsPit_139 rfl (lv_at hl 0 rfl) ?_
  refine lv_aload_n hx hb dX4_tellsPit_140 rfl (lv_at hl 2 rfl) ?_
  refine dg_get (C := RX5) (T := TX5) (N := 8) hx hb hts (fun w h => bw_mem (wU_X5 w h)) hown K hP (pX_0 pt hk_pt) rfl 7 (by decide) (hts _ (bw_mem wB_803)) (fun _ h9 => h9) (v := .ref (o + (pt + 6))) (show S_39.1 pt 7 = .ref (o + (pt + 6)) from dg_I.rel (d := 6) I_39 (pX_0 pt hk_pt) (by decide +kernel)) dX4_tellsPit_141 ?_
  refine lv_bipush (v := 10) hx hb dX4_tellsPit_144 (by decide +kernel) ?_
  refine lv_bipush (v := 99) hx hb dX4_tellsPit_146 (by decide +kernel) ?_
  have hz_40 : (10 : Int32).toInt = 10 := by decide +kernel
  refine dg_callv hS hA1 hA (va_runV (As := [.ref (o + (pt + 6)), .int 10, .int 99]) (rest := []) F (c_i_takeAll_tubs l g D o S_39 pt hk_pt 10 (by decide +kernel) 99 I_39 H.size) (cwV 3 hts (bw_V wB_825 wB_826 wB_827 wB_784 wB_824) rfl rfl rfl (by decide +kernel) ⟨Nat.le_of_ble_eq_true rfl, Nat.le_of_ble_eq_true rfl⟩) (dg_preV sX_182 rfl K ST hP hS hA1 hA) rfl rfl hl.1 rfl (lv_room (Nat.le_of_ble_eq_true rfl)) dX4_tellsPit_148 ⟨Nat.le_of_ble_eq_true rfl, Nat.le_of_ble_eq_true rfl⟩) (fun S_41 hw_41 H locs hP hS => ?_)
  obtain ⟨I_41, m_41, -⟩ := hw_41
  have M_41 := dg_sm.tr M_39 m_41 (by decide) (by decide)
  refine lv_aload_n hx hb dX4_tellsPit_151 rfl (lv_at hl 0 rfl) ?_
  obtain ⟨x_42, f_x_42, b_x_42⟩ := dg_I.int (i := 182) (k := 3) (lo := (-2147483648)) (hi := 2147483647) I_41 sX_182 (by decide +kernel)
  refine dg_get (C := RX4) (T := TX4) (N := 6) hx hb hts (fun w h => bw_mem (wU_X4 w h)) hown K hP sX_182 rfl 3 (by decide) (hts _ (bw_mem wB_779)) (fun _ h9 => h9) (v := .int x_42) f_x_42 dX4_tellsPit_152 ?_
  refine lv_istore_n (lv' := [(3, .int x_42), (0, .ref (o + 182)), (1, .ref (o + gr)), (2, .ref (o + pt))]) hx hb dX4_tellsPit_155 rfl hl (by decide) rfl (fun ls hl => ?_)
  refine lv_aload_n hx hb dX4_tellsPit_156 rfl (lv_at hl 1 rfl) ?_
  refine lv_sipush (v := 255) hx hb dX4_tellsPit_157 (by decide +kernel) ?_
  refine dg_calli hS hA1 hA (va_runV (As := [.int 255]) (rest := []) F (c_i_next l g D o S_41 255 I_41 H.size) (cwV 1 hts (bw_V wB_811 wB_812 wB_813 wB_784 wB_810) rfl rfl rfl (by decide +kernel) ⟨Nat.le_of_ble_eq_true rfl, Nat.le_of_ble_eq_true rfl⟩) (dg_preV sX_182 rfl K ST hP hS hA1 hA) rfl rfl hl.1 rfl (lv_room (Nat.le_of_ble_eq_true rfl)) dX4_tellsPit_160 ⟨Nat.le_of_ble_eq_true rfl, Nat.le_of_ble_eq_true rfl⟩) (fun x_43 S_44 hw_44 H locs hP hS => ?_)
  obtain ⟨I_44, m_44, w_44_0, w_44_1, -⟩ := hw_44
  have M_44 := dg_sm.tr M_41 m_44 (by decide) (by decide)
  have hz_45 : (255 : Int32).toInt = 255 := by decide +kernel
  have w_44_0 : 0 ≤ (x_43).toInt ∧ (x_43).toInt ≤ 255 := w_44_0
  have w_44_1 : (x_43).toInt ≤ ((255 : Int32)).toInt ∨ (x_43).toInt = 0 := w_44_1
  refine lv_iload_n hx hb dX4_tellsPit_163 rfl (lv_at hl 0 rfl) ?_
  refine lv_icmp_ne (tgt := 211) hx hb dX4_tellsPit_164 (by decide) (fun c_46 => ?_) (fun c_46 => ?_)
  · have hf_46 := dk_full x_42
    have jc_46 := dk_neqc (k := (x_42).toInt) rfl c_46
    refine lv_iconst (v := 0) hx hb dX4_tellsPit_211 (by decide +kernel) ?_
    have hz_48 : (0 : Int32).toInt = 0 := by decide +kernel
    refine W.widen (k := 0) (n := 0) (Nat.le_of_ble_eq_true rfl) (Nat.le_of_ble_eq_true rfl) ?_
    exact dg_iret hx hb hr hlocks (by decide +kernel) hP hS ⟨I_44, M_44, (by decide +kernel), ((dg_FG.tr (dg_FG.tr (dg_FG.tr (dg_FG.tr (dg_FG.tr (dg_FG.tr (dg_FG.tr (dg_FG.tr (dg_FG.tr (dg_FG.tr (dg_FG.tr (dg_FG.tr (dg_FG.tr (dg_FG.tr (dg_FG.tr (dg_FG.sm m_9 (by decide)) (dg_FG.uF e_12)) (dg_FG.sm m_14 (by decide))) (dg_FG.uF e_17)) (dg_FG.sm m_19 (by decide))) (dg_FG.uF e_22)) (dg_FG.sm m_24 (by decide))) (dg_FG.uF e_28)) (dg_FG.sm m_30 (by decide))) (dg_FG.uF e_33)) w_34_0) (dg_FG.sm m_36 (by decide))) (dg_FG.sm m_37 (by decide))) (dg_FG.sm m_39 (by decide))) (dg_FG.sm m_41 (by decide))) (dg_FG.sm m_44 (by decide))) pt hk_pt w_7_0), (dg_FG.tr (dg_FG.tr (dg_FG.tr (dg_FG.tr (dg_FG.tr (dg_FG.tr (dg_FG.tr (dg_FG.tr (dg_FG.tr (dg_FG.tr (dg_FG.tr (dg_FG.tr (dg_FG.tr (dg_FG.tr (dg_FG.tr (dg_FG.tr (dg_FG.tr (dg_FG.tr (dg_FG.tr (dg_FG.uF e_2) (dg_FG.uF e_4)) (dg_FG.uF e_6)) w_7_1) (dg_FG.sm m_9 (by decide))) (dg_FG.uF e_12)) (dg_FG.sm m_14 (by decide))) (dg_FG.uF e_17)) (dg_FG.sm m_19 (by decide))) (dg_FG.uF e_22)) (dg_FG.sm m_24 (by decide))) (dg_FG.uF e_28)) (dg_FG.sm m_30 (by decide))) (dg_FG.uF e_33)) w_34_0) (dg_FG.sm m_36 (by decide))) (dg_FG.sm m_37 (by decide))) (dg_FG.sm m_39 (by decide))) (dg_FG.sm m_41 (by decide))) (dg_FG.sm m_44 (by decide))), trivial⟩ dX4_tellsPit_212
  · have hf_48 := dk_full x_42
    have jc_46 := dk_eqc (k := (x_42).toInt) rfl c_46
    refine lv_aload_n hx hb dX4_tellsPit_167 rfl (lv_at hl 1 rfl) ?_
    obtain ⟨x_50, f_x_50, b_x_50⟩ := dg_I.int (i := 182) (k := 5) (lo := 0) (hi := 1) I_44 sX_182 (by decide +kernel)
    refine dg_get (C := RX4) (T := TX4) (N := 6) hx hb hts (fun w h => bw_mem (wU_X4 w h)) hown K hP sX_182 rfl 5 (by decide) (hts _ (bw_mem wB_807)) (fun _ h9 => h9) (v := .int x_50) f_x_50 dX4_tellsPit_168 ?_
    refine lv_if_eq (tgt := 211) hx hb dX4_tellsPit_171 (by decide) (fun c_51 => ?_) (fun c_51 => ?_)
    · have jc_51 := dk_eqc (k := 0) (by decide +kernel) c_51
      refine lv_iconst (v := 0) hx hb dX4_tellsPit_211 (by decide +kernel) ?_
      have hz_52 : (0 : Int32).toInt = 0 := by decide +kernel
      refine W.widen (k := 0) (n := 0) (Nat.le_of_ble_eq_true rfl) (Nat.le_of_ble_eq_true rfl) ?_
      exact dg_iret hx hb hr hlocks (by decide +kernel) hP hS ⟨I_44, M_44, (by decide +kernel), ((dg_FG.tr (dg_FG.tr (dg_FG.tr (dg_FG.tr (dg_FG.tr (dg_FG.tr (dg_FG.tr (dg_FG.tr (dg_FG.tr (dg_FG.tr (dg_FG.tr (dg_FG.tr (dg_FG.tr (dg_FG.tr (dg_FG.tr (dg_FG.sm m_9 (by decide)) (dg_FG.uF e_12)) (dg_FG.sm m_14 (by decide))) (dg_FG.uF e_17)) (dg_FG.sm m_19 (by decide))) (dg_FG.uF e_22)) (dg_FG.sm m_24 (by decide))) (dg_FG.uF e_28)) (dg_FG.sm m_30 (by decide))) (dg_FG.uF e_33)) w_34_0) (dg_FG.sm m_36 (by decide))) (dg_FG.sm m_37 (by decide))) (dg_FG.sm m_39 (by decide))) (dg_FG.sm m_41 (by decide))) (dg_FG.sm m_44 (by decide))) pt hk_pt w_7_0), (dg_FG.tr (dg_FG.tr (dg_FG.tr (dg_FG.tr (dg_FG.tr (dg_FG.tr (dg_FG.tr (dg_FG.tr (dg_FG.tr (dg_FG.tr (dg_FG.tr (dg_FG.tr (dg_FG.tr (dg_FG.tr (dg_FG.tr (dg_FG.tr (dg_FG.tr (dg_FG.tr (dg_FG.tr (dg_FG.uF e_2) (dg_FG.uF e_4)) (dg_FG.uF e_6)) w_7_1) (dg_FG.sm m_9 (by decide))) (dg_FG.uF e_12)) (dg_FG.sm m_14 (by decide))) (dg_FG.uF e_17)) (dg_FG.sm m_19 (by decide))) (dg_FG.uF e_22)) (dg_FG.sm m_24 (by decide))) (dg_FG.uF e_28)) (dg_FG.sm m_30 (by decide))) (dg_FG.uF e_33)) w_34_0) (dg_FG.sm m_36 (by decide))) (dg_FG.sm m_37 (by decide))) (dg_FG.sm m_39 (by decide))) (dg_FG.sm m_41 (by decide))) (dg_FG.sm m_44 (by decide))), trivial⟩ dX4_tellsPit_212
    · have jc_51 := dk_neqc (k := 0) (by decide +kernel) c_51
      refine lv_aload_n hx hb dX4_tellsPit_174 rfl (lv_at hl 1 rfl) ?_
      obtain ⟨x_53, f_x_53, b_x_53⟩ := dg_I.int (i := 182) (k := 4) (lo := 0) (hi := 1600) I_44 sX_182 (by decide +kernel)
      refine dg_get (C := RX4) (T := TX4) (N := 6) hx hb hts (fun w h => bw_mem (wU_X4 w h)) hown K hP sX_182 rfl 4 (by decide) (hts _ (bw_mem wB_804)) (fun _ h9 => h9) (v := .int x_53) f_x_53 dX4_tellsPit_175 ?_
      refine lv_aload_n hx hb dX4_tellsPit_178 rfl (lv_at hl 1 rfl) ?_
      refine dg_get (C := RX4) (T := TX4) (N := 6) hx hb hts (fun w h => bw_mem (wU_X4 w h)) hown K hP sX_182 rfl 2 (by decide) (hts _ (bw_mem wB_805)) (fun _ h9 => h9) (v := .ref (o + 1)) (show S_44.1 182 2 = .ref (o + 1) from dg_I.abs (d := 1) I_44 sX_182 (by decide +kernel)) dX4_tellsPit_179 ?_
      obtain ⟨x_54, f_x_54, b_x_54⟩ := dg_I.int (i := 1) (k := 1) (lo := 0) (hi := 1600) I sX_1 (by decide +kernel)
      refine dg_get (C := RX8) (T := TX8) (N := 2) hx hb hts (fun w h => bw_mem (wU_X8 w h)) hown K hP sX_1 rfl 1 (by decide) (hts _ (bw_mem wB_806)) (fun _ h9 => h9) (v := .int x_54) (((m_44.1 1 1 _ sX_1 (by decide)).trans ((m_41.1 1 1 _ sX_1 (by decide)).trans ((m_39.1 1 1 _ sX_1 (by decide)).trans ((m_37.1 1 1 _ sX_1 (by decide)).trans ((m_36.1 1 1 _ sX_1 (by decide)).trans ((m_34.1 1 1 _ sX_1 (by decide)).trans ((dg_uF_ne e_33 (fun z => by have h9 := sX_1; rw [z.1, (pX_0 pt hk_pt)] at h9; cases h9)).trans ((m_30.1 1 1 _ sX_1 (by decide)).trans ((dg_uF_ne e_28 (fun z => by have h9 := sX_1; rw [z.1, (pX_0 pt hk_pt)] at h9; cases h9)).trans ((m_24.1 1 1 _ sX_1 (by decide)).trans ((dg_uF_ne e_22 (fun z => by have h9 := sX_1; rw [z.1, (pX_0 pt hk_pt)] at h9; cases h9)).trans ((m_19.1 1 1 _ sX_1 (by decide)).trans ((dg_uF_ne e_17 (fun z => absurd z.2 (by decide))).trans ((m_14.1 1 1 _ sX_1 (by decide)).trans ((dg_uF_ne e_12 (fun z => absurd z.2 (by decide))).trans ((m_9.1 1 1 _ sX_1 (by decide)).trans ((m_7.1 1 1 _ sX_1 (by decide)).trans ((dg_uF_ne e_6 (fun z => absurd z.2 (by decide))).trans ((dg_uF_ne e_4 (fun z => absurd z.2 (by decide))).trans (dg_uF_ne e_2 (fun z => absurd z.2 (by decide)))))))))))))))))))))).trans f_x_54) dX4_tellsPit_182 ?_
      refine lv_icmp_ne (tgt := 211) hx hb dX4_tellsPit_185 (by decide) (fun c_55 => ?_) (fun c_55 => ?_)
      · have jc_55 := dk_neqc (k := (x_54).toInt) rfl c_55
        refine lv_iconst (v := 0) hx hb dX4_tellsPit_211 (by decide +kernel) ?_
        have hz_56 : (0 : Int32).toInt = 0 := by decide +kernel
        refine W.widen (k := 0) (n := 0) (Nat.le_of_ble_eq_true rfl) (Nat.le_of_ble_eq_true rfl) ?_
        exact dg_iret hx hb hr hlocks (by decide +kernel) hP hS ⟨I_44, M_44, (by decide +kernel), ((dg_FG.tr (dg_FG.tr (dg_FG.tr (dg_FG.tr (dg_FG.tr (dg_FG.tr (dg_FG.tr (dg_FG.tr (dg_FG.tr (dg_FG.tr (dg_FG.tr (dg_FG.tr (dg_FG.tr (dg_FG.tr (dg_FG.tr (dg_FG.sm m_9 (by decide)) (dg_FG.uF e_12)) (dg_FG.sm m_14 (by decide))) (dg_FG.uF e_17)) (dg_FG.sm m_19 (by decide))) (dg_FG.uF e_22)) (dg_FG.sm m_24 (by decide))) (dg_FG.uF e_28)) (dg_FG.sm m_30 (by decide))) (dg_FG.uF e_33)) w_34_0) (dg_FG.sm m_36 (by decide))) (dg_FG.sm m_37 (by decide))) (dg_FG.sm m_39 (by decide))) (dg_FG.sm m_41 (by decide))) (dg_FG.sm m_44 (by decide))) pt hk_pt w_7_0), (dg_FG.tr (dg_FG.tr (dg_FG.tr (dg_FG.tr (dg_FG.tr (dg_FG.tr (dg_FG.tr (dg_FG.tr (dg_FG.tr (dg_FG.tr (dg_FG.tr (dg_FG.tr (dg_FG.tr (dg_FG.tr (dg_FG.tr (dg_FG.tr (dg_FG.tr (dg_FG.tr (dg_FG.tr (dg_FG.uF e_2) (dg_FG.uF e_4)) (dg_FG.uF e_6)) w_7_1) (dg_FG.sm m_9 (by decide))) (dg_FG.uF e_12)) (dg_FG.sm m_14 (by decide))) (dg_FG.uF e_17)) (dg_FG.sm m_19 (by decide))) (dg_FG.uF e_22)) (dg_FG.sm m_24 (by decide))) (dg_FG.uF e_28)) (dg_FG.sm m_30 (by decide))) (dg_FG.uF e_33)) w_34_0) (dg_FG.sm m_36 (by decide))) (dg_FG.sm m_37 (by decide))) (dg_FG.sm m_39 (by decide))) (dg_FG.sm m_41 (by decide))) (dg_FG.sm m_44 (by decide))), trivial⟩ dX4_tellsPit_212
      · have jc_55 := dk_eqc (k := (x_54).toInt) rfl c_55
        refine lv_aload_n hx hb dX4_tellsPit_188 rfl (lv_at hl 3 rfl) ?_
        refine dg_get (C := RX5) (T := TX5) (N := 8) hx hb hts (fun w h => bw_mem (wU_X5 w h)) hown K hP (pX_0 pt hk_pt) rfl 0 (by decide) (hts _ (bw_mem wB_785)) (fun _ h9 => h9) (v := .int x_16) (((m_44.1 pt 0 _ (pX_0 pt hk_pt) (by decide)).trans ((m_41.1 pt 0 _ (pX_0 pt hk_pt) (by decide)).trans ((m_39.1 pt 0 _ (pX_0 pt hk_pt) (by decide)).trans ((m_37.1 pt 0 _ (pX_0 pt hk_pt) (by decide)).trans ((m_36.1 pt 0 _ (pX_0 pt hk_pt) (by decide)).trans ((m_34.1 pt 0 _ (pX_0 pt hk_pt) (by decide)).trans ((dg_uF_ne e_33 (fun z => absurd z.2 (by decide))).trans ((m_30.1 pt 0 _ (pX_0 pt hk_pt) (by decide)).trans ((dg_uF_ne e_28 (fun z => absurd z.2 (by decide))).trans ((m_24.1 pt 0 _ (pX_0 pt hk_pt) (by decide)).trans ((dg_uF_ne e_22 (fun z => absurd z.2 (by decide))).trans (m_19.1 pt 0 _ (pX_0 pt hk_pt) (by decide))))))))))))).trans (dg_uF_at e_17)) dX4_tellsPit_189 ?_
        refine lv_sipush (v := 999) hx hb dX4_tellsPit_192 (by decide +kernel) ?_
        refine lv_icmp_gt (tgt := 211) hx hb dX4_tellsPit_195 (by decide) (fun c_57 => ?_) (fun c_57 => ?_)
        · have jc_57 := dk_gtc (k := 999) (by decide +kernel) c_57
          refine lv_iconst (v := 0) hx hb dX4_tellsPit_211 (by decide +kernel) ?_
          have hz_58 : (0 : Int32).toInt = 0 := by decide +kernel
          refine W.widen (k := 0) (n := 0) (Nat.le_of_ble_eq_true rfl) (Nat.le_of_ble_eq_true rfl) ?_
          exact dg_iret hx hb hr hlocks (by decide +kernel) hP hS ⟨I_44, M_44, (by decide +kernel), ((dg_FG.tr (dg_FG.tr (dg_FG.tr (dg_FG.tr (dg_FG.tr (dg_FG.tr (dg_FG.tr (dg_FG.tr (dg_FG.tr (dg_FG.tr (dg_FG.tr (dg_FG.tr (dg_FG.tr (dg_FG.tr (dg_FG.tr (dg_FG.sm m_9 (by decide)) (dg_FG.uF e_12)) (dg_FG.sm m_14 (by decide))) (dg_FG.uF e_17)) (dg_FG.sm m_19 (by decide))) (dg_FG.uF e_22)) (dg_FG.sm m_24 (by decide))) (dg_FG.uF e_28)) (dg_FG.sm m_30 (by decide))) (dg_FG.uF e_33)) w_34_0) (dg_FG.sm m_36 (by decide))) (dg_FG.sm m_37 (by decide))) (dg_FG.sm m_39 (by decide))) (dg_FG.sm m_41 (by decide))) (dg_FG.sm m_44 (by decide))) pt hk_pt w_7_0), (dg_FG.tr (dg_FG.tr (dg_FG.tr (dg_FG.tr (dg_FG.tr (dg_FG.tr (dg_FG.tr (dg_FG.tr (dg_FG.tr (dg_FG.tr (dg_FG.tr (dg_FG.tr (dg_FG.tr (dg_FG.tr (dg_FG.tr (dg_FG.tr (dg_FG.tr (dg_FG.tr (dg_FG.tr (dg_FG.uF e_2) (dg_FG.uF e_4)) (dg_FG.uF e_6)) w_7_1) (dg_FG.sm m_9 (by decide))) (dg_FG.uF e_12)) (dg_FG.sm m_14 (by decide))) (dg_FG.uF e_17)) (dg_FG.sm m_19 (by decide))) (dg_FG.uF e_22)) (dg_FG.sm m_24 (by decide))) (dg_FG.uF e_28)) (dg_FG.sm m_30 (by decide))) (dg_FG.uF e_33)) w_34_0) (dg_FG.sm m_36 (by decide))) (dg_FG.sm m_37 (by decide))) (dg_FG.sm m_39 (by decide))) (dg_FG.sm m_41 (by decide))) (dg_FG.sm m_44 (by decide))), trivial⟩ dX4_tellsPit_212
        · have jc_57 := dk_ngtc (k := 999) (by decide +kernel) c_57
          refine lv_aload_n hx hb dX4_tellsPit_198 rfl (lv_at hl 3 rfl) ?_
          refine dg_get (C := RX5) (T := TX5) (N := 8) hx hb hts (fun w h => bw_mem (wU_X5 w h)) hown K hP (pX_0 pt hk_pt) rfl 1 (by decide) (hts _ (bw_mem wB_786)) (fun _ h9 => h9) (v := .int x_32) (((m_44.1 pt 1 _ (pX_0 pt hk_pt) (by decide)).trans ((m_41.1 pt 1 _ (pX_0 pt hk_pt) (by decide)).trans ((m_39.1 pt 1 _ (pX_0 pt hk_pt) (by decide)).trans ((m_37.1 pt 1 _ (pX_0 pt hk_pt) (by decide)).trans ((m_36.1 pt 1 _ (pX_0 pt hk_pt) (by decide)).trans (m_34.1 pt 1 _ (pX_0 pt hk_pt) (by decide))))))).trans (dg_uF_at e_33)) dX4_tellsPit_199 ?_
          refine lv_ldc hx hb hown (hts _ (bw_mem wB_832)) dX4_tellsPit_202 ?_
          refine lv_icmp_gt (tgt := 211) hx hb dX4_tellsPit_204 (by decide) (fun c_59 => ?_) (fun c_59 => ?_)
          · have jc_59 := dk_gtc (k := 99999) (by decide +kernel) c_59
            refine lv_iconst (v := 0) hx hb dX4_tellsPit_211 (by decide +kernel) ?_
            have hz_60 : (0 : Int32).toInt = 0 := by decide +kernel
            refine W.widen (k := 0) (n := 0) (Nat.le_of_ble_eq_true rfl) (Nat.le_of_ble_eq_true rfl) ?_
            exact dg_iret hx hb hr hlocks (by decide +kernel) hP hS ⟨I_44, M_44, (by decide +kernel), ((dg_FG.tr (dg_FG.tr (dg_FG.tr (dg_FG.tr (dg_FG.tr (dg_FG.tr (dg_FG.tr (dg_FG.tr (dg_FG.tr (dg_FG.tr (dg_FG.tr (dg_FG.tr (dg_FG.tr (dg_FG.tr (dg_FG.tr (dg_FG.sm m_9 (by decide)) (dg_FG.uF e_12)) (dg_FG.sm m_14 (by decide))) (dg_FG.uF e_17)) (dg_FG.sm m_19 (by decide))) (dg_FG.uF e_22)) (dg_FG.sm m_24 (by decide))) (dg_FG.uF e_28)) (dg_FG.sm m_30 (by decide))) (dg_FG.uF e_33)) w_34_0) (dg_FG.sm m_36 (by decide))) (dg_FG.sm m_37 (by decide))) (dg_FG.sm m_39 (by decide))) (dg_FG.sm m_41 (by decide))) (dg_FG.sm m_44 (by decide))) pt hk_pt w_7_0), (dg_FG.tr (dg_FG.tr (dg_FG.tr (dg_FG.tr (dg_FG.tr (dg_FG.tr (dg_FG.tr (dg_FG.tr (dg_FG.tr (dg_FG.tr (dg_FG.tr (dg_FG.tr (dg_FG.tr (dg_FG.tr (dg_FG.tr (dg_FG.tr (dg_FG.tr (dg_FG.tr (dg_FG.tr (dg_FG.uF e_2) (dg_FG.uF e_4)) (dg_FG.uF e_6)) w_7_1) (dg_FG.sm m_9 (by decide))) (dg_FG.uF e_12)) (dg_FG.sm m_14 (by decide))) (dg_FG.uF e_17)) (dg_FG.sm m_19 (by decide))) (dg_FG.uF e_22)) (dg_FG.sm m_24 (by decide))) (dg_FG.uF e_28)) (dg_FG.sm m_30 (by decide))) (dg_FG.uF e_33)) w_34_0) (dg_FG.sm m_36 (by decide))) (dg_FG.sm m_37 (by decide))) (dg_FG.sm m_39 (by decide))) (dg_FG.sm m_41 (by decide))) (dg_FG.sm m_44 (by decide))), trivial⟩ dX4_tellsPit_212
          · have jc_59 := dk_ngtc (k := 99999) (by decide +kernel) c_59
            refine lv_iconst (v := 1) hx hb dX4_tellsPit_207 (by decide +kernel) ?_
            refine lv_goto (tgt := 212) hx hb dX4_tellsPit_208 (by decide) ?_
            have hz_61 : (1 : Int32).toInt = 1 := by decide +kernel
            refine W.widen (k := 0) (n := 0) (Nat.le_of_ble_eq_true rfl) (Nat.le_of_ble_eq_true rfl) ?_
            exact dg_iret hx hb hr hlocks (by decide +kernel) hP hS ⟨I_44, M_44, (by decide +kernel), ((dg_FG.tr (dg_FG.tr (dg_FG.tr (dg_FG.tr (dg_FG.tr (dg_FG.tr (dg_FG.tr (dg_FG.tr (dg_FG.tr (dg_FG.tr (dg_FG.tr (dg_FG.tr (dg_FG.tr (dg_FG.tr (dg_FG.tr (dg_FG.sm m_9 (by decide)) (dg_FG.uF e_12)) (dg_FG.sm m_14 (by decide))) (dg_FG.uF e_17)) (dg_FG.sm m_19 (by decide))) (dg_FG.uF e_22)) (dg_FG.sm m_24 (by decide))) (dg_FG.uF e_28)) (dg_FG.sm m_30 (by decide))) (dg_FG.uF e_33)) w_34_0) (dg_FG.sm m_36 (by decide))) (dg_FG.sm m_37 (by decide))) (dg_FG.sm m_39 (by decide))) (dg_FG.sm m_41 (by decide))) (dg_FG.sm m_44 (by decide))) pt hk_pt w_7_0), (dg_FG.tr (dg_FG.tr (dg_FG.tr (dg_FG.tr (dg_FG.tr (dg_FG.tr (dg_FG.tr (dg_FG.tr (dg_FG.tr (dg_FG.tr (dg_FG.tr (dg_FG.tr (dg_FG.tr (dg_FG.tr (dg_FG.tr (dg_FG.tr (dg_FG.tr (dg_FG.tr (dg_FG.tr (dg_FG.uF e_2) (dg_FG.uF e_4)) (dg_FG.uF e_6)) w_7_1) (dg_FG.sm m_9 (by decide))) (dg_FG.uF e_12)) (dg_FG.sm m_14 (by decide))) (dg_FG.uF e_17)) (dg_FG.sm m_19 (by decide))) (dg_FG.uF e_22)) (dg_FG.sm m_24 (by decide))) (dg_FG.uF e_28)) (dg_FG.sm m_30 (by decide))) (dg_FG.uF e_33)) w_34_0) (dg_FG.sm m_36 (by decide))) (dg_FG.sm m_37 (by decide))) (dg_FG.sm m_39 (by decide))) (dg_FG.sm m_41 (by decide))) (dg_FG.sm m_44 (by decide))), trivial⟩ dX4_tellsPit_212
