/-! 16.image.lean.txt -/
theorem dX4_write_0 : decode cX4_write 0 = .ok (.aload_n 0, 1) := dk_o42 (by decide +kernel)
theorem dX4_write_1 : decode cX4_write 1 = .ok (.iconst 0, 1) := dk_o3 (by decide +kernel)
theorem dX4_write_2 : decode cX4_write 2 = .ok (.putfield 19, 3) := dk_o181 (by decide +kernel)
theorem dX4_write_5 : decode cX4_write 5 = .ok (.aload_n 0, 1) := dk_o42 (by decide +kernel)
theorem dX4_write_6 : decode cX4_write 6 = .ok (.sipush 233, 3) := dk_o17 (by decide +kernel)
theorem dX4_write_9 : decode cX4_write 9 = .ok (.putfield 23, 3) := dk_o181 (by decide +kernel)
theorem dX4_write_12 : decode cX4_write 12 = .ok (.aload_n 0, 1) := dk_o42 (by decide +kernel)
theorem dX4_write_13 : decode cX4_write 13 = .ok (.aload_n 2, 1) := dk_o44 (by decide +kernel)
theorem dX4_write_14 : decode cX4_write 14 = .ok (.getfield 26, 3) := dk_o180 (by decide +kernel)
theorem dX4_write_17 : decode cX4_write 17 = .ok (.bipush 8, 2) := dk_o16 (by decide +kernel)
theorem dX4_write_19 : decode cX4_write 19 = .ok (.ishr, 1) := dk_o122 (by decide +kernel)
theorem dX4_write_20 : decode cX4_write 20 = .ok (.invokevirtual 31, 3) := dk_o182 (by decide +kernel)
theorem dX4_write_23 : decode cX4_write 23 = .ok (.aload_n 0, 1) := dk_o42 (by decide +kernel)
theorem dX4_write_24 : decode cX4_write 24 = .ok (.aload_n 2, 1) := dk_o44 (by decide +kernel)
theorem dX4_write_25 : decode cX4_write 25 = .ok (.getfield 26, 3) := dk_o180 (by decide +kernel)
theorem dX4_write_28 : decode cX4_write 28 = .ok (.sipush 255, 3) := dk_o17 (by decide +kernel)
theorem dX4_write_31 : decode cX4_write 31 = .ok (.iand, 1) := dk_o126 (by decide +kernel)
theorem dX4_write_32 : decode cX4_write 32 = .ok (.invokevirtual 31, 3) := dk_o182 (by decide +kernel)
theorem dX4_write_35 : decode cX4_write 35 = .ok (.aload_n 0, 1) := dk_o42 (by decide +kernel)
theorem dX4_write_36 : decode cX4_write 36 = .ok (.aload_n 2, 1) := dk_o44 (by decide +kernel)
theorem dX4_write_37 : decode cX4_write 37 = .ok (.getfield 35, 3) := dk_o180 (by decide +kernel)
theorem dX4_write_40 : decode cX4_write 40 = .ok (.bipush 16, 2) := dk_o16 (by decide +kernel)
theorem dX4_write_42 : decode cX4_write 42 = .ok (.ishr, 1) := dk_o122 (by decide +kernel)
theorem dX4_write_43 : decode cX4_write 43 = .ok (.invokevirtual 31, 3) := dk_o182 (by decide +kernel)
theorem dX4_write_46 : decode cX4_write 46 = .ok (.aload_n 0, 1) := dk_o42 (by decide +kernel)
theorem dX4_write_47 : decode cX4_write 47 = .ok (.aload_n 2, 1) := dk_o44 (by decide +kernel)
theorem dX4_write_48 : decode cX4_write 48 = .ok (.getfield 35, 3) := dk_o180 (by decide +kernel)
theorem dX4_write_51 : decode cX4_write 51 = .ok (.bipush 8, 2) := dk_o16 (by decide +kernel)
theorem dX4_write_53 : decode cX4_write 53 = .ok (.ishr, 1) := dk_o122 (by decide +kernel)
theorem dX4_write_54 : decode cX4_write 54 = .ok (.sipush 255, 3) := dk_o17 (by decide +kernel)
theorem dX4_write_57 : decode cX4_write 57 = .ok (.iand, 1) := dk_o126 (by decide +kernel)
theorem dX4_write_58 : decode cX4_write 58 = .ok (.invokevirtual 31, 3) := dk_o182 (by decide +kernel)
theorem dX4_write_61 : decode cX4_write 61 = .ok (.aload_n 0, 1) := dk_o42 (by decide +kernel)
theorem dX4_write_62 : decode cX4_write 62 = .ok (.aload_n 2, 1) := dk_o44 (by decide +kernel)
theorem dX4_write_63 : decode cX4_write 63 = .ok (.getfield 35, 3) := dk_o180 (by decide +kernel)
theorem dX4_write_66 : decode cX4_write 66 = .ok (.sipush 255, 3) := dk_o17 (by decide +kernel)
theorem dX4_write_69 : decode cX4_write 69 = .ok (.iand, 1) := dk_o126 (by decide +kernel)
theorem dX4_write_70 : decode cX4_write 70 = .ok (.invokevirtual 31, 3) := dk_o182 (by decide +kernel)
theorem dX4_write_73 : decode cX4_write 73 = .ok (.iconst 0, 1) := dk_o3 (by decide +kernel)
theorem dX4_write_74 : decode cX4_write 74 = .ok (.istore_n 3, 1) := dk_o62 (by decide +kernel)
theorem dX4_write_75 : decode cX4_write 75 = .ok (.iload_n 3, 1) := dk_o29 (by decide +kernel)
theorem dX4_write_76 : decode cX4_write 76 = .ok (.aload_n 1, 1) := dk_o43 (by decide +kernel)
theorem dX4_write_77 : decode cX4_write 77 = .ok (.getfield 38, 3) := dk_o180 (by decide +kernel)
theorem dX4_write_80 : decode cX4_write 80 = .ok (.if_icmp .ge 28, 3) := dk_o162 (by decide +kernel)
theorem dX4_write_83 : decode cX4_write 83 = .ok (.aload_n 0, 1) := dk_o42 (by decide +kernel)
theorem dX4_write_84 : decode cX4_write 84 = .ok (.aload_n 2, 1) := dk_o44 (by decide +kernel)
theorem dX4_write_85 : decode cX4_write 85 = .ok (.getfield 43, 3) := dk_o180 (by decide +kernel)
theorem dX4_write_88 : decode cX4_write 88 = .ok (.bipush 8, 2) := dk_o16 (by decide +kernel)
theorem dX4_write_90 : decode cX4_write 90 = .ok (.iload_n 3, 1) := dk_o29 (by decide +kernel)
theorem dX4_write_91 : decode cX4_write 91 = .ok (.imul, 1) := dk_o104 (by decide +kernel)
theorem dX4_write_92 : decode cX4_write 92 = .ok (.bipush 8, 2) := dk_o16 (by decide +kernel)
theorem dX4_write_94 : decode cX4_write 94 = .ok (.iadd, 1) := dk_o96 (by decide +kernel)
theorem dX4_write_95 : decode cX4_write 95 = .ok (.aload_n 1, 1) := dk_o43 (by decide +kernel)
theorem dX4_write_96 : decode cX4_write 96 = .ok (.getfield 46, 3) := dk_o180 (by decide +kernel)
theorem dX4_write_99 : decode cX4_write 99 = .ok (.invokevirtual 49, 3) := dk_o182 (by decide +kernel)
theorem dX4_write_102 : decode cX4_write 102 = .ok (.iinc 3 1, 3) := dk_o132 (by decide +kernel)
theorem dX4_write_105 : decode cX4_write 105 = .ok (.goto (-30), 3) := dk_o167 (by decide +kernel)
theorem dX4_write_108 : decode cX4_write 108 = .ok (.aload_n 0, 1) := dk_o42 (by decide +kernel)
theorem dX4_write_109 : decode cX4_write 109 = .ok (.aload_n 2, 1) := dk_o44 (by decide +kernel)
theorem dX4_write_110 : decode cX4_write 110 = .ok (.getfield 53, 3) := dk_o180 (by decide +kernel)
theorem dX4_write_113 : decode cX4_write 113 = .ok (.iconst 0, 1) := dk_o3 (by decide +kernel)
theorem dX4_write_114 : decode cX4_write 114 = .ok (.aload_n 1, 1) := dk_o43 (by decide +kernel)
theorem dX4_write_115 : decode cX4_write 115 = .ok (.getfield 56, 3) := dk_o180 (by decide +kernel)
theorem dX4_write_118 : decode cX4_write 118 = .ok (.invokevirtual 49, 3) := dk_o182 (by decide +kernel)
theorem dX4_write_121 : decode cX4_write 121 = .ok (.iconst 0, 1) := dk_o3 (by decide +kernel)
theorem dX4_write_122 : decode cX4_write 122 = .ok (.istore_n 3, 1) := dk_o62 (by decide +kernel)
theorem dX4_write_123 : decode cX4_write 123 = .ok (.iload_n 3, 1) := dk_o29 (by decide +kernel)
theorem dX4_write_124 : decode cX4_write 124 = .ok (.aload_n 1, 1) := dk_o43 (by decide +kernel)
theorem dX4_write_125 : decode cX4_write 125 = .ok (.getfield 59, 3) := dk_o180 (by decide +kernel)
theorem dX4_write_128 : decode cX4_write 128 = .ok (.if_icmp .ge 45, 3) := dk_o162 (by decide +kernel)
theorem dX4_write_131 : decode cX4_write 131 = .ok (.aload_n 0, 1) := dk_o42 (by decide +kernel)
theorem dX4_write_132 : decode cX4_write 132 = .ok (.aload_n 2, 1) := dk_o44 (by decide +kernel)
theorem dX4_write_133 : decode cX4_write 133 = .ok (.getfield 62, 3) := dk_o180 (by decide +kernel)
theorem dX4_write_136 : decode cX4_write 136 = .ok (.iload_n 3, 1) := dk_o29 (by decide +kernel)
theorem dX4_write_137 : decode cX4_write 137 = .ok (.iaload, 1) := dk_o46 (by decide +kernel)
theorem dX4_write_138 : decode cX4_write 138 = .ok (.invokevirtual 31, 3) := dk_o182 (by decide +kernel)
theorem dX4_write_141 : decode cX4_write 141 = .ok (.aload_n 0, 1) := dk_o42 (by decide +kernel)
theorem dX4_write_142 : decode cX4_write 142 = .ok (.aload_n 2, 1) := dk_o44 (by decide +kernel)
theorem dX4_write_143 : decode cX4_write 143 = .ok (.getfield 65, 3) := dk_o180 (by decide +kernel)
theorem dX4_write_146 : decode cX4_write 146 = .ok (.iload_n 3, 1) := dk_o29 (by decide +kernel)
theorem dX4_write_147 : decode cX4_write 147 = .ok (.iaload, 1) := dk_o46 (by decide +kernel)
theorem dX4_write_148 : decode cX4_write 148 = .ok (.invokestatic 68, 3) := dk_o184 (by decide +kernel)
theorem dX4_write_151 : decode cX4_write 151 = .ok (.invokevirtual 31, 3) := dk_o182 (by decide +kernel)
theorem dX4_write_154 : decode cX4_write 154 = .ok (.aload_n 0, 1) := dk_o42 (by decide +kernel)
theorem dX4_write_155 : decode cX4_write 155 = .ok (.aload_n 2, 1) := dk_o44 (by decide +kernel)
theorem dX4_write_156 : decode cX4_write 156 = .ok (.getfield 65, 3) := dk_o180 (by decide +kernel)
theorem dX4_write_159 : decode cX4_write 159 = .ok (.iload_n 3, 1) := dk_o29 (by decide +kernel)
theorem dX4_write_160 : decode cX4_write 160 = .ok (.iaload, 1) := dk_o46 (by decide +kernel)
theorem dX4_write_161 : decode cX4_write 161 = .ok (.invokestatic 72, 3) := dk_o184 (by decide +kernel)
theorem dX4_write_164 : decode cX4_write 164 = .ok (.invokevirtual 31, 3) := dk_o182 (by decide +kernel)
theorem dX4_write_167 : decode cX4_write 167 = .ok (.iinc 3 1, 3) := dk_o132 (by decide +kernel)
theorem dX4_write_170 : decode cX4_write 170 = .ok (.goto (-47), 3) := dk_o167 (by decide +kernel)
theorem dX4_write_173 : decode cX4_write 173 = .ok (.aload_n 0, 1) := dk_o42 (by decide +kernel)
theorem dX4_write_174 : decode cX4_write 174 = .ok (.aload_n 2, 1) := dk_o44 (by decide +kernel)
theorem dX4_write_175 : decode cX4_write 175 = .ok (.getfield 75, 3) := dk_o180 (by decide +kernel)
theorem dX4_write_178 : decode cX4_write 178 = .ok (.iconst 0, 1) := dk_o3 (by decide +kernel)
theorem dX4_write_179 : decode cX4_write 179 = .ok (.aload_n 1, 1) := dk_o43 (by decide +kernel)
theorem dX4_write_180 : decode cX4_write 180 = .ok (.getfield 78, 3) := dk_o180 (by decide +kernel)
theorem dX4_write_183 : decode cX4_write 183 = .ok (.invokevirtual 49, 3) := dk_o182 (by decide +kernel)
theorem dX4_write_186 : decode cX4_write 186 = .ok (.aload_n 0, 1) := dk_o42 (by decide +kernel)
theorem dX4_write_187 : decode cX4_write 187 = .ok (.aload_n 2, 1) := dk_o44 (by decide +kernel)
theorem dX4_write_188 : decode cX4_write 188 = .ok (.getfield 81, 3) := dk_o180 (by decide +kernel)
theorem dX4_write_191 : decode cX4_write 191 = .ok (.iconst 0, 1) := dk_o3 (by decide +kernel)
theorem dX4_write_192 : decode cX4_write 192 = .ok (.bipush 10, 2) := dk_o16 (by decide +kernel)
theorem dX4_write_194 : decode cX4_write 194 = .ok (.invokevirtual 49, 3) := dk_o182 (by decide +kernel)
theorem dX4_write_197 : decode cX4_write 197 = .ok (.aload_n 0, 1) := dk_o42 (by decide +kernel)
theorem dX4_write_198 : decode cX4_write 198 = .ok (.aload_n 0, 1) := dk_o42 (by decide +kernel)
theorem dX4_write_199 : decode cX4_write 199 = .ok (.getfield 23, 3) := dk_o180 (by decide +kernel)
theorem dX4_write_202 : decode cX4_write 202 = .ok (.invokevirtual 31, 3) := dk_o182 (by decide +kernel)
theorem dX4_write_205 : decode cX4_write 205 = .ok (.return_, 1) := dk_o177 (by decide +kernel)
theorem dX4_putAll_0 : decode cX4_putAll 0 = .ok (.iconst 0, 1) := dk_o3 (by decide +kernel)
theorem dX4_putAll_1 : decode cX4_putAll 1 = .ok (.istore 4, 2) := dk_o54 (by decide +kernel)
theorem dX4_putAll_3 : decode cX4_putAll 3 = .ok (.iload 4, 2) := dk_o21 (by decide +kernel)
theorem dX4_putAll_5 : decode cX4_putAll 5 = .ok (.iload_n 3, 1) := dk_o29 (by decide +kernel)
theorem dX4_putAll_6 : decode cX4_putAll 6 = .ok (.if_icmp .ge 19, 3) := dk_o162 (by decide +kernel)
theorem dX4_putAll_9 : decode cX4_putAll 9 = .ok (.aload_n 0, 1) := dk_o42 (by decide +kernel)
theorem dX4_putAll_10 : decode cX4_putAll 10 = .ok (.aload_n 1, 1) := dk_o43 (by decide +kernel)
theorem dX4_putAll_11 : decode cX4_putAll 11 = .ok (.iload_n 2, 1) := dk_o28 (by decide +kernel)
theorem dX4_putAll_12 : decode cX4_putAll 12 = .ok (.iload 4, 2) := dk_o21 (by decide +kernel)
theorem dX4_putAll_14 : decode cX4_putAll 14 = .ok (.iadd, 1) := dk_o96 (by decide +kernel)
theorem dX4_putAll_15 : decode cX4_putAll 15 = .ok (.iaload, 1) := dk_o46 (by decide +kernel)
theorem dX4_putAll_16 : decode cX4_putAll 16 = .ok (.invokevirtual 31, 3) := dk_o182 (by decide +kernel)
theorem dX4_putAll_19 : decode cX4_putAll 19 = .ok (.iinc 4 1, 3) := dk_o132 (by decide +kernel)
theorem dX4_putAll_22 : decode cX4_putAll 22 = .ok (.goto (-19), 3) := dk_o167 (by decide +kernel)
theorem dX4_putAll_25 : decode cX4_putAll 25 = .ok (.return_, 1) := dk_o177 (by decide +kernel)
theorem dX4_put_0 : decode cX4_put 0 = .ok (.aload_n 0, 1) := dk_o42 (by decide +kernel)
theorem dX4_put_1 : decode cX4_put 1 = .ok (.getfield 19, 3) := dk_o180 (by decide +kernel)
theorem dX4_put_4 : decode cX4_put 4 = .ok (.bipush 124, 2) := dk_o16 (by decide +kernel)
theorem dX4_put_6 : decode cX4_put 6 = .ok (.if_icmp .ge 39, 3) := dk_o162 (by decide +kernel)
theorem dX4_put_9 : decode cX4_put 9 = .ok (.aload_n 0, 1) := dk_o42 (by decide +kernel)
theorem dX4_put_10 : decode cX4_put 10 = .ok (.getfield 9, 3) := dk_o180 (by decide +kernel)
theorem dX4_put_13 : decode cX4_put 13 = .ok (.aload_n 0, 1) := dk_o42 (by decide +kernel)
theorem dX4_put_14 : decode cX4_put 14 = .ok (.getfield 19, 3) := dk_o180 (by decide +kernel)
theorem dX4_put_17 : decode cX4_put 17 = .ok (.iload_n 1, 1) := dk_o27 (by decide +kernel)
theorem dX4_put_18 : decode cX4_put 18 = .ok (.iastore, 1) := dk_o79 (by decide +kernel)
theorem dX4_put_19 : decode cX4_put 19 = .ok (.aload_n 0, 1) := dk_o42 (by decide +kernel)
theorem dX4_put_20 : decode cX4_put 20 = .ok (.dup, 1) := dk_o89 (by decide +kernel)
theorem dX4_put_21 : decode cX4_put 21 = .ok (.getfield 19, 3) := dk_o180 (by decide +kernel)
theorem dX4_put_24 : decode cX4_put 24 = .ok (.iconst 1, 1) := dk_o4 (by decide +kernel)
theorem dX4_put_25 : decode cX4_put 25 = .ok (.iadd, 1) := dk_o96 (by decide +kernel)
theorem dX4_put_26 : decode cX4_put 26 = .ok (.putfield 19, 3) := dk_o181 (by decide +kernel)
theorem dX4_put_29 : decode cX4_put 29 = .ok (.aload_n 0, 1) := dk_o42 (by decide +kernel)
theorem dX4_put_30 : decode cX4_put 30 = .ok (.iconst 5, 1) := dk_o8 (by decide +kernel)
theorem dX4_put_31 : decode cX4_put 31 = .ok (.aload_n 0, 1) := dk_o42 (by decide +kernel)
theorem dX4_put_32 : decode cX4_put 32 = .ok (.getfield 23, 3) := dk_o180 (by decide +kernel)
theorem dX4_put_35 : decode cX4_put 35 = .ok (.imul, 1) := dk_o104 (by decide +kernel)
theorem dX4_put_36 : decode cX4_put 36 = .ok (.iload_n 1, 1) := dk_o27 (by decide +kernel)
theorem dX4_put_37 : decode cX4_put 37 = .ok (.iadd, 1) := dk_o96 (by decide +kernel)
theorem dX4_put_38 : decode cX4_put 38 = .ok (.sipush 251, 3) := dk_o17 (by decide +kernel)
theorem dX4_put_41 : decode cX4_put 41 = .ok (.irem, 1) := dk_o112 (by decide +kernel)
theorem dX4_put_42 : decode cX4_put 42 = .ok (.putfield 23, 3) := dk_o181 (by decide +kernel)
theorem dX4_put_45 : decode cX4_put 45 = .ok (.return_, 1) := dk_o177 (by decide +kernel)
theorem dX4_tellsPit_0 : decode cX4_tellsPit 0 = .ok (.aload_n 0, 1) := dk_o42 (by decide +kernel)
theorem dX4_tellsPit_1 : decode cX4_tellsPit 1 = .ok (.iconst 0, 1) := dk_o3 (by decide +kernel)
theorem dX4_tellsPit_2 : decode cX4_tellsPit 2 = .ok (.putfield 84, 3) := dk_o181 (by decide +kernel)
theorem dX4_tellsPit_5 : decode cX4_tellsPit 5 = .ok (.aload_n 0, 1) := dk_o42 (by decide +kernel)
theorem dX4_tellsPit_6 : decode cX4_tellsPit 6 = .ok (.sipush 233, 3) := dk_o17 (by decide +kernel)
theorem dX4_tellsPit_9 : decode cX4_tellsPit 9 = .ok (.putfield 23, 3) := dk_o181 (by decide +kernel)
theorem dX4_tellsPit_12 : decode cX4_tellsPit 12 = .ok (.aload_n 0, 1) := dk_o42 (by decide +kernel)
theorem dX4_tellsPit_13 : decode cX4_tellsPit 13 = .ok (.iconst 1, 1) := dk_o4 (by decide +kernel)
theorem dX4_tellsPit_14 : decode cX4_tellsPit 14 = .ok (.putfield 87, 3) := dk_o181 (by decide +kernel)
theorem dX4_tellsPit_17 : decode cX4_tellsPit 17 = .ok (.aload_n 2, 1) := dk_o44 (by decide +kernel)
theorem dX4_tellsPit_18 : decode cX4_tellsPit 18 = .ok (.aload_n 1, 1) := dk_o43 (by decide +kernel)
theorem dX4_tellsPit_19 : decode cX4_tellsPit 19 = .ok (.invokevirtual 91, 3) := dk_o182 (by decide +kernel)
theorem dX4_tellsPit_22 : decode cX4_tellsPit 22 = .ok (.aload_n 2, 1) := dk_o44 (by decide +kernel)
theorem dX4_tellsPit_23 : decode cX4_tellsPit 23 = .ok (.aload_n 0, 1) := dk_o42 (by decide +kernel)
theorem dX4_tellsPit_24 : decode cX4_tellsPit 24 = .ok (.sipush 255, 3) := dk_o17 (by decide +kernel)
theorem dX4_tellsPit_27 : decode cX4_tellsPit 27 = .ok (.invokevirtual 95, 3) := dk_o182 (by decide +kernel)
theorem dX4_tellsPit_30 : decode cX4_tellsPit 30 = .ok (.bipush 8, 2) := dk_o16 (by decide +kernel)
theorem dX4_tellsPit_32 : decode cX4_tellsPit 32 = .ok (.ishl, 1) := dk_o120 (by decide +kernel)
theorem dX4_tellsPit_33 : decode cX4_tellsPit 33 = .ok (.putfield 26, 3) := dk_o181 (by decide +kernel)
theorem dX4_tellsPit_36 : decode cX4_tellsPit 36 = .ok (.aload_n 2, 1) := dk_o44 (by decide +kernel)
theorem dX4_tellsPit_37 : decode cX4_tellsPit 37 = .ok (.dup, 1) := dk_o89 (by decide +kernel)
theorem dX4_tellsPit_38 : decode cX4_tellsPit 38 = .ok (.getfield 26, 3) := dk_o180 (by decide +kernel)
theorem dX4_tellsPit_41 : decode cX4_tellsPit 41 = .ok (.aload_n 0, 1) := dk_o42 (by decide +kernel)
theorem dX4_tellsPit_42 : decode cX4_tellsPit 42 = .ok (.sipush 255, 3) := dk_o17 (by decide +kernel)
theorem dX4_tellsPit_45 : decode cX4_tellsPit 45 = .ok (.invokevirtual 95, 3) := dk_o182 (by decide +kernel)
theorem dX4_tellsPit_48 : decode cX4_tellsPit 48 = .ok (.iadd, 1) := dk_o96 (by decide +kernel)
theorem dX4_tellsPit_49 : decode cX4_tellsPit 49 = .ok (.putfield 26, 3) := dk_o181 (by decide +kernel)
theorem dX4_tellsPit_52 : decode cX4_tellsPit 52 = .ok (.aload_n 2, 1) := dk_o44 (by decide +kernel)
theorem dX4_tellsPit_53 : decode cX4_tellsPit 53 = .ok (.aload_n 0, 1) := dk_o42 (by decide +kernel)
theorem dX4_tellsPit_54 : decode cX4_tellsPit 54 = .ok (.sipush 255, 3) := dk_o17 (by decide +kernel)
theorem dX4_tellsPit_57 : decode cX4_tellsPit 57 = .ok (.invokevirtual 95, 3) := dk_o182 (by decide +kernel)
theorem dX4_tellsPit_60 : decode cX4_tellsPit 60 = .ok (.bipush 16, 2) := dk_o16 (by decide +kernel)
theorem dX4_tellsPit_62 : decode cX4_tellsPit 62 = .ok (.ishl, 1) := dk_o120 (by decide +kernel)
theorem dX4_tellsPit_63 : decode cX4_tellsPit 63 = .ok (.putfield 35, 3) := dk_o181 (by decide +kernel)
theorem dX4_tellsPit_66 : decode cX4_tellsPit 66 = .ok (.aload_n 2, 1) := dk_o44 (by decide +kernel)
theorem dX4_tellsPit_67 : decode cX4_tellsPit 67 = .ok (.dup, 1) := dk_o89 (by decide +kernel)
theorem dX4_tellsPit_68 : decode cX4_tellsPit 68 = .ok (.getfield 35, 3) := dk_o180 (by decide +kernel)
theorem dX4_tellsPit_71 : decode cX4_tellsPit 71 = .ok (.aload_n 0, 1) := dk_o42 (by decide +kernel)
theorem dX4_tellsPit_72 : decode cX4_tellsPit 72 = .ok (.sipush 255, 3) := dk_o17 (by decide +kernel)
theorem dX4_tellsPit_75 : decode cX4_tellsPit 75 = .ok (.invokevirtual 95, 3) := dk_o182 (by decide +kernel)
theorem dX4_tellsPit_78 : decode cX4_tellsPit 78 = .ok (.bipush 8, 2) := dk_o16 (by decide +kernel)
theorem dX4_tellsPit_80 : decode cX4_tellsPit 80 = .ok (.ishl, 1) := dk_o120 (by decide +kernel)
theorem dX4_tellsPit_81 : decode cX4_tellsPit 81 = .ok (.iadd, 1) := dk_o96 (by decide +kernel)
theorem dX4_tellsPit_82 : decode cX4_tellsPit 82 = .ok (.putfield 35, 3) := dk_o181 (by decide +kernel)
theorem dX4_tellsPit_85 : decode cX4_tellsPit 85 = .ok (.aload_n 2, 1) := dk_o44 (by decide +kernel)
theorem dX4_tellsPit_86 : decode cX4_tellsPit 86 = .ok (.dup, 1) := dk_o89 (by decide +kernel)
theorem dX4_tellsPit_87 : decode cX4_tellsPit 87 = .ok (.getfield 35, 3) := dk_o180 (by decide +kernel)
theorem dX4_tellsPit_90 : decode cX4_tellsPit 90 = .ok (.aload_n 0, 1) := dk_o42 (by decide +kernel)
theorem dX4_tellsPit_91 : decode cX4_tellsPit 91 = .ok (.sipush 255, 3) := dk_o17 (by decide +kernel)
theorem dX4_tellsPit_94 : decode cX4_tellsPit 94 = .ok (.invokevirtual 95, 3) := dk_o182 (by decide +kernel)
theorem dX4_tellsPit_97 : decode cX4_tellsPit 97 = .ok (.iadd, 1) := dk_o96 (by decide +kernel)
theorem dX4_tellsPit_98 : decode cX4_tellsPit 98 = .ok (.putfield 35, 3) := dk_o181 (by decide +kernel)
theorem dX4_tellsPit_101 : decode cX4_tellsPit 101 = .ok (.aload_n 0, 1) := dk_o42 (by decide +kernel)
theorem dX4_tellsPit_102 : decode cX4_tellsPit 102 = .ok (.aload_n 1, 1) := dk_o43 (by decide +kernel)
theorem dX4_tellsPit_103 : decode cX4_tellsPit 103 = .ok (.aload_n 2, 1) := dk_o44 (by decide +kernel)
theorem dX4_tellsPit_104 : decode cX4_tellsPit 104 = .ok (.invokevirtual 98, 3) := dk_o182 (by decide +kernel)
theorem dX4_tellsPit_107 : decode cX4_tellsPit 107 = .ok (.aload_n 0, 1) := dk_o42 (by decide +kernel)
theorem dX4_tellsPit_108 : decode cX4_tellsPit 108 = .ok (.aload_n 2, 1) := dk_o44 (by decide +kernel)
theorem dX4_tellsPit_109 : decode cX4_tellsPit 109 = .ok (.getfield 53, 3) := dk_o180 (by decide +kernel)
theorem dX4_tellsPit_112 : decode cX4_tellsPit 112 = .ok (.aload_n 1, 1) := dk_o43 (by decide +kernel)
theorem dX4_tellsPit_113 : decode cX4_tellsPit 113 = .ok (.getfield 56, 3) := dk_o180 (by decide +kernel)
theorem dX4_tellsPit_116 : decode cX4_tellsPit 116 = .ok (.iconst 1, 1) := dk_o4 (by decide +kernel)
theorem dX4_tellsPit_117 : decode cX4_tellsPit 117 = .ok (.invokevirtual 102, 3) := dk_o182 (by decide +kernel)
theorem dX4_tellsPit_120 : decode cX4_tellsPit 120 = .ok (.aload_n 0, 1) := dk_o42 (by decide +kernel)
theorem dX4_tellsPit_121 : decode cX4_tellsPit 121 = .ok (.aload_n 1, 1) := dk_o43 (by decide +kernel)
theorem dX4_tellsPit_122 : decode cX4_tellsPit 122 = .ok (.aload_n 2, 1) := dk_o44 (by decide +kernel)
theorem dX4_tellsPit_123 : decode cX4_tellsPit 123 = .ok (.invokevirtual 105, 3) := dk_o182 (by decide +kernel)
theorem dX4_tellsPit_126 : decode cX4_tellsPit 126 = .ok (.aload_n 0, 1) := dk_o42 (by decide +kernel)
theorem dX4_tellsPit_127 : decode cX4_tellsPit 127 = .ok (.aload_n 2, 1) := dk_o44 (by decide +kernel)
theorem dX4_tellsPit_128 : decode cX4_tellsPit 128 = .ok (.getfield 75, 3) := dk_o180 (by decide +kernel)
theorem dX4_tellsPit_131 : decode cX4_tellsPit 131 = .ok (.aload_n 1, 1) := dk_o43 (by decide +kernel)
theorem dX4_tellsPit_132 : decode cX4_tellsPit 132 = .ok (.getfield 78, 3) := dk_o180 (by decide +kernel)
theorem dX4_tellsPit_135 : decode cX4_tellsPit 135 = .ok (.iconst 1, 1) := dk_o4 (by decide +kernel)
theorem dX4_tellsPit_136 : decode cX4_tellsPit 136 = .ok (.invokevirtual 102, 3) := dk_o182 (by decide +kernel)
theorem dX4_tellsPit_139 : decode cX4_tellsPit 139 = .ok (.aload_n 0, 1) := dk_o42 (by decide +kernel)
theorem dX4_tellsPit_140 : decode cX4_tellsPit 140 = .ok (.aload_n 2, 1) := dk_o44 (by decide +kernel)
theorem dX4_tellsPit_141 : decode cX4_tellsPit 141 = .ok (.getfield 81, 3) := dk_o180 (by decide +kernel)
theorem dX4_tellsPit_144 : decode cX4_tellsPit 144 = .ok (.bipush 10, 2) := dk_o16 (by decide +kernel)
theorem dX4_tellsPit_146 : decode cX4_tellsPit 146 = .ok (.bipush 99, 2) := dk_o16 (by decide +kernel)
theorem dX4_tellsPit_148 : decode cX4_tellsPit 148 = .ok (.invokevirtual 102, 3) := dk_o182 (by decide +kernel)
theorem dX4_tellsPit_151 : decode cX4_tellsPit 151 = .ok (.aload_n 0, 1) := dk_o42 (by decide +kernel)
theorem dX4_tellsPit_152 : decode cX4_tellsPit 152 = .ok (.getfield 23, 3) := dk_o180 (by decide +kernel)
theorem dX4_tellsPit_155 : decode cX4_tellsPit 155 = .ok (.istore_n 3, 1) := dk_o62 (by decide +kernel)
theorem dX4_tellsPit_156 : decode cX4_tellsPit 156 = .ok (.aload_n 0, 1) := dk_o42 (by decide +kernel)
theorem dX4_tellsPit_157 : decode cX4_tellsPit 157 = .ok (.sipush 255, 3) := dk_o17 (by decide +kernel)
theorem dX4_tellsPit_160 : decode cX4_tellsPit 160 = .ok (.invokevirtual 95, 3) := dk_o182 (by decide +kernel)
theorem dX4_tellsPit_163 : decode cX4_tellsPit 163 = .ok (.iload_n 3, 1) := dk_o29 (by decide +kernel)
theorem dX4_tellsPit_164 : decode cX4_tellsPit 164 = .ok (.if_icmp .ne 47, 3) := dk_o160 (by decide +kernel)
theorem dX4_tellsPit_167 : decode cX4_tellsPit 167 = .ok (.aload_n 0, 1) := dk_o42 (by decide +kernel)
theorem dX4_tellsPit_168 : decode cX4_tellsPit 168 = .ok (.getfield 87, 3) := dk_o180 (by decide +kernel)
theorem dX4_tellsPit_171 : decode cX4_tellsPit 171 = .ok (.ifCond .eq 40, 3) := dk_o153 (by decide +kernel)
theorem dX4_tellsPit_174 : decode cX4_tellsPit 174 = .ok (.aload_n 0, 1) := dk_o42 (by decide +kernel)
theorem dX4_tellsPit_175 : decode cX4_tellsPit 175 = .ok (.getfield 84, 3) := dk_o180 (by decide +kernel)
theorem dX4_tellsPit_178 : decode cX4_tellsPit 178 = .ok (.aload_n 0, 1) := dk_o42 (by decide +kernel)
theorem dX4_tellsPit_179 : decode cX4_tellsPit 179 = .ok (.getfield 15, 3) := dk_o180 (by decide +kernel)
theorem dX4_tellsPit_182 : decode cX4_tellsPit 182 = .ok (.getfield 108, 3) := dk_o180 (by decide +kernel)
theorem dX4_tellsPit_185 : decode cX4_tellsPit 185 = .ok (.if_icmp .ne 26, 3) := dk_o160 (by decide +kernel)
theorem dX4_tellsPit_188 : decode cX4_tellsPit 188 = .ok (.aload_n 2, 1) := dk_o44 (by decide +kernel)
theorem dX4_tellsPit_189 : decode cX4_tellsPit 189 = .ok (.getfield 26, 3) := dk_o180 (by decide +kernel)
theorem dX4_tellsPit_192 : decode cX4_tellsPit 192 = .ok (.sipush 999, 3) := dk_o17 (by decide +kernel)
theorem dX4_tellsPit_195 : decode cX4_tellsPit 195 = .ok (.if_icmp .gt 16, 3) := dk_o163 (by decide +kernel)
theorem dX4_tellsPit_198 : decode cX4_tellsPit 198 = .ok (.aload_n 2, 1) := dk_o44 (by decide +kernel)
theorem dX4_tellsPit_199 : decode cX4_tellsPit 199 = .ok (.getfield 35, 3) := dk_o180 (by decide +kernel)
theorem dX4_tellsPit_202 : decode cX4_tellsPit 202 = .ok (.ldc 111, 2) := dk_o18 (by decide +kernel)
theorem dX4_tellsPit_204 : decode cX4_tellsPit 204 = .ok (.if_icmp .gt 7, 3) := dk_o163 (by decide +kernel)
theorem dX4_tellsPit_207 : decode cX4_tellsPit 207 = .ok (.iconst 1, 1) := dk_o4 (by decide +kernel)
theorem dX4_tellsPit_208 : decode cX4_tellsPit 208 = .ok (.goto 4, 3) := dk_o167 (by decide +kernel)
theorem dX4_tellsPit_211 : decode cX4_tellsPit 211 = .ok (.iconst 0, 1) := dk_o3 (by decide +kernel)
theorem dX4_tellsPit_212 : decode cX4_tellsPit 212 = .ok (.ireturn, 1) := dk_o172 (by decide +kernel)
theorem dX4_takeCells_0 : decode cX4_takeCells 0 = .ok (.bipush 8, 2) := dk_o16 (by decide +kernel)
theorem dX4_takeCells_2 : decode cX4_takeCells 2 = .ok (.istore_n 3, 1) := dk_o62 (by decide +kernel)
theorem dX4_takeCells_3 : decode cX4_takeCells 3 = .ok (.iload_n 3, 1) := dk_o29 (by decide +kernel)
theorem dX4_takeCells_4 : decode cX4_takeCells 4 = .ok (.aload_n 1, 1) := dk_o43 (by decide +kernel)
theorem dX4_takeCells_5 : decode cX4_takeCells 5 = .ok (.invokevirtual 112, 3) := dk_o182 (by decide +kernel)
theorem dX4_takeCells_8 : decode cX4_takeCells 8 = .ok (.if_icmp .ge 106, 3) := dk_o162 (by decide +kernel)
theorem dX4_takeCells_11 : decode cX4_takeCells 11 = .ok (.aload_n 2, 1) := dk_o44 (by decide +kernel)
theorem dX4_takeCells_12 : decode cX4_takeCells 12 = .ok (.getfield 43, 3) := dk_o180 (by decide +kernel)
theorem dX4_takeCells_15 : decode cX4_takeCells 15 = .ok (.iload_n 3, 1) := dk_o29 (by decide +kernel)
theorem dX4_takeCells_16 : decode cX4_takeCells 16 = .ok (.iaload, 1) := dk_o46 (by decide +kernel)
theorem dX4_takeCells_17 : decode cX4_takeCells 17 = .ok (.bipush 100, 2) := dk_o16 (by decide +kernel)
theorem dX4_takeCells_19 : decode cX4_takeCells 19 = .ok (.if_icmp .ne 6, 3) := dk_o160 (by decide +kernel)
theorem dX4_takeCells_22 : decode cX4_takeCells 22 = .ok (.goto 86, 3) := dk_o167 (by decide +kernel)
theorem dX4_takeCells_25 : decode cX4_takeCells 25 = .ok (.aload_n 0, 1) := dk_o42 (by decide +kernel)
theorem dX4_takeCells_26 : decode cX4_takeCells 26 = .ok (.sipush 255, 3) := dk_o17 (by decide +kernel)
theorem dX4_takeCells_29 : decode cX4_takeCells 29 = .ok (.invokevirtual 95, 3) := dk_o182 (by decide +kernel)
theorem dX4_takeCells_32 : decode cX4_takeCells 32 = .ok (.istore 4, 2) := dk_o54 (by decide +kernel)
theorem dX4_takeCells_34 : decode cX4_takeCells 34 = .ok (.iload_n 3, 1) := dk_o29 (by decide +kernel)
theorem dX4_takeCells_35 : decode cX4_takeCells 35 = .ok (.aload_n 1, 1) := dk_o43 (by decide +kernel)
theorem dX4_takeCells_36 : decode cX4_takeCells 36 = .ok (.getfield 116, 3) := dk_o180 (by decide +kernel)
theorem dX4_takeCells_39 : decode cX4_takeCells 39 = .ok (.if_icmp .ne 30, 3) := dk_o160 (by decide +kernel)
theorem dX4_takeCells_42 : decode cX4_takeCells 42 = .ok (.aload_n 0, 1) := dk_o42 (by decide +kernel)
theorem dX4_takeCells_43 : decode cX4_takeCells 43 = .ok (.aload_n 0, 1) := dk_o42 (by decide +kernel)
theorem dX4_takeCells_44 : decode cX4_takeCells 44 = .ok (.getfield 87, 3) := dk_o180 (by decide +kernel)
theorem dX4_takeCells_47 : decode cX4_takeCells 47 = .ok (.ifCond .eq 15, 3) := dk_o153 (by decide +kernel)
theorem dX4_takeCells_50 : decode cX4_takeCells 50 = .ok (.iload 4, 2) := dk_o21 (by decide +kernel)
theorem dX4_takeCells_52 : decode cX4_takeCells 52 = .ok (.sipush 255, 3) := dk_o17 (by decide +kernel)
theorem dX4_takeCells_55 : decode cX4_takeCells 55 = .ok (.if_icmp .ne 7, 3) := dk_o160 (by decide +kernel)
theorem dX4_takeCells_58 : decode cX4_takeCells 58 = .ok (.iconst 1, 1) := dk_o4 (by decide +kernel)
theorem dX4_takeCells_59 : decode cX4_takeCells 59 = .ok (.goto 4, 3) := dk_o167 (by decide +kernel)
theorem dX4_takeCells_62 : decode cX4_takeCells 62 = .ok (.iconst 0, 1) := dk_o3 (by decide +kernel)
theorem dX4_takeCells_63 : decode cX4_takeCells 63 = .ok (.putfield 87, 3) := dk_o181 (by decide +kernel)
theorem dX4_takeCells_66 : decode cX4_takeCells 66 = .ok (.goto 34, 3) := dk_o167 (by decide +kernel)
theorem dX4_takeCells_69 : decode cX4_takeCells 69 = .ok (.aload_n 0, 1) := dk_o42 (by decide +kernel)
theorem dX4_takeCells_70 : decode cX4_takeCells 70 = .ok (.aload_n 0, 1) := dk_o42 (by decide +kernel)
theorem dX4_takeCells_71 : decode cX4_takeCells 71 = .ok (.getfield 87, 3) := dk_o180 (by decide +kernel)
theorem dX4_takeCells_74 : decode cX4_takeCells 74 = .ok (.ifCond .eq 22, 3) := dk_o153 (by decide +kernel)
theorem dX4_takeCells_77 : decode cX4_takeCells 77 = .ok (.iload 4, 2) := dk_o21 (by decide +kernel)
theorem dX4_takeCells_79 : decode cX4_takeCells 79 = .ok (.bipush 9, 2) := dk_o16 (by decide +kernel)
theorem dX4_takeCells_81 : decode cX4_takeCells 81 = .ok (.if_icmp .le 11, 3) := dk_o164 (by decide +kernel)
theorem dX4_takeCells_84 : decode cX4_takeCells 84 = .ok (.iload 4, 2) := dk_o21 (by decide +kernel)
theorem dX4_takeCells_86 : decode cX4_takeCells 86 = .ok (.sipush 254, 3) := dk_o17 (by decide +kernel)
theorem dX4_takeCells_89 : decode cX4_takeCells 89 = .ok (.if_icmp .lt 7, 3) := dk_o161 (by decide +kernel)
theorem dX4_takeCells_92 : decode cX4_takeCells 92 = .ok (.iconst 1, 1) := dk_o4 (by decide +kernel)
theorem dX4_takeCells_93 : decode cX4_takeCells 93 = .ok (.goto 4, 3) := dk_o167 (by decide +kernel)
theorem dX4_takeCells_96 : decode cX4_takeCells 96 = .ok (.iconst 0, 1) := dk_o3 (by decide +kernel)
theorem dX4_takeCells_97 : decode cX4_takeCells 97 = .ok (.putfield 87, 3) := dk_o181 (by decide +kernel)
theorem dX4_takeCells_100 : decode cX4_takeCells 100 = .ok (.aload_n 2, 1) := dk_o44 (by decide +kernel)
theorem dX4_takeCells_101 : decode cX4_takeCells 101 = .ok (.getfield 43, 3) := dk_o180 (by decide +kernel)
theorem dX4_takeCells_104 : decode cX4_takeCells 104 = .ok (.iload_n 3, 1) := dk_o29 (by decide +kernel)
theorem dX4_takeCells_105 : decode cX4_takeCells 105 = .ok (.iload 4, 2) := dk_o21 (by decide +kernel)
theorem dX4_takeCells_107 : decode cX4_takeCells 107 = .ok (.iastore, 1) := dk_o79 (by decide +kernel)
theorem dX4_takeCells_108 : decode cX4_takeCells 108 = .ok (.iinc 3 1, 3) := dk_o132 (by decide +kernel)
theorem dX4_takeCells_111 : decode cX4_takeCells 111 = .ok (.goto (-108), 3) := dk_o167 (by decide +kernel)
theorem dX4_takeCells_114 : decode cX4_takeCells 114 = .ok (.return_, 1) := dk_o177 (by decide +kernel)
theorem dX4_takePlan_0 : decode cX4_takePlan 0 = .ok (.iconst 0, 1) := dk_o3 (by decide +kernel)
theorem dX4_takePlan_1 : decode cX4_takePlan 1 = .ok (.istore_n 3, 1) := dk_o62 (by decide +kernel)
theorem dX4_takePlan_2 : decode cX4_takePlan 2 = .ok (.iload_n 3, 1) := dk_o29 (by decide +kernel)
theorem dX4_takePlan_3 : decode cX4_takePlan 3 = .ok (.aload_n 1, 1) := dk_o43 (by decide +kernel)
theorem dX4_takePlan_4 : decode cX4_takePlan 4 = .ok (.getfield 59, 3) := dk_o180 (by decide +kernel)
theorem dX4_takePlan_7 : decode cX4_takePlan 7 = .ok (.if_icmp .ge 59, 3) := dk_o162 (by decide +kernel)
theorem dX4_takePlan_10 : decode cX4_takePlan 10 = .ok (.aload_n 2, 1) := dk_o44 (by decide +kernel)
theorem dX4_takePlan_11 : decode cX4_takePlan 11 = .ok (.getfield 62, 3) := dk_o180 (by decide +kernel)
theorem dX4_takePlan_14 : decode cX4_takePlan 14 = .ok (.iload_n 3, 1) := dk_o29 (by decide +kernel)
theorem dX4_takePlan_15 : decode cX4_takePlan 15 = .ok (.aload_n 0, 1) := dk_o42 (by decide +kernel)
theorem dX4_takePlan_16 : decode cX4_takePlan 16 = .ok (.aload_n 1, 1) := dk_o43 (by decide +kernel)
theorem dX4_takePlan_17 : decode cX4_takePlan 17 = .ok (.getfield 56, 3) := dk_o180 (by decide +kernel)
theorem dX4_takePlan_20 : decode cX4_takePlan 20 = .ok (.iconst 1, 1) := dk_o4 (by decide +kernel)
theorem dX4_takePlan_21 : decode cX4_takePlan 21 = .ok (.isub, 1) := dk_o100 (by decide +kernel)
theorem dX4_takePlan_22 : decode cX4_takePlan 22 = .ok (.invokevirtual 95, 3) := dk_o182 (by decide +kernel)
theorem dX4_takePlan_25 : decode cX4_takePlan 25 = .ok (.iastore, 1) := dk_o79 (by decide +kernel)
theorem dX4_takePlan_26 : decode cX4_takePlan 26 = .ok (.aload_n 0, 1) := dk_o42 (by decide +kernel)
theorem dX4_takePlan_27 : decode cX4_takePlan 27 = .ok (.aload_n 1, 1) := dk_o43 (by decide +kernel)
theorem dX4_takePlan_28 : decode cX4_takePlan 28 = .ok (.getfield 46, 3) := dk_o180 (by decide +kernel)
theorem dX4_takePlan_31 : decode cX4_takePlan 31 = .ok (.iconst 1, 1) := dk_o4 (by decide +kernel)
theorem dX4_takePlan_32 : decode cX4_takePlan 32 = .ok (.isub, 1) := dk_o100 (by decide +kernel)
theorem dX4_takePlan_33 : decode cX4_takePlan 33 = .ok (.invokevirtual 95, 3) := dk_o182 (by decide +kernel)
theorem dX4_takePlan_36 : decode cX4_takePlan 36 = .ok (.istore 4, 2) := dk_o54 (by decide +kernel)
theorem dX4_takePlan_38 : decode cX4_takePlan 38 = .ok (.aload_n 2, 1) := dk_o44 (by decide +kernel)
theorem dX4_takePlan_39 : decode cX4_takePlan 39 = .ok (.getfield 65, 3) := dk_o180 (by decide +kernel)
theorem dX4_takePlan_42 : decode cX4_takePlan 42 = .ok (.iload_n 3, 1) := dk_o29 (by decide +kernel)
theorem dX4_takePlan_43 : decode cX4_takePlan 43 = .ok (.aload_n 1, 1) := dk_o43 (by decide +kernel)
theorem dX4_takePlan_44 : decode cX4_takePlan 44 = .ok (.iload 4, 2) := dk_o21 (by decide +kernel)
theorem dX4_takePlan_46 : decode cX4_takePlan 46 = .ok (.aload_n 0, 1) := dk_o42 (by decide +kernel)
theorem dX4_takePlan_47 : decode cX4_takePlan 47 = .ok (.aload_n 1, 1) := dk_o43 (by decide +kernel)
theorem dX4_takePlan_48 : decode cX4_takePlan 48 = .ok (.getfield 38, 3) := dk_o180 (by decide +kernel)
theorem dX4_takePlan_51 : decode cX4_takePlan 51 = .ok (.iconst 1, 1) := dk_o4 (by decide +kernel)
theorem dX4_takePlan_52 : decode cX4_takePlan 52 = .ok (.isub, 1) := dk_o100 (by decide +kernel)
theorem dX4_takePlan_53 : decode cX4_takePlan 53 = .ok (.invokevirtual 95, 3) := dk_o182 (by decide +kernel)
theorem dX4_takePlan_56 : decode cX4_takePlan 56 = .ok (.invokevirtual 119, 3) := dk_o182 (by decide +kernel)
theorem dX4_takePlan_59 : decode cX4_takePlan 59 = .ok (.iastore, 1) := dk_o79 (by decide +kernel)
theorem dX4_takePlan_60 : decode cX4_takePlan 60 = .ok (.iinc 3 1, 3) := dk_o132 (by decide +kernel)
theorem dX4_takePlan_63 : decode cX4_takePlan 63 = .ok (.goto (-61), 3) := dk_o167 (by decide +kernel)
theorem dX4_takePlan_66 : decode cX4_takePlan 66 = .ok (.return_, 1) := dk_o177 (by decide +kernel)
theorem dX4_takeAll_0 : decode cX4_takeAll 0 = .ok (.iconst 0, 1) := dk_o3 (by decide +kernel)
theorem dX4_takeAll_1 : decode cX4_takeAll 1 = .ok (.istore 4, 2) := dk_o54 (by decide +kernel)
theorem dX4_takeAll_3 : decode cX4_takeAll 3 = .ok (.iload 4, 2) := dk_o21 (by decide +kernel)
theorem dX4_takeAll_5 : decode cX4_takeAll 5 = .ok (.iload_n 2, 1) := dk_o28 (by decide +kernel)
theorem dX4_takeAll_6 : decode cX4_takeAll 6 = .ok (.if_icmp .ge 18, 3) := dk_o162 (by decide +kernel)
theorem dX4_takeAll_9 : decode cX4_takeAll 9 = .ok (.aload_n 1, 1) := dk_o43 (by decide +kernel)
theorem dX4_takeAll_10 : decode cX4_takeAll 10 = .ok (.iload 4, 2) := dk_o21 (by decide +kernel)
theorem dX4_takeAll_12 : decode cX4_takeAll 12 = .ok (.aload_n 0, 1) := dk_o42 (by decide +kernel)
theorem dX4_takeAll_13 : decode cX4_takeAll 13 = .ok (.iload_n 3, 1) := dk_o29 (by decide +kernel)
theorem dX4_takeAll_14 : decode cX4_takeAll 14 = .ok (.invokevirtual 95, 3) := dk_o182 (by decide +kernel)
theorem dX4_takeAll_17 : decode cX4_takeAll 17 = .ok (.iastore, 1) := dk_o79 (by decide +kernel)
theorem dX4_takeAll_18 : decode cX4_takeAll 18 = .ok (.iinc 4 1, 3) := dk_o132 (by decide +kernel)
theorem dX4_takeAll_21 : decode cX4_takeAll 21 = .ok (.goto (-18), 3) := dk_o167 (by decide +kernel)
theorem dX4_takeAll_24 : decode cX4_takeAll 24 = .ok (.return_, 1) := dk_o177 (by decide +kernel)
theorem dX4_next_0 : decode cX4_next 0 = .ok (.aload_n 0, 1) := dk_o42 (by decide +kernel)
theorem dX4_next_1 : decode cX4_next 1 = .ok (.getfield 84, 3) := dk_o180 (by decide +kernel)
theorem dX4_next_4 : decode cX4_next 4 = .ok (.aload_n 0, 1) := dk_o42 (by decide +kernel)
theorem dX4_next_5 : decode cX4_next 5 = .ok (.getfield 15, 3) := dk_o180 (by decide +kernel)
theorem dX4_next_8 : decode cX4_next 8 = .ok (.getfield 108, 3) := dk_o180 (by decide +kernel)
theorem dX4_next_11 : decode cX4_next 11 = .ok (.if_icmp .ge 19, 3) := dk_o162 (by decide +kernel)
theorem dX4_next_14 : decode cX4_next 14 = .ok (.aload_n 0, 1) := dk_o42 (by decide +kernel)
theorem dX4_next_15 : decode cX4_next 15 = .ok (.getfield 15, 3) := dk_o180 (by decide +kernel)
theorem dX4_next_18 : decode cX4_next 18 = .ok (.getfield 123, 3) := dk_o180 (by decide +kernel)
theorem dX4_next_21 : decode cX4_next 21 = .ok (.aload_n 0, 1) := dk_o42 (by decide +kernel)
theorem dX4_next_22 : decode cX4_next 22 = .ok (.getfield 84, 3) := dk_o180 (by decide +kernel)
theorem dX4_next_25 : decode cX4_next 25 = .ok (.iaload, 1) := dk_o46 (by decide +kernel)
theorem dX4_next_26 : decode cX4_next 26 = .ok (.iload_n 1, 1) := dk_o27 (by decide +kernel)
theorem dX4_next_27 : decode cX4_next 27 = .ok (.if_icmp .le 10, 3) := dk_o164 (by decide +kernel)
theorem dX4_next_30 : decode cX4_next 30 = .ok (.aload_n 0, 1) := dk_o42 (by decide +kernel)
theorem dX4_next_31 : decode cX4_next 31 = .ok (.iconst 0, 1) := dk_o3 (by decide +kernel)
theorem dX4_next_32 : decode cX4_next 32 = .ok (.putfield 87, 3) := dk_o181 (by decide +kernel)
theorem dX4_next_35 : decode cX4_next 35 = .ok (.iconst 0, 1) := dk_o3 (by decide +kernel)
theorem dX4_next_36 : decode cX4_next 36 = .ok (.ireturn, 1) := dk_o172 (by decide +kernel)
theorem dX4_next_37 : decode cX4_next 37 = .ok (.aload_n 0, 1) := dk_o42 (by decide +kernel)
theorem dX4_next_38 : decode cX4_next 38 = .ok (.getfield 15, 3) := dk_o180 (by decide +kernel)
theorem dX4_next_41 : decode cX4_next 41 = .ok (.getfield 123, 3) := dk_o180 (by decide +kernel)
theorem dX4_next_44 : decode cX4_next 44 = .ok (.aload_n 0, 1) := dk_o42 (by decide +kernel)
theorem dX4_next_45 : decode cX4_next 45 = .ok (.getfield 84, 3) := dk_o180 (by decide +kernel)
theorem dX4_next_48 : decode cX4_next 48 = .ok (.iaload, 1) := dk_o46 (by decide +kernel)
theorem dX4_next_49 : decode cX4_next 49 = .ok (.istore_n 2, 1) := dk_o61 (by decide +kernel)
theorem dX4_next_50 : decode cX4_next 50 = .ok (.aload_n 0, 1) := dk_o42 (by decide +kernel)
theorem dX4_next_51 : decode cX4_next 51 = .ok (.dup, 1) := dk_o89 (by decide +kernel)
theorem dX4_next_52 : decode cX4_next 52 = .ok (.getfield 84, 3) := dk_o180 (by decide +kernel)
theorem dX4_next_55 : decode cX4_next 55 = .ok (.iconst 1, 1) := dk_o4 (by decide +kernel)
theorem dX4_next_56 : decode cX4_next 56 = .ok (.iadd, 1) := dk_o96 (by decide +kernel)
theorem dX4_next_57 : decode cX4_next 57 = .ok (.putfield 84, 3) := dk_o181 (by decide +kernel)
theorem dX4_next_60 : decode cX4_next 60 = .ok (.aload_n 0, 1) := dk_o42 (by decide +kernel)
theorem dX4_next_61 : decode cX4_next 61 = .ok (.iconst 5, 1) := dk_o8 (by decide +kernel)
theorem dX4_next_62 : decode cX4_next 62 = .ok (.aload_n 0, 1) := dk_o42 (by decide +kernel)
theorem dX4_next_63 : decode cX4_next 63 = .ok (.getfield 23, 3) := dk_o180 (by decide +kernel)
theorem dX4_next_66 : decode cX4_next 66 = .ok (.imul, 1) := dk_o104 (by decide +kernel)
theorem dX4_next_67 : decode cX4_next 67 = .ok (.iload_n 2, 1) := dk_o28 (by decide +kernel)
theorem dX4_next_68 : decode cX4_next 68 = .ok (.iadd, 1) := dk_o96 (by decide +kernel)
theorem dX4_next_69 : decode cX4_next 69 = .ok (.sipush 251, 3) := dk_o17 (by decide +kernel)
theorem dX4_next_72 : decode cX4_next 72 = .ok (.irem, 1) := dk_o112 (by decide +kernel)
theorem dX4_next_73 : decode cX4_next 73 = .ok (.putfield 23, 3) := dk_o181 (by decide +kernel)
theorem dX4_next_76 : decode cX4_next 76 = .ok (.iload_n 2, 1) := dk_o28 (by decide +kernel)
theorem dX4_next_77 : decode cX4_next 77 = .ok (.ireturn, 1) := dk_o172 (by decide +kernel)
theorem wB_777 : Cond.fieldLink RX4 19 "DarkMine$Image" "length" "I" ∈ dgB := List.mem_filter.mpr ⟨tbl_1 _ (List.mem_of_getElem? (i := 150) (by decide +kernel)), by decide +kernel⟩
theorem wB_778 : Cond.fieldLink RX4 9 "DarkMine$Image" "bytes" "[I" ∈ dgB := List.mem_filter.mpr ⟨tbl_1 _ (List.mem_of_getElem? (i := 148) (by decide +kernel)), by decide +kernel⟩
theorem wB_779 : Cond.fieldLink RX4 23 "DarkMine$Image" "sum" "I" ∈ dgB := List.mem_filter.mpr ⟨tbl_1 _ (List.mem_of_getElem? (i := 153) (by decide +kernel)), by decide +kernel⟩
theorem wB_780 : Cond.code yX4_put cX4_put 2 none ∈ dgB := List.mem_filter.mpr ⟨tbl_6 _ (List.mem_of_getElem? (i := 113) rfl), rfl⟩
theorem wB_781 : Cond.methodLink RX4 31 yX4_put ∈ dgB := List.mem_filter.mpr ⟨tbl_6 _ (List.mem_of_getElem? (i := 110) (by decide +kernel)), by decide +kernel⟩
theorem wB_782 : Cond.instanceMethod yX4_put ∈ dgB := List.mem_filter.mpr ⟨tbl_6 _ (List.mem_of_getElem? (i := 112) (by decide +kernel)), by decide +kernel⟩
theorem wB_783 : Cond.selects RX4 yX4_put yX4_put ∈ dgB := List.mem_filter.mpr ⟨List.mem_of_getElem? (i := 75) (by decide +kernel), by decide +kernel⟩
theorem wB_784 : Cond.initialized RX4 ∈ dgB := List.mem_filter.mpr ⟨tbl_1 _ (List.mem_of_getElem? (i := 5) (by decide +kernel)), by decide +kernel⟩
theorem wB_785 : Cond.fieldLink RX4 26 "DarkMine$Pit" "shift" "I" ∈ dgB := List.mem_filter.mpr ⟨tbl_1 _ (List.mem_of_getElem? (i := 58) (by decide +kernel)), by decide +kernel⟩
theorem wB_786 : Cond.fieldLink RX4 35 "DarkMine$Pit" "purse" "I" ∈ dgB := List.mem_filter.mpr ⟨tbl_1 _ (List.mem_of_getElem? (i := 63) (by decide +kernel)), by decide +kernel⟩
theorem wB_787 : Cond.fieldLink RX4 38 "DarkMine$Ground" "rows" "I" ∈ dgB := List.mem_filter.mpr ⟨tbl_1 _ (List.mem_of_getElem? (i := 183) (by decide +kernel)), by decide +kernel⟩
theorem wB_788 : Cond.fieldLink RX4 43 "DarkMine$Pit" "cells" "[I" ∈ dgB := List.mem_filter.mpr ⟨tbl_1 _ (List.mem_of_getElem? (i := 66) (by decide +kernel)), by decide +kernel⟩
theorem wB_789 : Cond.fieldLink RX4 46 "DarkMine$Ground" "columns" "I" ∈ dgB := List.mem_filter.mpr ⟨tbl_1 _ (List.mem_of_getElem? (i := 177) (by decide +kernel)), by decide +kernel⟩
theorem wB_790 : Cond.code yX4_putAll cX4_putAll 5 none ∈ dgB := List.mem_filter.mpr ⟨tbl_6 _ (List.mem_of_getElem? (i := 117) rfl), rfl⟩
theorem wB_791 : Cond.methodLink RX4 49 yX4_putAll ∈ dgB := List.mem_filter.mpr ⟨tbl_6 _ (List.mem_of_getElem? (i := 114) (by decide +kernel)), by decide +kernel⟩
theorem wB_792 : Cond.instanceMethod yX4_putAll ∈ dgB := List.mem_filter.mpr ⟨tbl_6 _ (List.mem_of_getElem? (i := 116) (by decide +kernel)), by decide +kernel⟩
theorem wB_793 : Cond.selects RX4 yX4_putAll yX4_putAll ∈ dgB := List.mem_filter.mpr ⟨List.mem_of_getElem? (i := 76) (by decide +kernel), by decide +kernel⟩
theorem wB_794 : Cond.fieldLink RX4 53 "DarkMine$Pit" "hurts" "[I" ∈ dgB := List.mem_filter.mpr ⟨tbl_1 _ (List.mem_of_getElem? (i := 72) (by decide +kernel)), by decide +kernel⟩
theorem wB_795 : Cond.fieldLink RX4 56 "DarkMine$Ground" "miners" "I" ∈ dgB := List.mem_filter.mpr ⟨tbl_1 _ (List.mem_of_getElem? (i := 206) (by decide +kernel)), by decide +kernel⟩
theorem wB_796 : Cond.fieldLink RX4 59 "DarkMine$Ground" "planRows" "I" ∈ dgB := List.mem_filter.mpr ⟨tbl_1 _ (List.mem_of_getElem? (i := 213) (by decide +kernel)), by decide +kernel⟩
theorem wB_797 : Cond.fieldLink RX4 62 "DarkMine$Pit" "planMiners" "[I" ∈ dgB := List.mem_filter.mpr ⟨tbl_1 _ (List.mem_of_getElem? (i := 76) (by decide +kernel)), by decide +kernel⟩
theorem wB_798 : Cond.fieldLink RX4 65 "DarkMine$Pit" "planPlaces" "[I" ∈ dgB := List.mem_filter.mpr ⟨tbl_1 _ (List.mem_of_getElem? (i := 80) (by decide +kernel)), by decide +kernel⟩
theorem wB_799 : Cond.code yX11_columnOf cX11_columnOf 1 (some .int) ∈ dgB := List.mem_filter.mpr ⟨tbl_5 _ (List.mem_of_getElem? (i := 62) rfl), rfl⟩
theorem wB_800 : Cond.static yX11_columnOf ∈ dgB := List.mem_filter.mpr ⟨tbl_5 _ (List.mem_of_getElem? (i := 61) (by decide +kernel)), by decide +kernel⟩
theorem wB_801 : Cond.fieldLink RX4 75 "DarkMine$Pit" "sold" "[I" ∈ dgB := List.mem_filter.mpr ⟨tbl_1 _ (List.mem_of_getElem? (i := 84) (by decide +kernel)), by decide +kernel⟩
theorem wB_802 : Cond.fieldLink RX4 78 "DarkMine$Ground" "orders" "I" ∈ dgB := List.mem_filter.mpr ⟨tbl_1 _ (List.mem_of_getElem? (i := 225) (by decide +kernel)), by decide +kernel⟩
theorem wB_803 : Cond.fieldLink RX4 81 "DarkMine$Pit" "tubCounts" "[I" ∈ dgB := List.mem_filter.mpr ⟨tbl_1 _ (List.mem_of_getElem? (i := 87) (by decide +kernel)), by decide +kernel⟩
theorem wB_804 : Cond.fieldLink RX4 84 "DarkMine$Image" "at" "I" ∈ dgB := List.mem_filter.mpr ⟨tbl_1 _ (List.mem_of_getElem? (i := 154) (by decide +kernel)), by decide +kernel⟩
theorem wB_805 : Cond.fieldLink RX4 15 "DarkMine$Image" "tape" "LDarkMine$Tape;" ∈ dgB := List.mem_filter.mpr ⟨tbl_1 _ (List.mem_of_getElem? (i := 152) (by decide +kernel)), by decide +kernel⟩
theorem wB_806 : Cond.fieldLink RX4 108 "DarkMine$Tape" "length" "I" ∈ dgB := List.mem_filter.mpr ⟨tbl_1 _ (List.mem_of_getElem? (i := 44) (by decide +kernel)), by decide +kernel⟩
theorem wB_807 : Cond.fieldLink RX4 87 "DarkMine$Image" "fits" "Z" ∈ dgB := List.mem_filter.mpr ⟨tbl_1 _ (List.mem_of_getElem? (i := 155) (by decide +kernel)), by decide +kernel⟩
theorem wB_808 : Cond.fieldLink RX4 123 "DarkMine$Tape" "bytes" "[I" ∈ dgB := List.mem_filter.mpr ⟨tbl_1 _ (List.mem_of_getElem? (i := 39) (by decide +kernel)), by decide +kernel⟩
theorem wB_809 : Cond.methodLink RX4 112 yX2_endOfPlaces ∈ dgB := List.mem_filter.mpr ⟨tbl_6 _ (List.mem_of_getElem? (i := 141) (by decide +kernel)), by decide +kernel⟩
theorem wB_810 : Cond.code yX4_next cX4_next 3 (some .int) ∈ dgB := List.mem_filter.mpr ⟨tbl_6 _ (List.mem_of_getElem? (i := 136) rfl), rfl⟩
theorem wB_811 : Cond.methodLink RX4 95 yX4_next ∈ dgB := List.mem_filter.mpr ⟨tbl_6 _ (List.mem_of_getElem? (i := 133) (by decide +kernel)), by decide +kernel⟩
theorem wB_812 : Cond.instanceMethod yX4_next ∈ dgB := List.mem_filter.mpr ⟨tbl_6 _ (List.mem_of_getElem? (i := 135) (by decide +kernel)), by decide +kernel⟩
theorem wB_813 : Cond.selects RX4 yX4_next yX4_next ∈ dgB := List.mem_filter.mpr ⟨List.mem_of_getElem? (i := 77) (by decide +kernel), by decide +kernel⟩
theorem wB_814 : Cond.fieldLink RX4 116 "DarkMine$Ground" "shaftPlace" "I" ∈ dgB := List.mem_filter.mpr ⟨tbl_1 _ (List.mem_of_getElem? (i := 192) (by decide +kernel)), by decide +kernel⟩
theorem wB_815 : Cond.methodLink RX4 119 yX2_placeOf ∈ dgB := List.mem_filter.mpr ⟨tbl_6 _ (List.mem_of_getElem? (i := 150) (by decide +kernel)), by decide +kernel⟩
theorem wB_816 : Cond.code yX5_begin cX5_begin 4 none ∈ dgB := List.mem_filter.mpr ⟨tbl_3 _ (List.mem_of_getElem? (i := 37) rfl), rfl⟩
theorem wB_817 : Cond.methodLink RX4 91 yX5_begin ∈ dgB := List.mem_filter.mpr ⟨tbl_6 _ (List.mem_of_getElem? (i := 132) (by decide +kernel)), by decide +kernel⟩
theorem wB_818 : Cond.instanceMethod yX5_begin ∈ dgB := List.mem_filter.mpr ⟨tbl_3 _ (List.mem_of_getElem? (i := 35) (by decide +kernel)), by decide +kernel⟩
theorem wB_819 : Cond.selects RX5 yX5_begin yX5_begin ∈ dgB := List.mem_filter.mpr ⟨tbl_3 _ (List.mem_of_getElem? (i := 36) (by decide +kernel)), by decide +kernel⟩
theorem wB_820 : Cond.code yX4_takeCells cX4_takeCells 5 none ∈ dgB := List.mem_filter.mpr ⟨tbl_6 _ (List.mem_of_getElem? (i := 140) rfl), rfl⟩
theorem wB_821 : Cond.methodLink RX4 98 yX4_takeCells ∈ dgB := List.mem_filter.mpr ⟨tbl_6 _ (List.mem_of_getElem? (i := 137) (by decide +kernel)), by decide +kernel⟩
theorem wB_822 : Cond.instanceMethod yX4_takeCells ∈ dgB := List.mem_filter.mpr ⟨tbl_6 _ (List.mem_of_getElem? (i := 139) (by decide +kernel)), by decide +kernel⟩
theorem wB_823 : Cond.selects RX4 yX4_takeCells yX4_takeCells ∈ dgB := List.mem_filter.mpr ⟨List.mem_of_getElem? (i := 78) (by decide +kernel), by decide +kernel⟩
theorem wB_824 : Cond.code yX4_takeAll cX4_takeAll 5 none ∈ dgB := List.mem_filter.mpr ⟨tbl_6 _ (List.mem_of_getElem? (i := 145) rfl), rfl⟩
theorem wB_825 : Cond.methodLink RX4 102 yX4_takeAll ∈ dgB := List.mem_filter.mpr ⟨tbl_6 _ (List.mem_of_getElem? (i := 142) (by decide +kernel)), by decide +kernel⟩
theorem wB_826 : Cond.instanceMethod yX4_takeAll ∈ dgB := List.mem_filter.mpr ⟨tbl_6 _ (List.mem_of_getElem? (i := 144) (by decide +kernel)), by decide +kernel⟩
theorem wB_827 : Cond.selects RX4 yX4_takeAll yX4_takeAll ∈ dgB := List.mem_filter.mpr ⟨List.mem_of_getElem? (i := 79) (by decide +kernel), by decide +kernel⟩
theorem wB_828 : Cond.code yX4_takePlan cX4_takePlan 5 none ∈ dgB := List.mem_filter.mpr ⟨tbl_6 _ (List.mem_of_getElem? (i := 149) rfl), rfl⟩
theorem wB_829 : Cond.methodLink RX4 105 yX4_takePlan ∈ dgB := List.mem_filter.mpr ⟨tbl_6 _ (List.mem_of_getElem? (i := 146) (by decide +kernel)), by decide +kernel⟩
theorem wB_830 : Cond.instanceMethod yX4_takePlan ∈ dgB := List.mem_filter.mpr ⟨tbl_6 _ (List.mem_of_getElem? (i := 148) (by decide +kernel)), by decide +kernel⟩
theorem wB_831 : Cond.selects RX4 yX4_takePlan yX4_takePlan ∈ dgB := List.mem_filter.mpr ⟨List.mem_of_getElem? (i := 80) (by decide +kernel), by decide +kernel⟩
theorem wB_832 : Cond.constant RX4 111 (99999) ∈ dgB := List.mem_filter.mpr ⟨tbl_6 _ (List.mem_of_getElem? (i := 151) (by decide +kernel)), by decide +kernel⟩
noncomputable def F_i_put (o : Nat) (S : dg_S) (a1 : Int32) : dg_S := let x_1 : Int32 := zI S 182 1; (if (124 : Int32) ≤ x_1 then (S) else let S_4 : dg_S := dg_uf S 183 (upd (S.2.1 183) (x_1 : Int32).toNatClampNeg a1); let x_5 : Int32 := x_1 + (1 : Int32); let S_6 : dg_S := dg_uF S_4 182 1 (.int x_5); let x_7 : Int32 := zI S_6 182 3; let x_8 : Int32 := (5 : Int32) * x_7; let x_9 : Int32 := x_8 + a1; let x_10 : Int32 := x_9 - x_9 / (251 : Int32) * (251 : Int32); let S_11 : dg_S := dg_uF S_6 182 3 (.int x_10); (S_11))
theorem F_i_put_p0 {o : Nat} {S : dg_S} {a1 : Int32} {x_1 : Int32} (h0 : x_1 = zI S 182 1) (h1 : (124 : Int32) ≤ x_1) : F_i_put o S a1 = S := by
  replace h0 := Eq.symm h0
  subst h0
  exact (Eq.trans (if_pos h1) rfl)
theorem F_i_put_p1 {o : Nat} {S : dg_S} {a1 : Int32} {S_11 : dg_S} {x_1 : Int32} {S_4 : dg_S} {x_5 : Int32} {S_6 : dg_S} {x_7 : Int32} {x_8 : Int32} {x_9 : Int32} {x_10 : Int32} (h0 : x_1 = zI S 182 1) (h1 : ¬ ((124 : Int32) ≤ x_1)) (h2 : S_4 = dg_uf S 183 (upd (S.2.1 183) (x_1 : Int32).toNatClampNeg a1)) (h3 : x_5 = x_1 + (1 : Int32)) (h4 : S_6 = dg_uF S_4 182 1 (.int x_5)) (h5 : x_7 = zI S_6 182 3) (h6 : x_8 = (5 : Int32) * x_7) (h7 : x_9 = x_8 + a1) (h8 : x_10 = x_9 - x_9 / (251 : Int32) * (251 : Int32)) (h9 : S_11 = dg_uF S_6 182 3 (.int x_10)) : F_i_put o S a1 = S_11 := by
  replace h0 := Eq.symm h0
  subst h0
  replace h2 := Eq.symm h2
  subst h2
  replace h3 := Eq.symm h3
  subst h3
  replace h4 := Eq.symm h4
  subst h4
  replace h5 := Eq.symm h5
  subst h5
  replace h6 := Eq.symm h6
  subst h6
  replace h7 := Eq.symm h7
  subst h7
  replace h8 := Eq.symm h8
  subst h8
  replace h9 := Eq.symm h9
  subst h9
  exact (Eq.trans (if_neg h1) rfl)
set_option maxHeartbeats 8000000 in
set_option maxRecDepth 100000 in
theorem c_i_put (l : Launch) (g : Nat → ClassId) (D : va_G) (o : Nat) (S : dg_S) (a1 : Int32) (I : CX o S) (sz : Nat) : Met l yX4_put (bw yX4_put cX4_put 2 none) ({ frames := 1, cells := 0, slots := 0, locals := 32 } : Room) (dk_Pc g D (dg_w g shX o rfX S) sz [.ref (o + 182), .int a1]) (va_Qv (fun S' => CX o S' ∧ dg_sm shX [(16, 1), (16, 3)] [17] S S' ∧ (S' = F_i_put o S a1) ∧ True) (dg_B g D shX o rfX) (dg_A o shX.length sz)) 0 0 (dg_A o shX.length sz) := by
  refine dg_met (cc := cX4_put) (maxL := 2) (ret := none) (dk_dq rfl) rfl (Nat.le_of_ble_eq_true rfl) ?_
  intro p e s m args below meth c A hAe harg hx hb hr hml hts hown hlocks hin hP K hS hA1 hA ST hsz ls hl
  rw [← hAe]
  have F : CallFix p m c cX4_put 2 s args (bw yX4_put cX4_put 2 none) RX4 := ⟨hx, hb, hml, hown, hts⟩
  have hl : lv_has ls 2 [(0, .ref (o + 182)), (1, .int a1)] := hl
  have M_0 : dg_sm shX [(16, 1), (16, 3)] [17] S S := dg_sm.rf
  refine lv_aload_n hx hb dX4_put_0 rfl (lv_at hl 0 rfl) ?_
  obtain ⟨x_1, f_x_1, b_x_1⟩ := dg_I.int (i := 182) (k := 1) (lo := 0) (hi := 124) I sX_182 (by decide +kernel)
  refine dg_get (C := RX4) (T := TX4) (N := 6) hx hb hts (fun w h => bw_mem (wU_X4 w h)) hown K hP sX_182 rfl 1 (dk_dq rfl) (hts _ (bw_mem wB_777)) (fun _ h9 => h9) (v := .int x_1) f_x_1 dX4_put_1 ?_
  refine lv_bipush (v := 124) hx hb dX4_put_4 (by decide +kernel) ?_
  refine lv_icmp_ge (tgt := 45) hx hb dX4_put_6 (dk_dq rfl) (fun c_2 => ?_) (fun c_2 => ?_)
  · have jc_2 := dk_gec (k := 124) (by decide +kernel) c_2
    refine W.widen (k := 0) (n := 0) (Nat.le_of_ble_eq_true rfl) (Nat.le_of_ble_eq_true rfl) ?_
    exact dg_vret hx hb hr hlocks hP hS ⟨I, M_0, (Eq.symm (F_i_put_p0 (zI_eq f_x_1) c_2)), trivial⟩ dX4_put_45
  · as_aux_lemma =>
      have jc_2 := dk_ngec (k := 124) (by decide +kernel) c_2
      refine lv_aload_n hx hb dX4_put_9 rfl (lv_at hl 0 rfl) ?_
      refine dg_get (C := RX4) (T := TX4) (N := 6) hx hb hts (fun w h => bw_mem (wU_X4 w h)) hown K hP sX_182 rfl 0 (dk_dq rfl) (hts _ (bw_mem wB_778)) (fun _ h9 => h9) (v := .ref (o + 183)) (show S.1 182 0 = .ref (o + 183) from dg_I.rel (d := 1) I sX_182 (by decide +kernel)) dX4_put_10 ?_
      refine lv_aload_n hx hb dX4_put_13 rfl (lv_at hl 0 rfl) ?_
      refine dg_get (C := RX4) (T := TX4) (N := 6) hx hb hts (fun w h => bw_mem (wU_X4 w h)) hown K hP sX_182 rfl 1 (dk_dq rfl) (hts _ (bw_mem wB_777)) (fun _ h9 => h9) (v := .int x_1) f_x_1 dX4_put_14 ?_
      refine lv_iload_n hx hb dX4_put_17 rfl (lv_at hl 1 rfl) ?_
      have hin_3 : vp_in x_1 124 := (dk_inv2 (by omega))
      refine dg_iast hx hb K hP hS hA1 sX_183 hin_3 dX4_put_18 (fun S_4 e_4 H locs hP hS => ?_)
      have I_4 := dg_I.uf0 I e_4 sX_183 (by decide +kernel)
      have M_4 := dg_sm.uf M_0 e_4 sX_183 (dk_dq rfl)
      refine lv_aload_n hx hb dX4_put_19 rfl (lv_at hl 0 rfl) ?_
      refine lv_dup hx hb dX4_put_20 rfl ?_
      refine dg_get (C := RX4) (T := TX4) (N := 6) hx hb hts (fun w h => bw_mem (wU_X4 w h)) hown K hP sX_182 rfl 1 (dk_dq rfl) (hts _ (bw_mem wB_777)) (fun _ h9 => h9) (v := .int x_1) ((dg_uf_F e_4 182 1).trans f_x_1) dX4_put_21 ?_
      refine lv_iconst (v := 1) hx hb dX4_put_24 (by decide +kernel) ?_
      refine lv_iadd hx hb dX4_put_25 ?_
      refine lv_topi (fun x_5 ex_5 => ?_)
      have jx_5 : (x_5).toInt = (x_1).toInt + 1 := by rw [ex_5]; exact dk_addT2 rfl (by decide +kernel) (by omega)
      refine dg_put (ci := 4) (v := .int x_5) (ty := tyX4 1) (C := RX4) (T := TX4) (N := 6) hx hb hts (fun w h => bw_mem (wU_X4 w h)) tyX4 tyX4_ok nmX4 hown K hP hS hA1 sX_182 rfl 1 (dk_dq rfl) (hts _ (bw_mem wB_777)) (fun _ h9 => h9) rfl (by decide +kernel) rfl rfl dX4_put_26 (fun S_6 e_6 H locs hP hS => ?_)
      have I_6 := dg_I.uFi (lo := 0) (hi := 124) I_4 e_6 sX_182 (by decide +kernel) (show 0 ≤ (x_5).toInt ∧ (x_5).toInt ≤ 124 from (by omega))
      have M_6 := dg_sm.uF M_4 e_6 sX_182 (dk_dq rfl)
      refine lv_aload_n hx hb dX4_put_29 rfl (lv_at hl 0 rfl) ?_
      refine lv_iconst (v := 5) hx hb dX4_put_30 (by decide +kernel) ?_
      refine lv_aload_n hx hb dX4_put_31 rfl (lv_at hl 0 rfl) ?_
      obtain ⟨x_7, f_x_7, b_x_7⟩ := dg_I.int (i := 182) (k := 3) (lo := (-2147483648)) (hi := 2147483647) I_6 sX_182 (by decide +kernel)
      refine dg_get (C := RX4) (T := TX4) (N := 6) hx hb hts (fun w h => bw_mem (wU_X4 w h)) hown K hP sX_182 rfl 3 (dk_dq rfl) (hts _ (bw_mem wB_779)) (fun _ h9 => h9) (v := .int x_7) f_x_7 dX4_put_32 ?_
      refine lv_imul hx hb dX4_put_35 ?_
      refine lv_topi (fun x_8 ex_8 => ?_)
      refine lv_iload_n hx hb dX4_put_36 rfl (lv_at hl 1 rfl) ?_
      refine lv_iadd hx hb dX4_put_37 ?_
      refine lv_topi (fun x_9 ex_9 => ?_)
      refine lv_sipush (v := 251) hx hb dX4_put_38 (by decide +kernel) ?_
      refine lv_irem hx hb dX4_put_41 (by decide +kernel) ?_
      refine lv_topi (fun x_10 ex_10 => ?_)
      refine dg_put (ci := 4) (v := .int x_10) (ty := tyX4 3) (C := RX4) (T := TX4) (N := 6) hx hb hts (fun w h => bw_mem (wU_X4 w h)) tyX4 tyX4_ok nmX4 hown K hP hS hA1 sX_182 rfl 3 (dk_dq rfl) (hts _ (bw_mem wB_779)) (fun _ h9 => h9) rfl (by decide +kernel) rfl rfl dX4_put_42 (fun S_11 e_11 H locs hP hS => ?_)
      have I_11 := dg_I.uFi (lo := (-2147483648)) (hi := 2147483647) I_6 e_11 sX_182 (by decide +kernel) (show (-2147483648) ≤ (x_10).toInt ∧ (x_10).toInt ≤ 2147483647 from (dk_full _))
      have M_11 := dg_sm.uF M_6 e_11 sX_182 (dk_dq rfl)
      refine W.widen (k := 0) (n := 0) (Nat.le_of_ble_eq_true rfl) (Nat.le_of_ble_eq_true rfl) ?_
      exact dg_vret hx hb hr hlocks hP hS ⟨I_11, M_11, (Eq.symm (F_i_put_p1 (zI_eq f_x_1) c_2 e_4 ex_5 e_6 (zI_eq f_x_7) ex_8 ex_9 ex_10 e_11)), trivial⟩ dX4_put_45
noncomputable def F_i_putAll_cells_B1 (a3 : Int32) (a2 : Int32) (pt : Nat) (o : Nat) : (Int32 × dg_S) → (Int32 × dg_S) ⊕ (dg_S) := fun w9 => match w9 with | (x_39, S_40) => (if a3 ≤ x_39 then (Sum.inr ((S_40))) else let x_43 : Int32 := a2 + x_39; let x_45 : Int32 := S_40.2.1 (pt + 1) (x_43 : Int32).toNatClampNeg; let S_46 : dg_S := F_i_put o S_40 x_45; let x_47 : Int32 := x_39 + 1; (Sum.inl (x_47, S_46)))
noncomputable def F_i_putAll_cells (o : Nat) (S : dg_S) (pt : Nat) (a2 : Int32) (a3 : Int32) : dg_S := (lp (F_i_putAll_cells_B1 a3 a2 pt o) S ((8 - ((0 : Int32)).toInt).toNat + 1) ((0 : Int32), S))
theorem F_i_putAll_cells_p0 {a3 : Int32} {a2 : Int32} {pt : Nat} {o : Nat} {x_39 : Int32} {S_40 : dg_S} (h0 : a3 ≤ x_39) : (F_i_putAll_cells_B1 a3 a2 pt o) (x_39, S_40) = Sum.inr (S_40) := (Eq.trans (if_pos h0) rfl)
theorem F_i_putAll_cells_p1 {a3 : Int32} {a2 : Int32} {pt : Nat} {o : Nat} {x_39 : Int32} {S_40 : dg_S} {x_47 : Int32} {S_46 : dg_S} {x_43 : Int32} {x_45 : Int32} (h0 : ¬ (a3 ≤ x_39)) (h1 : x_43 = a2 + x_39) (h2 : x_45 = S_40.2.1 (pt + 1) (x_43 : Int32).toNatClampNeg) (h3 : S_46 = F_i_put o S_40 x_45) (h4 : x_47 = x_39 + 1) : (F_i_putAll_cells_B1 a3 a2 pt o) (x_39, S_40) = Sum.inl (x_47, S_46) := by
  replace h1 := Eq.symm h1
  subst h1
  replace h2 := Eq.symm h2
  subst h2
  replace h3 := Eq.symm h3
  subst h3
  replace h4 := Eq.symm h4
  subst h4
  exact (Eq.trans (if_neg h0) rfl)
theorem F_i_putAll_cells_p2 {o : Nat} {S : dg_S} {pt : Nat} {a2 : Int32} {a3 : Int32}  : F_i_putAll_cells o S pt a2 a3 = lp (F_i_putAll_cells_B1 a3 a2 pt o) S ((8 - ((0 : Int32)).toInt).toNat + 1) ((0 : Int32), S) := rfl
set_option maxHeartbeats 8000000 in
set_option maxRecDepth 100000 in
theorem c_i_putAll_cells (l : Launch) (g : Nat → ClassId) (D : va_G) (o : Nat) (S : dg_S) (pt : Nat) (hk_pt : pX pt) (a2 : Int32) (b_a2 : 0 ≤ (a2).toInt ∧ (a2).toInt ≤ 64) (a3 : Int32) (b_a3 : 0 ≤ (a3).toInt ∧ (a3).toInt ≤ 7) (I : CX o S) (sz : Nat) : Met l yX4_putAll (bw yX4_putAll cX4_putAll 5 none) ({ frames := 2, cells := 0, slots := 0, locals := 53 } : Room) (dk_Pc g D (dg_w g shX o rfX S) sz [.ref (o + 182), .ref (o + (pt + 1)), .int a2, .int a3]) (va_Qv (fun S' => CX o S' ∧ dg_sm shX [(16, 1), (16, 3)] [17] S S' ∧ (S' = F_i_putAll_cells o S pt a2 a3) ∧ True) (dg_B g D shX o rfX) (dg_A o shX.length sz)) 0 0 (dg_A o shX.length sz) := by
  refine dg_met (cc := cX4_putAll) (maxL := 5) (ret := none) (dk_dq rfl) rfl (Nat.le_of_ble_eq_true rfl) ?_
  intro p e s m args below meth c A hAe harg hx hb hr hml hts hown hlocks hin hP K hS hA1 hA ST hsz ls hl
  rw [← hAe]
  have F : CallFix p m c cX4_putAll 5 s args (bw yX4_putAll cX4_putAll 5 none) RX4 := ⟨hx, hb, hml, hown, hts⟩
  have hl : lv_has ls 5 [(0, .ref (o + 182)), (1, .ref (o + (pt + 1))), (2, .int a2), (3, .int a3)] := hl
  have M_0 : dg_sm shX [(16, 1), (16, 3)] [17] S S := dg_sm.rf
  refine lv_iconst (v := 0) hx hb dX4_putAll_0 (by decide +kernel) ?_
  refine lv_istore (lv' := [(4, .int 0), (0, .ref (o + 182)), (1, .ref (o + (pt + 1))), (2, .int a2), (3, .int a3)]) hx hb dX4_putAll_1 hl (dk_dq rfl) rfl (fun ls hl => ?_)
  have L_41 : ∀ (n : Nat) (x_39 : Int32), (0 ≤ (x_39).toInt ∧ (x_39).toInt ≤ 7) → ((8 - (x_39).toInt).toNat < n) → ∀ S_40 : dg_S, CX o S_40 → dg_sm shX [(16, 1), (16, 3)] [17] S S_40 → (F_i_putAll_cells o S pt a2 a3 = lp (F_i_putAll_cells_B1 a3 a2 pt o) S n (x_39, S_40)) → ∀ (H : Heap) (locs : List Loc), va_P D vwCl (dg_w g shX o rfX S_40) H → va_S A s.heap H locs → ∀ ls : Array Slot, lv_has ls 5 [(4, .int x_39), (0, .ref (o + 182)), (1, .ref (o + (pt + 1))), (2, .int a2), (3, .int a3)] → W p l e ({ frames := 2, cells := 0, slots := 0, locals := 53 } : Room) s m args below meth c H locs 0 0 (MQ below (va_Qv (fun S' => CX o S' ∧ dg_sm shX [(16, 1), (16, 3)] [17] S S' ∧ (S' = F_i_putAll_cells o S pt a2 a3) ∧ True) (dg_B g D shX o rfX) A) args s 0 0 A) (F0 m 3 ls []) := by
    as_aux_lemma =>
      intro n
      induction n with
      | zero =>
        intro x_39 b_x_39 hmu S_40 I_40 M_40 hF_1 H locs hP hS ls hl
        omega
      | succ n ih =>
        as_aux_lemma =>
          intro x_39 b_x_39 hmu S_40 I_40 M_40 hF_1 H locs hP hS ls hl
          refine lv_iload hx hb dX4_putAll_3 (lv_at hl 0 rfl) ?_
          refine lv_iload_n hx hb dX4_putAll_5 rfl (lv_at hl 4 rfl) ?_
          refine lv_icmp_ge (tgt := 25) hx hb dX4_putAll_6 (dk_dq rfl) (fun c_42 => ?_) (fun c_42 => ?_)
          · have jc_42 := dk_gec (k := (a3).toInt) rfl c_42
            refine W.widen (k := 0) (n := 0) (Nat.le_of_ble_eq_true rfl) (Nat.le_of_ble_eq_true rfl) ?_
            exact dg_vret hx hb hr hlocks hP hS ⟨I_40, M_40, (Eq.symm (lp_r hF_1 (F_i_putAll_cells_p0 c_42))), trivial⟩ dX4_putAll_25
          · as_aux_lemma =>
              have jc_42 := dk_ngec (k := (a3).toInt) rfl c_42
              refine lv_aload_n hx hb dX4_putAll_9 rfl (lv_at hl 1 rfl) ?_
              refine lv_aload_n hx hb dX4_putAll_10 rfl (lv_at hl 2 rfl) ?_
              refine lv_iload_n hx hb dX4_putAll_11 rfl (lv_at hl 3 rfl) ?_
              refine lv_iload hx hb dX4_putAll_12 (lv_at hl 0 rfl) ?_
              refine lv_iadd hx hb dX4_putAll_14 ?_
              refine lv_topi (fun x_43 ex_43 => ?_)
              have jx_43 : (x_43).toInt = (a2).toInt + (x_39).toInt := by rw [ex_43]; exact dk_addT2 rfl rfl (by omega)
              have hin_44 : vp_in x_43 72 := (dk_inv2 (by omega))
              refine dg_iald hx hb K hP (pX_1 pt hk_pt) hin_44 dX4_putAll_15 (fun x_45 ex_45 => ?_)
              have b_x_45 := dg_c0_at (dg_I.cel0 (lo := 0) (hi := 255) I_40 (pX_1 pt hk_pt) (by decide +kernel)) hin_44 ex_45
              refine dg_callv hS hA1 hA (va_runV (As := [.int x_45]) (rest := []) F (c_i_put l g D o S_40 x_45 I_40 H.size) (cwV 1 hts (bw_V wB_781 wB_782 wB_783 wB_784 wB_780) rfl rfl rfl (by decide +kernel) ⟨Nat.le_of_ble_eq_true rfl, Nat.le_of_ble_eq_true rfl⟩) (dg_preV sX_182 rfl K ST hP hS hA1 hA) rfl rfl hl.1 rfl (lv_room (Nat.le_of_ble_eq_true rfl)) dX4_putAll_16 ⟨Nat.le_of_ble_eq_true rfl, Nat.le_of_ble_eq_true rfl⟩) (fun S_46 hw_46 H locs hP hS => ?_)
              obtain ⟨I_46, m_46, w_46_0, -⟩ := hw_46
              have M_46 := dg_sm.tr M_40 m_46 (dk_dq rfl) (dk_dq rfl)
              obtain ⟨x_47, ex_47⟩ : ∃ z, z = x_39 + 1 := ⟨_, rfl⟩
              have jx_47 : (x_47).toInt = (x_39).toInt + 1 := by rw [ex_47]; exact dk_addT2 rfl (by decide +kernel) (by omega)
              refine lv_iinc (v := x_47) (lv' := [(4, .int x_47), (0, .ref (o + 182)), (1, .ref (o + (pt + 1))), (2, .int a2), (3, .int a3)]) hx hb dX4_putAll_19 hl (k := 0) rfl (by rw [ex_47]; rfl) (dk_dq rfl) rfl (fun ls hl => ?_)
              refine lv_goto (tgt := 3) hx hb dX4_putAll_22 (dk_dq rfl) ?_
              exact ih x_47 (by omega) (by first | exact mu_lt hmu (by omega) (by omega) | omega) S_46 I_46 M_46  (lp_l hF_1 (F_i_putAll_cells_p1 c_42 ex_43 (Eq.symm ex_45.symm) w_46_0 ex_47)) _ _ hP hS _ (lv_sub hl [0, 1, 2, 3, 4] rfl)
  have hz_48 : (0 : Int32).toInt = 0 := by decide +kernel
  have hz_49 : (0 : Int32).toInt = 0 := by decide +kernel
  exact L_41 ((8 - ((0 : Int32)).toInt).toNat + 1) 0 (by decide +kernel) (by first | exact mu_lt hmu (by omega) (by omega) | omega) S I M_0  (F_i_putAll_cells_p2) _ _ hP hS _ (lv_sub hl [0, 1, 2, 3, 4] rfl)
noncomputable def F_i_putAll_hurts_B1 (a3 : Int32) (a2 : Int32) (pt : Nat) (o : Nat) : (Int32 × dg_S) → (Int32 × dg_S) ⊕ (dg_S) := fun w9 => match w9 with | (x_39, S_40) => (if a3 ≤ x_39 then (Sum.inr ((S_40))) else let x_43 : Int32 := a2 + x_39; let x_45 : Int32 := S_40.2.1 (pt + 2) (x_43 : Int32).toNatClampNeg; let S_46 : dg_S := F_i_put o S_40 x_45; let x_47 : Int32 := x_39 + 1; (Sum.inl (x_47, S_46)))
noncomputable def F_i_putAll_hurts (o : Nat) (S : dg_S) (pt : Nat) (a2 : Int32) (a3 : Int32) : dg_S := (lp (F_i_putAll_hurts_B1 a3 a2 pt o) S ((7 - ((0 : Int32)).toInt).toNat + 1) ((0 : Int32), S))
theorem F_i_putAll_hurts_p0 {a3 : Int32} {a2 : Int32} {pt : Nat} {o : Nat} {x_39 : Int32} {S_40 : dg_S} (h0 : a3 ≤ x_39) : (F_i_putAll_hurts_B1 a3 a2 pt o) (x_39, S_40) = Sum.inr (S_40) := (Eq.trans (if_pos h0) rfl)
theorem F_i_putAll_hurts_p1 {a3 : Int32} {a2 : Int32} {pt : Nat} {o : Nat} {x_39 : Int32} {S_40 : dg_S} {x_47 : Int32} {S_46 : dg_S} {x_43 : Int32} {x_45 : Int32} (h0 : ¬ (a3 ≤ x_39)) (h1 : x_43 = a2 + x_39) (h2 : x_45 = S_40.2.1 (pt + 2) (x_43 : Int32).toNatClampNeg) (h3 : S_46 = F_i_put o S_40 x_45) (h4 : x_47 = x_39 + 1) : (F_i_putAll_hurts_B1 a3 a2 pt o) (x_39, S_40) = Sum.inl (x_47, S_46) := by
  replace h1 := Eq.symm h1
  subst h1
  replace h2 := Eq.symm h2
  subst h2
  replace h3 := Eq.symm h3
  subst h3
  replace h4 := Eq.symm h4
  subst h4
  exact (Eq.trans (if_neg h0) rfl)
theorem F_i_putAll_hurts_p2 {o : Nat} {S : dg_S} {pt : Nat} {a2 : Int32} {a3 : Int32}  : F_i_putAll_hurts o S pt a2 a3 = lp (F_i_putAll_hurts_B1 a3 a2 pt o) S ((7 - ((0 : Int32)).toInt).toNat + 1) ((0 : Int32), S) := rfl
set_option maxHeartbeats 8000000 in
set_option maxRecDepth 100000 in
theorem c_i_putAll_hurts (l : Launch) (g : Nat → ClassId) (D : va_G) (o : Nat) (S : dg_S) (pt : Nat) (hk_pt : pX pt) (a2 : Int32) (b_a2 : 0 ≤ (a2).toInt ∧ (a2).toInt ≤ 0) (a3 : Int32) (b_a3 : 0 ≤ (a3).toInt ∧ (a3).toInt ≤ 6) (I : CX o S) (sz : Nat) : Met l yX4_putAll (bw yX4_putAll cX4_putAll 5 none) ({ frames := 2, cells := 0, slots := 0, locals := 53 } : Room) (dk_Pc g D (dg_w g shX o rfX S) sz [.ref (o + 182), .ref (o + (pt + 2)), .int a2, .int a3]) (va_Qv (fun S' => CX o S' ∧ dg_sm shX [(16, 1), (16, 3)] [17] S S' ∧ (S' = F_i_putAll_hurts o S pt a2 a3) ∧ True) (dg_B g D shX o rfX) (dg_A o shX.length sz)) 0 0 (dg_A o shX.length sz) := by
  refine dg_met (cc := cX4_putAll) (maxL := 5) (ret := none) (dk_dq rfl) rfl (Nat.le_of_ble_eq_true rfl) ?_
  intro p e s m args below meth c A hAe harg hx hb hr hml hts hown hlocks hin hP K hS hA1 hA ST hsz ls hl
  rw [← hAe]
  have F : CallFix p m c cX4_putAll 5 s args (bw yX4_putAll cX4_putAll 5 none) RX4 := ⟨hx, hb, hml, hown, hts⟩
  have hl : lv_has ls 5 [(0, .ref (o + 182)), (1, .ref (o + (pt + 2))), (2, .int a2), (3, .int a3)] := hl
  have M_0 : dg_sm shX [(16, 1), (16, 3)] [17] S S := dg_sm.rf
  refine lv_iconst (v := 0) hx hb dX4_putAll_0 (by decide +kernel) ?_
  refine lv_istore (lv' := [(4, .int 0), (0, .ref (o + 182)), (1, .ref (o + (pt + 2))), (2, .int a2), (3, .int a3)]) hx hb dX4_putAll_1 hl (dk_dq rfl) rfl (fun ls hl => ?_)
  have L_41 : ∀ (n : Nat) (x_39 : Int32), (0 ≤ (x_39).toInt ∧ (x_39).toInt ≤ 6) → ((7 - (x_39).toInt).toNat < n) → ∀ S_40 : dg_S, CX o S_40 → dg_sm shX [(16, 1), (16, 3)] [17] S S_40 → (F_i_putAll_hurts o S pt a2 a3 = lp (F_i_putAll_hurts_B1 a3 a2 pt o) S n (x_39, S_40)) → ∀ (H : Heap) (locs : List Loc), va_P D vwCl (dg_w g shX o rfX S_40) H → va_S A s.heap H locs → ∀ ls : Array Slot, lv_has ls 5 [(4, .int x_39), (0, .ref (o + 182)), (1, .ref (o + (pt + 2))), (2, .int a2), (3, .int a3)] → W p l e ({ frames := 2, cells := 0, slots := 0, locals := 53 } : Room) s m args below meth c H locs 0 0 (MQ below (va_Qv (fun S' => CX o S' ∧ dg_sm shX [(16, 1), (16, 3)] [17] S S' ∧ (S' = F_i_putAll_hurts o S pt a2 a3) ∧ True) (dg_B g D shX o rfX) A) args s 0 0 A) (F0 m 3 ls []) := by
    as_aux_lemma =>
      intro n
      induction n with
      | zero =>
        intro x_39 b_x_39 hmu S_40 I_40 M_40 hF_1 H locs hP hS ls hl
        omega
      | succ n ih =>
        as_aux_lemma =>
          intro x_39 b_x_39 hmu S_40 I_40 M_40 hF_1 H locs hP hS ls hl
          refine lv_iload hx hb dX4_putAll_3 (lv_at hl 0 rfl) ?_
          refine lv_iload_n hx hb dX4_putAll_5 rfl (lv_at hl 4 rfl) ?_
          refine lv_icmp_ge (tgt := 25) hx hb dX4_putAll_6 (dk_dq rfl) (fun c_42 => ?_) (fun c_42 => ?_)
          · have jc_42 := dk_gec (k := (a3).toInt) rfl c_42
            refine W.widen (k := 0) (n := 0) (Nat.le_of_ble_eq_true rfl) (Nat.le_of_ble_eq_true rfl) ?_
            exact dg_vret hx hb hr hlocks hP hS ⟨I_40, M_40, (Eq.symm (lp_r hF_1 (F_i_putAll_hurts_p0 c_42))), trivial⟩ dX4_putAll_25
          · as_aux_lemma =>
              have jc_42 := dk_ngec (k := (a3).toInt) rfl c_42
              refine lv_aload_n hx hb dX4_putAll_9 rfl (lv_at hl 1 rfl) ?_
              refine lv_aload_n hx hb dX4_putAll_10 rfl (lv_at hl 2 rfl) ?_
              refine lv_iload_n hx hb dX4_putAll_11 rfl (lv_at hl 3 rfl) ?_
              refine lv_iload hx hb dX4_putAll_12 (lv_at hl 0 rfl) ?_
              refine lv_iadd hx hb dX4_putAll_14 ?_
              refine lv_topi (fun x_43 ex_43 => ?_)
              have jx_43 : (x_43).toInt = (a2).toInt + (x_39).toInt := by rw [ex_43]; exact dk_addT2 rfl rfl (by omega)
              have hin_44 : vp_in x_43 6 := (dk_inv2 (by omega))
              refine dg_iald hx hb K hP (pX_2 pt hk_pt) hin_44 dX4_putAll_15 (fun x_45 ex_45 => ?_)
              refine dg_callv hS hA1 hA (va_runV (As := [.int x_45]) (rest := []) F (c_i_put l g D o S_40 x_45 I_40 H.size) (cwV 1 hts (bw_V wB_781 wB_782 wB_783 wB_784 wB_780) rfl rfl rfl (by decide +kernel) ⟨Nat.le_of_ble_eq_true rfl, Nat.le_of_ble_eq_true rfl⟩) (dg_preV sX_182 rfl K ST hP hS hA1 hA) rfl rfl hl.1 rfl (lv_room (Nat.le_of_ble_eq_true rfl)) dX4_putAll_16 ⟨Nat.le_of_ble_eq_true rfl, Nat.le_of_ble_eq_true rfl⟩) (fun S_46 hw_46 H locs hP hS => ?_)
              obtain ⟨I_46, m_46, w_46_0, -⟩ := hw_46
              have M_46 := dg_sm.tr M_40 m_46 (dk_dq rfl) (dk_dq rfl)
              obtain ⟨x_47, ex_47⟩ : ∃ z, z = x_39 + 1 := ⟨_, rfl⟩
              have jx_47 : (x_47).toInt = (x_39).toInt + 1 := by rw [ex_47]; exact dk_addT2 rfl (by decide +kernel) (by omega)
              refine lv_iinc (v := x_47) (lv' := [(4, .int x_47), (0, .ref (o + 182)), (1, .ref (o + (pt + 2))), (2, .int a2), (3, .int a3)]) hx hb dX4_putAll_19 hl (k := 0) rfl (by rw [ex_47]; rfl) (dk_dq rfl) rfl (fun ls hl => ?_)
              refine lv_goto (tgt := 3) hx hb dX4_putAll_22 (dk_dq rfl) ?_
              exact ih x_47 (by omega) (by first | exact mu_lt hmu (by omega) (by omega) | omega) S_46 I_46 M_46  (lp_l hF_1 (F_i_putAll_hurts_p1 c_42 ex_43 (Eq.symm ex_45.symm) w_46_0 ex_47)) _ _ hP hS _ (lv_sub hl [0, 1, 2, 3, 4] rfl)
  have hz_48 : (0 : Int32).toInt = 0 := by decide +kernel
  have hz_49 : (0 : Int32).toInt = 0 := by decide +kernel
  exact L_41 ((7 - ((0 : Int32)).toInt).toNat + 1) 0 (by decide +kernel) (by first | exact mu_lt hmu (by omega) (by omega) | omega) S I M_0  (F_i_putAll_hurts_p2) _ _ hP hS _ (lv_sub hl [0, 1, 2, 3, 4] rfl)
noncomputable def F_i_putAll_sold_B1 (a3 : Int32) (a2 : Int32) (pt : Nat) (o : Nat) : (Int32 × dg_S) → (Int32 × dg_S) ⊕ (dg_S) := fun w9 => match w9 with | (x_39, S_40) => (if a3 ≤ x_39 then (Sum.inr ((S_40))) else let x_43 : Int32 := a2 + x_39; let x_45 : Int32 := S_40.2.1 (pt + 5) (x_43 : Int32).toNatClampNeg; let S_46 : dg_S := F_i_put o S_40 x_45; let x_47 : Int32 := x_39 + 1; (Sum.inl (x_47, S_46)))
noncomputable def F_i_putAll_sold (o : Nat) (S : dg_S) (pt : Nat) (a2 : Int32) (a3 : Int32) : dg_S := (lp (F_i_putAll_sold_B1 a3 a2 pt o) S ((6 - ((0 : Int32)).toInt).toNat + 1) ((0 : Int32), S))
theorem F_i_putAll_sold_p0 {a3 : Int32} {a2 : Int32} {pt : Nat} {o : Nat} {x_39 : Int32} {S_40 : dg_S} (h0 : a3 ≤ x_39) : (F_i_putAll_sold_B1 a3 a2 pt o) (x_39, S_40) = Sum.inr (S_40) := (Eq.trans (if_pos h0) rfl)
theorem F_i_putAll_sold_p1 {a3 : Int32} {a2 : Int32} {pt : Nat} {o : Nat} {x_39 : Int32} {S_40 : dg_S} {x_47 : Int32} {S_46 : dg_S} {x_43 : Int32} {x_45 : Int32} (h0 : ¬ (a3 ≤ x_39)) (h1 : x_43 = a2 + x_39) (h2 : x_45 = S_40.2.1 (pt + 5) (x_43 : Int32).toNatClampNeg) (h3 : S_46 = F_i_put o S_40 x_45) (h4 : x_47 = x_39 + 1) : (F_i_putAll_sold_B1 a3 a2 pt o) (x_39, S_40) = Sum.inl (x_47, S_46) := by
  replace h1 := Eq.symm h1
  subst h1
  replace h2 := Eq.symm h2
  subst h2
  replace h3 := Eq.symm h3
  subst h3
  replace h4 := Eq.symm h4
  subst h4
  exact (Eq.trans (if_neg h0) rfl)
theorem F_i_putAll_sold_p2 {o : Nat} {S : dg_S} {pt : Nat} {a2 : Int32} {a3 : Int32}  : F_i_putAll_sold o S pt a2 a3 = lp (F_i_putAll_sold_B1 a3 a2 pt o) S ((6 - ((0 : Int32)).toInt).toNat + 1) ((0 : Int32), S) := rfl
set_option maxHeartbeats 8000000 in
set_option maxRecDepth 100000 in
theorem c_i_putAll_sold (l : Launch) (g : Nat → ClassId) (D : va_G) (o : Nat) (S : dg_S) (pt : Nat) (hk_pt : pX pt) (a2 : Int32) (b_a2 : 0 ≤ (a2).toInt ∧ (a2).toInt ≤ 0) (a3 : Int32) (b_a3 : 0 ≤ (a3).toInt ∧ (a3).toInt ≤ 5) (I : CX o S) (sz : Nat) : Met l yX4_putAll (bw yX4_putAll cX4_putAll 5 none) ({ frames := 2, cells := 0, slots := 0, locals := 53 } : Room) (dk_Pc g D (dg_w g shX o rfX S) sz [.ref (o + 182), .ref (o + (pt + 5)), .int a2, .int a3]) (va_Qv (fun S' => CX o S' ∧ dg_sm shX [(16, 1), (16, 3)] [17] S S' ∧ (S' = F_i_putAll_sold o S pt a2 a3) ∧ True) (dg_B g D shX o rfX) (dg_A o shX.length sz)) 0 0 (dg_A o shX.length sz) := by
  refine dg_met (cc := cX4_putAll) (maxL := 5) (ret := none) (dk_dq rfl) rfl (Nat.le_of_ble_eq_true rfl) ?_
  intro p e s m args below meth c A hAe harg hx hb hr hml hts hown hlocks hin hP K hS hA1 hA ST hsz ls hl
  rw [← hAe]
  have F : CallFix p m c cX4_putAll 5 s args (bw yX4_putAll cX4_putAll 5 none) RX4 := ⟨hx, hb, hml, hown, hts⟩
  have hl : lv_has ls 5 [(0, .ref (o + 182)), (1, .ref (o + (pt + 5))), (2, .int a2), (3, .int a3)] := hl
  have M_0 : dg_sm shX [(16, 1), (16, 3)] [17] S S := dg_sm.rf
  refine lv_iconst (v := 0) hx hb dX4_putAll_0 (by decide +kernel) ?_
  refine lv_istore (lv' := [(4, .int 0), (0, .ref (o + 182)), (1, .ref (o + (pt + 5))), (2, .int a2), (3, .int a3)]) hx hb dX4_putAll_1 hl (dk_dq rfl) rfl (fun ls hl => ?_)
  have L_41 : ∀ (n : Nat) (x_39 : Int32), (0 ≤ (x_39).toInt ∧ (x_39).toInt ≤ 5) → ((6 - (x_39).toInt).toNat < n) → ∀ S_40 : dg_S, CX o S_40 → dg_sm shX [(16, 1), (16, 3)] [17] S S_40 → (F_i_putAll_sold o S pt a2 a3 = lp (F_i_putAll_sold_B1 a3 a2 pt o) S n (x_39, S_40)) → ∀ (H : Heap) (locs : List Loc), va_P D vwCl (dg_w g shX o rfX S_40) H → va_S A s.heap H locs → ∀ ls : Array Slot, lv_has ls 5 [(4, .int x_39), (0, .ref (o + 182)), (1, .ref (o + (pt + 5))), (2, .int a2), (3, .int a3)] → W p l e ({ frames := 2, cells := 0, slots := 0, locals := 53 } : Room) s m args below meth c H locs 0 0 (MQ below (va_Qv (fun S' => CX o S' ∧ dg_sm shX [(16, 1), (16, 3)] [17] S S' ∧ (S' = F_i_putAll_sold o S pt a2 a3) ∧ True) (dg_B g D shX o rfX) A) args s 0 0 A) (F0 m 3 ls []) := by
    as_aux_lemma =>
      intro n
      induction n with
      | zero =>
        intro x_39 b_x_39 hmu S_40 I_40 M_40 hF_1 H locs hP hS ls hl
        omega
      | succ n ih =>
        as_aux_lemma =>
          intro x_39 b_x_39 hmu S_40 I_40 M_40 hF_1 H locs hP hS ls hl
          refine lv_iload hx hb dX4_putAll_3 (lv_at hl 0 rfl) ?_
          refine lv_iload_n hx hb dX4_putAll_5 rfl (lv_at hl 4 rfl) ?_
          refine lv_icmp_ge (tgt := 25) hx hb dX4_putAll_6 (dk_dq rfl) (fun c_42 => ?_) (fun c_42 => ?_)
          · have jc_42 := dk_gec (k := (a3).toInt) rfl c_42
            refine W.widen (k := 0) (n := 0) (Nat.le_of_ble_eq_true rfl) (Nat.le_of_ble_eq_true rfl) ?_
            exact dg_vret hx hb hr hlocks hP hS ⟨I_40, M_40, (Eq.symm (lp_r hF_1 (F_i_putAll_sold_p0 c_42))), trivial⟩ dX4_putAll_25
          · as_aux_lemma =>
              have jc_42 := dk_ngec (k := (a3).toInt) rfl c_42
              refine lv_aload_n hx hb dX4_putAll_9 rfl (lv_at hl 1 rfl) ?_
              refine lv_aload_n hx hb dX4_putAll_10 rfl (lv_at hl 2 rfl) ?_
              refine lv_iload_n hx hb dX4_putAll_11 rfl (lv_at hl 3 rfl) ?_
              refine lv_iload hx hb dX4_putAll_12 (lv_at hl 0 rfl) ?_
              refine lv_iadd hx hb dX4_putAll_14 ?_
              refine lv_topi (fun x_43 ex_43 => ?_)
              have jx_43 : (x_43).toInt = (a2).toInt + (x_39).toInt := by rw [ex_43]; exact dk_addT2 rfl rfl (by omega)
              have hin_44 : vp_in x_43 5 := (dk_inv2 (by omega))
              refine dg_iald hx hb K hP (pX_5 pt hk_pt) hin_44 dX4_putAll_15 (fun x_45 ex_45 => ?_)
              refine dg_callv hS hA1 hA (va_runV (As := [.int x_45]) (rest := []) F (c_i_put l g D o S_40 x_45 I_40 H.size) (cwV 1 hts (bw_V wB_781 wB_782 wB_783 wB_784 wB_780) rfl rfl rfl (by decide +kernel) ⟨Nat.le_of_ble_eq_true rfl, Nat.le_of_ble_eq_true rfl⟩) (dg_preV sX_182 rfl K ST hP hS hA1 hA) rfl rfl hl.1 rfl (lv_room (Nat.le_of_ble_eq_true rfl)) dX4_putAll_16 ⟨Nat.le_of_ble_eq_true rfl, Nat.le_of_ble_eq_true rfl⟩) (fun S_46 hw_46 H locs hP hS => ?_)
              obtain ⟨I_46, m_46, w_46_0, -⟩ := hw_46
              have M_46 := dg_sm.tr M_40 m_46 (dk_dq rfl) (dk_dq rfl)
              obtain ⟨x_47, ex_47⟩ : ∃ z, z = x_39 + 1 := ⟨_, rfl⟩
              have jx_47 : (x_47).toInt = (x_39).toInt + 1 := by rw [ex_47]; exact dk_addT2 rfl (by decide +kernel) (by omega)
              refine lv_iinc (v := x_47) (lv' := [(4, .int x_47), (0, .ref (o + 182)), (1, .ref (o + (pt + 5))), (2, .int a2), (3, .int a3)]) hx hb dX4_putAll_19 hl (k := 0) rfl (by rw [ex_47]; rfl) (dk_dq rfl) rfl (fun ls hl => ?_)
              refine lv_goto (tgt := 3) hx hb dX4_putAll_22 (dk_dq rfl) ?_
              exact ih x_47 (by omega) (by first | exact mu_lt hmu (by omega) (by omega) | omega) S_46 I_46 M_46  (lp_l hF_1 (F_i_putAll_sold_p1 c_42 ex_43 (Eq.symm ex_45.symm) w_46_0 ex_47)) _ _ hP hS _ (lv_sub hl [0, 1, 2, 3, 4] rfl)
  have hz_48 : (0 : Int32).toInt = 0 := by decide +kernel
  have hz_49 : (0 : Int32).toInt = 0 := by decide +kernel
  exact L_41 ((6 - ((0 : Int32)).toInt).toNat + 1) 0 (by decide +kernel) (by first | exact mu_lt hmu (by omega) (by omega) | omega) S I M_0  (F_i_putAll_sold_p2) _ _ hP hS _ (lv_sub hl [0, 1, 2, 3, 4] rfl)
noncomputable def F_i_putAll_tubs_B1 (a3 : Int32) (a2 : Int32) (pt : Nat) (o : Nat) : (Int32 × dg_S) → (Int32 × dg_S) ⊕ (dg_S) := fun w9 => match w9 with | (x_39, S_40) => (if a3 ≤ x_39 then (Sum.inr ((S_40))) else let x_43 : Int32 := a2 + x_39; let x_45 : Int32 := S_40.2.1 (pt + 6) (x_43 : Int32).toNatClampNeg; let S_46 : dg_S := F_i_put o S_40 x_45; let x_47 : Int32 := x_39 + 1; (Sum.inl (x_47, S_46)))
noncomputable def F_i_putAll_tubs (o : Nat) (S : dg_S) (pt : Nat) (a2 : Int32) (a3 : Int32) : dg_S := (lp (F_i_putAll_tubs_B1 a3 a2 pt o) S ((11 - ((0 : Int32)).toInt).toNat + 1) ((0 : Int32), S))
theorem F_i_putAll_tubs_p0 {a3 : Int32} {a2 : Int32} {pt : Nat} {o : Nat} {x_39 : Int32} {S_40 : dg_S} (h0 : a3 ≤ x_39) : (F_i_putAll_tubs_B1 a3 a2 pt o) (x_39, S_40) = Sum.inr (S_40) := (Eq.trans (if_pos h0) rfl)
theorem F_i_putAll_tubs_p1 {a3 : Int32} {a2 : Int32} {pt : Nat} {o : Nat} {x_39 : Int32} {S_40 : dg_S} {x_47 : Int32} {S_46 : dg_S} {x_43 : Int32} {x_45 : Int32} (h0 : ¬ (a3 ≤ x_39)) (h1 : x_43 = a2 + x_39) (h2 : x_45 = S_40.2.1 (pt + 6) (x_43 : Int32).toNatClampNeg) (h3 : S_46 = F_i_put o S_40 x_45) (h4 : x_47 = x_39 + 1) : (F_i_putAll_tubs_B1 a3 a2 pt o) (x_39, S_40) = Sum.inl (x_47, S_46) := by
  replace h1 := Eq.symm h1
  subst h1
  replace h2 := Eq.symm h2
  subst h2
  replace h3 := Eq.symm h3
  subst h3
  replace h4 := Eq.symm h4
  subst h4
  exact (Eq.trans (if_neg h0) rfl)
theorem F_i_putAll_tubs_p2 {o : Nat} {S : dg_S} {pt : Nat} {a2 : Int32} {a3 : Int32}  : F_i_putAll_tubs o S pt a2 a3 = lp (F_i_putAll_tubs_B1 a3 a2 pt o) S ((11 - ((0 : Int32)).toInt).toNat + 1) ((0 : Int32), S) := rfl
set_option maxHeartbeats 8000000 in
set_option maxRecDepth 100000 in
theorem c_i_putAll_tubs (l : Launch) (g : Nat → ClassId) (D : va_G) (o : Nat) (S : dg_S) (pt : Nat) (hk_pt : pX pt) (a2 : Int32) (b_a2 : 0 ≤ (a2).toInt ∧ (a2).toInt ≤ 0) (a3 : Int32) (b_a3 : 0 ≤ (a3).toInt ∧ (a3).toInt ≤ 10) (I : CX o S) (sz : Nat) : Met l yX4_putAll (bw yX4_putAll cX4_putAll 5 none) ({ frames := 2, cells := 0, slots := 0, locals := 53 } : Room) (dk_Pc g D (dg_w g shX o rfX S) sz [.ref (o + 182), .ref (o + (pt + 6)), .int a2, .int a3]) (va_Qv (fun S' => CX o S' ∧ dg_sm shX [(16, 1), (16, 3)] [17] S S' ∧ (S' = F_i_putAll_tubs o S pt a2 a3) ∧ True) (dg_B g D shX o rfX) (dg_A o shX.length sz)) 0 0 (dg_A o shX.length sz) := by
  refine dg_met (cc := cX4_putAll) (maxL := 5) (ret := none) (dk_dq rfl) rfl (Nat.le_of_ble_eq_true rfl) ?_
  intro p e s m args below meth c A hAe harg hx hb hr hml hts hown hlocks hin hP K hS hA1 hA ST hsz ls hl
  rw [← hAe]
  have F : CallFix p m c cX4_putAll 5 s args (bw yX4_putAll cX4_putAll 5 none) RX4 := ⟨hx, hb, hml, hown, hts⟩
  have hl : lv_has ls 5 [(0, .ref (o + 182)), (1, .ref (o + (pt + 6))), (2, .int a2), (3, .int a3)] := hl
  have M_0 : dg_sm shX [(16, 1), (16, 3)] [17] S S := dg_sm.rf
  refine lv_iconst (v := 0) hx hb dX4_putAll_0 (by decide +kernel) ?_
  refine lv_istore (lv' := [(4, .int 0), (0, .ref (o + 182)), (1, .ref (o + (pt + 6))), (2, .int a2), (3, .int a3)]) hx hb dX4_putAll_1 hl (dk_dq rfl) rfl (fun ls hl => ?_)
  have L_41 : ∀ (n : Nat) (x_39 : Int32), (0 ≤ (x_39).toInt ∧ (x_39).toInt ≤ 10) → ((11 - (x_39).toInt).toNat < n) → ∀ S_40 : dg_S, CX o S_40 → dg_sm shX [(16, 1), (16, 3)] [17] S S_40 → (F_i_putAll_tubs o S pt a2 a3 = lp (F_i_putAll_tubs_B1 a3 a2 pt o) S n (x_39, S_40)) → ∀ (H : Heap) (locs : List Loc), va_P D vwCl (dg_w g shX o rfX S_40) H → va_S A s.heap H locs → ∀ ls : Array Slot, lv_has ls 5 [(4, .int x_39), (0, .ref (o + 182)), (1, .ref (o + (pt + 6))), (2, .int a2), (3, .int a3)] → W p l e ({ frames := 2, cells := 0, slots := 0, locals := 53 } : Room) s m args below meth c H locs 0 0 (MQ below (va_Qv (fun S' => CX o S' ∧ dg_sm shX [(16, 1), (16, 3)] [17] S S' ∧ (S' = F_i_putAll_tubs o S pt a2 a3) ∧ True) (dg_B g D shX o rfX) A) args s 0 0 A) (F0 m 3 ls []) := by
    as_aux_lemma =>
      intro n
      induction n with
      | zero =>
        intro x_39 b_x_39 hmu S_40 I_40 M_40 hF_1 H locs hP hS ls hl
        omega
      | succ n ih =>
        as_aux_lemma =>
          intro x_39 b_x_39 hmu S_40 I_40 M_40 hF_1 H locs hP hS ls hl
          refine lv_iload hx hb dX4_putAll_3 (lv_at hl 0 rfl) ?_
          refine lv_iload_n hx hb dX4_putAll_5 rfl (lv_at hl 4 rfl) ?_
          refine lv_icmp_ge (tgt := 25) hx hb dX4_putAll_6 (dk_dq rfl) (fun c_42 => ?_) (fun c_42 => ?_)
          · have jc_42 := dk_gec (k := (a3).toInt) rfl c_42
            refine W.widen (k := 0) (n := 0) (Nat.le_of_ble_eq_true rfl) (Nat.le_of_ble_eq_true rfl) ?_
            exact dg_vret hx hb hr hlocks hP hS ⟨I_40, M_40, (Eq.symm (lp_r hF_1 (F_i_putAll_tubs_p0 c_42))), trivial⟩ dX4_putAll_25
          · as_aux_lemma =>
              have jc_42 := dk_ngec (k := (a3).toInt) rfl c_42
              refine lv_aload_n hx hb dX4_putAll_9 rfl (lv_at hl 1 rfl) ?_
              refine lv_aload_n hx hb dX4_putAll_10 rfl (lv_at hl 2 rfl) ?_
              refine lv_iload_n hx hb dX4_putAll_11 rfl (lv_at hl 3 rfl) ?_
              refine lv_iload hx hb dX4_putAll_12 (lv_at hl 0 rfl) ?_
              refine lv_iadd hx hb dX4_putAll_14 ?_
              refine lv_topi (fun x_43 ex_43 => ?_)
              have jx_43 : (x_43).toInt = (a2).toInt + (x_39).toInt := by rw [ex_43]; exact dk_addT2 rfl rfl (by omega)
              have hin_44 : vp_in x_43 10 := (dk_inv2 (by omega))
              refine dg_iald hx hb K hP (pX_6 pt hk_pt) hin_44 dX4_putAll_15 (fun x_45 ex_45 => ?_)
              refine dg_callv hS hA1 hA (va_runV (As := [.int x_45]) (rest := []) F (c_i_put l g D o S_40 x_45 I_40 H.size) (cwV 1 hts (bw_V wB_781 wB_782 wB_783 wB_784 wB_780) rfl rfl rfl (by decide +kernel) ⟨Nat.le_of_ble_eq_true rfl, Nat.le_of_ble_eq_true rfl⟩) (dg_preV sX_182 rfl K ST hP hS hA1 hA) rfl rfl hl.1 rfl (lv_room (Nat.le_of_ble_eq_true rfl)) dX4_putAll_16 ⟨Nat.le_of_ble_eq_true rfl, Nat.le_of_ble_eq_true rfl⟩) (fun S_46 hw_46 H locs hP hS => ?_)
              obtain ⟨I_46, m_46, w_46_0, -⟩ := hw_46
              have M_46 := dg_sm.tr M_40 m_46 (dk_dq rfl) (dk_dq rfl)
              obtain ⟨x_47, ex_47⟩ : ∃ z, z = x_39 + 1 := ⟨_, rfl⟩
              have jx_47 : (x_47).toInt = (x_39).toInt + 1 := by rw [ex_47]; exact dk_addT2 rfl (by decide +kernel) (by omega)
              refine lv_iinc (v := x_47) (lv' := [(4, .int x_47), (0, .ref (o + 182)), (1, .ref (o + (pt + 6))), (2, .int a2), (3, .int a3)]) hx hb dX4_putAll_19 hl (k := 0) rfl (by rw [ex_47]; rfl) (dk_dq rfl) rfl (fun ls hl => ?_)
              refine lv_goto (tgt := 3) hx hb dX4_putAll_22 (dk_dq rfl) ?_
              exact ih x_47 (by omega) (by first | exact mu_lt hmu (by omega) (by omega) | omega) S_46 I_46 M_46  (lp_l hF_1 (F_i_putAll_tubs_p1 c_42 ex_43 (Eq.symm ex_45.symm) w_46_0 ex_47)) _ _ hP hS _ (lv_sub hl [0, 1, 2, 3, 4] rfl)
  have hz_48 : (0 : Int32).toInt = 0 := by decide +kernel
  have hz_49 : (0 : Int32).toInt = 0 := by decide +kernel
  exact L_41 ((11 - ((0 : Int32)).toInt).toNat + 1) 0 (by decide +kernel) (by first | exact mu_lt hmu (by omega) (by omega) | omega) S I M_0  (F_i_putAll_tubs_p2) _ _ hP hS _ (lv_sub hl [0, 1, 2, 3, 4] rfl)
noncomputable def F_i_write_J3 (S : dg_S) (gr : Nat) (o : Nat) (S_314 : dg_S) (pt : Nat) : dg_S := let x_316 : Int32 := zI S gr 11; let S_318 : dg_S := F_i_putAll_sold o S_314 pt (0 : Int32) x_316; let S_321 : dg_S := F_i_putAll_tubs o S_318 pt (0 : Int32) (10 : Int32); let x_322 : Int32 := zI S_321 182 3; let S_323 : dg_S := F_i_put o S_321 x_322; (S_323)
noncomputable def F_i_write_B4 (S : dg_S) (gr : Nat) (o : Nat) (pt : Nat) : (Int32 × dg_S) → (Int32 × dg_S) ⊕ (dg_S) := fun w9 => match w9 with | (x_418, S_419) => let x_421 : Int32 := zI S gr 8; (if x_421 ≤ x_418 then (Sum.inr ((F_i_write_J3 S gr o S_419 pt))) else let x_425 : Int32 := S_419.2.1 (pt + 3) (x_418 : Int32).toNatClampNeg; let S_426 : dg_S := F_i_put o S_419 x_425; let x_428 : Int32 := S_426.2.1 (pt + 4) (x_418 : Int32).toNatClampNeg; let x_429 : Int32 := F_columnOf o S_426 x_428; let S_431 : dg_S := F_i_put o S_426 x_429; let x_434 : Int32 := F_rowOf o S_431 x_428; let S_436 : dg_S := F_i_put o S_431 x_434; let x_437 : Int32 := x_418 + 1; (Sum.inl (x_437, S_436)))
noncomputable def F_i_write_J2 (S : dg_S) (gr : Nat) (o : Nat) (S_192 : dg_S) (pt : Nat) : dg_S := let x_194 : Int32 := zI S gr 6; let S_196 : dg_S := F_i_putAll_hurts o S_192 pt (0 : Int32) x_194; (lp (F_i_write_B4 S gr o pt) S ((17 - ((0 : Int32)).toInt).toNat + 1) ((0 : Int32), S_196))
noncomputable def F_i_write_B5 (S : dg_S) (gr : Nat) (o : Nat) (pt : Nat) : (Int32 × dg_S) → (Int32 × dg_S) ⊕ (dg_S) := fun w9 => match w9 with | (x_488, S_489) => let x_491 : Int32 := zI S gr 1; (if x_491 ≤ x_488 then (Sum.inr ((F_i_write_J2 S gr o S_489 pt))) else let x_494 : Int32 := (8 : Int32) * x_488; let x_495 : Int32 := x_494 + (8 : Int32); let x_496 : Int32 := zI S gr 0; let S_497 : dg_S := F_i_putAll_cells o S_489 pt x_495 x_496; let x_498 : Int32 := x_488 + 1; (Sum.inl (x_498, S_497)))
noncomputable def F_i_write_J1 (S : dg_S) (pt : Nat) (o : Nat) (S_9 : dg_S) (gr : Nat) : dg_S := let x_10 : Int32 := zI S pt 1; let x_11 : Int32 := x_10 >>> ((16 : Int32) &&& 31); let S_12 : dg_S := F_i_put o S_9 x_11; let x_13 : Int32 := x_10 >>> ((8 : Int32) &&& 31); let x_14 : Int32 := x_13 &&& (255 : Int32); let S_15 : dg_S := F_i_put o S_12 x_14; let x_16 : Int32 := x_10 &&& (255 : Int32); let S_17 : dg_S := F_i_put o S_15 x_16; (lp (F_i_write_B5 S gr o pt) S ((8 - ((0 : Int32)).toInt).toNat + 1) ((0 : Int32), S_17))
noncomputable def F_i_write (o : Nat) (S : dg_S) (gr : Nat) (pt : Nat) : dg_S := let S_2 : dg_S := dg_uF S 182 1 (.int (0 : Int32)); let S_4 : dg_S := dg_uF S_2 182 3 (.int (233 : Int32)); let x_5 : Int32 := zI S pt 0; let x_6 : Int32 := x_5 >>> ((8 : Int32) &&& 31); let S_7 : dg_S := F_i_put o S_4 x_6; let x_8 : Int32 := x_5 &&& (255 : Int32); let S_9 : dg_S := F_i_put o S_7 x_8; (F_i_write_J1 S pt o S_9 gr)
theorem F_i_write_p0 {S : dg_S} {gr : Nat} {o : Nat} {S_314 : dg_S} {pt : Nat} {S_323 : dg_S} {x_316 : Int32} {S_318 : dg_S} {S_321 : dg_S} {x_322 : Int32} (h0 : x_316 = zI S gr 11) (h1 : S_318 = F_i_putAll_sold o S_314 pt (0 : Int32) x_316) (h2 : S_321 = F_i_putAll_tubs o S_318 pt (0 : Int32) (10 : Int32)) (h3 : x_322 = zI S_321 182 3) (h4 : S_323 = F_i_put o S_321 x_322) : F_i_write_J3 S gr o S_314 pt = S_323 := by
  replace h0 := Eq.symm h0
  subst h0
  replace h1 := Eq.symm h1
  subst h1
  replace h2 := Eq.symm h2
  subst h2
  replace h3 := Eq.symm h3
  subst h3
  replace h4 := Eq.symm h4
  subst h4
  exact rfl
theorem F_i_write_p1 {S : dg_S} {gr : Nat} {o : Nat} {pt : Nat} {x_418 : Int32} {S_419 : dg_S} {x_421 : Int32} (h0 : x_421 = zI S gr 8) (h1 : x_421 ≤ x_418) : (F_i_write_B4 S gr o pt) (x_418, S_419) = Sum.inr (F_i_write_J3 S gr o S_419 pt) := by
  replace h0 := Eq.symm h0
  subst h0
  exact (Eq.trans (if_pos h1) rfl)
theorem F_i_write_p2 {S : dg_S} {gr : Nat} {o : Nat} {pt : Nat} {x_418 : Int32} {S_419 : dg_S} {x_437 : Int32} {S_436 : dg_S} {x_421 : Int32} {x_425 : Int32} {S_426 : dg_S} {x_428 : Int32} {x_429 : Int32} {S_431 : dg_S} {x_434 : Int32} (h0 : x_421 = zI S gr 8) (h1 : ¬ (x_421 ≤ x_418)) (h2 : x_425 = S_419.2.1 (pt + 3) (x_418 : Int32).toNatClampNeg) (h3 : S_426 = F_i_put o S_419 x_425) (h4 : x_428 = S_426.2.1 (pt + 4) (x_418 : Int32).toNatClampNeg) (h5 : x_429 = F_columnOf o S_426 x_428) (h6 : S_431 = F_i_put o S_426 x_429) (h7 : x_434 = F_rowOf o S_431 x_428) (h8 : S_436 = F_i_put o S_431 x_434) (h9 : x_437 = x_418 + 1) : (F_i_write_B4 S gr o pt) (x_418, S_419) = Sum.inl (x_437, S_436) := by
  replace h0 := Eq.symm h0
  subst h0
  replace h2 := Eq.symm h2
  subst h2
  replace h3 := Eq.symm h3
  subst h3
  replace h4 := Eq.symm h4
  subst h4
  replace h5 := Eq.symm h5
  subst h5
  replace h6 := Eq.symm h6
  subst h6
  replace h7 := Eq.symm h7
  subst h7
  replace h8 := Eq.symm h8
  subst h8
  replace h9 := Eq.symm h9
  subst h9
  exact (Eq.trans (if_neg h1) rfl)
theorem F_i_write_p3 {S : dg_S} {gr : Nat} {o : Nat} {S_192 : dg_S} {pt : Nat} {S_196 : dg_S} {x_194 : Int32} (h0 : x_194 = zI S gr 6) (h1 : S_196 = F_i_putAll_hurts o S_192 pt (0 : Int32) x_194) : F_i_write_J2 S gr o S_192 pt = lp (F_i_write_B4 S gr o pt) S ((17 - ((0 : Int32)).toInt).toNat + 1) ((0 : Int32), S_196) := by
  replace h0 := Eq.symm h0
  subst h0
  replace h1 := Eq.symm h1
  subst h1
  exact rfl
theorem F_i_write_p4 {S : dg_S} {gr : Nat} {o : Nat} {pt : Nat} {x_488 : Int32} {S_489 : dg_S} {x_491 : Int32} (h0 : x_491 = zI S gr 1) (h1 : x_491 ≤ x_488) : (F_i_write_B5 S gr o pt) (x_488, S_489) = Sum.inr (F_i_write_J2 S gr o S_489 pt) := by
  replace h0 := Eq.symm h0
  subst h0
  exact (Eq.trans (if_pos h1) rfl)
theorem F_i_write_p5 {S : dg_S} {gr : Nat} {o : Nat} {pt : Nat} {x_488 : Int32} {S_489 : dg_S} {x_498 : Int32} {S_497 : dg_S} {x_491 : Int32} {x_494 : Int32} {x_495 : Int32} {x_496 : Int32} (h0 : x_491 = zI S gr 1) (h1 : ¬ (x_491 ≤ x_488)) (h2 : x_494 = (8 : Int32) * x_488) (h3 : x_495 = x_494 + (8 : Int32)) (h4 : x_496 = zI S gr 0) (h5 : S_497 = F_i_putAll_cells o S_489 pt x_495 x_496) (h6 : x_498 = x_488 + 1) : (F_i_write_B5 S gr o pt) (x_488, S_489) = Sum.inl (x_498, S_497) := by
  replace h0 := Eq.symm h0
  subst h0
  replace h2 := Eq.symm h2
  subst h2
  replace h3 := Eq.symm h3
  subst h3
  replace h4 := Eq.symm h4
  subst h4
  replace h5 := Eq.symm h5
  subst h5
  replace h6 := Eq.symm h6
  subst h6
  exact (Eq.trans (if_neg h1) rfl)
theorem F_i_write_p6 {S : dg_S} {pt : Nat} {o : Nat} {S_9 : dg_S} {gr : Nat} {S_17 : dg_S} {x_10 : Int32} {x_11 : Int32} {S_12 : dg_S} {x_13 : Int32} {x_14 : Int32} {S_15 : dg_S} {x_16 : Int32} (h0 : x_10 = zI S pt 1) (h1 : x_11 = x_10 >>> ((16 : Int32) &&& 31)) (h2 : S_12 = F_i_put o S_9 x_11) (h3 : x_13 = x_10 >>> ((8 : Int32) &&& 31)) (h4 : x_14 = x_13 &&& (255 : Int32)) (h5 : S_15 = F_i_put o S_12 x_14) (h6 : x_16 = x_10 &&& (255 : Int32)) (h7 : S_17 = F_i_put o S_15 x_16) : F_i_write_J1 S pt o S_9 gr = lp (F_i_write_B5 S gr o pt) S ((8 - ((0 : Int32)).toInt).toNat + 1) ((0 : Int32), S_17) := by
  replace h0 := Eq.symm h0
  subst h0
  replace h1 := Eq.symm h1
  subst h1
  replace h2 := Eq.symm h2
  subst h2
  replace h3 := Eq.symm h3
  subst h3
  replace h4 := Eq.symm h4
  subst h4
  replace h5 := Eq.symm h5
  subst h5
  replace h6 := Eq.symm h6
  subst h6
  replace h7 := Eq.symm h7
  subst h7
  exact rfl
theorem F_i_write_p7 {o : Nat} {S : dg_S} {gr : Nat} {pt : Nat} {S_9 : dg_S} {S_2 : dg_S} {S_4 : dg_S} {x_5 : Int32} {x_6 : Int32} {S_7 : dg_S} {x_8 : Int32} (h0 : S_2 = dg_uF S 182 1 (.int (0 : Int32))) (h1 : S_4 = dg_uF S_2 182 3 (.int (233 : Int32))) (h2 : x_5 = zI S pt 0) (h3 : x_6 = x_5 >>> ((8 : Int32) &&& 31)) (h4 : S_7 = F_i_put o S_4 x_6) (h5 : x_8 = x_5 &&& (255 : Int32)) (h6 : S_9 = F_i_put o S_7 x_8) : F_i_write o S gr pt = F_i_write_J1 S pt o S_9 gr := by
  replace h0 := Eq.symm h0
  subst h0
  replace h1 := Eq.symm h1
  subst h1
  replace h2 := Eq.symm h2
  subst h2
  replace h3 := Eq.symm h3
  subst h3
  replace h4 := Eq.symm h4
  subst h4
  replace h5 := Eq.symm h5
  subst h5
  replace h6 := Eq.symm h6
  subst h6
  exact rfl
set_option maxHeartbeats 8000000 in
set_option maxRecDepth 100000 in
theorem c_i_write (l : Launch) (g : Nat → ClassId) (D : va_G) (o : Nat) (S : dg_S) (gr : Nat) (hk_gr : rX gr) (pt : Nat) (hk_pt : pX pt) (I : CX o S) (sz : Nat) : Met l yX4_write (bw yX4_write cX4_write 4 none) ({ frames := 3, cells := 0, slots := 0, locals := 77 } : Room) (dk_Pc g D (dg_w g shX o rfX S) sz [.ref (o + 182), .ref (o + gr), .ref (o + pt)]) (va_Qv (fun S' => CX o S' ∧ dg_sm shX [(16, 1), (16, 3)] [17] S S' ∧ (S' = F_i_write o S gr pt) ∧ True) (dg_B g D shX o rfX) (dg_A o shX.length sz)) 0 0 (dg_A o shX.length sz) := by
  refine dg_met (cc := cX4_write) (maxL := 4) (ret := none) (dk_dq rfl) rfl (Nat.le_of_ble_eq_true rfl) ?_
  intro p e s m args below meth c A hAe harg hx hb hr hml hts hown hlocks hin hP K hS hA1 hA ST hsz ls hl
  rw [← hAe]
  have F : CallFix p m c cX4_write 4 s args (bw yX4_write cX4_write 4 none) RX4 := ⟨hx, hb, hml, hown, hts⟩
  have hl : lv_has ls 4 [(0, .ref (o + 182)), (1, .ref (o + gr)), (2, .ref (o + pt))] := hl
  have M_0 : dg_sm shX [(16, 1), (16, 3)] [17] S S := dg_sm.rf
  refine lv_aload_n hx hb dX4_write_0 rfl (lv_at hl 0 rfl) ?_
  refine lv_iconst (v := 0) hx hb dX4_write_1 (by decide +kernel) ?_
  have hz_1 : (0 : Int32).toInt = 0 := by decide +kernel
  refine dg_put (ci := 4) (v := .int 0) (ty := tyX4 1) (C := RX4) (T := TX4) (N := 6) hx hb hts (fun w h => bw_mem (wU_X4 w h)) tyX4 tyX4_ok nmX4 hown K hP hS hA1 sX_182 rfl 1 (dk_dq rfl) (hts _ (bw_mem wB_777)) (fun _ h9 => h9) rfl (by decide +kernel) rfl rfl dX4_write_2 (fun S_2 e_2 H locs hP hS => ?_)
  have I_2 := dg_I.uFi (lo := 0) (hi := 124) I e_2 sX_182 (by decide +kernel) (show 0 ≤ ((0 : Int32)).toInt ∧ ((0 : Int32)).toInt ≤ 124 from (by decide +kernel))
  have M_2 := dg_sm.uF M_0 e_2 sX_182 (dk_dq rfl)
  refine lv_aload_n hx hb dX4_write_5 rfl (lv_at hl 0 rfl) ?_
  refine lv_sipush (v := 233) hx hb dX4_write_6 (by decide +kernel) ?_
  have hz_3 : (233 : Int32).toInt = 233 := by decide +kernel
  refine dg_put (ci := 4) (v := .int 233) (ty := tyX4 3) (C := RX4) (T := TX4) (N := 6) hx hb hts (fun w h => bw_mem (wU_X4 w h)) tyX4 tyX4_ok nmX4 hown K hP hS hA1 sX_182 rfl 3 (dk_dq rfl) (hts _ (bw_mem wB_779)) (fun _ h9 => h9) rfl (by decide +kernel) rfl rfl dX4_write_9 (fun S_4 e_4 H locs hP hS => ?_)
  have I_4 := dg_I.uFi (lo := (-2147483648)) (hi := 2147483647) I_2 e_4 sX_182 (by decide +kernel) (show (-2147483648) ≤ ((233 : Int32)).toInt ∧ ((233 : Int32)).toInt ≤ 2147483647 from (by decide +kernel))
  have M_4 := dg_sm.uF M_2 e_4 sX_182 (dk_dq rfl)
  refine lv_aload_n hx hb dX4_write_12 rfl (lv_at hl 0 rfl) ?_
  refine lv_aload_n hx hb dX4_write_13 rfl (lv_at hl 2 rfl) ?_
  obtain ⟨x_5, f_x_5, b_x_5⟩ := dg_I.int (i := pt) (k := 0) (lo := 0) (hi := 65535) I (pX_0 pt hk_pt) (by decide +kernel)
  refine dg_get (C := RX5) (T := TX5) (N := 8) hx hb hts (fun w h => bw_mem (wU_X5 w h)) hown K hP (pX_0 pt hk_pt) rfl 0 (dk_dq rfl) (hts _ (bw_mem wB_785)) (fun _ h9 => h9) (v := .int x_5) (((dg_uF_ne e_4 (fun z => absurd z.2 (dk_dq rfl))).trans (dg_uF_ne e_2 (fun z => absurd z.2 (dk_dq rfl)))).trans f_x_5) dX4_write_14 ?_
  refine lv_bipush (v := 8) hx hb dX4_write_17 (by decide +kernel) ?_
  refine lv_ishr hx hb dX4_write_19 ?_
  refine lv_topi (fun x_6 ex_6 => ?_)
  refine dg_callv hS hA1 hA (va_runV (As := [.int x_6]) (rest := []) F (c_i_put l g D o S_4 x_6 I_4 H.size) (cwV 1 hts (bw_V wB_781 wB_782 wB_783 wB_784 wB_780) rfl rfl rfl (by decide +kernel) ⟨Nat.le_of_ble_eq_true rfl, Nat.le_of_ble_eq_true rfl⟩) (dg_preV sX_182 rfl K ST hP hS hA1 hA) rfl rfl hl.1 rfl (lv_room (Nat.le_of_ble_eq_true rfl)) dX4_write_20 ⟨Nat.le_of_ble_eq_true rfl, Nat.le_of_ble_eq_true rfl⟩) (fun S_7 hw_7 H locs hP hS => ?_)
  obtain ⟨I_7, m_7, w_7_0, -⟩ := hw_7
  have M_7 := dg_sm.tr M_4 m_7 (dk_dq rfl) (dk_dq rfl)
  refine lv_aload_n hx hb dX4_write_23 rfl (lv_at hl 0 rfl) ?_
  refine lv_aload_n hx hb dX4_write_24 rfl (lv_at hl 2 rfl) ?_
  refine dg_get (C := RX5) (T := TX5) (N := 8) hx hb hts (fun w h => bw_mem (wU_X5 w h)) hown K hP (pX_0 pt hk_pt) rfl 0 (dk_dq rfl) (hts _ (bw_mem wB_785)) (fun _ h9 => h9) (v := .int x_5) (((m_7.1 pt 0 _ (pX_0 pt hk_pt) (dk_dq rfl)).trans ((dg_uF_ne e_4 (fun z => absurd z.2 (dk_dq rfl))).trans (dg_uF_ne e_2 (fun z => absurd z.2 (dk_dq rfl))))).trans f_x_5) dX4_write_25 ?_
  refine lv_sipush (v := 255) hx hb dX4_write_28 (by decide +kernel) ?_
  refine lv_iand hx hb dX4_write_31 ?_
  refine lv_topi (fun x_8 ex_8 => ?_)
  have jx_8 := dk_and255 x_5
  rw [← ex_8] at jx_8
  refine dg_callv hS hA1 hA (va_runV (As := [.int x_8]) (rest := []) F (c_i_put l g D o S_7 x_8 I_7 H.size) (cwV 1 hts (bw_V wB_781 wB_782 wB_783 wB_784 wB_780) rfl rfl rfl (by decide +kernel) ⟨Nat.le_of_ble_eq_true rfl, Nat.le_of_ble_eq_true rfl⟩) (dg_preV sX_182 rfl K ST hP hS hA1 hA) rfl rfl hl.1 rfl (lv_room (Nat.le_of_ble_eq_true rfl)) dX4_write_32 ⟨Nat.le_of_ble_eq_true rfl, Nat.le_of_ble_eq_true rfl⟩) (fun S_9 hw_9 H locs hP hS => ?_)
  obtain ⟨I_9, m_9, w_9_0, -⟩ := hw_9
  have M_9 := dg_sm.tr M_7 m_9 (dk_dq rfl) (dk_dq rfl)
  have hF_1 : F_i_write o S gr pt = F_i_write_J1 S pt o S_9 gr := (F_i_write_p7 e_2 e_4 (zI_eq f_x_5) ex_6 w_7_0 ex_8 w_9_0)
  as_aux_lemma =>
    refine lv_aload_n hx hb dX4_write_35 rfl (lv_at hl 0 rfl) ?_
    refine lv_aload_n hx hb dX4_write_36 rfl (lv_at hl 2 rfl) ?_
    obtain ⟨x_10, f_x_10, b_x_10⟩ := dg_I.int (i := pt) (k := 1) (lo := (-2147483648)) (hi := 2147483647) I (pX_0 pt hk_pt) (by decide +kernel)
    refine dg_get (C := RX5) (T := TX5) (N := 8) hx hb hts (fun w h => bw_mem (wU_X5 w h)) hown K hP (pX_0 pt hk_pt) rfl 1 (dk_dq rfl) (hts _ (bw_mem wB_786)) (fun _ h9 => h9) (v := .int x_10) (((m_9.1 pt 1 _ (pX_0 pt hk_pt) (dk_dq rfl)).trans ((m_7.1 pt 1 _ (pX_0 pt hk_pt) (dk_dq rfl)).trans ((dg_uF_ne e_4 (fun z => absurd z.2 (dk_dq rfl))).trans (dg_uF_ne e_2 (fun z => by have h9 := (pX_0 pt hk_pt); rw [z.1, sX_182] at h9; cases h9))))).trans f_x_10) dX4_write_37 ?_
    refine lv_bipush (v := 16) hx hb dX4_write_40 (by decide +kernel) ?_
    refine lv_ishr hx hb dX4_write_42 ?_
    refine lv_topi (fun x_11 ex_11 => ?_)
    refine dg_callv hS hA1 hA (va_runV (As := [.int x_11]) (rest := []) F (c_i_put l g D o S_9 x_11 I_9 H.size) (cwV 1 hts (bw_V wB_781 wB_782 wB_783 wB_784 wB_780) rfl rfl rfl (by decide +kernel) ⟨Nat.le_of_ble_eq_true rfl, Nat.le_of_ble_eq_true rfl⟩) (dg_preV sX_182 rfl K ST hP hS hA1 hA) rfl rfl hl.1 rfl (lv_room (Nat.le_of_ble_eq_true rfl)) dX4_write_43 ⟨Nat.le_of_ble_eq_true rfl, Nat.le_of_ble_eq_true rfl⟩) (fun S_12 hw_12 H locs hP hS => ?_)
    obtain ⟨I_12, m_12, w_12_0, -⟩ := hw_12
    have M_12 := dg_sm.tr M_9 m_12 (dk_dq rfl) (dk_dq rfl)
    refine lv_aload_n hx hb dX4_write_46 rfl (lv_at hl 0 rfl) ?_
    refine lv_aload_n hx hb dX4_write_47 rfl (lv_at hl 2 rfl) ?_
    refine dg_get (C := RX5) (T := TX5) (N := 8) hx hb hts (fun w h => bw_mem (wU_X5 w h)) hown K hP (pX_0 pt hk_pt) rfl 1 (dk_dq rfl) (hts _ (bw_mem wB_786)) (fun _ h9 => h9) (v := .int x_10) (((m_12.1 pt 1 _ (pX_0 pt hk_pt) (dk_dq rfl)).trans ((m_9.1 pt 1 _ (pX_0 pt hk_pt) (dk_dq rfl)).trans ((m_7.1 pt 1 _ (pX_0 pt hk_pt) (dk_dq rfl)).trans ((dg_uF_ne e_4 (fun z => absurd z.2 (dk_dq rfl))).trans (dg_uF_ne e_2 (fun z => by have h9 := (pX_0 pt hk_pt); rw [z.1, sX_182] at h9; cases h9)))))).trans f_x_10) dX4_write_48 ?_
    refine lv_bipush (v := 8) hx hb dX4_write_51 (by decide +kernel) ?_
    refine lv_ishr hx hb dX4_write_53 ?_
    refine lv_topi (fun x_13 ex_13 => ?_)
    refine lv_sipush (v := 255) hx hb dX4_write_54 (by decide +kernel) ?_
    refine lv_iand hx hb dX4_write_57 ?_
    refine lv_topi (fun x_14 ex_14 => ?_)
    have jx_14 := dk_and255 x_13
    rw [← ex_14] at jx_14
    refine dg_callv hS hA1 hA (va_runV (As := [.int x_14]) (rest := []) F (c_i_put l g D o S_12 x_14 I_12 H.size) (cwV 1 hts (bw_V wB_781 wB_782 wB_783 wB_784 wB_780) rfl rfl rfl (by decide +kernel) ⟨Nat.le_of_ble_eq_true rfl, Nat.le_of_ble_eq_true rfl⟩) (dg_preV sX_182 rfl K ST hP hS hA1 hA) rfl rfl hl.1 rfl (lv_room (Nat.le_of_ble_eq_true rfl)) dX4_write_58 ⟨Nat.le_of_ble_eq_true rfl, Nat.le_of_ble_eq_true rfl⟩) (fun S_15 hw_15 H locs hP hS => ?_)
    obtain ⟨I_15, m_15, w_15_0, -⟩ := hw_15
    have M_15 := dg_sm.tr M_12 m_15 (dk_dq rfl) (dk_dq rfl)
    refine lv_aload_n hx hb dX4_write_61 rfl (lv_at hl 0 rfl) ?_
    refine lv_aload_n hx hb dX4_write_62 rfl (lv_at hl 2 rfl) ?_
    refine dg_get (C := RX5) (T := TX5) (N := 8) hx hb hts (fun w h => bw_mem (wU_X5 w h)) hown K hP (pX_0 pt hk_pt) rfl 1 (dk_dq rfl) (hts _ (bw_mem wB_786)) (fun _ h9 => h9) (v := .int x_10) (((m_15.1 pt 1 _ (pX_0 pt hk_pt) (dk_dq rfl)).trans ((m_12.1 pt 1 _ (pX_0 pt hk_pt) (dk_dq rfl)).trans ((m_9.1 pt 1 _ (pX_0 pt hk_pt) (dk_dq rfl)).trans ((m_7.1 pt 1 _ (pX_0 pt hk_pt) (dk_dq rfl)).trans ((dg_uF_ne e_4 (fun z => absurd z.2 (dk_dq rfl))).trans (dg_uF_ne e_2 (fun z => by have h9 := (pX_0 pt hk_pt); rw [z.1, sX_182] at h9; cases h9))))))).trans f_x_10) dX4_write_63 ?_
    refine lv_sipush (v := 255) hx hb dX4_write_66 (by decide +kernel) ?_
    refine lv_iand hx hb dX4_write_69 ?_
    refine lv_topi (fun x_16 ex_16 => ?_)
    have jx_16 := dk_and255 x_10
    rw [← ex_16] at jx_16
    refine dg_callv hS hA1 hA (va_runV (As := [.int x_16]) (rest := []) F (c_i_put l g D o S_15 x_16 I_15 H.size) (cwV 1 hts (bw_V wB_781 wB_782 wB_783 wB_784 wB_780) rfl rfl rfl (by decide +kernel) ⟨Nat.le_of_ble_eq_true rfl, Nat.le_of_ble_eq_true rfl⟩) (dg_preV sX_182 rfl K ST hP hS hA1 hA) rfl rfl hl.1 rfl (lv_room (Nat.le_of_ble_eq_true rfl)) dX4_write_70 ⟨Nat.le_of_ble_eq_true rfl, Nat.le_of_ble_eq_true rfl⟩) (fun S_17 hw_17 H locs hP hS => ?_)
    obtain ⟨I_17, m_17, w_17_0, -⟩ := hw_17
    have M_17 := dg_sm.tr M_15 m_17 (dk_dq rfl) (dk_dq rfl)
    refine lv_iconst (v := 0) hx hb dX4_write_73 (by decide +kernel) ?_
    refine lv_istore_n (lv' := [(3, .int 0), (0, .ref (o + 182)), (1, .ref (o + gr)), (2, .ref (o + pt))]) hx hb dX4_write_74 rfl hl (dk_dq rfl) rfl (fun ls hl => ?_)
    have J_193 : ∀ (x_70 : Int32), (0 ≤ (x_70).toInt ∧ (x_70).toInt ≤ 2147483647) → ∀ S_192 : dg_S, CX o S_192 → dg_sm shX [(16, 1), (16, 3)] [17] S S_192 → (F_i_write o S gr pt = F_i_write_J2 S gr o S_192 pt) → ∀ (H : Heap) (locs : List Loc), va_P D vwCl (dg_w g shX o rfX S_192) H → va_S A s.heap H locs → ∀ ls : Array Slot, lv_has ls 4 [(3, .int x_70), (0, .ref (o + 182)), (1, .ref (o + gr)), (2, .ref (o + pt))] → W p l e ({ frames := 3, cells := 0, slots := 0, locals := 77 } : Room) s m args below meth c H locs 0 0 (MQ below (va_Qv (fun S' => CX o S' ∧ dg_sm shX [(16, 1), (16, 3)] [17] S S' ∧ (S' = F_i_write o S gr pt) ∧ True) (dg_B g D shX o rfX) A) args s 0 0 A) (F0 m 108 ls []) := by
      as_aux_lemma =>
        intro x_70 b_x_70 S_192 I_192 M_192 hF_2 H locs hP hS ls hl
        refine lv_aload_n hx hb dX4_write_108 rfl (lv_at hl 1 rfl) ?_
        refine lv_aload_n hx hb dX4_write_109 rfl (lv_at hl 3 rfl) ?_
        refine dg_get (C := RX5) (T := TX5) (N := 8) hx hb hts (fun w h => bw_mem (wU_X5 w h)) hown K hP (pX_0 pt hk_pt) rfl 3 (dk_dq rfl) (hts _ (bw_mem wB_794)) (fun _ h9 => h9) (v := .ref (o + (pt + 2))) (show S_192.1 pt 3 = .ref (o + (pt + 2)) from dg_I.rel (d := 2) I_192 (pX_0 pt hk_pt) (by decide +kernel)) dX4_write_110 ?_
        refine lv_iconst (v := 0) hx hb dX4_write_113 (by decide +kernel) ?_
        refine lv_aload_n hx hb dX4_write_114 rfl (lv_at hl 2 rfl) ?_
        obtain ⟨x_194, f_x_194, b_x_194⟩ := dg_I.int (i := gr) (k := 6) (lo := 0) (hi := 6) I (rX_0 gr hk_gr) (by decide +kernel)
        refine dg_get (C := RX2) (T := TX2) (N := 19) hx hb hts (fun w h => bw_mem (wU_X2 w h)) hown K hP (rX_0 gr hk_gr) rfl 6 (dk_dq rfl) (hts _ (bw_mem wB_795)) (fun _ h9 => h9) (v := .int x_194) ((M_192.1 gr 6 _ (rX_0 gr hk_gr) (dk_dq rfl)).trans f_x_194) dX4_write_115 ?_
        have hz_195 : (0 : Int32).toInt = 0 := by decide +kernel
        refine dg_callv hS hA1 hA (va_runV (As := [.ref (o + (pt + 2)), .int 0, .int x_194]) (rest := []) F (c_i_putAll_hurts l g D o S_192 pt hk_pt 0 (by decide +kernel) x_194 (by omega) I_192 H.size) (cwV 3 hts (bw_V wB_791 wB_792 wB_793 wB_784 wB_790) rfl rfl rfl (by decide +kernel) ⟨Nat.le_of_ble_eq_true rfl, Nat.le_of_ble_eq_true rfl⟩) (dg_preV sX_182 rfl K ST hP hS hA1 hA) rfl rfl hl.1 rfl (lv_room (Nat.le_of_ble_eq_true rfl)) dX4_write_118 ⟨Nat.le_of_ble_eq_true rfl, Nat.le_of_ble_eq_true rfl⟩) (fun S_196 hw_196 H locs hP hS => ?_)
        obtain ⟨I_196, m_196, w_196_0, -⟩ := hw_196
        have M_196 := dg_sm.tr M_192 m_196 (dk_dq rfl) (dk_dq rfl)
        refine lv_iconst (v := 0) hx hb dX4_write_121 (by decide +kernel) ?_
        refine lv_istore_n (lv' := [(3, .int 0), (0, .ref (o + 182)), (1, .ref (o + gr)), (2, .ref (o + pt))]) hx hb dX4_write_122 rfl hl (dk_dq rfl) rfl (fun ls hl => ?_)
        have J_315 : ∀ (x_304 : Int32), (0 ≤ (x_304).toInt ∧ (x_304).toInt ≤ 2147483647) → ∀ S_314 : dg_S, CX o S_314 → dg_sm shX [(16, 1), (16, 3)] [17] S S_314 → (F_i_write o S gr pt = F_i_write_J3 S gr o S_314 pt) → ∀ (H : Heap) (locs : List Loc), va_P D vwCl (dg_w g shX o rfX S_314) H → va_S A s.heap H locs → ∀ ls : Array Slot, lv_has ls 4 [(3, .int x_304), (0, .ref (o + 182)), (1, .ref (o + gr)), (2, .ref (o + pt))] → W p l e ({ frames := 3, cells := 0, slots := 0, locals := 77 } : Room) s m args below meth c H locs 0 0 (MQ below (va_Qv (fun S' => CX o S' ∧ dg_sm shX [(16, 1), (16, 3)] [17] S S' ∧ (S' = F_i_write o S gr pt) ∧ True) (dg_B g D shX o rfX) A) args s 0 0 A) (F0 m 173 ls []) := by
          as_aux_lemma =>
            intro x_304 b_x_304 S_314 I_314 M_314 hF_3 H locs hP hS ls hl
            refine lv_aload_n hx hb dX4_write_173 rfl (lv_at hl 1 rfl) ?_
            refine lv_aload_n hx hb dX4_write_174 rfl (lv_at hl 3 rfl) ?_
            refine dg_get (C := RX5) (T := TX5) (N := 8) hx hb hts (fun w h => bw_mem (wU_X5 w h)) hown K hP (pX_0 pt hk_pt) rfl 6 (dk_dq rfl) (hts _ (bw_mem wB_801)) (fun _ h9 => h9) (v := .ref (o + (pt + 5))) (show S_314.1 pt 6 = .ref (o + (pt + 5)) from dg_I.rel (d := 5) I_314 (pX_0 pt hk_pt) (by decide +kernel)) dX4_write_175 ?_
            refine lv_iconst (v := 0) hx hb dX4_write_178 (by decide +kernel) ?_
            refine lv_aload_n hx hb dX4_write_179 rfl (lv_at hl 2 rfl) ?_
            obtain ⟨x_316, f_x_316, b_x_316⟩ := dg_I.int (i := gr) (k := 11) (lo := 0) (hi := 5) I (rX_0 gr hk_gr) (by decide +kernel)
            refine dg_get (C := RX2) (T := TX2) (N := 19) hx hb hts (fun w h => bw_mem (wU_X2 w h)) hown K hP (rX_0 gr hk_gr) rfl 11 (dk_dq rfl) (hts _ (bw_mem wB_802)) (fun _ h9 => h9) (v := .int x_316) ((M_314.1 gr 11 _ (rX_0 gr hk_gr) (dk_dq rfl)).trans f_x_316) dX4_write_180 ?_
            have hz_317 : (0 : Int32).toInt = 0 := by decide +kernel
            refine dg_callv hS hA1 hA (va_runV (As := [.ref (o + (pt + 5)), .int 0, .int x_316]) (rest := []) F (c_i_putAll_sold l g D o S_314 pt hk_pt 0 (by decide +kernel) x_316 (by omega) I_314 H.size) (cwV 3 hts (bw_V wB_791 wB_792 wB_793 wB_784 wB_790) rfl rfl rfl (by decide +kernel) ⟨Nat.le_of_ble_eq_true rfl, Nat.le_of_ble_eq_true rfl⟩) (dg_preV sX_182 rfl K ST hP hS hA1 hA) rfl rfl hl.1 rfl (lv_room (Nat.le_of_ble_eq_true rfl)) dX4_write_183 ⟨Nat.le_of_ble_eq_true rfl, Nat.le_of_ble_eq_true rfl⟩) (fun S_318 hw_318 H locs hP hS => ?_)
            obtain ⟨I_318, m_318, w_318_0, -⟩ := hw_318
            have M_318 := dg_sm.tr M_314 m_318 (dk_dq rfl) (dk_dq rfl)
            refine lv_aload_n hx hb dX4_write_186 rfl (lv_at hl 1 rfl) ?_
            refine lv_aload_n hx hb dX4_write_187 rfl (lv_at hl 3 rfl) ?_
            refine dg_get (C := RX5) (T := TX5) (N := 8) hx hb hts (fun w h => bw_mem (wU_X5 w h)) hown K hP (pX_0 pt hk_pt) rfl 7 (dk_dq rfl) (hts _ (bw_mem wB_803)) (fun _ h9 => h9) (v := .ref (o + (pt + 6))) (show S_318.1 pt 7 = .ref (o + (pt + 6)) from dg_I.rel (d := 6) I_318 (pX_0 pt hk_pt) (by decide +kernel)) dX4_write_188 ?_
            refine lv_iconst (v := 0) hx hb dX4_write_191 (by decide +kernel) ?_
            refine lv_bipush (v := 10) hx hb dX4_write_192 (by decide +kernel) ?_
            have hz_319 : (0 : Int32).toInt = 0 := by decide +kernel
            have hz_320 : (10 : Int32).toInt = 10 := by decide +kernel
            refine dg_callv hS hA1 hA (va_runV (As := [.ref (o + (pt + 6)), .int 0, .int 10]) (rest := []) F (c_i_putAll_tubs l g D o S_318 pt hk_pt 0 (by decide +kernel) 10 (by decide +kernel) I_318 H.size) (cwV 3 hts (bw_V wB_791 wB_792 wB_793 wB_784 wB_790) rfl rfl rfl (by decide +kernel) ⟨Nat.le_of_ble_eq_true rfl, Nat.le_of_ble_eq_true rfl⟩) (dg_preV sX_182 rfl K ST hP hS hA1 hA) rfl rfl hl.1 rfl (lv_room (Nat.le_of_ble_eq_true rfl)) dX4_write_194 ⟨Nat.le_of_ble_eq_true rfl, Nat.le_of_ble_eq_true rfl⟩) (fun S_321 hw_321 H locs hP hS => ?_)
            obtain ⟨I_321, m_321, w_321_0, -⟩ := hw_321
            have M_321 := dg_sm.tr M_318 m_321 (dk_dq rfl) (dk_dq rfl)
            refine lv_aload_n hx hb dX4_write_197 rfl (lv_at hl 1 rfl) ?_
            refine lv_aload_n hx hb dX4_write_198 rfl (lv_at hl 1 rfl) ?_
            obtain ⟨x_322, f_x_322, b_x_322⟩ := dg_I.int (i := 182) (k := 3) (lo := (-2147483648)) (hi := 2147483647) I_321 sX_182 (by decide +kernel)
            refine dg_get (C := RX4) (T := TX4) (N := 6) hx hb hts (fun w h => bw_mem (wU_X4 w h)) hown K hP sX_182 rfl 3 (dk_dq rfl) (hts _ (bw_mem wB_779)) (fun _ h9 => h9) (v := .int x_322) f_x_322 dX4_write_199 ?_
            refine dg_callv hS hA1 hA (va_runV (As := [.int x_322]) (rest := []) F (c_i_put l g D o S_321 x_322 I_321 H.size) (cwV 1 hts (bw_V wB_781 wB_782 wB_783 wB_784 wB_780) rfl rfl rfl (by decide +kernel) ⟨Nat.le_of_ble_eq_true rfl, Nat.le_of_ble_eq_true rfl⟩) (dg_preV sX_182 rfl K ST hP hS hA1 hA) rfl rfl hl.1 rfl (lv_room (Nat.le_of_ble_eq_true rfl)) dX4_write_202 ⟨Nat.le_of_ble_eq_true rfl, Nat.le_of_ble_eq_true rfl⟩) (fun S_323 hw_323 H locs hP hS => ?_)
            obtain ⟨I_323, m_323, w_323_0, -⟩ := hw_323
            have M_323 := dg_sm.tr M_321 m_323 (dk_dq rfl) (dk_dq rfl)
            refine W.widen (k := 0) (n := 0) (Nat.le_of_ble_eq_true rfl) (Nat.le_of_ble_eq_true rfl) ?_
            exact dg_vret hx hb hr hlocks hP hS ⟨I_323, M_323, (Eq.symm (Eq.trans hF_3 (F_i_write_p0 (zI_eq f_x_316) w_318_0 w_321_0 (zI_eq f_x_322) w_323_0))), trivial⟩ dX4_write_205
        have L_420 : ∀ (n : Nat) (x_418 : Int32), (0 ≤ (x_418).toInt ∧ (x_418).toInt ≤ 16) → ((17 - (x_418).toInt).toNat < n) → ∀ S_419 : dg_S, CX o S_419 → dg_sm shX [(16, 1), (16, 3)] [17] S S_419 → (F_i_write o S gr pt = lp (F_i_write_B4 S gr o pt) S n (x_418, S_419)) → ∀ (H : Heap) (locs : List Loc), va_P D vwCl (dg_w g shX o rfX S_419) H → va_S A s.heap H locs → ∀ ls : Array Slot, lv_has ls 4 [(3, .int x_418), (0, .ref (o + 182)), (1, .ref (o + gr)), (2, .ref (o + pt))] → W p l e ({ frames := 3, cells := 0, slots := 0, locals := 77 } : Room) s m args below meth c H locs 0 0 (MQ below (va_Qv (fun S' => CX o S' ∧ dg_sm shX [(16, 1), (16, 3)] [17] S S' ∧ (S' = F_i_write o S gr pt) ∧ True) (dg_B g D shX o rfX) A) args s 0 0 A) (F0 m 123 ls []) := by
          as_aux_lemma =>
            intro n
            induction n with
            | zero =>
              intro x_418 b_x_418 hmu S_419 I_419 M_419 hF_4 H locs hP hS ls hl
              omega
            | succ n ih =>
              as_aux_lemma =>
                intro x_418 b_x_418 hmu S_419 I_419 M_419 hF_4 H locs hP hS ls hl
                refine lv_iload_n hx hb dX4_write_123 rfl (lv_at hl 0 rfl) ?_
                refine lv_aload_n hx hb dX4_write_124 rfl (lv_at hl 2 rfl) ?_
                obtain ⟨x_421, f_x_421, b_x_421⟩ := dg_I.int (i := gr) (k := 8) (lo := 0) (hi := 16) I (rX_0 gr hk_gr) (by decide +kernel)
                refine dg_get (C := RX2) (T := TX2) (N := 19) hx hb hts (fun w h => bw_mem (wU_X2 w h)) hown K hP (rX_0 gr hk_gr) rfl 8 (dk_dq rfl) (hts _ (bw_mem wB_796)) (fun _ h9 => h9) (v := .int x_421) ((M_419.1 gr 8 _ (rX_0 gr hk_gr) (dk_dq rfl)).trans f_x_421) dX4_write_125 ?_
                refine lv_icmp_ge (tgt := 173) hx hb dX4_write_128 (dk_dq rfl) (fun c_422 => ?_) (fun c_422 => ?_)
                · have jc_422 := dk_gec (k := (x_421).toInt) rfl c_422
                  have hf_422 := dk_full x_418
                  exact J_315 x_418 (by omega) S_419 I_419 M_419  (lp_r hF_4 (F_i_write_p1 (zI_eq f_x_421) c_422)) _ _ hP hS _ (lv_sub hl [0, 1, 2, 3] rfl)
                · as_aux_lemma =>
                    have jc_422 := dk_ngec (k := (x_421).toInt) rfl c_422
                    refine lv_aload_n hx hb dX4_write_131 rfl (lv_at hl 1 rfl) ?_
                    refine lv_aload_n hx hb dX4_write_132 rfl (lv_at hl 3 rfl) ?_
                    refine dg_get (C := RX5) (T := TX5) (N := 8) hx hb hts (fun w h => bw_mem (wU_X5 w h)) hown K hP (pX_0 pt hk_pt) rfl 4 (dk_dq rfl) (hts _ (bw_mem wB_797)) (fun _ h9 => h9) (v := .ref (o + (pt + 3))) (show S_419.1 pt 4 = .ref (o + (pt + 3)) from dg_I.rel (d := 3) I_419 (pX_0 pt hk_pt) (by decide +kernel)) dX4_write_133 ?_
                    refine lv_iload_n hx hb dX4_write_136 rfl (lv_at hl 0 rfl) ?_
                    have hin_424 : vp_in x_418 16 := (dk_inv2 (by omega))
                    refine dg_iald hx hb K hP (pX_3 pt hk_pt) hin_424 dX4_write_137 (fun x_425 ex_425 => ?_)
                    have b_x_425 := dk_all_at (dg_I.row (lo := 0) (hi := 5) I_419 (pX_3 pt hk_pt) (by decide +kernel)) hin_424 ex_425
                    refine dg_callv hS hA1 hA (va_runV (As := [.int x_425]) (rest := []) F (c_i_put l g D o S_419 x_425 I_419 H.size) (cwV 1 hts (bw_V wB_781 wB_782 wB_783 wB_784 wB_780) rfl rfl rfl (by decide +kernel) ⟨Nat.le_of_ble_eq_true rfl, Nat.le_of_ble_eq_true rfl⟩) (dg_preV sX_182 rfl K ST hP hS hA1 hA) rfl rfl hl.1 rfl (lv_room (Nat.le_of_ble_eq_true rfl)) dX4_write_138 ⟨Nat.le_of_ble_eq_true rfl, Nat.le_of_ble_eq_true rfl⟩) (fun S_426 hw_426 H locs hP hS => ?_)
                    obtain ⟨I_426, m_426, w_426_0, -⟩ := hw_426
                    have M_426 := dg_sm.tr M_419 m_426 (dk_dq rfl) (dk_dq rfl)
                    refine lv_aload_n hx hb dX4_write_141 rfl (lv_at hl 1 rfl) ?_
                    refine lv_aload_n hx hb dX4_write_142 rfl (lv_at hl 3 rfl) ?_
                    refine dg_get (C := RX5) (T := TX5) (N := 8) hx hb hts (fun w h => bw_mem (wU_X5 w h)) hown K hP (pX_0 pt hk_pt) rfl 5 (dk_dq rfl) (hts _ (bw_mem wB_798)) (fun _ h9 => h9) (v := .ref (o + (pt + 4))) (show S_426.1 pt 5 = .ref (o + (pt + 4)) from dg_I.rel (d := 4) I_426 (pX_0 pt hk_pt) (by decide +kernel)) dX4_write_143 ?_
                    refine lv_iload_n hx hb dX4_write_146 rfl (lv_at hl 0 rfl) ?_
                    have hin_427 : vp_in x_418 16 := (dk_inv2 (by omega))
                    refine dg_iald hx hb K hP (pX_4 pt hk_pt) hin_427 dX4_write_147 (fun x_428 ex_428 => ?_)
                    have b_x_428 := dk_all_at (dg_I.row (lo := 0) (hi := 63) I_426 (pX_4 pt hk_pt) (by decide +kernel)) hin_427 ex_428
                    refine dg_calli hS hA1 hA (va_runSN (As := [.int x_428]) (rest := [.ref (o + 182)]) F (c_columnOf l g D o S_426 x_428 I_426 H.size) ⟨va_cnB 1 hts (bw_in wB_799) rfl rfl rfl (K.2.1 _ (List.mem_of_getElem? (i := 9) rfl)) (hts _ (bw_mem wB_610)) (by decide +kernel) ⟨Nat.le_of_ble_eq_true rfl, Nat.le_of_ble_eq_true rfl⟩, (hts _ (bw_mem wB_800)), trivial⟩ (dg_preS K ST hP hS hA1 hA) rfl rfl hl.1 rfl (lv_room (Nat.le_of_ble_eq_true rfl)) dX4_write_148 ⟨Nat.le_of_ble_eq_true rfl, Nat.le_of_ble_eq_true rfl⟩) (fun x_429 S_430 hw_430 H locs hP hS => ?_)
                    rw [hw_430.1] at hP
                    obtain ⟨hq_430, w_430_0, w_430_1, -⟩ := hw_430
                    have w_430_0 : 0 ≤ (x_429).toInt ∧ (x_429).toInt ≤ 7 := w_430_0
                    refine dg_callv hS hA1 hA (va_runV (As := [.int x_429]) (rest := []) F (c_i_put l g D o S_426 x_429 I_426 H.size) (cwV 1 hts (bw_V wB_781 wB_782 wB_783 wB_784 wB_780) rfl rfl rfl (by decide +kernel) ⟨Nat.le_of_ble_eq_true rfl, Nat.le_of_ble_eq_true rfl⟩) (dg_preV sX_182 rfl K ST hP hS hA1 hA) rfl rfl hl.1 rfl (lv_room (Nat.le_of_ble_eq_true rfl)) dX4_write_151 ⟨Nat.le_of_ble_eq_true rfl, Nat.le_of_ble_eq_true rfl⟩) (fun S_431 hw_431 H locs hP hS => ?_)
                    obtain ⟨I_431, m_431, w_431_0, -⟩ := hw_431
                    have M_431 := dg_sm.tr M_426 m_431 (dk_dq rfl) (dk_dq rfl)
                    refine lv_aload_n hx hb dX4_write_154 rfl (lv_at hl 1 rfl) ?_
                    refine lv_aload_n hx hb dX4_write_155 rfl (lv_at hl 3 rfl) ?_
                    refine dg_get (C := RX5) (T := TX5) (N := 8) hx hb hts (fun w h => bw_mem (wU_X5 w h)) hown K hP (pX_0 pt hk_pt) rfl 5 (dk_dq rfl) (hts _ (bw_mem wB_798)) (fun _ h9 => h9) (v := .ref (o + (pt + 4))) (show S_431.1 pt 5 = .ref (o + (pt + 4)) from dg_I.rel (d := 4) I_431 (pX_0 pt hk_pt) (by decide +kernel)) dX4_write_156 ?_
                    refine lv_iload_n hx hb dX4_write_159 rfl (lv_at hl 0 rfl) ?_
                    have hin_432 : vp_in x_418 16 := (dk_inv2 (by omega))
                    refine dg_iald hx hb K hP (pX_4 pt hk_pt) hin_432 dX4_write_160 (fun y_433 ey_433 => ?_)
                    obtain rfl : x_428 = y_433 := ((ey_433.trans (congrFun (m_431.2 (pt + 4) _ (pX_4 pt hk_pt) (dk_dq rfl)).1 _)).trans ex_428.symm).symm
                    refine dg_calli hS hA1 hA (va_runSN (As := [.int x_428]) (rest := [.ref (o + 182)]) F (c_rowOf l g D o S_431 x_428 I_431 H.size) ⟨va_cnB 1 hts (bw_in wB_609) rfl rfl rfl (K.2.1 _ (List.mem_of_getElem? (i := 10) rfl)) (hts _ (bw_mem wB_610)) (by decide +kernel) ⟨Nat.le_of_ble_eq_true rfl, Nat.le_of_ble_eq_true rfl⟩, (hts _ (bw_mem wB_611)), trivial⟩ (dg_preS K ST hP hS hA1 hA) rfl rfl hl.1 rfl (lv_room (Nat.le_of_ble_eq_true rfl)) dX4_write_161 ⟨Nat.le_of_ble_eq_true rfl, Nat.le_of_ble_eq_true rfl⟩) (fun x_434 S_435 hw_435 H locs hP hS => ?_)
                    rw [hw_435.1] at hP
                    obtain ⟨hq_435, w_435_0, -⟩ := hw_435
                    refine dg_callv hS hA1 hA (va_runV (As := [.int x_434]) (rest := []) F (c_i_put l g D o S_431 x_434 I_431 H.size) (cwV 1 hts (bw_V wB_781 wB_782 wB_783 wB_784 wB_780) rfl rfl rfl (by decide +kernel) ⟨Nat.le_of_ble_eq_true rfl, Nat.le_of_ble_eq_true rfl⟩) (dg_preV sX_182 rfl K ST hP hS hA1 hA) rfl rfl hl.1 rfl (lv_room (Nat.le_of_ble_eq_true rfl)) dX4_write_164 ⟨Nat.le_of_ble_eq_true rfl, Nat.le_of_ble_eq_true rfl⟩) (fun S_436 hw_436 H locs hP hS => ?_)
                    obtain ⟨I_436, m_436, w_436_0, -⟩ := hw_436
                    have M_436 := dg_sm.tr M_431 m_436 (dk_dq rfl) (dk_dq rfl)
                    obtain ⟨x_437, ex_437⟩ : ∃ z, z = x_418 + 1 := ⟨_, rfl⟩
                    have jx_437 : (x_437).toInt = (x_418).toInt + 1 := by rw [ex_437]; exact dk_addT2 rfl (by decide +kernel) (by omega)
                    refine lv_iinc (v := x_437) (lv' := [(3, .int x_437), (0, .ref (o + 182)), (1, .ref (o + gr)), (2, .ref (o + pt))]) hx hb dX4_write_167 hl (k := 0) rfl (by rw [ex_437]; rfl) (dk_dq rfl) rfl (fun ls hl => ?_)
                    refine lv_goto (tgt := 123) hx hb dX4_write_170 (dk_dq rfl) ?_
                    exact ih x_437 (by omega) (by first | exact mu_lt hmu (by omega) (by omega) | omega) S_436 I_436 M_436  (lp_l hF_4 (F_i_write_p2 (zI_eq f_x_421) c_422 (Eq.symm ex_425.symm) w_426_0 (Eq.symm ex_428.symm) w_430_1 w_431_0 w_435_0 w_436_0 ex_437)) _ _ hP hS _ (lv_sub hl [0, 1, 2, 3] rfl)
        have hz_438 : (0 : Int32).toInt = 0 := by decide +kernel
        have hz_439 : (0 : Int32).toInt = 0 := by decide +kernel
        exact L_420 ((17 - ((0 : Int32)).toInt).toNat + 1) 0 (by decide +kernel) (by first | exact mu_lt hmu (by omega) (by omega) | omega) S_196 I_196 M_196  (Eq.trans hF_2 (F_i_write_p3 (zI_eq f_x_194) w_196_0)) _ _ hP hS _ (lv_sub hl [0, 1, 2, 3] rfl)
    have L_490 : ∀ (n : Nat) (x_488 : Int32), (0 ≤ (x_488).toInt ∧ (x_488).toInt ≤ 7) → ((8 - (x_488).toInt).toNat < n) → ∀ S_489 : dg_S, CX o S_489 → dg_sm shX [(16, 1), (16, 3)] [17] S S_489 → (F_i_write o S gr pt = lp (F_i_write_B5 S gr o pt) S n (x_488, S_489)) → ∀ (H : Heap) (locs : List Loc), va_P D vwCl (dg_w g shX o rfX S_489) H → va_S A s.heap H locs → ∀ ls : Array Slot, lv_has ls 4 [(3, .int x_488), (0, .ref (o + 182)), (1, .ref (o + gr)), (2, .ref (o + pt))] → W p l e ({ frames := 3, cells := 0, slots := 0, locals := 77 } : Room) s m args below meth c H locs 0 0 (MQ below (va_Qv (fun S' => CX o S' ∧ dg_sm shX [(16, 1), (16, 3)] [17] S S' ∧ (S' = F_i_write o S gr pt) ∧ True) (dg_B g D shX o rfX) A) args s 0 0 A) (F0 m 75 ls []) := by
      as_aux_lemma =>
        intro n
        induction n with
        | zero =>
          intro x_488 b_x_488 hmu S_489 I_489 M_489 hF_5 H locs hP hS ls hl
          omega
        | succ n ih =>
          as_aux_lemma =>
            intro x_488 b_x_488 hmu S_489 I_489 M_489 hF_5 H locs hP hS ls hl
            refine lv_iload_n hx hb dX4_write_75 rfl (lv_at hl 0 rfl) ?_
            refine lv_aload_n hx hb dX4_write_76 rfl (lv_at hl 2 rfl) ?_
            obtain ⟨x_491, f_x_491, b_x_491⟩ := dg_I.int (i := gr) (k := 1) (lo := 0) (hi := 7) I (rX_0 gr hk_gr) (by decide +kernel)
            refine dg_get (C := RX2) (T := TX2) (N := 19) hx hb hts (fun w h => bw_mem (wU_X2 w h)) hown K hP (rX_0 gr hk_gr) rfl 1 (dk_dq rfl) (hts _ (bw_mem wB_787)) (fun _ h9 => h9) (v := .int x_491) ((M_489.1 gr 1 _ (rX_0 gr hk_gr) (dk_dq rfl)).trans f_x_491) dX4_write_77 ?_
            refine lv_icmp_ge (tgt := 108) hx hb dX4_write_80 (dk_dq rfl) (fun c_492 => ?_) (fun c_492 => ?_)
            · have jc_492 := dk_gec (k := (x_491).toInt) rfl c_492
              have hf_492 := dk_full x_488
              exact J_193 x_488 (by omega) S_489 I_489 M_489  (lp_r hF_5 (F_i_write_p4 (zI_eq f_x_491) c_492)) _ _ hP hS _ (lv_sub hl [0, 1, 2, 3] rfl)
            · as_aux_lemma =>
                have jc_492 := dk_ngec (k := (x_491).toInt) rfl c_492
                refine lv_aload_n hx hb dX4_write_83 rfl (lv_at hl 1 rfl) ?_
                refine lv_aload_n hx hb dX4_write_84 rfl (lv_at hl 3 rfl) ?_
                refine dg_get (C := RX5) (T := TX5) (N := 8) hx hb hts (fun w h => bw_mem (wU_X5 w h)) hown K hP (pX_0 pt hk_pt) rfl 2 (dk_dq rfl) (hts _ (bw_mem wB_788)) (fun _ h9 => h9) (v := .ref (o + (pt + 1))) (show S_489.1 pt 2 = .ref (o + (pt + 1)) from dg_I.rel (d := 1) I_489 (pX_0 pt hk_pt) (by decide +kernel)) dX4_write_85 ?_
                refine lv_bipush (v := 8) hx hb dX4_write_88 (by decide +kernel) ?_
                refine lv_iload_n hx hb dX4_write_90 rfl (lv_at hl 0 rfl) ?_
                refine lv_imul hx hb dX4_write_91 ?_
                refine lv_topi (fun x_494 ex_494 => ?_)
                have jx_494 : (x_494).toInt = 8 * (x_488).toInt := by rw [ex_494]; exact dk_mulT2 (by decide +kernel) rfl (by omega)
                refine lv_bipush (v := 8) hx hb dX4_write_92 (by decide +kernel) ?_
                refine lv_iadd hx hb dX4_write_94 ?_
                refine lv_topi (fun x_495 ex_495 => ?_)
                have jx_495 : (x_495).toInt = (x_494).toInt + 8 := by rw [ex_495]; exact dk_addT2 rfl (by decide +kernel) (by omega)
                refine lv_aload_n hx hb dX4_write_95 rfl (lv_at hl 2 rfl) ?_
                obtain ⟨x_496, f_x_496, b_x_496⟩ := dg_I.int (i := gr) (k := 0) (lo := 0) (hi := 7) I (rX_0 gr hk_gr) (by decide +kernel)
                refine dg_get (C := RX2) (T := TX2) (N := 19) hx hb hts (fun w h => bw_mem (wU_X2 w h)) hown K hP (rX_0 gr hk_gr) rfl 0 (dk_dq rfl) (hts _ (bw_mem wB_789)) (fun _ h9 => h9) (v := .int x_496) ((M_489.1 gr 0 _ (rX_0 gr hk_gr) (dk_dq rfl)).trans f_x_496) dX4_write_96 ?_
                refine dg_callv hS hA1 hA (va_runV (As := [.ref (o + (pt + 1)), .int x_495, .int x_496]) (rest := []) F (c_i_putAll_cells l g D o S_489 pt hk_pt x_495 (by omega) x_496 (by omega) I_489 H.size) (cwV 3 hts (bw_V wB_791 wB_792 wB_793 wB_784 wB_790) rfl rfl rfl (by decide +kernel) ⟨Nat.le_of_ble_eq_true rfl, Nat.le_of_ble_eq_true rfl⟩) (dg_preV sX_182 rfl K ST hP hS hA1 hA) rfl rfl hl.1 rfl (lv_room (Nat.le_of_ble_eq_true rfl)) dX4_write_99 ⟨Nat.le_of_ble_eq_true rfl, Nat.le_of_ble_eq_true rfl⟩) (fun S_497 hw_497 H locs hP hS => ?_)
                obtain ⟨I_497, m_497, w_497_0, -⟩ := hw_497
                have M_497 := dg_sm.tr M_489 m_497 (dk_dq rfl) (dk_dq rfl)
                obtain ⟨x_498, ex_498⟩ : ∃ z, z = x_488 + 1 := ⟨_, rfl⟩
                have jx_498 : (x_498).toInt = (x_488).toInt + 1 := by rw [ex_498]; exact dk_addT2 rfl (by decide +kernel) (by omega)
                refine lv_iinc (v := x_498) (lv' := [(3, .int x_498), (0, .ref (o + 182)), (1, .ref (o + gr)), (2, .ref (o + pt))]) hx hb dX4_write_102 hl (k := 0) rfl (by rw [ex_498]; rfl) (dk_dq rfl) rfl (fun ls hl => ?_)
                refine lv_goto (tgt := 75) hx hb dX4_write_105 (dk_dq rfl) ?_
                exact ih x_498 (by omega) (by first | exact mu_lt hmu (by omega) (by omega) | omega) S_497 I_497 M_497  (lp_l hF_5 (F_i_write_p5 (zI_eq f_x_491) c_492 ex_494 ex_495 (zI_eq f_x_496) w_497_0 ex_498)) _ _ hP hS _ (lv_sub hl [0, 1, 2, 3] rfl)
    have hz_499 : (0 : Int32).toInt = 0 := by decide +kernel
    have hz_500 : (0 : Int32).toInt = 0 := by decide +kernel
    exact L_490 ((8 - ((0 : Int32)).toInt).toNat + 1) 0 (by decide +kernel) (by first | exact mu_lt hmu (by omega) (by omega) | omega) S_17 I_17 M_17  (Eq.trans hF_1 (F_i_write_p6 (zI_eq f_x_10) ex_11 w_12_0 ex_13 ex_14 w_15_0 ex_16 w_17_0)) _ _ hP hS _ (lv_sub hl [0, 1, 2, 3] rfl)
noncomputable def F_i_next (o : Nat) (S : dg_S) (a1 : Int32) : dg_S × Int32 := let x_1 : Int32 := zI S 182 4; let x_2 : Int32 := zI S 1 1; (if x_2 ≤ x_1 then let S_5 : dg_S := dg_uF S 182 5 (.int (0 : Int32)); (S_5, (0 : Int32)) else let x_9 : Int32 := S.2.1 2 (x_1 : Int32).toNatClampNeg; (if x_9 ≤ a1 then let x_14 : Int32 := x_1 + (1 : Int32); let S_15 : dg_S := dg_uF S 182 4 (.int x_14); let x_16 : Int32 := zI S_15 182 3; let x_17 : Int32 := (5 : Int32) * x_16; let x_18 : Int32 := x_17 + x_9; let x_19 : Int32 := x_18 - x_18 / (251 : Int32) * (251 : Int32); let S_20 : dg_S := dg_uF S_15 182 3 (.int x_19); (S_20, x_9) else let S_23 : dg_S := dg_uF S 182 5 (.int (0 : Int32)); (S_23, (0 : Int32))))
theorem F_i_next_p0 {o : Nat} {S : dg_S} {a1 : Int32} {S_5 : dg_S} {x_1 : Int32} {x_2 : Int32} (h0 : x_1 = zI S 182 4) (h1 : x_2 = zI S 1 1) (h2 : x_2 ≤ x_1) (h3 : S_5 = dg_uF S 182 5 (.int (0 : Int32))) : F_i_next o S a1 = (S_5, (0 : Int32)) := by
  replace h0 := Eq.symm h0
  subst h0
  replace h1 := Eq.symm h1
  subst h1
  replace h3 := Eq.symm h3
  subst h3
  exact (Eq.trans (if_pos h2) rfl)
theorem F_i_next_p1 {o : Nat} {S : dg_S} {a1 : Int32} {S_20 : dg_S} {x_9 : Int32} {x_1 : Int32} {x_2 : Int32} {x_14 : Int32} {S_15 : dg_S} {x_16 : Int32} {x_17 : Int32} {x_18 : Int32} {x_19 : Int32} (h0 : x_1 = zI S 182 4) (h1 : x_2 = zI S 1 1) (h2 : ¬ (x_2 ≤ x_1)) (h3 : x_9 = S.2.1 2 (x_1 : Int32).toNatClampNeg) (h4 : x_9 ≤ a1) (h5 : x_14 = x_1 + (1 : Int32)) (h6 : S_15 = dg_uF S 182 4 (.int x_14)) (h7 : x_16 = zI S_15 182 3) (h8 : x_17 = (5 : Int32) * x_16) (h9 : x_18 = x_17 + x_9) (h10 : x_19 = x_18 - x_18 / (251 : Int32) * (251 : Int32)) (h11 : S_20 = dg_uF S_15 182 3 (.int x_19)) : F_i_next o S a1 = (S_20, x_9) := by
  replace h0 := Eq.symm h0
  subst h0
  replace h1 := Eq.symm h1
  subst h1
  replace h3 := Eq.symm h3
  subst h3
  replace h5 := Eq.symm h5
  subst h5
  replace h6 := Eq.symm h6
  subst h6
  replace h7 := Eq.symm h7
  subst h7
  replace h8 := Eq.symm h8
  subst h8
  replace h9 := Eq.symm h9
  subst h9
  replace h10 := Eq.symm h10
  subst h10
  replace h11 := Eq.symm h11
  subst h11
  exact (Eq.trans (if_neg h2) (Eq.trans (if_pos h4) rfl))
theorem F_i_next_p2 {o : Nat} {S : dg_S} {a1 : Int32} {S_23 : dg_S} {x_1 : Int32} {x_2 : Int32} {x_9 : Int32} (h0 : x_1 = zI S 182 4) (h1 : x_2 = zI S 1 1) (h2 : ¬ (x_2 ≤ x_1)) (h3 : x_9 = S.2.1 2 (x_1 : Int32).toNatClampNeg) (h4 : ¬ (x_9 ≤ a1)) (h5 : S_23 = dg_uF S 182 5 (.int (0 : Int32))) : F_i_next o S a1 = (S_23, (0 : Int32)) := by
  replace h0 := Eq.symm h0
  subst h0
  replace h1 := Eq.symm h1
  subst h1
  replace h3 := Eq.symm h3
  subst h3
  replace h5 := Eq.symm h5
  subst h5
  exact (Eq.trans (if_neg h2) (Eq.trans (if_neg h4) rfl))
set_option maxHeartbeats 8000000 in
set_option maxRecDepth 100000 in
theorem c_i_next (l : Launch) (g : Nat → ClassId) (D : va_G) (o : Nat) (S : dg_S) (a1 : Int32) (I : CX o S) (sz : Nat) : Met l yX4_next (bw yX4_next cX4_next 3 (some .int)) ({ frames := 1, cells := 0, slots := 0, locals := 32 } : Room) (dk_Pc g D (dg_w g shX o rfX S) sz [.ref (o + 182), .int a1]) (va_Qi (fun (r : Int32) S' => CX o S' ∧ dg_sm shX [(16, 3), (16, 4), (16, 5)] [] S S' ∧ (0 ≤ (r).toInt ∧ (r).toInt ≤ 255) ∧ ((r).toInt ≤ (a1).toInt ∨ (r).toInt = 0) ∧ (S' = (F_i_next o S a1).1 ∧ r = (F_i_next o S a1).2) ∧ True) (dg_B g D shX o rfX) (dg_A o shX.length sz)) 0 0 (dg_A o shX.length sz) := by
  refine dg_met (cc := cX4_next) (maxL := 3) (ret := (some .int)) (dk_dq rfl) rfl (Nat.le_of_ble_eq_true rfl) ?_
  intro p e s m args below meth c A hAe harg hx hb hr hml hts hown hlocks hin hP K hS hA1 hA ST hsz ls hl
  rw [← hAe]
  have F : CallFix p m c cX4_next 3 s args (bw yX4_next cX4_next 3 (some .int)) RX4 := ⟨hx, hb, hml, hown, hts⟩
  have hl : lv_has ls 3 [(0, .ref (o + 182)), (1, .int a1)] := hl
  have M_0 : dg_sm shX [(16, 3), (16, 4), (16, 5)] [] S S := dg_sm.rf
  refine lv_aload_n hx hb dX4_next_0 rfl (lv_at hl 0 rfl) ?_
  obtain ⟨x_1, f_x_1, b_x_1⟩ := dg_I.int (i := 182) (k := 4) (lo := 0) (hi := 1600) I sX_182 (by decide +kernel)
  refine dg_get (C := RX4) (T := TX4) (N := 6) hx hb hts (fun w h => bw_mem (wU_X4 w h)) hown K hP sX_182 rfl 4 (dk_dq rfl) (hts _ (bw_mem wB_804)) (fun _ h9 => h9) (v := .int x_1) f_x_1 dX4_next_1 ?_
  refine lv_aload_n hx hb dX4_next_4 rfl (lv_at hl 0 rfl) ?_
  refine dg_get (C := RX4) (T := TX4) (N := 6) hx hb hts (fun w h => bw_mem (wU_X4 w h)) hown K hP sX_182 rfl 2 (dk_dq rfl) (hts _ (bw_mem wB_805)) (fun _ h9 => h9) (v := .ref (o + 1)) (show S.1 182 2 = .ref (o + 1) from dg_I.abs (d := 1) I sX_182 (by decide +kernel)) dX4_next_5 ?_
  obtain ⟨x_2, f_x_2, b_x_2⟩ := dg_I.int (i := 1) (k := 1) (lo := 0) (hi := 1600) I sX_1 (by decide +kernel)
  refine dg_get (C := RX8) (T := TX8) (N := 2) hx hb hts (fun w h => bw_mem (wU_X8 w h)) hown K hP sX_1 rfl 1 (dk_dq rfl) (hts _ (bw_mem wB_806)) (fun _ h9 => h9) (v := .int x_2) f_x_2 dX4_next_8 ?_
  refine lv_icmp_ge (tgt := 30) hx hb dX4_next_11 (dk_dq rfl) (fun c_3 => ?_) (fun c_3 => ?_)
  · have jc_3 := dk_gec (k := (x_2).toInt) rfl c_3
    refine lv_aload_n hx hb dX4_next_30 rfl (lv_at hl 0 rfl) ?_
    refine lv_iconst (v := 0) hx hb dX4_next_31 (by decide +kernel) ?_
    have hz_4 : (0 : Int32).toInt = 0 := by decide +kernel
    refine dg_put (ci := 4) (v := .int 0) (ty := tyX4 5) (C := RX4) (T := TX4) (N := 6) hx hb hts (fun w h => bw_mem (wU_X4 w h)) tyX4 tyX4_ok nmX4 hown K hP hS hA1 sX_182 rfl 5 (dk_dq rfl) (hts _ (bw_mem wB_807)) (fun _ h9 => h9) rfl (by decide +kernel) (by decide +kernel) (by decide +kernel) dX4_next_32 (fun S_5 e_5 H locs hP hS => ?_)
    have I_5 := dg_I.uFi (lo := 0) (hi := 1) I e_5 sX_182 (by decide +kernel) (show 0 ≤ ((0 : Int32)).toInt ∧ ((0 : Int32)).toInt ≤ 1 from (by decide +kernel))
    have M_5 := dg_sm.uF M_0 e_5 sX_182 (dk_dq rfl)
    refine lv_iconst (v := 0) hx hb dX4_next_35 (by decide +kernel) ?_
    have hz_6 : (0 : Int32).toInt = 0 := by decide +kernel
    have hz_7 : (0 : Int32).toInt = 0 := by decide +kernel
    refine W.widen (k := 0) (n := 0) (Nat.le_of_ble_eq_true rfl) (Nat.le_of_ble_eq_true rfl) ?_
    exact dg_iret hx hb hr hlocks rfl hP hS ⟨I_5, M_5, (by decide +kernel), (by omega), ⟨congrArg Prod.fst (Eq.symm (F_i_next_p0 (zI_eq f_x_1) (zI_eq f_x_2) c_3 e_5)), congrArg Prod.snd (Eq.symm (F_i_next_p0 (zI_eq f_x_1) (zI_eq f_x_2) c_3 e_5))⟩, trivial⟩ dX4_next_36
  · as_aux_lemma =>
      have jc_3 := dk_ngec (k := (x_2).toInt) rfl c_3
      refine lv_aload_n hx hb dX4_next_14 rfl (lv_at hl 0 rfl) ?_
      refine dg_get (C := RX4) (T := TX4) (N := 6) hx hb hts (fun w h => bw_mem (wU_X4 w h)) hown K hP sX_182 rfl 2 (dk_dq rfl) (hts _ (bw_mem wB_805)) (fun _ h9 => h9) (v := .ref (o + 1)) (show S.1 182 2 = .ref (o + 1) from dg_I.abs (d := 1) I sX_182 (by decide +kernel)) dX4_next_15 ?_
      refine dg_get (C := RX8) (T := TX8) (N := 2) hx hb hts (fun w h => bw_mem (wU_X8 w h)) hown K hP sX_1 rfl 0 (dk_dq rfl) (hts _ (bw_mem wB_808)) (fun _ h9 => h9) (v := .ref (o + 2)) (show S.1 1 0 = .ref (o + 2) from dg_I.rel (d := 1) I sX_1 (by decide +kernel)) dX4_next_18 ?_
      refine lv_aload_n hx hb dX4_next_21 rfl (lv_at hl 0 rfl) ?_
      refine dg_get (C := RX4) (T := TX4) (N := 6) hx hb hts (fun w h => bw_mem (wU_X4 w h)) hown K hP sX_182 rfl 4 (dk_dq rfl) (hts _ (bw_mem wB_804)) (fun _ h9 => h9) (v := .int x_1) f_x_1 dX4_next_22 ?_
      have hin_8 : vp_in x_1 1600 := (dk_inv2 (by omega))
      refine dg_iald hx hb K hP sX_2 hin_8 dX4_next_25 (fun x_9 ex_9 => ?_)
      have b_x_9 := dk_all_at (dg_I.row (lo := 0) (hi := 255) I sX_2 (by decide +kernel)) hin_8 ex_9
      refine lv_iload_n hx hb dX4_next_26 rfl (lv_at hl 1 rfl) ?_
      refine lv_icmp_le (tgt := 37) hx hb dX4_next_27 (dk_dq rfl) (fun c_10 => ?_) (fun c_10 => ?_)
      · as_aux_lemma =>
          have hf_10 := dk_full a1
          have jc_10 := dk_lec (k := (a1).toInt) rfl c_10
          refine lv_aload_n hx hb dX4_next_37 rfl (lv_at hl 0 rfl) ?_
          refine dg_get (C := RX4) (T := TX4) (N := 6) hx hb hts (fun w h => bw_mem (wU_X4 w h)) hown K hP sX_182 rfl 2 (dk_dq rfl) (hts _ (bw_mem wB_805)) (fun _ h9 => h9) (v := .ref (o + 1)) (show S.1 182 2 = .ref (o + 1) from dg_I.abs (d := 1) I sX_182 (by decide +kernel)) dX4_next_38 ?_
          refine dg_get (C := RX8) (T := TX8) (N := 2) hx hb hts (fun w h => bw_mem (wU_X8 w h)) hown K hP sX_1 rfl 0 (dk_dq rfl) (hts _ (bw_mem wB_808)) (fun _ h9 => h9) (v := .ref (o + 2)) (show S.1 1 0 = .ref (o + 2) from dg_I.rel (d := 1) I sX_1 (by decide +kernel)) dX4_next_41 ?_
          refine lv_aload_n hx hb dX4_next_44 rfl (lv_at hl 0 rfl) ?_
          refine dg_get (C := RX4) (T := TX4) (N := 6) hx hb hts (fun w h => bw_mem (wU_X4 w h)) hown K hP sX_182 rfl 4 (dk_dq rfl) (hts _ (bw_mem wB_804)) (fun _ h9 => h9) (v := .int x_1) f_x_1 dX4_next_45 ?_
          have hin_12 : vp_in x_1 1600 := (dk_inv2 (by omega))
          refine dg_iald hx hb K hP sX_2 hin_12 dX4_next_48 (fun y_13 ey_13 => ?_)
          obtain rfl : x_9 = y_13 := (ey_13.trans ex_9.symm).symm
          refine lv_istore_n (lv' := [(2, .int x_9), (0, .ref (o + 182)), (1, .int a1)]) hx hb dX4_next_49 rfl hl (dk_dq rfl) rfl (fun ls hl => ?_)
          refine lv_aload_n hx hb dX4_next_50 rfl (lv_at hl 1 rfl) ?_
          refine lv_dup hx hb dX4_next_51 rfl ?_
          refine dg_get (C := RX4) (T := TX4) (N := 6) hx hb hts (fun w h => bw_mem (wU_X4 w h)) hown K hP sX_182 rfl 4 (dk_dq rfl) (hts _ (bw_mem wB_804)) (fun _ h9 => h9) (v := .int x_1) f_x_1 dX4_next_52 ?_
          refine lv_iconst (v := 1) hx hb dX4_next_55 (by decide +kernel) ?_
          refine lv_iadd hx hb dX4_next_56 ?_
          refine lv_topi (fun x_14 ex_14 => ?_)
          have jx_14 : (x_14).toInt = (x_1).toInt + 1 := by rw [ex_14]; exact dk_addT2 rfl (by decide +kernel) (by omega)
          refine dg_put (ci := 4) (v := .int x_14) (ty := tyX4 4) (C := RX4) (T := TX4) (N := 6) hx hb hts (fun w h => bw_mem (wU_X4 w h)) tyX4 tyX4_ok nmX4 hown K hP hS hA1 sX_182 rfl 4 (dk_dq rfl) (hts _ (bw_mem wB_804)) (fun _ h9 => h9) rfl (by decide +kernel) rfl rfl dX4_next_57 (fun S_15 e_15 H locs hP hS => ?_)
          have I_15 := dg_I.uFi (lo := 0) (hi := 1600) I e_15 sX_182 (by decide +kernel) (show 0 ≤ (x_14).toInt ∧ (x_14).toInt ≤ 1600 from (by omega))
          have M_15 := dg_sm.uF M_0 e_15 sX_182 (dk_dq rfl)
          refine lv_aload_n hx hb dX4_next_60 rfl (lv_at hl 1 rfl) ?_
          refine lv_iconst (v := 5) hx hb dX4_next_61 (by decide +kernel) ?_
          refine lv_aload_n hx hb dX4_next_62 rfl (lv_at hl 1 rfl) ?_
          obtain ⟨x_16, f_x_16, b_x_16⟩ := dg_I.int (i := 182) (k := 3) (lo := (-2147483648)) (hi := 2147483647) I_15 sX_182 (by decide +kernel)
          refine dg_get (C := RX4) (T := TX4) (N := 6) hx hb hts (fun w h => bw_mem (wU_X4 w h)) hown K hP sX_182 rfl 3 (dk_dq rfl) (hts _ (bw_mem wB_779)) (fun _ h9 => h9) (v := .int x_16) f_x_16 dX4_next_63 ?_
          refine lv_imul hx hb dX4_next_66 ?_
          refine lv_topi (fun x_17 ex_17 => ?_)
          refine lv_iload_n hx hb dX4_next_67 rfl (lv_at hl 0 rfl) ?_
          refine lv_iadd hx hb dX4_next_68 ?_
          refine lv_topi (fun x_18 ex_18 => ?_)
          refine lv_sipush (v := 251) hx hb dX4_next_69 (by decide +kernel) ?_
          refine lv_irem hx hb dX4_next_72 (by decide +kernel) ?_
          refine lv_topi (fun x_19 ex_19 => ?_)
          refine dg_put (ci := 4) (v := .int x_19) (ty := tyX4 3) (C := RX4) (T := TX4) (N := 6) hx hb hts (fun w h => bw_mem (wU_X4 w h)) tyX4 tyX4_ok nmX4 hown K hP hS hA1 sX_182 rfl 3 (dk_dq rfl) (hts _ (bw_mem wB_779)) (fun _ h9 => h9) rfl (by decide +kernel) rfl rfl dX4_next_73 (fun S_20 e_20 H locs hP hS => ?_)
          have I_20 := dg_I.uFi (lo := (-2147483648)) (hi := 2147483647) I_15 e_20 sX_182 (by decide +kernel) (show (-2147483648) ≤ (x_19).toInt ∧ (x_19).toInt ≤ 2147483647 from (dk_full _))
          have M_20 := dg_sm.uF M_15 e_20 sX_182 (dk_dq rfl)
          refine lv_iload_n hx hb dX4_next_76 rfl (lv_at hl 0 rfl) ?_
          refine W.widen (k := 0) (n := 0) (Nat.le_of_ble_eq_true rfl) (Nat.le_of_ble_eq_true rfl) ?_
          exact dg_iret hx hb hr hlocks rfl hP hS ⟨I_20, M_20, (by omega), (by omega), ⟨congrArg Prod.fst (Eq.symm (F_i_next_p1 (zI_eq f_x_1) (zI_eq f_x_2) c_3 (Eq.symm ex_9.symm) c_10 ex_14 e_15 (zI_eq f_x_16) ex_17 ex_18 ex_19 e_20)), congrArg Prod.snd (Eq.symm (F_i_next_p1 (zI_eq f_x_1) (zI_eq f_x_2) c_3 (Eq.symm ex_9.symm) c_10 ex_14 e_15 (zI_eq f_x_16) ex_17 ex_18 ex_19 e_20))⟩, trivial⟩ dX4_next_77
      · have hf_20 := dk_full a1
        have jc_10 := dk_nlec (k := (a1).toInt) rfl c_10
        refine lv_aload_n hx hb dX4_next_30 rfl (lv_at hl 0 rfl) ?_
        refine lv_iconst (v := 0) hx hb dX4_next_31 (by decide +kernel) ?_
        have hz_22 : (0 : Int32).toInt = 0 := by decide +kernel
        refine dg_put (ci := 4) (v := .int 0) (ty := tyX4 5) (C := RX4) (T := TX4) (N := 6) hx hb hts (fun w h => bw_mem (wU_X4 w h)) tyX4 tyX4_ok nmX4 hown K hP hS hA1 sX_182 rfl 5 (dk_dq rfl) (hts _ (bw_mem wB_807)) (fun _ h9 => h9) rfl (by decide +kernel) (by decide +kernel) (by decide +kernel) dX4_next_32 (fun S_23 e_23 H locs hP hS => ?_)
        have I_23 := dg_I.uFi (lo := 0) (hi := 1) I e_23 sX_182 (by decide +kernel) (show 0 ≤ ((0 : Int32)).toInt ∧ ((0 : Int32)).toInt ≤ 1 from (by decide +kernel))
        have M_23 := dg_sm.uF M_0 e_23 sX_182 (dk_dq rfl)
        refine lv_iconst (v := 0) hx hb dX4_next_35 (by decide +kernel) ?_
        have hz_24 : (0 : Int32).toInt = 0 := by decide +kernel
        have hz_25 : (0 : Int32).toInt = 0 := by decide +kernel
        refine W.widen (k := 0) (n := 0) (Nat.le_of_ble_eq_true rfl) (Nat.le_of_ble_eq_true rfl) ?_
        exact dg_iret hx hb hr hlocks rfl hP hS ⟨I_23, M_23, (by decide +kernel), (by omega), ⟨congrArg Prod.fst (Eq.symm (F_i_next_p2 (zI_eq f_x_1) (zI_eq f_x_2) c_3 (Eq.symm ex_9.symm) c_10 e_23)), congrArg Prod.snd (Eq.symm (F_i_next_p2 (zI_eq f_x_1) (zI_eq f_x_2) c_3 (Eq.symm ex_9.symm) c_10 e_23))⟩, trivial⟩ dX4_next_36
noncomputable def F_i_takeCells_J2 (x_147 : Int32) (S_177 : dg_S) : (Int32 × dg_S) ⊕ (dg_S) := let x_179 : Int32 := x_147 + 1; (Sum.inl (x_179, S_177))
noncomputable def F_i_takeCells_J3 (S_200 : dg_S) (pt : Nat) (x_147 : Int32) (x_181 : Int32) : (Int32 × dg_S) ⊕ (dg_S) := let S_203 : dg_S := dg_uf S_200 (pt + 1) (upd (S_200.2.1 (pt + 1)) (x_147 : Int32).toNatClampNeg x_181); (F_i_takeCells_J2 x_147 S_203)
noncomputable def F_i_takeCells_J4 (S_182 : dg_S) (x_209 : Int32) (pt : Nat) (x_147 : Int32) (x_181 : Int32) : (Int32 × dg_S) ⊕ (dg_S) := let S_212 : dg_S := dg_uF S_182 182 5 (.int x_209); (F_i_takeCells_J3 S_212 pt x_147 x_181)
noncomputable def F_i_takeCells_J5 (S_182 : dg_S) (pt : Nat) (x_147 : Int32) (x_181 : Int32) : (Int32 × dg_S) ⊕ (dg_S) := (F_i_takeCells_J4 S_182 (0 : Int32) pt x_147 x_181)
noncomputable def F_i_takeCells_J6 (S_182 : dg_S) (pt : Nat) (x_147 : Int32) (x_181 : Int32) : (Int32 × dg_S) ⊕ (dg_S) := (F_i_takeCells_J4 S_182 (1 : Int32) pt x_147 x_181)
noncomputable def F_i_takeCells_J7 (S_182 : dg_S) (x_226 : Int32) (pt : Nat) (x_147 : Int32) (x_181 : Int32) : (Int32 × dg_S) ⊕ (dg_S) := let S_229 : dg_S := dg_uF S_182 182 5 (.int x_226); (F_i_takeCells_J3 S_229 pt x_147 x_181)
noncomputable def F_i_takeCells_J8 (S_182 : dg_S) (pt : Nat) (x_147 : Int32) (x_181 : Int32) : (Int32 × dg_S) ⊕ (dg_S) := (F_i_takeCells_J7 S_182 (0 : Int32) pt x_147 x_181)
noncomputable def F_i_takeCells_B1 (o : Nat) (gr : Nat) (pt : Nat) (S : dg_S) : (Int32 × dg_S) → (Int32 × dg_S) ⊕ (dg_S) := fun w9 => match w9 with | (x_147, S_148) => let x_150 : Int32 := F_g_endOfPlaces o S_148 gr; (if x_150 ≤ x_147 then (Sum.inr ((S_148))) else let x_154 : Int32 := S_148.2.1 (pt + 1) (x_147 : Int32).toNatClampNeg; (if x_154 = (100 : Int32) then (F_i_takeCells_J2 x_147 S_148) else let S_182 : dg_S := (F_i_next o S_148 (255 : Int32)).1; let x_181 : Int32 := (F_i_next o S_148 (255 : Int32)).2; let x_184 : Int32 := zI S gr 2; (if x_147 = x_184 then let x_223 : Int32 := zI S_182 182 5; (if x_223 = (0 : Int32) then (F_i_takeCells_J8 S_182 pt x_147 x_181) else (if x_181 = (255 : Int32) then (F_i_takeCells_J7 S_182 (1 : Int32) pt x_147 x_181) else (F_i_takeCells_J8 S_182 pt x_147 x_181))) else let x_205 : Int32 := zI S_182 182 5; (if x_205 = (0 : Int32) then (F_i_takeCells_J5 S_182 pt x_147 x_181) else (if x_181 ≤ (9 : Int32) then (F_i_takeCells_J6 S_182 pt x_147 x_181) else (if x_181 < (254 : Int32) then (F_i_takeCells_J5 S_182 pt x_147 x_181) else (F_i_takeCells_J6 S_182 pt x_147 x_181)))))))
noncomputable def F_i_takeCells (o : Nat) (S : dg_S) (gr : Nat) (pt : Nat) : dg_S := (lp (F_i_takeCells_B1 o gr pt S) S ((65 - ((8 : Int32)).toInt).toNat + 1) ((8 : Int32), S))
theorem F_i_takeCells_p0 {o : Nat} {gr : Nat} {pt : Nat} {S : dg_S} {x_147 : Int32} {S_148 : dg_S} {x_150 : Int32} (h0 : x_150 = F_g_endOfPlaces o S_148 gr) (h1 : x_150 ≤ x_147) : (F_i_takeCells_B1 o gr pt S) (x_147, S_148) = Sum.inr (S_148) := by
  replace h0 := Eq.symm h0
  subst h0
  exact (Eq.trans (if_pos h1) rfl)
theorem F_i_takeCells_p1 {x_147 : Int32} {S_177 : dg_S} {x_179 : Int32} (h0 : x_179 = x_147 + 1) : F_i_takeCells_J2 x_147 S_177 = Sum.inl (x_179, S_177) := by
  replace h0 := Eq.symm h0
  subst h0
  exact rfl
theorem F_i_takeCells_p2 {S_200 : dg_S} {pt : Nat} {x_147 : Int32} {x_181 : Int32} {S_203 : dg_S} (h0 : S_203 = dg_uf S_200 (pt + 1) (upd (S_200.2.1 (pt + 1)) (x_147 : Int32).toNatClampNeg x_181)) : F_i_takeCells_J3 S_200 pt x_147 x_181 = F_i_takeCells_J2 x_147 S_203 := by
  replace h0 := Eq.symm h0
  subst h0
  exact rfl
theorem F_i_takeCells_p3 {S_182 : dg_S} {x_209 : Int32} {pt : Nat} {x_147 : Int32} {x_181 : Int32} {S_212 : dg_S} (h0 : S_212 = dg_uF S_182 182 5 (.int x_209)) : F_i_takeCells_J4 S_182 x_209 pt x_147 x_181 = F_i_takeCells_J3 S_212 pt x_147 x_181 := by
  replace h0 := Eq.symm h0
  subst h0
  exact rfl
theorem F_i_takeCells_p4 {S_182 : dg_S} {pt : Nat} {x_147 : Int32} {x_181 : Int32}  : F_i_takeCells_J5 S_182 pt x_147 x_181 = F_i_takeCells_J4 S_182 (0 : Int32) pt x_147 x_181 := rfl
theorem F_i_takeCells_p5 {o : Nat} {gr : Nat} {pt : Nat} {S : dg_S} {x_147 : Int32} {S_148 : dg_S} {S_182 : dg_S} {x_181 : Int32} {x_150 : Int32} {x_154 : Int32} {x_184 : Int32} {x_205 : Int32} (h0 : x_150 = F_g_endOfPlaces o S_148 gr) (h1 : ¬ (x_150 ≤ x_147)) (h2 : x_154 = S_148.2.1 (pt + 1) (x_147 : Int32).toNatClampNeg) (h3 : ¬ (x_154 = (100 : Int32))) (h4 : S_182 = (F_i_next o S_148 (255 : Int32)).1) (h5 : x_181 = (F_i_next o S_148 (255 : Int32)).2) (h6 : x_184 = zI S gr 2) (h7 : ¬ (x_147 = x_184)) (h8 : x_205 = zI S_182 182 5) (h9 : x_205 = (0 : Int32)) : (F_i_takeCells_B1 o gr pt S) (x_147, S_148) = F_i_takeCells_J5 S_182 pt x_147 x_181 := by
  replace h0 := Eq.symm h0
  subst h0
  replace h2 := Eq.symm h2
  subst h2
  replace h4 := Eq.symm h4
  subst h4
  replace h5 := Eq.symm h5
  subst h5
  replace h6 := Eq.symm h6
  subst h6
  replace h8 := Eq.symm h8
  subst h8
  exact (Eq.trans (if_neg h1) (Eq.trans (if_neg h3) (Eq.trans (if_neg h7) (Eq.trans (if_pos h9) rfl))))
theorem F_i_takeCells_p6 {S_182 : dg_S} {pt : Nat} {x_147 : Int32} {x_181 : Int32}  : F_i_takeCells_J6 S_182 pt x_147 x_181 = F_i_takeCells_J4 S_182 (1 : Int32) pt x_147 x_181 := rfl
theorem F_i_takeCells_p7 {o : Nat} {gr : Nat} {pt : Nat} {S : dg_S} {x_147 : Int32} {S_148 : dg_S} {S_182 : dg_S} {x_181 : Int32} {x_150 : Int32} {x_154 : Int32} {x_184 : Int32} {x_205 : Int32} (h0 : x_150 = F_g_endOfPlaces o S_148 gr) (h1 : ¬ (x_150 ≤ x_147)) (h2 : x_154 = S_148.2.1 (pt + 1) (x_147 : Int32).toNatClampNeg) (h3 : ¬ (x_154 = (100 : Int32))) (h4 : S_182 = (F_i_next o S_148 (255 : Int32)).1) (h5 : x_181 = (F_i_next o S_148 (255 : Int32)).2) (h6 : x_184 = zI S gr 2) (h7 : ¬ (x_147 = x_184)) (h8 : x_205 = zI S_182 182 5) (h9 : ¬ (x_205 = (0 : Int32))) (h10 : x_181 ≤ (9 : Int32)) : (F_i_takeCells_B1 o gr pt S) (x_147, S_148) = F_i_takeCells_J6 S_182 pt x_147 x_181 := by
  replace h0 := Eq.symm h0
  subst h0
  replace h2 := Eq.symm h2
  subst h2
  replace h4 := Eq.symm h4
  subst h4
  replace h5 := Eq.symm h5
  subst h5
  replace h6 := Eq.symm h6
  subst h6
  replace h8 := Eq.symm h8
  subst h8
  exact (Eq.trans (if_neg h1) (Eq.trans (if_neg h3) (Eq.trans (if_neg h7) (Eq.trans (if_neg h9) (Eq.trans (if_pos h10) rfl)))))
theorem F_i_takeCells_p8 {o : Nat} {gr : Nat} {pt : Nat} {S : dg_S} {x_147 : Int32} {S_148 : dg_S} {S_182 : dg_S} {x_181 : Int32} {x_150 : Int32} {x_154 : Int32} {x_184 : Int32} {x_205 : Int32} (h0 : x_150 = F_g_endOfPlaces o S_148 gr) (h1 : ¬ (x_150 ≤ x_147)) (h2 : x_154 = S_148.2.1 (pt + 1) (x_147 : Int32).toNatClampNeg) (h3 : ¬ (x_154 = (100 : Int32))) (h4 : S_182 = (F_i_next o S_148 (255 : Int32)).1) (h5 : x_181 = (F_i_next o S_148 (255 : Int32)).2) (h6 : x_184 = zI S gr 2) (h7 : ¬ (x_147 = x_184)) (h8 : x_205 = zI S_182 182 5) (h9 : ¬ (x_205 = (0 : Int32))) (h10 : ¬ (x_181 ≤ (9 : Int32))) (h11 : x_181 < (254 : Int32)) : (F_i_takeCells_B1 o gr pt S) (x_147, S_148) = F_i_takeCells_J5 S_182 pt x_147 x_181 := by
  replace h0 := Eq.symm h0
  subst h0
  replace h2 := Eq.symm h2
  subst h2
  replace h4 := Eq.symm h4
  subst h4
  replace h5 := Eq.symm h5
  subst h5
  replace h6 := Eq.symm h6
  subst h6
  replace h8 := Eq.symm h8
  subst h8
  exact (Eq.trans (if_neg h1) (Eq.trans (if_neg h3) (Eq.trans (if_neg h7) (Eq.trans (if_neg h9) (Eq.trans (if_neg h10) (Eq.trans (if_pos h11) rfl))))))
theorem F_i_takeCells_p9 {o : Nat} {gr : Nat} {pt : Nat} {S : dg_S} {x_147 : Int32} {S_148 : dg_S} {S_182 : dg_S} {x_181 : Int32} {x_150 : Int32} {x_154 : Int32} {x_184 : Int32} {x_205 : Int32} (h0 : x_150 = F_g_endOfPlaces o S_148 gr) (h1 : ¬ (x_150 ≤ x_147)) (h2 : x_154 = S_148.2.1 (pt + 1) (x_147 : Int32).toNatClampNeg) (h3 : ¬ (x_154 = (100 : Int32))) (h4 : S_182 = (F_i_next o S_148 (255 : Int32)).1) (h5 : x_181 = (F_i_next o S_148 (255 : Int32)).2) (h6 : x_184 = zI S gr 2) (h7 : ¬ (x_147 = x_184)) (h8 : x_205 = zI S_182 182 5) (h9 : ¬ (x_205 = (0 : Int32))) (h10 : ¬ (x_181 ≤ (9 : Int32))) (h11 : ¬ (x_181 < (254 : Int32))) : (F_i_takeCells_B1 o gr pt S) (x_147, S_148) = F_i_takeCells_J6 S_182 pt x_147 x_181 := by
  replace h0 := Eq.symm h0
  subst h0
  replace h2 := Eq.symm h2
  subst h2
  replace h4 := Eq.symm h4
  subst h4
  replace h5 := Eq.symm h5
  subst h5
  replace h6 := Eq.symm h6
  subst h6
  replace h8 := Eq.symm h8
  subst h8
  exact (Eq.trans (if_neg h1) (Eq.trans (if_neg h3) (Eq.trans (if_neg h7) (Eq.trans (if_neg h9) (Eq.trans (if_neg h10) (Eq.trans (if_neg h11) rfl))))))
theorem F_i_takeCells_p10 {S_182 : dg_S} {x_226 : Int32} {pt : Nat} {x_147 : Int32} {x_181 : Int32} {S_229 : dg_S} (h0 : S_229 = dg_uF S_182 182 5 (.int x_226)) : F_i_takeCells_J7 S_182 x_226 pt x_147 x_181 = F_i_takeCells_J3 S_229 pt x_147 x_181 := by
  replace h0 := Eq.symm h0
  subst h0
  exact rfl
theorem F_i_takeCells_p11 {S_182 : dg_S} {pt : Nat} {x_147 : Int32} {x_181 : Int32}  : F_i_takeCells_J8 S_182 pt x_147 x_181 = F_i_takeCells_J7 S_182 (0 : Int32) pt x_147 x_181 := rfl
theorem F_i_takeCells_p12 {o : Nat} {gr : Nat} {pt : Nat} {S : dg_S} {x_147 : Int32} {S_148 : dg_S} {S_182 : dg_S} {x_181 : Int32} {x_150 : Int32} {x_154 : Int32} {x_184 : Int32} {x_223 : Int32} (h0 : x_150 = F_g_endOfPlaces o S_148 gr) (h1 : ¬ (x_150 ≤ x_147)) (h2 : x_154 = S_148.2.1 (pt + 1) (x_147 : Int32).toNatClampNeg) (h3 : ¬ (x_154 = (100 : Int32))) (h4 : S_182 = (F_i_next o S_148 (255 : Int32)).1) (h5 : x_181 = (F_i_next o S_148 (255 : Int32)).2) (h6 : x_184 = zI S gr 2) (h7 : x_147 = x_184) (h8 : x_223 = zI S_182 182 5) (h9 : x_223 = (0 : Int32)) : (F_i_takeCells_B1 o gr pt S) (x_147, S_148) = F_i_takeCells_J8 S_182 pt x_147 x_181 := by
  replace h0 := Eq.symm h0
  subst h0
  replace h2 := Eq.symm h2
  subst h2
  replace h4 := Eq.symm h4
  subst h4
  replace h5 := Eq.symm h5
  subst h5
  replace h6 := Eq.symm h6
  subst h6
  replace h8 := Eq.symm h8
  subst h8
  exact (Eq.trans (if_neg h1) (Eq.trans (if_neg h3) (Eq.trans (if_pos h7) (Eq.trans (if_pos h9) rfl))))
theorem F_i_takeCells_p13 {o : Nat} {gr : Nat} {pt : Nat} {S : dg_S} {x_147 : Int32} {S_148 : dg_S} {S_182 : dg_S} {x_181 : Int32} {x_150 : Int32} {x_154 : Int32} {x_184 : Int32} {x_223 : Int32} (h0 : x_150 = F_g_endOfPlaces o S_148 gr) (h1 : ¬ (x_150 ≤ x_147)) (h2 : x_154 = S_148.2.1 (pt + 1) (x_147 : Int32).toNatClampNeg) (h3 : ¬ (x_154 = (100 : Int32))) (h4 : S_182 = (F_i_next o S_148 (255 : Int32)).1) (h5 : x_181 = (F_i_next o S_148 (255 : Int32)).2) (h6 : x_184 = zI S gr 2) (h7 : x_147 = x_184) (h8 : x_223 = zI S_182 182 5) (h9 : ¬ (x_223 = (0 : Int32))) (h10 : ¬ (x_181 = (255 : Int32))) : (F_i_takeCells_B1 o gr pt S) (x_147, S_148) = F_i_takeCells_J8 S_182 pt x_147 x_181 := by
  replace h0 := Eq.symm h0
  subst h0
  replace h2 := Eq.symm h2
  subst h2
  replace h4 := Eq.symm h4
  subst h4
  replace h5 := Eq.symm h5
  subst h5
  replace h6 := Eq.symm h6
  subst h6
  replace h8 := Eq.symm h8
  subst h8
  exact (Eq.trans (if_neg h1) (Eq.trans (if_neg h3) (Eq.trans (if_pos h7) (Eq.trans (if_neg h9) (Eq.trans (if_neg h10) rfl)))))
theorem F_i_takeCells_p14 {o : Nat} {gr : Nat} {pt : Nat} {S : dg_S} {x_147 : Int32} {S_148 : dg_S} {S_182 : dg_S} {x_181 : Int32} {x_150 : Int32} {x_154 : Int32} {x_184 : Int32} {x_223 : Int32} (h0 : x_150 = F_g_endOfPlaces o S_148 gr) (h1 : ¬ (x_150 ≤ x_147)) (h2 : x_154 = S_148.2.1 (pt + 1) (x_147 : Int32).toNatClampNeg) (h3 : ¬ (x_154 = (100 : Int32))) (h4 : S_182 = (F_i_next o S_148 (255 : Int32)).1) (h5 : x_181 = (F_i_next o S_148 (255 : Int32)).2) (h6 : x_184 = zI S gr 2) (h7 : x_147 = x_184) (h8 : x_223 = zI S_182 182 5) (h9 : ¬ (x_223 = (0 : Int32))) (h10 : x_181 = (255 : Int32)) : (F_i_takeCells_B1 o gr pt S) (x_147, S_148) = F_i_takeCells_J7 S_182 (1 : Int32) pt x_147 x_181 := by
  replace h0 := Eq.symm h0
  subst h0
  replace h2 := Eq.symm h2
  subst h2
  replace h4 := Eq.symm h4
  subst h4
  replace h5 := Eq.symm h5
  subst h5
  replace h6 := Eq.symm h6
  subst h6
  replace h8 := Eq.symm h8
  subst h8
  exact (Eq.trans (if_neg h1) (Eq.trans (if_neg h3) (Eq.trans (if_pos h7) (Eq.trans (if_neg h9) (Eq.trans (if_pos h10) rfl)))))
theorem F_i_takeCells_p15 {o : Nat} {gr : Nat} {pt : Nat} {S : dg_S} {x_147 : Int32} {S_148 : dg_S} {x_150 : Int32} {x_154 : Int32} (h0 : x_150 = F_g_endOfPlaces o S_148 gr) (h1 : ¬ (x_150 ≤ x_147)) (h2 : x_154 = S_148.2.1 (pt + 1) (x_147 : Int32).toNatClampNeg) (h3 : x_154 = (100 : Int32)) : (F_i_takeCells_B1 o gr pt S) (x_147, S_148) = F_i_takeCells_J2 x_147 S_148 := by
  replace h0 := Eq.symm h0
  subst h0
  replace h2 := Eq.symm h2
  subst h2
  exact (Eq.trans (if_neg h1) (Eq.trans (if_pos h3) rfl))
theorem F_i_takeCells_p16 {o : Nat} {S : dg_S} {gr : Nat} {pt : Nat}  : F_i_takeCells o S gr pt = lp (F_i_takeCells_B1 o gr pt S) S ((65 - ((8 : Int32)).toInt).toNat + 1) ((8 : Int32), S) := rfl
set_option maxHeartbeats 8000000 in
set_option maxRecDepth 100000 in
theorem c_i_takeCells (l : Launch) (g : Nat → ClassId) (D : va_G) (o : Nat) (S : dg_S) (gr : Nat) (hk_gr : rX gr) (pt : Nat) (hk_pt : pX pt) (I : CX o S) (sz : Nat) : Met l yX4_takeCells (bw yX4_takeCells cX4_takeCells 5 none) ({ frames := 2, cells := 0, slots := 0, locals := 54 } : Room) (dk_Pc g D (dg_w g shX o rfX S) sz [.ref (o + 182), .ref (o + gr), .ref (o + pt)]) (va_Qv (fun S' => CX o S' ∧ dg_sm shX [(16, 3), (16, 4), (16, 5)] [4] S S' ∧ dg_FG S S' ∧ (S' = F_i_takeCells o S gr pt) ∧ True) (dg_B g D shX o rfX) (dg_A o shX.length sz)) 0 0 (dg_A o shX.length sz) := by
  refine dg_met (cc := cX4_takeCells) (maxL := 5) (ret := none) (dk_dq rfl) rfl (Nat.le_of_ble_eq_true rfl) ?_
  intro p e s m args below meth c A hAe harg hx hb hr hml hts hown hlocks hin hP K hS hA1 hA ST hsz ls hl
  rw [← hAe]
  have F : CallFix p m c cX4_takeCells 5 s args (bw yX4_takeCells cX4_takeCells 5 none) RX4 := ⟨hx, hb, hml, hown, hts⟩
  have hl : lv_has ls 5 [(0, .ref (o + 182)), (1, .ref (o + gr)), (2, .ref (o + pt))] := hl
  have M_0 : dg_sm shX [(16, 3), (16, 4), (16, 5)] [4] S S := dg_sm.rf
  refine lv_bipush (v := 8) hx hb dX4_takeCells_0 (by decide +kernel) ?_
  refine lv_istore_n (lv' := [(3, .int 8), (0, .ref (o + 182)), (1, .ref (o + gr)), (2, .ref (o + pt))]) hx hb dX4_takeCells_2 rfl hl (dk_dq rfl) rfl (fun ls hl => ?_)
  have L_149 : ∀ (n : Nat) (x_147 : Int32), (8 ≤ (x_147).toInt ∧ (x_147).toInt ≤ 64) → ((65 - (x_147).toInt).toNat < n) → ∀ S_148 : dg_S, CX o S_148 → dg_sm shX [(16, 3), (16, 4), (16, 5)] [4] S S_148 → dg_FG S S_148 → (F_i_takeCells o S gr pt = lp (F_i_takeCells_B1 o gr pt S) S n (x_147, S_148)) → ∀ (H : Heap) (locs : List Loc), va_P D vwCl (dg_w g shX o rfX S_148) H → va_S A s.heap H locs → ∀ ls : Array Slot, lv_has ls 5 [(3, .int x_147), (0, .ref (o + 182)), (1, .ref (o + gr)), (2, .ref (o + pt))] → W p l e ({ frames := 2, cells := 0, slots := 0, locals := 54 } : Room) s m args below meth c H locs 0 0 (MQ below (va_Qv (fun S' => CX o S' ∧ dg_sm shX [(16, 3), (16, 4), (16, 5)] [4] S S' ∧ dg_FG S S' ∧ (S' = F_i_takeCells o S gr pt) ∧ True) (dg_B g D shX o rfX) A) args s 0 0 A) (F0 m 3 ls []) := by
    as_aux_lemma =>
      intro n
      induction n with
      | zero =>
        intro x_147 b_x_147 hmu S_148 I_148 M_148 G_148 hF_1 H locs hP hS ls hl
        omega
      | succ n ih =>
        as_aux_lemma =>
          intro x_147 b_x_147 hmu S_148 I_148 M_148 G_148 hF_1 H locs hP hS ls hl
          refine lv_iload_n hx hb dX4_takeCells_3 rfl (lv_at hl 0 rfl) ?_
          refine lv_aload_n hx hb dX4_takeCells_4 rfl (lv_at hl 2 rfl) ?_
          refine dg_calli hS hA1 hA (va_runV (As := []) (rest := [.int x_147]) F (c_g_endOfPlaces l g D o S_148 gr hk_gr I_148 H.size) (cwV 0 hts (bw_V wB_809 wB_721 wB_722 wB_9 wB_719) rfl rfl rfl (by decide +kernel) ⟨Nat.le_of_ble_eq_true rfl, Nat.le_of_ble_eq_true rfl⟩) (dg_preV (rX_0 gr hk_gr) rfl K ST hP hS hA1 hA) rfl rfl hl.1 rfl (lv_room (Nat.le_of_ble_eq_true rfl)) dX4_takeCells_5 ⟨Nat.le_of_ble_eq_true rfl, Nat.le_of_ble_eq_true rfl⟩) (fun x_150 S_151 hw_151 H locs hP hS => ?_)
          rw [hw_151.1] at hP
          obtain ⟨hq_151, w_151_0, w_151_1, -⟩ := hw_151
          have w_151_0 : 8 ≤ (x_150).toInt ∧ (x_150).toInt ≤ 64 := w_151_0
          refine lv_icmp_ge (tgt := 114) hx hb dX4_takeCells_8 (dk_dq rfl) (fun c_152 => ?_) (fun c_152 => ?_)
          · have jc_152 := dk_gec (k := (x_150).toInt) rfl c_152
            refine W.widen (k := 0) (n := 0) (Nat.le_of_ble_eq_true rfl) (Nat.le_of_ble_eq_true rfl) ?_
            exact dg_vret hx hb hr hlocks hP hS ⟨I_148, M_148, G_148, (Eq.symm (lp_r hF_1 (F_i_takeCells_p0 w_151_1 c_152))), trivial⟩ dX4_takeCells_114
          · as_aux_lemma =>
              have jc_152 := dk_ngec (k := (x_150).toInt) rfl c_152
              refine lv_aload_n hx hb dX4_takeCells_11 rfl (lv_at hl 3 rfl) ?_
              refine dg_get (C := RX5) (T := TX5) (N := 8) hx hb hts (fun w h => bw_mem (wU_X5 w h)) hown K hP (pX_0 pt hk_pt) rfl 2 (dk_dq rfl) (hts _ (bw_mem wB_788)) (fun _ h9 => h9) (v := .ref (o + (pt + 1))) (show S_148.1 pt 2 = .ref (o + (pt + 1)) from dg_I.rel (d := 1) I_148 (pX_0 pt hk_pt) (by decide +kernel)) dX4_takeCells_12 ?_
              refine lv_iload_n hx hb dX4_takeCells_15 rfl (lv_at hl 0 rfl) ?_
              have hin_153 : vp_in x_147 72 := (dk_inv2 (by omega))
              refine dg_iald hx hb K hP (pX_1 pt hk_pt) hin_153 dX4_takeCells_16 (fun x_154 ex_154 => ?_)
              have b_x_154 := dg_c0_at (dg_I.cel0 (lo := 0) (hi := 255) I_148 (pX_1 pt hk_pt) (by decide +kernel)) hin_153 ex_154
              refine lv_bipush (v := 100) hx hb dX4_takeCells_17 (by decide +kernel) ?_
              have J_178 : ∀ S_177 : dg_S, CX o S_177 → dg_sm shX [(16, 3), (16, 4), (16, 5)] [4] S S_177 → dg_FG S S_177 → ∀ rw_177_0 : Int32, S_177.2.1 (pt + 1) (x_147 : Int32).toNatClampNeg = rw_177_0 → (0 ≤ (rw_177_0).toInt ∧ (rw_177_0).toInt ≤ 255) → ((F_i_takeCells_B1 o gr pt S) (x_147, S_148) = F_i_takeCells_J2 x_147 S_177) → ∀ (H : Heap) (locs : List Loc), va_P D vwCl (dg_w g shX o rfX S_177) H → va_S A s.heap H locs → ∀ ls : Array Slot, lv_has ls 5 [(3, .int x_147), (0, .ref (o + 182)), (1, .ref (o + gr)), (2, .ref (o + pt))] → W p l e ({ frames := 2, cells := 0, slots := 0, locals := 54 } : Room) s m args below meth c H locs 0 0 (MQ below (va_Qv (fun S' => CX o S' ∧ dg_sm shX [(16, 3), (16, 4), (16, 5)] [4] S S' ∧ dg_FG S S' ∧ (S' = F_i_takeCells o S gr pt) ∧ True) (dg_B g D shX o rfX) A) args s 0 0 A) (F0 m 108 ls []) := by
                intro S_177 I_177 M_177 G_177 rw_177_0 frw_177_0 brw_177_0 hF_2 H locs hP hS ls hl
                obtain ⟨x_179, ex_179⟩ : ∃ z, z = x_147 + 1 := ⟨_, rfl⟩
                have jx_179 : (x_179).toInt = (x_147).toInt + 1 := by rw [ex_179]; exact dk_addT2 rfl (by decide +kernel) (by omega)
                refine lv_iinc (v := x_179) (lv' := [(3, .int x_179), (0, .ref (o + 182)), (1, .ref (o + gr)), (2, .ref (o + pt))]) hx hb dX4_takeCells_108 hl (k := 0) rfl (by rw [ex_179]; rfl) (dk_dq rfl) rfl (fun ls hl => ?_)
                refine lv_goto (tgt := 3) hx hb dX4_takeCells_111 (dk_dq rfl) ?_
                exact ih x_179 (by omega) (by first | exact mu_lt hmu (by omega) (by omega) | omega) S_177 I_177 M_177 G_177 (lp_l hF_1 (Eq.trans hF_2 (F_i_takeCells_p1 ex_179))) _ _ hP hS _ (lv_sub hl [0, 1, 2, 3] rfl)
              refine lv_icmp_ne (tgt := 25) hx hb dX4_takeCells_19 (dk_dq rfl) (fun c_180 => ?_) (fun c_180 => ?_)
              · as_aux_lemma =>
                  have jc_180 := dk_neqc (k := 100) (by decide +kernel) c_180
                  refine lv_aload_n hx hb dX4_takeCells_25 rfl (lv_at hl 1 rfl) ?_
                  refine lv_sipush (v := 255) hx hb dX4_takeCells_26 (by decide +kernel) ?_
                  refine dg_calli hS hA1 hA (va_runV (As := [.int 255]) (rest := []) F (c_i_next l g D o S_148 255 I_148 H.size) (cwV 1 hts (bw_V wB_811 wB_812 wB_813 wB_784 wB_810) rfl rfl rfl (by decide +kernel) ⟨Nat.le_of_ble_eq_true rfl, Nat.le_of_ble_eq_true rfl⟩) (dg_preV sX_182 rfl K ST hP hS hA1 hA) rfl rfl hl.1 rfl (lv_room (Nat.le_of_ble_eq_true rfl)) dX4_takeCells_29 ⟨Nat.le_of_ble_eq_true rfl, Nat.le_of_ble_eq_true rfl⟩) (fun x_181 S_182 hw_182 H locs hP hS => ?_)
                  obtain ⟨I_182, m_182, w_182_0, w_182_1, w_182_2, -⟩ := hw_182
                  have M_182 := dg_sm.tr M_148 m_182 (dk_dq rfl) (dk_dq rfl)
                  have hz_183 : (255 : Int32).toInt = 255 := by decide +kernel
                  have w_182_0 : 0 ≤ (x_181).toInt ∧ (x_181).toInt ≤ 255 := w_182_0
                  have w_182_1 : (x_181).toInt ≤ ((255 : Int32)).toInt ∨ (x_181).toInt = 0 := w_182_1
                  refine lv_istore (lv' := [(4, .int x_181), (3, .int x_147), (0, .ref (o + 182)), (1, .ref (o + gr)), (2, .ref (o + pt))]) hx hb dX4_takeCells_32 hl (dk_dq rfl) rfl (fun ls hl => ?_)
                  refine lv_iload_n hx hb dX4_takeCells_34 rfl (lv_at hl 1 rfl) ?_
                  refine lv_aload_n hx hb dX4_takeCells_35 rfl (lv_at hl 3 rfl) ?_
                  obtain ⟨x_184, f_x_184, b_x_184⟩ := dg_I.int (i := gr) (k := 2) (lo := (-1)) (hi := 63) I (rX_0 gr hk_gr) (by decide +kernel)
                  refine dg_get (C := RX2) (T := TX2) (N := 19) hx hb hts (fun w h => bw_mem (wU_X2 w h)) hown K hP (rX_0 gr hk_gr) rfl 2 (dk_dq rfl) (hts _ (bw_mem wB_814)) (fun _ h9 => h9) (v := .int x_184) (((m_182.1 gr 2 _ (rX_0 gr hk_gr) (dk_dq rfl)).trans (M_148.1 gr 2 _ (rX_0 gr hk_gr) (dk_dq rfl))).trans f_x_184) dX4_takeCells_36 ?_
                  have J_201 : ∀ S_200 : dg_S, CX o S_200 → dg_sm shX [(16, 3), (16, 4), (16, 5)] [4] S S_200 → dg_FG S S_200 → ∀ rw_200_0 : Int32, S_200.2.1 (pt + 1) (x_147 : Int32).toNatClampNeg = rw_200_0 → (0 ≤ (rw_200_0).toInt ∧ (rw_200_0).toInt ≤ 255) → ((F_i_takeCells_B1 o gr pt S) (x_147, S_148) = F_i_takeCells_J3 S_200 pt x_147 x_181) → ∀ (H : Heap) (locs : List Loc), va_P D vwCl (dg_w g shX o rfX S_200) H → va_S A s.heap H locs → ∀ ls : Array Slot, lv_has ls 5 [(4, .int x_181), (3, .int x_147), (0, .ref (o + 182)), (1, .ref (o + gr)), (2, .ref (o + pt))] → W p l e ({ frames := 2, cells := 0, slots := 0, locals := 54 } : Room) s m args below meth c H locs 0 0 (MQ below (va_Qv (fun S' => CX o S' ∧ dg_sm shX [(16, 3), (16, 4), (16, 5)] [4] S S' ∧ dg_FG S S' ∧ (S' = F_i_takeCells o S gr pt) ∧ True) (dg_B g D shX o rfX) A) args s 0 0 A) (F0 m 100 ls []) := by
                    intro S_200 I_200 M_200 G_200 rw_200_0 frw_200_0 brw_200_0 hF_3 H locs hP hS ls hl
                    refine lv_aload_n hx hb dX4_takeCells_100 rfl (lv_at hl 4 rfl) ?_
                    refine dg_get (C := RX5) (T := TX5) (N := 8) hx hb hts (fun w h => bw_mem (wU_X5 w h)) hown K hP (pX_0 pt hk_pt) rfl 2 (dk_dq rfl) (hts _ (bw_mem wB_788)) (fun _ h9 => h9) (v := .ref (o + (pt + 1))) (show S_200.1 pt 2 = .ref (o + (pt + 1)) from dg_I.rel (d := 1) I_200 (pX_0 pt hk_pt) (by decide +kernel)) dX4_takeCells_101 ?_
                    refine lv_iload_n hx hb dX4_takeCells_104 rfl (lv_at hl 1 rfl) ?_
                    refine lv_iload hx hb dX4_takeCells_105 (lv_at hl 0 rfl) ?_
                    have hin_202 : vp_in x_147 72 := (dk_inv2 (by omega))
                    refine dg_iast hx hb K hP hS hA1 (pX_1 pt hk_pt) hin_202 dX4_takeCells_107 (fun S_203 e_203 H locs hP hS => ?_)
                    have I_203 := dg_I.ufc (lo := 0) (hi := 255) I_200 e_203 (pX_1 pt hk_pt) (by decide +kernel) hin_202 (show dg_Pcel _ _ from by unfold dg_Pcel; omega) (by omega)
                    have gs_203 := dg_FG.st e_203 (by omega)
                    have M_203 := dg_sm.uf M_200 e_203 (pX_1 pt hk_pt) (dk_dq rfl)
                    exact J_178   S_203 I_203 M_203 (dg_FG.tr G_200 gs_203) x_181 ((congrFun (dg_uf_at e_203) _).trans (dg_upd_at rfl)) (by omega) (Eq.trans hF_3 (F_i_takeCells_p2 e_203)) _ _ hP hS _ (lv_sub hl [1, 2, 3, 4] rfl)
                  refine lv_icmp_ne (tgt := 69) hx hb dX4_takeCells_39 (dk_dq rfl) (fun c_204 => ?_) (fun c_204 => ?_)
                  · as_aux_lemma =>
                      have jc_204 := dk_neqc (k := (x_184).toInt) rfl c_204
                      refine lv_aload_n hx hb dX4_takeCells_69 rfl (lv_at hl 2 rfl) ?_
                      refine lv_aload_n hx hb dX4_takeCells_70 rfl (lv_at hl 2 rfl) ?_
                      obtain ⟨x_205, f_x_205, b_x_205⟩ := dg_I.int (i := 182) (k := 5) (lo := 0) (hi := 1) I_182 sX_182 (by decide +kernel)
                      refine dg_get (C := RX4) (T := TX4) (N := 6) hx hb hts (fun w h => bw_mem (wU_X4 w h)) hown K hP sX_182 rfl 5 (dk_dq rfl) (hts _ (bw_mem wB_807)) (fun _ h9 => h9) (v := .int x_205) f_x_205 dX4_takeCells_71 ?_
                      have J_211 : ∀ (x_209 : Int32), (0 ≤ (x_209).toInt ∧ (x_209).toInt ≤ 1) → ((F_i_takeCells_B1 o gr pt S) (x_147, S_148) = F_i_takeCells_J4 S_182 x_209 pt x_147 x_181) → ∀ (H : Heap) (locs : List Loc), va_P D vwCl (dg_w g shX o rfX S_182) H → va_S A s.heap H locs → ∀ ls : Array Slot, lv_has ls 5 [(4, .int x_181), (3, .int x_147), (0, .ref (o + 182)), (1, .ref (o + gr)), (2, .ref (o + pt))] → W p l e ({ frames := 2, cells := 0, slots := 0, locals := 54 } : Room) s m args below meth c H locs 0 0 (MQ below (va_Qv (fun S' => CX o S' ∧ dg_sm shX [(16, 3), (16, 4), (16, 5)] [4] S S' ∧ dg_FG S S' ∧ (S' = F_i_takeCells o S gr pt) ∧ True) (dg_B g D shX o rfX) A) args s 0 0 A) (F0 m 97 ls [.int x_209, .ref (o + 182)]) := by
                        intro x_209 b_x_209 hF_4 H locs hP hS ls hl
                        refine dg_put (ci := 4) (v := .int x_209) (ty := tyX4 5) (C := RX4) (T := TX4) (N := 6) hx hb hts (fun w h => bw_mem (wU_X4 w h)) tyX4 tyX4_ok nmX4 hown K hP hS hA1 sX_182 rfl 5 (dk_dq rfl) (hts _ (bw_mem wB_807)) (fun _ h9 => h9) rfl (by decide +kernel) (dk_znar2 (by omega)) (dk_zfit (by omega) (by omega)) dX4_takeCells_97 (fun S_212 e_212 H locs hP hS => ?_)
                        have I_212 := dg_I.uFi (lo := 0) (hi := 1) I_182 e_212 sX_182 (by decide +kernel) (show 0 ≤ (x_209).toInt ∧ (x_209).toInt ≤ 1 from (by omega))
                        have M_212 := dg_sm.uF M_182 e_212 sX_182 (dk_dq rfl)
                        exact J_201   S_212 I_212 M_212 (dg_FG.tr (dg_FG.tr G_148 (dg_FG.sm m_182 (dk_dq rfl))) (dg_FG.uF e_212)) x_154 ((congrFun ((dg_uF_f e_212 (pt + 1)).trans (m_182.2 (pt + 1) _ (pX_1 pt hk_pt) (dk_dq rfl)).1) _).trans ex_154.symm) (by omega) (Eq.trans hF_4 (F_i_takeCells_p3 e_212)) _ _ hP hS _ (lv_sub hl [0, 1, 2, 3, 4] rfl)
                      have J_213 : ((F_i_takeCells_B1 o gr pt S) (x_147, S_148) = F_i_takeCells_J5 S_182 pt x_147 x_181) → ∀ (H : Heap) (locs : List Loc), va_P D vwCl (dg_w g shX o rfX S_182) H → va_S A s.heap H locs → ∀ ls : Array Slot, lv_has ls 5 [(4, .int x_181), (3, .int x_147), (0, .ref (o + 182)), (1, .ref (o + gr)), (2, .ref (o + pt))] → W p l e ({ frames := 2, cells := 0, slots := 0, locals := 54 } : Room) s m args below meth c H locs 0 0 (MQ below (va_Qv (fun S' => CX o S' ∧ dg_sm shX [(16, 3), (16, 4), (16, 5)] [4] S S' ∧ dg_FG S S' ∧ (S' = F_i_takeCells o S gr pt) ∧ True) (dg_B g D shX o rfX) A) args s 0 0 A) (F0 m 96 ls [.ref (o + 182)]) := by
                        intro hF_5 H locs hP hS ls hl
                        refine lv_iconst (v := 0) hx hb dX4_takeCells_96 (by decide +kernel) ?_
                        have hz_214 : (0 : Int32).toInt = 0 := by decide +kernel
                        exact J_211 0 (by decide +kernel) (Eq.trans hF_5 (F_i_takeCells_p4)) _ _ hP hS _ (lv_sub hl [0, 1, 2, 3, 4] rfl)
                      refine lv_if_eq (tgt := 96) hx hb dX4_takeCells_74 (dk_dq rfl) (fun c_215 => ?_) (fun c_215 => ?_)
                      · have jc_215 := dk_eqc (k := 0) (by decide +kernel) c_215
                        exact J_213   (F_i_takeCells_p5 w_151_1 c_152 (Eq.symm ex_154.symm) c_180 w_182_2.1 w_182_2.2 (zI_eq f_x_184) c_204 (zI_eq f_x_205) c_215) _ _ hP hS _ (lv_sub hl [0, 1, 2, 3, 4] rfl)
                      · as_aux_lemma =>
                          have jc_215 := dk_neqc (k := 0) (by decide +kernel) c_215
                          refine lv_iload hx hb dX4_takeCells_77 (lv_at hl 0 rfl) ?_
                          refine lv_bipush (v := 9) hx hb dX4_takeCells_79 (by decide +kernel) ?_
                          have J_219 : ((F_i_takeCells_B1 o gr pt S) (x_147, S_148) = F_i_takeCells_J6 S_182 pt x_147 x_181) → ∀ (H : Heap) (locs : List Loc), va_P D vwCl (dg_w g shX o rfX S_182) H → va_S A s.heap H locs → ∀ ls : Array Slot, lv_has ls 5 [(4, .int x_181), (3, .int x_147), (0, .ref (o + 182)), (1, .ref (o + gr)), (2, .ref (o + pt))] → W p l e ({ frames := 2, cells := 0, slots := 0, locals := 54 } : Room) s m args below meth c H locs 0 0 (MQ below (va_Qv (fun S' => CX o S' ∧ dg_sm shX [(16, 3), (16, 4), (16, 5)] [4] S S' ∧ dg_FG S S' ∧ (S' = F_i_takeCells o S gr pt) ∧ True) (dg_B g D shX o rfX) A) args s 0 0 A) (F0 m 92 ls [.ref (o + 182)]) := by
                            intro hF_6 H locs hP hS ls hl
                            refine lv_iconst (v := 1) hx hb dX4_takeCells_92 (by decide +kernel) ?_
                            refine lv_goto (tgt := 97) hx hb dX4_takeCells_93 (dk_dq rfl) ?_
                            have hz_220 : (1 : Int32).toInt = 1 := by decide +kernel
                            exact J_211 1 (by decide +kernel) (Eq.trans hF_6 (F_i_takeCells_p6)) _ _ hP hS _ (lv_sub hl [0, 1, 2, 3, 4] rfl)
                          refine lv_icmp_le (tgt := 92) hx hb dX4_takeCells_81 (dk_dq rfl) (fun c_221 => ?_) (fun c_221 => ?_)
                          · have jc_221 := dk_lec (k := 9) (by decide +kernel) c_221
                            exact J_219   (F_i_takeCells_p7 w_151_1 c_152 (Eq.symm ex_154.symm) c_180 w_182_2.1 w_182_2.2 (zI_eq f_x_184) c_204 (zI_eq f_x_205) c_215 c_221) _ _ hP hS _ (lv_sub hl [0, 1, 2, 3, 4] rfl)
                          · have jc_221 := dk_nlec (k := 9) (by decide +kernel) c_221
                            refine lv_iload hx hb dX4_takeCells_84 (lv_at hl 0 rfl) ?_
                            refine lv_sipush (v := 254) hx hb dX4_takeCells_86 (by decide +kernel) ?_
                            refine lv_icmp_lt (tgt := 96) hx hb dX4_takeCells_89 (dk_dq rfl) (fun c_222 => ?_) (fun c_222 => ?_)
                            · have jc_222 := dk_ltc (k := 254) (by decide +kernel) c_222
                              exact J_213   (F_i_takeCells_p8 w_151_1 c_152 (Eq.symm ex_154.symm) c_180 w_182_2.1 w_182_2.2 (zI_eq f_x_184) c_204 (zI_eq f_x_205) c_215 c_221 c_222) _ _ hP hS _ (lv_sub hl [0, 1, 2, 3, 4] rfl)
                            · have jc_222 := dk_nltc (k := 254) (by decide +kernel) c_222
                              exact J_219   (F_i_takeCells_p9 w_151_1 c_152 (Eq.symm ex_154.symm) c_180 w_182_2.1 w_182_2.2 (zI_eq f_x_184) c_204 (zI_eq f_x_205) c_215 c_221 c_222) _ _ hP hS _ (lv_sub hl [0, 1, 2, 3, 4] rfl)
                  · as_aux_lemma =>
                      have jc_204 := dk_eqc (k := (x_184).toInt) rfl c_204
                      refine lv_aload_n hx hb dX4_takeCells_42 rfl (lv_at hl 2 rfl) ?_
                      refine lv_aload_n hx hb dX4_takeCells_43 rfl (lv_at hl 2 rfl) ?_
                      obtain ⟨x_223, f_x_223, b_x_223⟩ := dg_I.int (i := 182) (k := 5) (lo := 0) (hi := 1) I_182 sX_182 (by decide +kernel)
                      refine dg_get (C := RX4) (T := TX4) (N := 6) hx hb hts (fun w h => bw_mem (wU_X4 w h)) hown K hP sX_182 rfl 5 (dk_dq rfl) (hts _ (bw_mem wB_807)) (fun _ h9 => h9) (v := .int x_223) f_x_223 dX4_takeCells_44 ?_
                      have J_228 : ∀ (x_226 : Int32), (0 ≤ (x_226).toInt ∧ (x_226).toInt ≤ 1) → ((F_i_takeCells_B1 o gr pt S) (x_147, S_148) = F_i_takeCells_J7 S_182 x_226 pt x_147 x_181) → ∀ (H : Heap) (locs : List Loc), va_P D vwCl (dg_w g shX o rfX S_182) H → va_S A s.heap H locs → ∀ ls : Array Slot, lv_has ls 5 [(4, .int x_181), (3, .int x_147), (0, .ref (o + 182)), (1, .ref (o + gr)), (2, .ref (o + pt))] → W p l e ({ frames := 2, cells := 0, slots := 0, locals := 54 } : Room) s m args below meth c H locs 0 0 (MQ below (va_Qv (fun S' => CX o S' ∧ dg_sm shX [(16, 3), (16, 4), (16, 5)] [4] S S' ∧ dg_FG S S' ∧ (S' = F_i_takeCells o S gr pt) ∧ True) (dg_B g D shX o rfX) A) args s 0 0 A) (F0 m 63 ls [.int x_226, .ref (o + 182)]) := by
                        intro x_226 b_x_226 hF_7 H locs hP hS ls hl
                        refine dg_put (ci := 4) (v := .int x_226) (ty := tyX4 5) (C := RX4) (T := TX4) (N := 6) hx hb hts (fun w h => bw_mem (wU_X4 w h)) tyX4 tyX4_ok nmX4 hown K hP hS hA1 sX_182 rfl 5 (dk_dq rfl) (hts _ (bw_mem wB_807)) (fun _ h9 => h9) rfl (by decide +kernel) (dk_znar2 (by omega)) (dk_zfit (by omega) (by omega)) dX4_takeCells_63 (fun S_229 e_229 H locs hP hS => ?_)
                        have I_229 := dg_I.uFi (lo := 0) (hi := 1) I_182 e_229 sX_182 (by decide +kernel) (show 0 ≤ (x_226).toInt ∧ (x_226).toInt ≤ 1 from (by omega))
                        have M_229 := dg_sm.uF M_182 e_229 sX_182 (dk_dq rfl)
                        refine lv_goto (tgt := 100) hx hb dX4_takeCells_66 (dk_dq rfl) ?_
                        exact J_201   S_229 I_229 M_229 (dg_FG.tr (dg_FG.tr G_148 (dg_FG.sm m_182 (dk_dq rfl))) (dg_FG.uF e_229)) x_154 ((congrFun ((dg_uF_f e_229 (pt + 1)).trans (m_182.2 (pt + 1) _ (pX_1 pt hk_pt) (dk_dq rfl)).1) _).trans ex_154.symm) (by omega) (Eq.trans hF_7 (F_i_takeCells_p10 e_229)) _ _ hP hS _ (lv_sub hl [0, 1, 2, 3, 4] rfl)
                      have J_230 : ((F_i_takeCells_B1 o gr pt S) (x_147, S_148) = F_i_takeCells_J8 S_182 pt x_147 x_181) → ∀ (H : Heap) (locs : List Loc), va_P D vwCl (dg_w g shX o rfX S_182) H → va_S A s.heap H locs → ∀ ls : Array Slot, lv_has ls 5 [(4, .int x_181), (3, .int x_147), (0, .ref (o + 182)), (1, .ref (o + gr)), (2, .ref (o + pt))] → W p l e ({ frames := 2, cells := 0, slots := 0, locals := 54 } : Room) s m args below meth c H locs 0 0 (MQ below (va_Qv (fun S' => CX o S' ∧ dg_sm shX [(16, 3), (16, 4), (16, 5)] [4] S S' ∧ dg_FG S S' ∧ (S' = F_i_takeCells o S gr pt) ∧ True) (dg_B g D shX o rfX) A) args s 0 0 A) (F0 m 62 ls [.ref (o + 182)]) := by
                        intro hF_8 H locs hP hS ls hl
                        refine lv_iconst (v := 0) hx hb dX4_takeCells_62 (by decide +kernel) ?_
                        have hz_231 : (0 : Int32).toInt = 0 := by decide +kernel
                        exact J_228 0 (by decide +kernel) (Eq.trans hF_8 (F_i_takeCells_p11)) _ _ hP hS _ (lv_sub hl [0, 1, 2, 3, 4] rfl)
                      refine lv_if_eq (tgt := 62) hx hb dX4_takeCells_47 (dk_dq rfl) (fun c_232 => ?_) (fun c_232 => ?_)
                      · have jc_232 := dk_eqc (k := 0) (by decide +kernel) c_232
                        exact J_230   (F_i_takeCells_p12 w_151_1 c_152 (Eq.symm ex_154.symm) c_180 w_182_2.1 w_182_2.2 (zI_eq f_x_184) c_204 (zI_eq f_x_223) c_232) _ _ hP hS _ (lv_sub hl [0, 1, 2, 3, 4] rfl)
                      · have jc_232 := dk_neqc (k := 0) (by decide +kernel) c_232
                        refine lv_iload hx hb dX4_takeCells_50 (lv_at hl 0 rfl) ?_
                        refine lv_sipush (v := 255) hx hb dX4_takeCells_52 (by decide +kernel) ?_
                        refine lv_icmp_ne (tgt := 62) hx hb dX4_takeCells_55 (dk_dq rfl) (fun c_233 => ?_) (fun c_233 => ?_)
                        · have jc_233 := dk_neqc (k := 255) (by decide +kernel) c_233
                          exact J_230   (F_i_takeCells_p13 w_151_1 c_152 (Eq.symm ex_154.symm) c_180 w_182_2.1 w_182_2.2 (zI_eq f_x_184) c_204 (zI_eq f_x_223) c_232 c_233) _ _ hP hS _ (lv_sub hl [0, 1, 2, 3, 4] rfl)
                        · have jc_233 := dk_eqc (k := 255) (by decide +kernel) c_233
                          refine lv_iconst (v := 1) hx hb dX4_takeCells_58 (by decide +kernel) ?_
                          refine lv_goto (tgt := 63) hx hb dX4_takeCells_59 (dk_dq rfl) ?_
                          have hz_234 : (1 : Int32).toInt = 1 := by decide +kernel
                          exact J_228 1 (by decide +kernel) (F_i_takeCells_p14 w_151_1 c_152 (Eq.symm ex_154.symm) c_180 w_182_2.1 w_182_2.2 (zI_eq f_x_184) c_204 (zI_eq f_x_223) c_232 c_233) _ _ hP hS _ (lv_sub hl [0, 1, 2, 3, 4] rfl)
              · have jc_180 := dk_eqc (k := 100) (by decide +kernel) c_180
                refine lv_goto (tgt := 108) hx hb dX4_takeCells_22 (dk_dq rfl) ?_
                exact J_178   S_148 I_148 M_148 G_148 x_154 ex_154.symm (by omega) (F_i_takeCells_p15 w_151_1 c_152 (Eq.symm ex_154.symm) c_180) _ _ hP hS _ (lv_sub hl [0, 1, 2, 3] rfl)
  have hz_235 : (8 : Int32).toInt = 8 := by decide +kernel
  have hz_236 : (8 : Int32).toInt = 8 := by decide +kernel
  exact L_149 ((65 - ((8 : Int32)).toInt).toNat + 1) 8 (by decide +kernel) (by first | exact mu_lt hmu (by omega) (by omega) | omega) S I M_0 dg_FG.rf (F_i_takeCells_p16) _ _ hP hS _ (lv_sub hl [0, 1, 2, 3] rfl)
noncomputable def F_i_takePlan_J2 (o : Nat) (S_123 : dg_S) (gr : Nat) (x_119 : Int32) (x_122 : Int32) (pt : Nat) (x_107 : Int32) : (Int32 × dg_S) ⊕ (dg_S) := let x_124 : Int32 := F_g_placeOf o S_123 gr x_119 x_122; let S_127 : dg_S := dg_uf S_123 (pt + 4) (upd (S_123.2.1 (pt + 4)) (x_107 : Int32).toNatClampNeg x_124); let x_128 : Int32 := x_107 + 1; (Sum.inl (x_128, S_127))
noncomputable def F_i_takePlan_B1 (S : dg_S) (gr : Nat) (o : Nat) (pt : Nat) (cx : Int32) (ry : Int32) : (Int32 × dg_S) → (Int32 × dg_S) ⊕ (dg_S) := fun w9 => match w9 with | (x_107, S_108) => let x_110 : Int32 := zI S gr 8; (if x_110 ≤ x_107 then (Sum.inr ((S_108))) else let x_112 : Int32 := zI S gr 6; let x_113 : Int32 := x_112 - (1 : Int32); let S_115 : dg_S := (F_i_next o S_108 x_113).1; let x_114 : Int32 := (F_i_next o S_108 x_113).2; let S_117 : dg_S := dg_uf S_115 (pt + 3) (upd (S_115.2.1 (pt + 3)) (x_107 : Int32).toNatClampNeg x_114); let x_118 : Int32 := cx - (1 : Int32); let S_120 : dg_S := (F_i_next o S_117 x_118).1; let x_119 : Int32 := (F_i_next o S_117 x_118).2; let x_121 : Int32 := ry - (1 : Int32); let S_123 : dg_S := (F_i_next o S_120 x_121).1; let x_122 : Int32 := (F_i_next o S_120 x_121).2; (F_i_takePlan_J2 o S_123 gr x_119 x_122 pt x_107))
noncomputable def F_i_takePlan (o : Nat) (S : dg_S) (gr : Nat) (pt : Nat) : dg_S := let cx : Int32 := zI S gr 0; let ry : Int32 := zI S gr 1; (lp (F_i_takePlan_B1 S gr o pt cx ry) S ((17 - ((0 : Int32)).toInt).toNat + 1) ((0 : Int32), S))
theorem F_i_takePlan_p0 {S : dg_S} {gr : Nat} {o : Nat} {pt : Nat} {cx : Int32} {ry : Int32} {x_107 : Int32} {S_108 : dg_S} {x_110 : Int32} (h0 : x_110 = zI S gr 8) (h1 : x_110 ≤ x_107) : (F_i_takePlan_B1 S gr o pt cx ry) (x_107, S_108) = Sum.inr (S_108) := by
  replace h0 := Eq.symm h0
  subst h0
  exact (Eq.trans (if_pos h1) rfl)
theorem F_i_takePlan_p1 {o : Nat} {S_123 : dg_S} {gr : Nat} {x_119 : Int32} {x_122 : Int32} {pt : Nat} {x_107 : Int32} {x_128 : Int32} {S_127 : dg_S} {x_124 : Int32} (h0 : x_124 = F_g_placeOf o S_123 gr x_119 x_122) (h1 : S_127 = dg_uf S_123 (pt + 4) (upd (S_123.2.1 (pt + 4)) (x_107 : Int32).toNatClampNeg x_124)) (h2 : x_128 = x_107 + 1) : F_i_takePlan_J2 o S_123 gr x_119 x_122 pt x_107 = Sum.inl (x_128, S_127) := by
  replace h0 := Eq.symm h0
  subst h0
  replace h1 := Eq.symm h1
  subst h1
  replace h2 := Eq.symm h2
  subst h2
  exact rfl
theorem F_i_takePlan_p2 {S : dg_S} {gr : Nat} {o : Nat} {pt : Nat} {cx : Int32} {ry : Int32} {x_107 : Int32} {S_108 : dg_S} {S_123 : dg_S} {x_119 : Int32} {x_122 : Int32} {x_110 : Int32} {x_112 : Int32} {x_113 : Int32} {S_115 : dg_S} {x_114 : Int32} {S_117 : dg_S} {x_118 : Int32} {S_120 : dg_S} {x_121 : Int32} (h0 : x_110 = zI S gr 8) (h1 : ¬ (x_110 ≤ x_107)) (h2 : x_112 = zI S gr 6) (h3 : x_113 = x_112 - (1 : Int32)) (h4 : S_115 = (F_i_next o S_108 x_113).1) (h5 : x_114 = (F_i_next o S_108 x_113).2) (h6 : S_117 = dg_uf S_115 (pt + 3) (upd (S_115.2.1 (pt + 3)) (x_107 : Int32).toNatClampNeg x_114)) (h7 : x_118 = cx - (1 : Int32)) (h8 : S_120 = (F_i_next o S_117 x_118).1) (h9 : x_119 = (F_i_next o S_117 x_118).2) (h10 : x_121 = ry - (1 : Int32)) (h11 : S_123 = (F_i_next o S_120 x_121).1) (h12 : x_122 = (F_i_next o S_120 x_121).2) : (F_i_takePlan_B1 S gr o pt cx ry) (x_107, S_108) = F_i_takePlan_J2 o S_123 gr x_119 x_122 pt x_107 := by
  replace h0 := Eq.symm h0
  subst h0
  replace h2 := Eq.symm h2
  subst h2
  replace h3 := Eq.symm h3
  subst h3
  replace h4 := Eq.symm h4
  subst h4
  replace h5 := Eq.symm h5
  subst h5
  replace h6 := Eq.symm h6
  subst h6
  replace h7 := Eq.symm h7
  subst h7
  replace h8 := Eq.symm h8
  subst h8
  replace h9 := Eq.symm h9
  subst h9
  replace h10 := Eq.symm h10
  subst h10
  replace h11 := Eq.symm h11
  subst h11
  replace h12 := Eq.symm h12
  subst h12
  exact (Eq.trans (if_neg h1) rfl)
theorem F_i_takePlan_p3 {o : Nat} {S : dg_S} {gr : Nat} {pt : Nat} {cx : Int32} {ry : Int32} (h0 : cx = zI S gr 0) (h1 : ry = zI S gr 1) : F_i_takePlan o S gr pt = lp (F_i_takePlan_B1 S gr o pt cx ry) S ((17 - ((0 : Int32)).toInt).toNat + 1) ((0 : Int32), S) := by
  replace h0 := Eq.symm h0
  subst h0
  replace h1 := Eq.symm h1
  subst h1
  exact rfl
set_option maxHeartbeats 8000000 in
set_option maxRecDepth 100000 in
theorem c_i_takePlan (l : Launch) (g : Nat → ClassId) (D : va_G) (o : Nat) (S : dg_S) (gr : Nat) (hk_gr : rX gr) (pt : Nat) (hk_pt : pX pt) (cx : Int32) (f_cx : S.1 gr 0 = .int cx) (b_cx : 0 ≤ (cx).toInt ∧ (cx).toInt ≤ 7) (ry : Int32) (f_ry : S.1 gr 1 = .int ry) (b_ry : 0 ≤ (ry).toInt ∧ (ry).toInt ≤ 7) (hcx : 0 < (cx).toInt ∧ 0 < (ry).toInt) (I : CX o S) (sz : Nat) : Met l yX4_takePlan (bw yX4_takePlan cX4_takePlan 5 none) ({ frames := 2, cells := 0, slots := 0, locals := 54 } : Room) (dk_Pc g D (dg_w g shX o rfX S) sz [.ref (o + 182), .ref (o + gr), .ref (o + pt)]) (va_Qv (fun S' => CX o S' ∧ dg_sm shX [(16, 3), (16, 4), (16, 5)] [6, 7] S S' ∧ (S' = F_i_takePlan o S gr pt) ∧ True) (dg_B g D shX o rfX) (dg_A o shX.length sz)) 0 0 (dg_A o shX.length sz) := by
  refine dg_met (cc := cX4_takePlan) (maxL := 5) (ret := none) (dk_dq rfl) rfl (Nat.le_of_ble_eq_true rfl) ?_
  intro p e s m args below meth c A hAe harg hx hb hr hml hts hown hlocks hin hP K hS hA1 hA ST hsz ls hl
  rw [← hAe]
  have F : CallFix p m c cX4_takePlan 5 s args (bw yX4_takePlan cX4_takePlan 5 none) RX4 := ⟨hx, hb, hml, hown, hts⟩
  have hl : lv_has ls 5 [(0, .ref (o + 182)), (1, .ref (o + gr)), (2, .ref (o + pt))] := hl
  have M_0 : dg_sm shX [(16, 3), (16, 4), (16, 5)] [6, 7] S S := dg_sm.rf
  refine lv_iconst (v := 0) hx hb dX4_takePlan_0 (by decide +kernel) ?_
  refine lv_istore_n (lv' := [(3, .int 0), (0, .ref (o + 182)), (1, .ref (o + gr)), (2, .ref (o + pt))]) hx hb dX4_takePlan_1 rfl hl (dk_dq rfl) rfl (fun ls hl => ?_)
  have L_109 : ∀ (n : Nat) (x_107 : Int32), (0 ≤ (x_107).toInt ∧ (x_107).toInt ≤ 16) → ((17 - (x_107).toInt).toNat < n) → ∀ S_108 : dg_S, CX o S_108 → dg_sm shX [(16, 3), (16, 4), (16, 5)] [6, 7] S S_108 → (F_i_takePlan o S gr pt = lp (F_i_takePlan_B1 S gr o pt cx ry) S n (x_107, S_108)) → ∀ (H : Heap) (locs : List Loc), va_P D vwCl (dg_w g shX o rfX S_108) H → va_S A s.heap H locs → ∀ ls : Array Slot, lv_has ls 5 [(3, .int x_107), (0, .ref (o + 182)), (1, .ref (o + gr)), (2, .ref (o + pt))] → W p l e ({ frames := 2, cells := 0, slots := 0, locals := 54 } : Room) s m args below meth c H locs 0 0 (MQ below (va_Qv (fun S' => CX o S' ∧ dg_sm shX [(16, 3), (16, 4), (16, 5)] [6, 7] S S' ∧ (S' = F_i_takePlan o S gr pt) ∧ True) (dg_B g D shX o rfX) A) args s 0 0 A) (F0 m 2 ls []) := by
    as_aux_lemma =>
      intro n
      induction n with
      | zero =>
        intro x_107 b_x_107 hmu S_108 I_108 M_108 hF_1 H locs hP hS ls hl
        omega
      | succ n ih =>
        as_aux_lemma =>
          intro x_107 b_x_107 hmu S_108 I_108 M_108 hF_1 H locs hP hS ls hl
          refine lv_iload_n hx hb dX4_takePlan_2 rfl (lv_at hl 0 rfl) ?_
          refine lv_aload_n hx hb dX4_takePlan_3 rfl (lv_at hl 2 rfl) ?_
          obtain ⟨x_110, f_x_110, b_x_110⟩ := dg_I.int (i := gr) (k := 8) (lo := 0) (hi := 16) I (rX_0 gr hk_gr) (by decide +kernel)
          refine dg_get (C := RX2) (T := TX2) (N := 19) hx hb hts (fun w h => bw_mem (wU_X2 w h)) hown K hP (rX_0 gr hk_gr) rfl 8 (dk_dq rfl) (hts _ (bw_mem wB_796)) (fun _ h9 => h9) (v := .int x_110) ((M_108.1 gr 8 _ (rX_0 gr hk_gr) (dk_dq rfl)).trans f_x_110) dX4_takePlan_4 ?_
          refine lv_icmp_ge (tgt := 66) hx hb dX4_takePlan_7 (dk_dq rfl) (fun c_111 => ?_) (fun c_111 => ?_)
          · have jc_111 := dk_gec (k := (x_110).toInt) rfl c_111
            refine W.widen (k := 0) (n := 0) (Nat.le_of_ble_eq_true rfl) (Nat.le_of_ble_eq_true rfl) ?_
            exact dg_vret hx hb hr hlocks hP hS ⟨I_108, M_108, (Eq.symm (lp_r hF_1 (F_i_takePlan_p0 (zI_eq f_x_110) c_111))), trivial⟩ dX4_takePlan_66
          · as_aux_lemma =>
              have jc_111 := dk_ngec (k := (x_110).toInt) rfl c_111
              refine lv_aload_n hx hb dX4_takePlan_10 rfl (lv_at hl 3 rfl) ?_
              refine dg_get (C := RX5) (T := TX5) (N := 8) hx hb hts (fun w h => bw_mem (wU_X5 w h)) hown K hP (pX_0 pt hk_pt) rfl 4 (dk_dq rfl) (hts _ (bw_mem wB_797)) (fun _ h9 => h9) (v := .ref (o + (pt + 3))) (show S_108.1 pt 4 = .ref (o + (pt + 3)) from dg_I.rel (d := 3) I_108 (pX_0 pt hk_pt) (by decide +kernel)) dX4_takePlan_11 ?_
              refine lv_iload_n hx hb dX4_takePlan_14 rfl (lv_at hl 0 rfl) ?_
              refine lv_aload_n hx hb dX4_takePlan_15 rfl (lv_at hl 1 rfl) ?_
              refine lv_aload_n hx hb dX4_takePlan_16 rfl (lv_at hl 2 rfl) ?_
              obtain ⟨x_112, f_x_112, b_x_112⟩ := dg_I.int (i := gr) (k := 6) (lo := 0) (hi := 6) I (rX_0 gr hk_gr) (by decide +kernel)
              refine dg_get (C := RX2) (T := TX2) (N := 19) hx hb hts (fun w h => bw_mem (wU_X2 w h)) hown K hP (rX_0 gr hk_gr) rfl 6 (dk_dq rfl) (hts _ (bw_mem wB_795)) (fun _ h9 => h9) (v := .int x_112) ((M_108.1 gr 6 _ (rX_0 gr hk_gr) (dk_dq rfl)).trans f_x_112) dX4_takePlan_17 ?_
              refine lv_iconst (v := 1) hx hb dX4_takePlan_20 (by decide +kernel) ?_
              refine lv_isub hx hb dX4_takePlan_21 ?_
              refine lv_topi (fun x_113 ex_113 => ?_)
              have jx_113 : (x_113).toInt = (x_112).toInt - 1 := by rw [ex_113]; exact dk_subT2 rfl (by decide +kernel) (by omega)
              refine dg_calli hS hA1 hA (va_runV (As := [.int x_113]) (rest := [.int x_107, .ref (o + (pt + 3))]) F (c_i_next l g D o S_108 x_113 I_108 H.size) (cwV 1 hts (bw_V wB_811 wB_812 wB_813 wB_784 wB_810) rfl rfl rfl (by decide +kernel) ⟨Nat.le_of_ble_eq_true rfl, Nat.le_of_ble_eq_true rfl⟩) (dg_preV sX_182 rfl K ST hP hS hA1 hA) rfl rfl hl.1 rfl (lv_room (Nat.le_of_ble_eq_true rfl)) dX4_takePlan_22 ⟨Nat.le_of_ble_eq_true rfl, Nat.le_of_ble_eq_true rfl⟩) (fun x_114 S_115 hw_115 H locs hP hS => ?_)
              obtain ⟨I_115, m_115, w_115_0, w_115_1, w_115_2, -⟩ := hw_115
              have M_115 := dg_sm.tr M_108 m_115 (dk_dq rfl) (dk_dq rfl)
              have w_115_0 : 0 ≤ (x_114).toInt ∧ (x_114).toInt ≤ 255 := w_115_0
              have w_115_1 : (x_114).toInt ≤ (x_113).toInt ∨ (x_114).toInt = 0 := w_115_1
              have hin_116 : vp_in x_107 16 := (dk_inv2 (by omega))
              refine dg_iast hx hb K hP hS hA1 (pX_3 pt hk_pt) hin_116 dX4_takePlan_25 (fun S_117 e_117 H locs hP hS => ?_)
              have I_117 := dg_I.ufu (lo := 0) (hi := 5) I_115 e_117 (pX_3 pt hk_pt) (by decide +kernel) (show 0 ≤ (x_114).toInt ∧ (x_114).toInt ≤ 5 from (by omega))
              have M_117 := dg_sm.uf M_115 e_117 (pX_3 pt hk_pt) (dk_dq rfl)
              refine lv_aload_n hx hb dX4_takePlan_26 rfl (lv_at hl 1 rfl) ?_
              refine lv_aload_n hx hb dX4_takePlan_27 rfl (lv_at hl 2 rfl) ?_
              refine dg_get (C := RX2) (T := TX2) (N := 19) hx hb hts (fun w h => bw_mem (wU_X2 w h)) hown K hP (rX_0 gr hk_gr) rfl 0 (dk_dq rfl) (hts _ (bw_mem wB_789)) (fun _ h9 => h9) (v := .int cx) (((dg_uf_F e_117 gr 0).trans ((m_115.1 gr 0 _ (rX_0 gr hk_gr) (dk_dq rfl)).trans (M_108.1 gr 0 _ (rX_0 gr hk_gr) (dk_dq rfl)))).trans f_cx) dX4_takePlan_28 ?_
              refine lv_iconst (v := 1) hx hb dX4_takePlan_31 (by decide +kernel) ?_
              refine lv_isub hx hb dX4_takePlan_32 ?_
              refine lv_topi (fun x_118 ex_118 => ?_)
              have jx_118 : (x_118).toInt = (cx).toInt - 1 := by rw [ex_118]; exact dk_subT2 rfl (by decide +kernel) (by omega)
              refine dg_calli hS hA1 hA (va_runV (As := [.int x_118]) (rest := []) F (c_i_next l g D o S_117 x_118 I_117 H.size) (cwV 1 hts (bw_V wB_811 wB_812 wB_813 wB_784 wB_810) rfl rfl rfl (by decide +kernel) ⟨Nat.le_of_ble_eq_true rfl, Nat.le_of_ble_eq_true rfl⟩) (dg_preV sX_182 rfl K ST hP hS hA1 hA) rfl rfl hl.1 rfl (lv_room (Nat.le_of_ble_eq_true rfl)) dX4_takePlan_33 ⟨Nat.le_of_ble_eq_true rfl, Nat.le_of_ble_eq_true rfl⟩) (fun x_119 S_120 hw_120 H locs hP hS => ?_)
              obtain ⟨I_120, m_120, w_120_0, w_120_1, w_120_2, -⟩ := hw_120
              have M_120 := dg_sm.tr M_117 m_120 (dk_dq rfl) (dk_dq rfl)
              have w_120_0 : 0 ≤ (x_119).toInt ∧ (x_119).toInt ≤ 255 := w_120_0
              have w_120_1 : (x_119).toInt ≤ (x_118).toInt ∨ (x_119).toInt = 0 := w_120_1
              refine lv_istore (lv' := [(4, .int x_119), (3, .int x_107), (0, .ref (o + 182)), (1, .ref (o + gr)), (2, .ref (o + pt))]) hx hb dX4_takePlan_36 hl (dk_dq rfl) rfl (fun ls hl => ?_)
              refine lv_aload_n hx hb dX4_takePlan_38 rfl (lv_at hl 4 rfl) ?_
              refine dg_get (C := RX5) (T := TX5) (N := 8) hx hb hts (fun w h => bw_mem (wU_X5 w h)) hown K hP (pX_0 pt hk_pt) rfl 5 (dk_dq rfl) (hts _ (bw_mem wB_798)) (fun _ h9 => h9) (v := .ref (o + (pt + 4))) (show S_120.1 pt 5 = .ref (o + (pt + 4)) from dg_I.rel (d := 4) I_120 (pX_0 pt hk_pt) (by decide +kernel)) dX4_takePlan_39 ?_
              refine lv_iload_n hx hb dX4_takePlan_42 rfl (lv_at hl 1 rfl) ?_
              refine lv_aload_n hx hb dX4_takePlan_43 rfl (lv_at hl 3 rfl) ?_
              refine lv_iload hx hb dX4_takePlan_44 (lv_at hl 0 rfl) ?_
              refine lv_aload_n hx hb dX4_takePlan_46 rfl (lv_at hl 2 rfl) ?_
              as_aux_lemma =>
                refine lv_aload_n hx hb dX4_takePlan_47 rfl (lv_at hl 3 rfl) ?_
                refine dg_get (C := RX2) (T := TX2) (N := 19) hx hb hts (fun w h => bw_mem (wU_X2 w h)) hown K hP (rX_0 gr hk_gr) rfl 1 (dk_dq rfl) (hts _ (bw_mem wB_787)) (fun _ h9 => h9) (v := .int ry) (((m_120.1 gr 1 _ (rX_0 gr hk_gr) (dk_dq rfl)).trans ((dg_uf_F e_117 gr 1).trans ((m_115.1 gr 1 _ (rX_0 gr hk_gr) (dk_dq rfl)).trans (M_108.1 gr 1 _ (rX_0 gr hk_gr) (dk_dq rfl))))).trans f_ry) dX4_takePlan_48 ?_
                refine lv_iconst (v := 1) hx hb dX4_takePlan_51 (by decide +kernel) ?_
                refine lv_isub hx hb dX4_takePlan_52 ?_
                refine lv_topi (fun x_121 ex_121 => ?_)
                have jx_121 : (x_121).toInt = (ry).toInt - 1 := by rw [ex_121]; exact dk_subT2 rfl (by decide +kernel) (by omega)
                refine dg_calli hS hA1 hA (va_runV (As := [.int x_121]) (rest := [.int x_119, .ref (o + gr), .int x_107, .ref (o + (pt + 4))]) F (c_i_next l g D o S_120 x_121 I_120 H.size) (cwV 1 hts (bw_V wB_811 wB_812 wB_813 wB_784 wB_810) rfl rfl rfl (by decide +kernel) ⟨Nat.le_of_ble_eq_true rfl, Nat.le_of_ble_eq_true rfl⟩) (dg_preV sX_182 rfl K ST hP hS hA1 hA) rfl rfl hl.1 rfl (lv_room (Nat.le_of_ble_eq_true rfl)) dX4_takePlan_53 ⟨Nat.le_of_ble_eq_true rfl, Nat.le_of_ble_eq_true rfl⟩) (fun x_122 S_123 hw_123 H locs hP hS => ?_)
                obtain ⟨I_123, m_123, w_123_0, w_123_1, w_123_2, -⟩ := hw_123
                have M_123 := dg_sm.tr M_120 m_123 (dk_dq rfl) (dk_dq rfl)
                have w_123_0 : 0 ≤ (x_122).toInt ∧ (x_122).toInt ≤ 255 := w_123_0
                have w_123_1 : (x_122).toInt ≤ (x_121).toInt ∨ (x_122).toInt = 0 := w_123_1
                have hF_2 : (F_i_takePlan_B1 S gr o pt cx ry) (x_107, S_108) = F_i_takePlan_J2 o S_123 gr x_119 x_122 pt x_107 := (F_i_takePlan_p2 (zI_eq f_x_110) c_111 (zI_eq f_x_112) ex_113 w_115_2.1 w_115_2.2 e_117 ex_118 w_120_2.1 w_120_2.2 ex_121 w_123_2.1 w_123_2.2)
                refine dg_calli hS hA1 hA (va_runV (As := [.int x_119, .int x_122]) (rest := [.int x_107, .ref (o + (pt + 4))]) F (c_g_placeOfR l g D o S_123 gr hk_gr x_119 x_122 cx (((m_123.1 gr 0 _ (rX_0 gr hk_gr) (dk_dq rfl)).trans ((m_120.1 gr 0 _ (rX_0 gr hk_gr) (dk_dq rfl)).trans ((dg_uf_F e_117 gr 0).trans ((m_115.1 gr 0 _ (rX_0 gr hk_gr) (dk_dq rfl)).trans (M_108.1 gr 0 _ (rX_0 gr hk_gr) (dk_dq rfl)))))).trans f_cx) (by omega) ry (((m_123.1 gr 1 _ (rX_0 gr hk_gr) (dk_dq rfl)).trans ((m_120.1 gr 1 _ (rX_0 gr hk_gr) (dk_dq rfl)).trans ((dg_uf_F e_117 gr 1).trans ((m_115.1 gr 1 _ (rX_0 gr hk_gr) (dk_dq rfl)).trans (M_108.1 gr 1 _ (rX_0 gr hk_gr) (dk_dq rfl)))))).trans f_ry) (by omega) I_123 H.size) (cwV 2 hts (bw_V wB_815 wB_55 wB_56 wB_9 wB_53) rfl rfl rfl (by decide +kernel) ⟨Nat.le_of_ble_eq_true rfl, Nat.le_of_ble_eq_true rfl⟩) (dg_preV (rX_0 gr hk_gr) rfl K ST hP hS hA1 hA) rfl rfl hl.1 rfl (lv_room (Nat.le_of_ble_eq_true rfl)) dX4_takePlan_56 ⟨Nat.le_of_ble_eq_true rfl, Nat.le_of_ble_eq_true rfl⟩) (fun x_124 S_125 hw_125 H locs hP hS => ?_)
                rw [hw_125.1] at hP
                obtain ⟨hq_125, w_125_0, w_125_1, w_125_2, -⟩ := hw_125
                have w_125_0 : ((-1) ≤ (x_124).toInt ∧ (x_124).toInt ≤ 62) ∧ ((x_124).toInt ≤ (-1) ∨ 8 ≤ (x_124).toInt) := w_125_0
                have w_125_1 : (0 ≤ (x_119).toInt ∧ (x_119).toInt < (cx).toInt ∧ 0 ≤ (x_122).toInt ∧ (x_122).toInt < (ry).toInt) → 8 ≤ (x_124).toInt := w_125_1
                have hin_126 : vp_in x_107 16 := (dk_inv2 (by omega))
                refine dg_iast hx hb K hP hS hA1 (pX_4 pt hk_pt) hin_126 dX4_takePlan_59 (fun S_127 e_127 H locs hP hS => ?_)
                have I_127 := dg_I.ufu (lo := 0) (hi := 63) I_123 e_127 (pX_4 pt hk_pt) (by decide +kernel) (show 0 ≤ (x_124).toInt ∧ (x_124).toInt ≤ 63 from (by omega))
                have M_127 := dg_sm.uf M_123 e_127 (pX_4 pt hk_pt) (dk_dq rfl)
                obtain ⟨x_128, ex_128⟩ : ∃ z, z = x_107 + 1 := ⟨_, rfl⟩
                have jx_128 : (x_128).toInt = (x_107).toInt + 1 := by rw [ex_128]; exact dk_addT2 rfl (by decide +kernel) (by omega)
                refine lv_iinc (v := x_128) (lv' := [(3, .int x_128), (4, .int x_119), (0, .ref (o + 182)), (1, .ref (o + gr)), (2, .ref (o + pt))]) hx hb dX4_takePlan_60 hl (k := 1) rfl (by rw [ex_128]; rfl) (dk_dq rfl) rfl (fun ls hl => ?_)
                refine lv_goto (tgt := 2) hx hb dX4_takePlan_63 (dk_dq rfl) ?_
                exact ih x_128 (by omega) (by first | exact mu_lt hmu (by omega) (by omega) | omega) S_127 I_127 M_127  (lp_l hF_1 (Eq.trans hF_2 (F_i_takePlan_p1 w_125_2 e_127 ex_128))) _ _ hP hS _ (lv_sub hl [0, 2, 3, 4] rfl)
  have hz_129 : (0 : Int32).toInt = 0 := by decide +kernel
  have hz_130 : (0 : Int32).toInt = 0 := by decide +kernel
  exact L_109 ((17 - ((0 : Int32)).toInt).toNat + 1) 0 (by decide +kernel) (by first | exact mu_lt hmu (by omega) (by omega) | omega) S I M_0  (F_i_takePlan_p3 (zI_eq f_cx) (zI_eq f_ry)) _ _ hP hS _ (lv_sub hl [0, 1, 2, 3] rfl)
noncomputable def F_i_takeAll_hurts_B1 (a2 : Int32) (o : Nat) (a3 : Int32) (pt : Nat) : (Int32 × dg_S) → (Int32 × dg_S) ⊕ (dg_S) := fun w9 => match w9 with | (x_41, S_42) => (if a2 ≤ x_41 then (Sum.inr ((S_42))) else let S_46 : dg_S := (F_i_next o S_42 a3).1; let x_45 : Int32 := (F_i_next o S_42 a3).2; let S_48 : dg_S := dg_uf S_46 (pt + 2) (upd (S_46.2.1 (pt + 2)) (x_41 : Int32).toNatClampNeg x_45); let x_49 : Int32 := x_41 + 1; (Sum.inl (x_49, S_48)))
noncomputable def F_i_takeAll_hurts (o : Nat) (S : dg_S) (pt : Nat) (a2 : Int32) (a3 : Int32) : dg_S := (lp (F_i_takeAll_hurts_B1 a2 o a3 pt) S ((7 - ((0 : Int32)).toInt).toNat + 1) ((0 : Int32), S))
theorem F_i_takeAll_hurts_p0 {a2 : Int32} {o : Nat} {a3 : Int32} {pt : Nat} {x_41 : Int32} {S_42 : dg_S} (h0 : a2 ≤ x_41) : (F_i_takeAll_hurts_B1 a2 o a3 pt) (x_41, S_42) = Sum.inr (S_42) := (Eq.trans (if_pos h0) rfl)
theorem F_i_takeAll_hurts_p1 {a2 : Int32} {o : Nat} {a3 : Int32} {pt : Nat} {x_41 : Int32} {S_42 : dg_S} {x_49 : Int32} {S_48 : dg_S} {S_46 : dg_S} {x_45 : Int32} (h0 : ¬ (a2 ≤ x_41)) (h1 : S_46 = (F_i_next o S_42 a3).1) (h2 : x_45 = (F_i_next o S_42 a3).2) (h3 : S_48 = dg_uf S_46 (pt + 2) (upd (S_46.2.1 (pt + 2)) (x_41 : Int32).toNatClampNeg x_45)) (h4 : x_49 = x_41 + 1) : (F_i_takeAll_hurts_B1 a2 o a3 pt) (x_41, S_42) = Sum.inl (x_49, S_48) := by
  replace h1 := Eq.symm h1
  subst h1
  replace h2 := Eq.symm h2
  subst h2
  replace h3 := Eq.symm h3
  subst h3
  replace h4 := Eq.symm h4
  subst h4
  exact (Eq.trans (if_neg h0) rfl)
theorem F_i_takeAll_hurts_p2 {o : Nat} {S : dg_S} {pt : Nat} {a2 : Int32} {a3 : Int32}  : F_i_takeAll_hurts o S pt a2 a3 = lp (F_i_takeAll_hurts_B1 a2 o a3 pt) S ((7 - ((0 : Int32)).toInt).toNat + 1) ((0 : Int32), S) := rfl
set_option maxHeartbeats 8000000 in
set_option maxRecDepth 100000 in
theorem c_i_takeAll_hurts (l : Launch) (g : Nat → ClassId) (D : va_G) (o : Nat) (S : dg_S) (pt : Nat) (hk_pt : pX pt) (a2 : Int32) (b_a2 : 0 ≤ (a2).toInt ∧ (a2).toInt ≤ 6) (a3 : Int32) (I : CX o S) (sz : Nat) : Met l yX4_takeAll (bw yX4_takeAll cX4_takeAll 5 none) ({ frames := 2, cells := 0, slots := 0, locals := 54 } : Room) (dk_Pc g D (dg_w g shX o rfX S) sz [.ref (o + 182), .ref (o + (pt + 2)), .int a2, .int a3]) (va_Qv (fun S' => CX o S' ∧ dg_sm shX [(16, 3), (16, 4), (16, 5)] [5] S S' ∧ (S' = F_i_takeAll_hurts o S pt a2 a3) ∧ True) (dg_B g D shX o rfX) (dg_A o shX.length sz)) 0 0 (dg_A o shX.length sz) := by
  refine dg_met (cc := cX4_takeAll) (maxL := 5) (ret := none) (dk_dq rfl) rfl (Nat.le_of_ble_eq_true rfl) ?_
  intro p e s m args below meth c A hAe harg hx hb hr hml hts hown hlocks hin hP K hS hA1 hA ST hsz ls hl
  rw [← hAe]
  have F : CallFix p m c cX4_takeAll 5 s args (bw yX4_takeAll cX4_takeAll 5 none) RX4 := ⟨hx, hb, hml, hown, hts⟩
  have hl : lv_has ls 5 [(0, .ref (o + 182)), (1, .ref (o + (pt + 2))), (2, .int a2), (3, .int a3)] := hl
  have M_0 : dg_sm shX [(16, 3), (16, 4), (16, 5)] [5] S S := dg_sm.rf
  refine lv_iconst (v := 0) hx hb dX4_takeAll_0 (by decide +kernel) ?_
  refine lv_istore (lv' := [(4, .int 0), (0, .ref (o + 182)), (1, .ref (o + (pt + 2))), (2, .int a2), (3, .int a3)]) hx hb dX4_takeAll_1 hl (dk_dq rfl) rfl (fun ls hl => ?_)
  have L_43 : ∀ (n : Nat) (x_41 : Int32), (0 ≤ (x_41).toInt ∧ (x_41).toInt ≤ 6) → ((7 - (x_41).toInt).toNat < n) → ∀ S_42 : dg_S, CX o S_42 → dg_sm shX [(16, 3), (16, 4), (16, 5)] [5] S S_42 → (F_i_takeAll_hurts o S pt a2 a3 = lp (F_i_takeAll_hurts_B1 a2 o a3 pt) S n (x_41, S_42)) → ∀ (H : Heap) (locs : List Loc), va_P D vwCl (dg_w g shX o rfX S_42) H → va_S A s.heap H locs → ∀ ls : Array Slot, lv_has ls 5 [(4, .int x_41), (0, .ref (o + 182)), (1, .ref (o + (pt + 2))), (2, .int a2), (3, .int a3)] → W p l e ({ frames := 2, cells := 0, slots := 0, locals := 54 } : Room) s m args below meth c H locs 0 0 (MQ below (va_Qv (fun S' => CX o S' ∧ dg_sm shX [(16, 3), (16, 4), (16, 5)] [5] S S' ∧ (S' = F_i_takeAll_hurts o S pt a2 a3) ∧ True) (dg_B g D shX o rfX) A) args s 0 0 A) (F0 m 3 ls []) := by
    as_aux_lemma =>
      intro n
      induction n with
      | zero =>
        intro x_41 b_x_41 hmu S_42 I_42 M_42 hF_1 H locs hP hS ls hl
        omega
      | succ n ih =>
        as_aux_lemma =>
          intro x_41 b_x_41 hmu S_42 I_42 M_42 hF_1 H locs hP hS ls hl
          refine lv_iload hx hb dX4_takeAll_3 (lv_at hl 0 rfl) ?_
          refine lv_iload_n hx hb dX4_takeAll_5 rfl (lv_at hl 3 rfl) ?_
          refine lv_icmp_ge (tgt := 24) hx hb dX4_takeAll_6 (dk_dq rfl) (fun c_44 => ?_) (fun c_44 => ?_)
          · have jc_44 := dk_gec (k := (a2).toInt) rfl c_44
            refine W.widen (k := 0) (n := 0) (Nat.le_of_ble_eq_true rfl) (Nat.le_of_ble_eq_true rfl) ?_
            exact dg_vret hx hb hr hlocks hP hS ⟨I_42, M_42, (Eq.symm (lp_r hF_1 (F_i_takeAll_hurts_p0 c_44))), trivial⟩ dX4_takeAll_24
          · as_aux_lemma =>
              have jc_44 := dk_ngec (k := (a2).toInt) rfl c_44
              refine lv_aload_n hx hb dX4_takeAll_9 rfl (lv_at hl 2 rfl) ?_
              refine lv_iload hx hb dX4_takeAll_10 (lv_at hl 0 rfl) ?_
              refine lv_aload_n hx hb dX4_takeAll_12 rfl (lv_at hl 1 rfl) ?_
              refine lv_iload_n hx hb dX4_takeAll_13 rfl (lv_at hl 4 rfl) ?_
              refine dg_calli hS hA1 hA (va_runV (As := [.int a3]) (rest := [.int x_41, .ref (o + (pt + 2))]) F (c_i_next l g D o S_42 a3 I_42 H.size) (cwV 1 hts (bw_V wB_811 wB_812 wB_813 wB_784 wB_810) rfl rfl rfl (by decide +kernel) ⟨Nat.le_of_ble_eq_true rfl, Nat.le_of_ble_eq_true rfl⟩) (dg_preV sX_182 rfl K ST hP hS hA1 hA) rfl rfl hl.1 rfl (lv_room (Nat.le_of_ble_eq_true rfl)) dX4_takeAll_14 ⟨Nat.le_of_ble_eq_true rfl, Nat.le_of_ble_eq_true rfl⟩) (fun x_45 S_46 hw_46 H locs hP hS => ?_)
              obtain ⟨I_46, m_46, w_46_0, w_46_1, w_46_2, -⟩ := hw_46
              have M_46 := dg_sm.tr M_42 m_46 (dk_dq rfl) (dk_dq rfl)
              have w_46_0 : 0 ≤ (x_45).toInt ∧ (x_45).toInt ≤ 255 := w_46_0
              have w_46_1 : (x_45).toInt ≤ (a3).toInt ∨ (x_45).toInt = 0 := w_46_1
              have hin_47 : vp_in x_41 6 := (dk_inv2 (by omega))
              refine dg_iast hx hb K hP hS hA1 (pX_2 pt hk_pt) hin_47 dX4_takeAll_17 (fun S_48 e_48 H locs hP hS => ?_)
              have I_48 := dg_I.uf0 I_46 e_48 (pX_2 pt hk_pt) (by decide +kernel)
              have M_48 := dg_sm.uf M_46 e_48 (pX_2 pt hk_pt) (dk_dq rfl)
              obtain ⟨x_49, ex_49⟩ : ∃ z, z = x_41 + 1 := ⟨_, rfl⟩
              have jx_49 : (x_49).toInt = (x_41).toInt + 1 := by rw [ex_49]; exact dk_addT2 rfl (by decide +kernel) (by omega)
              refine lv_iinc (v := x_49) (lv' := [(4, .int x_49), (0, .ref (o + 182)), (1, .ref (o + (pt + 2))), (2, .int a2), (3, .int a3)]) hx hb dX4_takeAll_18 hl (k := 0) rfl (by rw [ex_49]; rfl) (dk_dq rfl) rfl (fun ls hl => ?_)
              refine lv_goto (tgt := 3) hx hb dX4_takeAll_21 (dk_dq rfl) ?_
              exact ih x_49 (by omega) (by first | exact mu_lt hmu (by omega) (by omega) | omega) S_48 I_48 M_48  (lp_l hF_1 (F_i_takeAll_hurts_p1 c_44 w_46_2.1 w_46_2.2 e_48 ex_49)) _ _ hP hS _ (lv_sub hl [0, 1, 2, 3, 4] rfl)
  have hz_50 : (0 : Int32).toInt = 0 := by decide +kernel
  have hz_51 : (0 : Int32).toInt = 0 := by decide +kernel
  exact L_43 ((7 - ((0 : Int32)).toInt).toNat + 1) 0 (by decide +kernel) (by first | exact mu_lt hmu (by omega) (by omega) | omega) S I M_0  (F_i_takeAll_hurts_p2) _ _ hP hS _ (lv_sub hl [0, 1, 2, 3, 4] rfl)
noncomputable def F_i_takeAll_sold_B1 (a2 : Int32) (o : Nat) (a3 : Int32) (pt : Nat) : (Int32 × dg_S) → (Int32 × dg_S) ⊕ (dg_S) := fun w9 => match w9 with | (x_41, S_42) => (if a2 ≤ x_41 then (Sum.inr ((S_42))) else let S_46 : dg_S := (F_i_next o S_42 a3).1; let x_45 : Int32 := (F_i_next o S_42 a3).2; let S_48 : dg_S := dg_uf S_46 (pt + 5) (upd (S_46.2.1 (pt + 5)) (x_41 : Int32).toNatClampNeg x_45); let x_49 : Int32 := x_41 + 1; (Sum.inl (x_49, S_48)))
noncomputable def F_i_takeAll_sold (o : Nat) (S : dg_S) (pt : Nat) (a2 : Int32) (a3 : Int32) : dg_S := (lp (F_i_takeAll_sold_B1 a2 o a3 pt) S ((6 - ((0 : Int32)).toInt).toNat + 1) ((0 : Int32), S))
theorem F_i_takeAll_sold_p0 {a2 : Int32} {o : Nat} {a3 : Int32} {pt : Nat} {x_41 : Int32} {S_42 : dg_S} (h0 : a2 ≤ x_41) : (F_i_takeAll_sold_B1 a2 o a3 pt) (x_41, S_42) = Sum.inr (S_42) := (Eq.trans (if_pos h0) rfl)
theorem F_i_takeAll_sold_p1 {a2 : Int32} {o : Nat} {a3 : Int32} {pt : Nat} {x_41 : Int32} {S_42 : dg_S} {x_49 : Int32} {S_48 : dg_S} {S_46 : dg_S} {x_45 : Int32} (h0 : ¬ (a2 ≤ x_41)) (h1 : S_46 = (F_i_next o S_42 a3).1) (h2 : x_45 = (F_i_next o S_42 a3).2) (h3 : S_48 = dg_uf S_46 (pt + 5) (upd (S_46.2.1 (pt + 5)) (x_41 : Int32).toNatClampNeg x_45)) (h4 : x_49 = x_41 + 1) : (F_i_takeAll_sold_B1 a2 o a3 pt) (x_41, S_42) = Sum.inl (x_49, S_48) := by
  replace h1 := Eq.symm h1
  subst h1
  replace h2 := Eq.symm h2
  subst h2
  replace h3 := Eq.symm h3
  subst h3
  replace h4 := Eq.symm h4
  subst h4
  exact (Eq.trans (if_neg h0) rfl)
theorem F_i_takeAll_sold_p2 {o : Nat} {S : dg_S} {pt : Nat} {a2 : Int32} {a3 : Int32}  : F_i_takeAll_sold o S pt a2 a3 = lp (F_i_takeAll_sold_B1 a2 o a3 pt) S ((6 - ((0 : Int32)).toInt).toNat + 1) ((0 : Int32), S) := rfl
set_option maxHeartbeats 8000000 in
set_option maxRecDepth 100000 in
theorem c_i_takeAll_sold (l : Launch) (g : Nat → ClassId) (D : va_G) (o : Nat) (S : dg_S) (pt : Nat) (hk_pt : pX pt) (a2 : Int32) (b_a2 : 0 ≤ (a2).toInt ∧ (a2).toInt ≤ 5) (a3 : Int32) (I : CX o S) (sz : Nat) : Met l yX4_takeAll (bw yX4_takeAll cX4_takeAll 5 none) ({ frames := 2, cells := 0, slots := 0, locals := 54 } : Room) (dk_Pc g D (dg_w g shX o rfX S) sz [.ref (o + 182), .ref (o + (pt + 5)), .int a2, .int a3]) (va_Qv (fun S' => CX o S' ∧ dg_sm shX [(16, 3), (16, 4), (16, 5)] [8] S S' ∧ (S' = F_i_takeAll_sold o S pt a2 a3) ∧ True) (dg_B g D shX o rfX) (dg_A o shX.length sz)) 0 0 (dg_A o shX.length sz) := by
  refine dg_met (cc := cX4_takeAll) (maxL := 5) (ret := none) (dk_dq rfl) rfl (Nat.le_of_ble_eq_true rfl) ?_
  intro p e s m args below meth c A hAe harg hx hb hr hml hts hown hlocks hin hP K hS hA1 hA ST hsz ls hl
  rw [← hAe]
  have F : CallFix p m c cX4_takeAll 5 s args (bw yX4_takeAll cX4_takeAll 5 none) RX4 := ⟨hx, hb, hml, hown, hts⟩
  have hl : lv_has ls 5 [(0, .ref (o + 182)), (1, .ref (o + (pt + 5))), (2, .int a2), (3, .int a3)] := hl
  have M_0 : dg_sm shX [(16, 3), (16, 4), (16, 5)] [8] S S := dg_sm.rf
  refine lv_iconst (v := 0) hx hb dX4_takeAll_0 (by decide +kernel) ?_
  refine lv_istore (lv' := [(4, .int 0), (0, .ref (o + 182)), (1, .ref (o + (pt + 5))), (2, .int a2), (3, .int a3)]) hx hb dX4_takeAll_1 hl (dk_dq rfl) rfl (fun ls hl => ?_)
  have L_43 : ∀ (n : Nat) (x_41 : Int32), (0 ≤ (x_41).toInt ∧ (x_41).toInt ≤ 5) → ((6 - (x_41).toInt).toNat < n) → ∀ S_42 : dg_S, CX o S_42 → dg_sm shX [(16, 3), (16, 4), (16, 5)] [8] S S_42 → (F_i_takeAll_sold o S pt a2 a3 = lp (F_i_takeAll_sold_B1 a2 o a3 pt) S n (x_41, S_42)) → ∀ (H : Heap) (locs : List Loc), va_P D vwCl (dg_w g shX o rfX S_42) H → va_S A s.heap H locs → ∀ ls : Array Slot, lv_has ls 5 [(4, .int x_41), (0, .ref (o + 182)), (1, .ref (o + (pt + 5))), (2, .int a2), (3, .int a3)] → W p l e ({ frames := 2, cells := 0, slots := 0, locals := 54 } : Room) s m args below meth c H locs 0 0 (MQ below (va_Qv (fun S' => CX o S' ∧ dg_sm shX [(16, 3), (16, 4), (16, 5)] [8] S S' ∧ (S' = F_i_takeAll_sold o S pt a2 a3) ∧ True) (dg_B g D shX o rfX) A) args s 0 0 A) (F0 m 3 ls []) := by
    as_aux_lemma =>
      intro n
      induction n with
      | zero =>
        intro x_41 b_x_41 hmu S_42 I_42 M_42 hF_1 H locs hP hS ls hl
        omega
      | succ n ih =>
        as_aux_lemma =>
          intro x_41 b_x_41 hmu S_42 I_42 M_42 hF_1 H locs hP hS ls hl
          refine lv_iload hx hb dX4_takeAll_3 (lv_at hl 0 rfl) ?_
          refine lv_iload_n hx hb dX4_takeAll_5 rfl (lv_at hl 3 rfl) ?_
          refine lv_icmp_ge (tgt := 24) hx hb dX4_takeAll_6 (dk_dq rfl) (fun c_44 => ?_) (fun c_44 => ?_)
          · have jc_44 := dk_gec (k := (a2).toInt) rfl c_44
            refine W.widen (k := 0) (n := 0) (Nat.le_of_ble_eq_true rfl) (Nat.le_of_ble_eq_true rfl) ?_
            exact dg_vret hx hb hr hlocks hP hS ⟨I_42, M_42, (Eq.symm (lp_r hF_1 (F_i_takeAll_sold_p0 c_44))), trivial⟩ dX4_takeAll_24
          · as_aux_lemma =>
              have jc_44 := dk_ngec (k := (a2).toInt) rfl c_44
              refine lv_aload_n hx hb dX4_takeAll_9 rfl (lv_at hl 2 rfl) ?_
              refine lv_iload hx hb dX4_takeAll_10 (lv_at hl 0 rfl) ?_
              refine lv_aload_n hx hb dX4_takeAll_12 rfl (lv_at hl 1 rfl) ?_
              refine lv_iload_n hx hb dX4_takeAll_13 rfl (lv_at hl 4 rfl) ?_
              refine dg_calli hS hA1 hA (va_runV (As := [.int a3]) (rest := [.int x_41, .ref (o + (pt + 5))]) F (c_i_next l g D o S_42 a3 I_42 H.size) (cwV 1 hts (bw_V wB_811 wB_812 wB_813 wB_784 wB_810) rfl rfl rfl (by decide +kernel) ⟨Nat.le_of_ble_eq_true rfl, Nat.le_of_ble_eq_true rfl⟩) (dg_preV sX_182 rfl K ST hP hS hA1 hA) rfl rfl hl.1 rfl (lv_room (Nat.le_of_ble_eq_true rfl)) dX4_takeAll_14 ⟨Nat.le_of_ble_eq_true rfl, Nat.le_of_ble_eq_true rfl⟩) (fun x_45 S_46 hw_46 H locs hP hS => ?_)
              obtain ⟨I_46, m_46, w_46_0, w_46_1, w_46_2, -⟩ := hw_46
              have M_46 := dg_sm.tr M_42 m_46 (dk_dq rfl) (dk_dq rfl)
              have w_46_0 : 0 ≤ (x_45).toInt ∧ (x_45).toInt ≤ 255 := w_46_0
              have w_46_1 : (x_45).toInt ≤ (a3).toInt ∨ (x_45).toInt = 0 := w_46_1
              have hin_47 : vp_in x_41 5 := (dk_inv2 (by omega))
              refine dg_iast hx hb K hP hS hA1 (pX_5 pt hk_pt) hin_47 dX4_takeAll_17 (fun S_48 e_48 H locs hP hS => ?_)
              have I_48 := dg_I.uf0 I_46 e_48 (pX_5 pt hk_pt) (by decide +kernel)
              have M_48 := dg_sm.uf M_46 e_48 (pX_5 pt hk_pt) (dk_dq rfl)
              obtain ⟨x_49, ex_49⟩ : ∃ z, z = x_41 + 1 := ⟨_, rfl⟩
              have jx_49 : (x_49).toInt = (x_41).toInt + 1 := by rw [ex_49]; exact dk_addT2 rfl (by decide +kernel) (by omega)
              refine lv_iinc (v := x_49) (lv' := [(4, .int x_49), (0, .ref (o + 182)), (1, .ref (o + (pt + 5))), (2, .int a2), (3, .int a3)]) hx hb dX4_takeAll_18 hl (k := 0) rfl (by rw [ex_49]; rfl) (dk_dq rfl) rfl (fun ls hl => ?_)
              refine lv_goto (tgt := 3) hx hb dX4_takeAll_21 (dk_dq rfl) ?_
              exact ih x_49 (by omega) (by first | exact mu_lt hmu (by omega) (by omega) | omega) S_48 I_48 M_48  (lp_l hF_1 (F_i_takeAll_sold_p1 c_44 w_46_2.1 w_46_2.2 e_48 ex_49)) _ _ hP hS _ (lv_sub hl [0, 1, 2, 3, 4] rfl)
  have hz_50 : (0 : Int32).toInt = 0 := by decide +kernel
  have hz_51 : (0 : Int32).toInt = 0 := by decide +kernel
  exact L_43 ((6 - ((0 : Int32)).toInt).toNat + 1) 0 (by decide +kernel) (by first | exact mu_lt hmu (by omega) (by omega) | omega) S I M_0  (F_i_takeAll_sold_p2) _ _ hP hS _ (lv_sub hl [0, 1, 2, 3, 4] rfl)
noncomputable def F_i_takeAll_tubs_B1 (a2 : Int32) (o : Nat) (a3 : Int32) (pt : Nat) : (Int32 × dg_S) → (Int32 × dg_S) ⊕ (dg_S) := fun w9 => match w9 with | (x_41, S_42) => (if a2 ≤ x_41 then (Sum.inr ((S_42))) else let S_46 : dg_S := (F_i_next o S_42 a3).1; let x_45 : Int32 := (F_i_next o S_42 a3).2; let S_48 : dg_S := dg_uf S_46 (pt + 6) (upd (S_46.2.1 (pt + 6)) (x_41 : Int32).toNatClampNeg x_45); let x_49 : Int32 := x_41 + 1; (Sum.inl (x_49, S_48)))
noncomputable def F_i_takeAll_tubs (o : Nat) (S : dg_S) (pt : Nat) (a2 : Int32) (a3 : Int32) : dg_S := (lp (F_i_takeAll_tubs_B1 a2 o a3 pt) S ((11 - ((0 : Int32)).toInt).toNat + 1) ((0 : Int32), S))
theorem F_i_takeAll_tubs_p0 {a2 : Int32} {o : Nat} {a3 : Int32} {pt : Nat} {x_41 : Int32} {S_42 : dg_S} (h0 : a2 ≤ x_41) : (F_i_takeAll_tubs_B1 a2 o a3 pt) (x_41, S_42) = Sum.inr (S_42) := (Eq.trans (if_pos h0) rfl)
theorem F_i_takeAll_tubs_p1 {a2 : Int32} {o : Nat} {a3 : Int32} {pt : Nat} {x_41 : Int32} {S_42 : dg_S} {x_49 : Int32} {S_48 : dg_S} {S_46 : dg_S} {x_45 : Int32} (h0 : ¬ (a2 ≤ x_41)) (h1 : S_46 = (F_i_next o S_42 a3).1) (h2 : x_45 = (F_i_next o S_42 a3).2) (h3 : S_48 = dg_uf S_46 (pt + 6) (upd (S_46.2.1 (pt + 6)) (x_41 : Int32).toNatClampNeg x_45)) (h4 : x_49 = x_41 + 1) : (F_i_takeAll_tubs_B1 a2 o a3 pt) (x_41, S_42) = Sum.inl (x_49, S_48) := by
  replace h1 := Eq.symm h1
  subst h1
  replace h2 := Eq.symm h2
  subst h2
  replace h3 := Eq.symm h3
  subst h3
  replace h4 := Eq.symm h4
  subst h4
  exact (Eq.trans (if_neg h0) rfl)
theorem F_i_takeAll_tubs_p2 {o : Nat} {S : dg_S} {pt : Nat} {a2 : Int32} {a3 : Int32}  : F_i_takeAll_tubs o S pt a2 a3 = lp (F_i_takeAll_tubs_B1 a2 o a3 pt) S ((11 - ((0 : Int32)).toInt).toNat + 1) ((0 : Int32), S) := rfl
set_option maxHeartbeats 8000000 in
set_option maxRecDepth 100000 in
theorem c_i_takeAll_tubs (l : Launch) (g : Nat → ClassId) (D : va_G) (o : Nat) (S : dg_S) (pt : Nat) (hk_pt : pX pt) (a2 : Int32) (b_a2 : 0 ≤ (a2).toInt ∧ (a2).toInt ≤ 10) (a3 : Int32) (I : CX o S) (sz : Nat) : Met l yX4_takeAll (bw yX4_takeAll cX4_takeAll 5 none) ({ frames := 2, cells := 0, slots := 0, locals := 54 } : Room) (dk_Pc g D (dg_w g shX o rfX S) sz [.ref (o + 182), .ref (o + (pt + 6)), .int a2, .int a3]) (va_Qv (fun S' => CX o S' ∧ dg_sm shX [(16, 3), (16, 4), (16, 5)] [9] S S' ∧ (S' = F_i_takeAll_tubs o S pt a2 a3) ∧ True) (dg_B g D shX o rfX) (dg_A o shX.length sz)) 0 0 (dg_A o shX.length sz) := by
  refine dg_met (cc := cX4_takeAll) (maxL := 5) (ret := none) (dk_dq rfl) rfl (Nat.le_of_ble_eq_true rfl) ?_
  intro p e s m args below meth c A hAe harg hx hb hr hml hts hown hlocks hin hP K hS hA1 hA ST hsz ls hl
  rw [← hAe]
  have F : CallFix p m c cX4_takeAll 5 s args (bw yX4_takeAll cX4_takeAll 5 none) RX4 := ⟨hx, hb, hml, hown, hts⟩
  have hl : lv_has ls 5 [(0, .ref (o + 182)), (1, .ref (o + (pt + 6))), (2, .int a2), (3, .int a3)] := hl
  have M_0 : dg_sm shX [(16, 3), (16, 4), (16, 5)] [9] S S := dg_sm.rf
  refine lv_iconst (v := 0) hx hb dX4_takeAll_0 (by decide +kernel) ?_
  refine lv_istore (lv' := [(4, .int 0), (0, .ref (o + 182)), (1, .ref (o + (pt + 6))), (2, .int a2), (3, .int a3)]) hx hb dX4_takeAll_1 hl (dk_dq rfl) rfl (fun ls hl => ?_)
  have L_43 : ∀ (n : Nat) (x_41 : Int32), (0 ≤ (x_41).toInt ∧ (x_41).toInt ≤ 10) → ((11 - (x_41).toInt).toNat < n) → ∀ S_42 : dg_S, CX o S_42 → dg_sm shX [(16, 3), (16, 4), (16, 5)] [9] S S_42 → (F_i_takeAll_tubs o S pt a2 a3 = lp (F_i_takeAll_tubs_B1 a2 o a3 pt) S n (x_41, S_42)) → ∀ (H : Heap) (locs : List Loc), va_P D vwCl (dg_w g shX o rfX S_42) H → va_S A s.heap H locs → ∀ ls : Array Slot, lv_has ls 5 [(4, .int x_41), (0, .ref (o + 182)), (1, .ref (o + (pt + 6))), (2, .int a2), (3, .int a3)] → W p l e ({ frames := 2, cells := 0, slots := 0, locals := 54 } : Room) s m args below meth c H locs 0 0 (MQ below (va_Qv (fun S' => CX o S' ∧ dg_sm shX [(16, 3), (16, 4), (16, 5)] [9] S S' ∧ (S' = F_i_takeAll_tubs o S pt a2 a3) ∧ True) (dg_B g D shX o rfX) A) args s 0 0 A) (F0 m 3 ls []) := by
    as_aux_lemma =>
      intro n
      induction n with
      | zero =>
        intro x_41 b_x_41 hmu S_42 I_42 M_42 hF_1 H locs hP hS ls hl
        omega
      | succ n ih =>
        as_aux_lemma =>
          intro x_41 b_x_41 hmu S_42 I_42 M_42 hF_1 H locs hP hS ls hl
          refine lv_iload hx hb dX4_takeAll_3 (lv_at hl 0 rfl) ?_
          refine lv_iload_n hx hb dX4_takeAll_5 rfl (lv_at hl 3 rfl) ?_
          refine lv_icmp_ge (tgt := 24) hx hb dX4_takeAll_6 (dk_dq rfl) (fun c_44 => ?_) (fun c_44 => ?_)
          · have jc_44 := dk_gec (k := (a2).toInt) rfl c_44
            refine W.widen (k := 0) (n := 0) (Nat.le_of_ble_eq_true rfl) (Nat.le_of_ble_eq_true rfl) ?_
            exact dg_vret hx hb hr hlocks hP hS ⟨I_42, M_42, (Eq.symm (lp_r hF_1 (F_i_takeAll_tubs_p0 c_44))), trivial⟩ dX4_takeAll_24
          · as_aux_lemma =>
              have jc_44 := dk_ngec (k := (a2).toInt) rfl c_44
              refine lv_aload_n hx hb dX4_takeAll_9 rfl (lv_at hl 2 rfl) ?_
              refine lv_iload hx hb dX4_takeAll_10 (lv_at hl 0 rfl) ?_
              refine lv_aload_n hx hb dX4_takeAll_12 rfl (lv_at hl 1 rfl) ?_
              refine lv_iload_n hx hb dX4_takeAll_13 rfl (lv_at hl 4 rfl) ?_
              refine dg_calli hS hA1 hA (va_runV (As := [.int a3]) (rest := [.int x_41, .ref (o + (pt + 6))]) F (c_i_next l g D o S_42 a3 I_42 H.size) (cwV 1 hts (bw_V wB_811 wB_812 wB_813 wB_784 wB_810) rfl rfl rfl (by decide +kernel) ⟨Nat.le_of_ble_eq_true rfl, Nat.le_of_ble_eq_true rfl⟩) (dg_preV sX_182 rfl K ST hP hS hA1 hA) rfl rfl hl.1 rfl (lv_room (Nat.le_of_ble_eq_true rfl)) dX4_takeAll_14 ⟨Nat.le_of_ble_eq_true rfl, Nat.le_of_ble_eq_true rfl⟩) (fun x_45 S_46 hw_46 H locs hP hS => ?_)
              obtain ⟨I_46, m_46, w_46_0, w_46_1, w_46_2, -⟩ := hw_46
              have M_46 := dg_sm.tr M_42 m_46 (dk_dq rfl) (dk_dq rfl)
              have w_46_0 : 0 ≤ (x_45).toInt ∧ (x_45).toInt ≤ 255 := w_46_0
              have w_46_1 : (x_45).toInt ≤ (a3).toInt ∨ (x_45).toInt = 0 := w_46_1
              have hin_47 : vp_in x_41 10 := (dk_inv2 (by omega))
              refine dg_iast hx hb K hP hS hA1 (pX_6 pt hk_pt) hin_47 dX4_takeAll_17 (fun S_48 e_48 H locs hP hS => ?_)
              have I_48 := dg_I.uf0 I_46 e_48 (pX_6 pt hk_pt) (by decide +kernel)
              have M_48 := dg_sm.uf M_46 e_48 (pX_6 pt hk_pt) (dk_dq rfl)
              obtain ⟨x_49, ex_49⟩ : ∃ z, z = x_41 + 1 := ⟨_, rfl⟩
              have jx_49 : (x_49).toInt = (x_41).toInt + 1 := by rw [ex_49]; exact dk_addT2 rfl (by decide +kernel) (by omega)
              refine lv_iinc (v := x_49) (lv' := [(4, .int x_49), (0, .ref (o + 182)), (1, .ref (o + (pt + 6))), (2, .int a2), (3, .int a3)]) hx hb dX4_takeAll_18 hl (k := 0) rfl (by rw [ex_49]; rfl) (dk_dq rfl) rfl (fun ls hl => ?_)
              refine lv_goto (tgt := 3) hx hb dX4_takeAll_21 (dk_dq rfl) ?_
              exact ih x_49 (by omega) (by first | exact mu_lt hmu (by omega) (by omega) | omega) S_48 I_48 M_48  (lp_l hF_1 (F_i_takeAll_tubs_p1 c_44 w_46_2.1 w_46_2.2 e_48 ex_49)) _ _ hP hS _ (lv_sub hl [0, 1, 2, 3, 4] rfl)
  have hz_50 : (0 : Int32).toInt = 0 := by decide +kernel
  have hz_51 : (0 : Int32).toInt = 0 := by decide +kernel
  exact L_43 ((11 - ((0 : Int32)).toInt).toNat + 1) 0 (by decide +kernel) (by first | exact mu_lt hmu (by omega) (by omega) | omega) S I M_0  (F_i_takeAll_tubs_p2) _ _ hP hS _ (lv_sub hl [0, 1, 2, 3, 4] rfl)
noncomputable def F_i_tellsPit_J5 (x_43 : Int32) (x_42 : Int32) (S_44 : dg_S) (S : dg_S) (x_16 : Int32) (x_32 : Int32) : dg_S × Int32 := (if x_43 = x_42 then let x_50 : Int32 := zI S_44 182 5; (if x_50 = (0 : Int32) then (S_44, (0 : Int32)) else let x_53 : Int32 := zI S_44 182 4; let x_54 : Int32 := zI S 1 1; (if x_53 = x_54 then (if (999 : Int32) < x_16 then (S_44, (0 : Int32)) else (if (99999 : Int32) < x_32 then (S_44, (0 : Int32)) else (S_44, (1 : Int32)))) else (S_44, (0 : Int32)))) else (S_44, (0 : Int32)))
noncomputable def F_i_tellsPit_J4 (o : Nat) (S_36 : dg_S) (gr : Nat) (pt : Nat) (S : dg_S) (x_16 : Int32) (x_32 : Int32) : dg_S × Int32 := let S_37 : dg_S := F_i_takePlan o S_36 gr pt; let x_38 : Int32 := zI S gr 11; let S_39 : dg_S := F_i_takeAll_sold o S_37 pt x_38 (1 : Int32); let S_41 : dg_S := F_i_takeAll_tubs o S_39 pt (10 : Int32) (99 : Int32); let x_42 : Int32 := zI S_41 182 3; let S_44 : dg_S := (F_i_next o S_41 (255 : Int32)).1; let x_43 : Int32 := (F_i_next o S_41 (255 : Int32)).2; (F_i_tellsPit_J5 x_43 x_42 S_44 S x_16 x_32)
noncomputable def F_i_tellsPit_J3 (o : Nat) (S_28 : dg_S) (x_27 : Int32) (pt : Nat) (gr : Nat) (S : dg_S) (x_16 : Int32) : dg_S × Int32 := let S_30 : dg_S := (F_i_next o S_28 (255 : Int32)).1; let x_29 : Int32 := (F_i_next o S_28 (255 : Int32)).2; let x_32 : Int32 := x_27 + x_29; let S_33 : dg_S := dg_uF S_30 pt 1 (.int x_32); let S_34 : dg_S := F_i_takeCells o S_33 gr pt; let x_35 : Int32 := zI S gr 6; let S_36 : dg_S := F_i_takeAll_hurts o S_34 pt x_35 (1 : Int32); (F_i_tellsPit_J4 o S_36 gr pt S x_16 x_32)
noncomputable def F_i_tellsPit_J2 (o : Nat) (S_17 : dg_S) (pt : Nat) (gr : Nat) (S : dg_S) (x_16 : Int32) : dg_S × Int32 := let S_19 : dg_S := (F_i_next o S_17 (255 : Int32)).1; let x_18 : Int32 := (F_i_next o S_17 (255 : Int32)).2; let x_21 : Int32 := x_18 <<< ((16 : Int32) &&& 31); let S_22 : dg_S := dg_uF S_19 pt 1 (.int x_21); let S_24 : dg_S := (F_i_next o S_22 (255 : Int32)).1; let x_23 : Int32 := (F_i_next o S_22 (255 : Int32)).2; let x_26 : Int32 := x_23 <<< ((8 : Int32) &&& 31); let x_27 : Int32 := x_21 + x_26; let S_28 : dg_S := dg_uF S_24 pt 1 (.int x_27); (F_i_tellsPit_J3 o S_28 x_27 pt gr S x_16)
noncomputable def F_i_tellsPit_J1 (o : Nat) (S_7 : dg_S) (pt : Nat) (gr : Nat) (S : dg_S) : dg_S × Int32 := let S_9 : dg_S := (F_i_next o S_7 (255 : Int32)).1; let x_8 : Int32 := (F_i_next o S_7 (255 : Int32)).2; let x_11 : Int32 := x_8 <<< ((8 : Int32) &&& 31); let S_12 : dg_S := dg_uF S_9 pt 0 (.int x_11); let S_14 : dg_S := (F_i_next o S_12 (255 : Int32)).1; let x_13 : Int32 := (F_i_next o S_12 (255 : Int32)).2; let x_16 : Int32 := x_11 + x_13; let S_17 : dg_S := dg_uF S_14 pt 0 (.int x_16); (F_i_tellsPit_J2 o S_17 pt gr S x_16)
noncomputable def F_i_tellsPit (o : Nat) (S : dg_S) (gr : Nat) (pt : Nat) : dg_S × Int32 := let cx : Int32 := zI S gr 0; let sx : Int32 := zI S gr 2; let ry : Int32 := zI S gr 1; let S_2 : dg_S := dg_uF S 182 4 (.int (0 : Int32)); let S_4 : dg_S := dg_uF S_2 182 3 (.int (233 : Int32)); let S_6 : dg_S := dg_uF S_4 182 5 (.int (1 : Int32)); let S_7 : dg_S := F_p_begin o S_6 pt gr; (F_i_tellsPit_J1 o S_7 pt gr S)
theorem F_i_tellsPit_p0 {x_43 : Int32} {x_42 : Int32} {S_44 : dg_S} {S : dg_S} {x_16 : Int32} {x_32 : Int32} (h0 : ¬ (x_43 = x_42)) : F_i_tellsPit_J5 x_43 x_42 S_44 S x_16 x_32 = (S_44, (0 : Int32)) := (Eq.trans (if_neg h0) rfl)
theorem F_i_tellsPit_p1 {x_43 : Int32} {x_42 : Int32} {S_44 : dg_S} {S : dg_S} {x_16 : Int32} {x_32 : Int32} {x_50 : Int32} (h0 : x_43 = x_42) (h1 : x_50 = zI S_44 182 5) (h2 : x_50 = (0 : Int32)) : F_i_tellsPit_J5 x_43 x_42 S_44 S x_16 x_32 = (S_44, (0 : Int32)) := by
  replace h1 := Eq.symm h1
  subst h1
  exact (Eq.trans (if_pos h0) (Eq.trans (if_pos h2) rfl))
theorem F_i_tellsPit_p2 {x_43 : Int32} {x_42 : Int32} {S_44 : dg_S} {S : dg_S} {x_16 : Int32} {x_32 : Int32} {x_50 : Int32} {x_53 : Int32} {x_54 : Int32} (h0 : x_43 = x_42) (h1 : x_50 = zI S_44 182 5) (h2 : ¬ (x_50 = (0 : Int32))) (h3 : x_53 = zI S_44 182 4) (h4 : x_54 = zI S 1 1) (h5 : ¬ (x_53 = x_54)) : F_i_tellsPit_J5 x_43 x_42 S_44 S x_16 x_32 = (S_44, (0 : Int32)) := by
  replace h1 := Eq.symm h1
  subst h1
  replace h3 := Eq.symm h3
  subst h3
  replace h4 := Eq.symm h4
  subst h4
  exact (Eq.trans (if_pos h0) (Eq.trans (if_neg h2) (Eq.trans (if_neg h5) rfl)))
theorem F_i_tellsPit_p3 {x_43 : Int32} {x_42 : Int32} {S_44 : dg_S} {S : dg_S} {x_16 : Int32} {x_32 : Int32} {x_50 : Int32} {x_53 : Int32} {x_54 : Int32} (h0 : x_43 = x_42) (h1 : x_50 = zI S_44 182 5) (h2 : ¬ (x_50 = (0 : Int32))) (h3 : x_53 = zI S_44 182 4) (h4 : x_54 = zI S 1 1) (h5 : x_53 = x_54) (h6 : (999 : Int32) < x_16) : F_i_tellsPit_J5 x_43 x_42 S_44 S x_16 x_32 = (S_44, (0 : Int32)) := by
  replace h1 := Eq.symm h1
  subst h1
  replace h3 := Eq.symm h3
  subst h3
  replace h4 := Eq.symm h4
  subst h4
  exact (Eq.trans (if_pos h0) (Eq.trans (if_neg h2) (Eq.trans (if_pos h5) (Eq.trans (if_pos h6) rfl))))
theorem F_i_tellsPit_p4 {x_43 : Int32} {x_42 : Int32} {S_44 : dg_S} {S : dg_S} {x_16 : Int32} {x_32 : Int32} {x_50 : Int32} {x_53 : Int32} {x_54 : Int32} (h0 : x_43 = x_42) (h1 : x_50 = zI S_44 182 5) (h2 : ¬ (x_50 = (0 : Int32))) (h3 : x_53 = zI S_44 182 4) (h4 : x_54 = zI S 1 1) (h5 : x_53 = x_54) (h6 : ¬ ((999 : Int32) < x_16)) (h7 : (99999 : Int32) < x_32) : F_i_tellsPit_J5 x_43 x_42 S_44 S x_16 x_32 = (S_44, (0 : Int32)) := by
  replace h1 := Eq.symm h1
  subst h1
  replace h3 := Eq.symm h3
  subst h3
  replace h4 := Eq.symm h4
  subst h4
  exact (Eq.trans (if_pos h0) (Eq.trans (if_neg h2) (Eq.trans (if_pos h5) (Eq.trans (if_neg h6) (Eq.trans (if_pos h7) rfl)))))
theorem F_i_tellsPit_p5 {x_43 : Int32} {x_42 : Int32} {S_44 : dg_S} {S : dg_S} {x_16 : Int32} {x_32 : Int32} {x_50 : Int32} {x_53 : Int32} {x_54 : Int32} (h0 : x_43 = x_42) (h1 : x_50 = zI S_44 182 5) (h2 : ¬ (x_50 = (0 : Int32))) (h3 : x_53 = zI S_44 182 4) (h4 : x_54 = zI S 1 1) (h5 : x_53 = x_54) (h6 : ¬ ((999 : Int32) < x_16)) (h7 : ¬ ((99999 : Int32) < x_32)) : F_i_tellsPit_J5 x_43 x_42 S_44 S x_16 x_32 = (S_44, (1 : Int32)) := by
  replace h1 := Eq.symm h1
  subst h1
  replace h3 := Eq.symm h3
  subst h3
  replace h4 := Eq.symm h4
  subst h4
  exact (Eq.trans (if_pos h0) (Eq.trans (if_neg h2) (Eq.trans (if_pos h5) (Eq.trans (if_neg h6) (Eq.trans (if_neg h7) rfl)))))
theorem F_i_tellsPit_p6 {o : Nat} {S_36 : dg_S} {gr : Nat} {pt : Nat} {S : dg_S} {x_16 : Int32} {x_32 : Int32} {x_43 : Int32} {x_42 : Int32} {S_44 : dg_S} {S_37 : dg_S} {x_38 : Int32} {S_39 : dg_S} {S_41 : dg_S} (h0 : S_37 = F_i_takePlan o S_36 gr pt) (h1 : x_38 = zI S gr 11) (h2 : S_39 = F_i_takeAll_sold o S_37 pt x_38 (1 : Int32)) (h3 : S_41 = F_i_takeAll_tubs o S_39 pt (10 : Int32) (99 : Int32)) (h4 : x_42 = zI S_41 182 3) (h5 : S_44 = (F_i_next o S_41 (255 : Int32)).1) (h6 : x_43 = (F_i_next o S_41 (255 : Int32)).2) : F_i_tellsPit_J4 o S_36 gr pt S x_16 x_32 = F_i_tellsPit_J5 x_43 x_42 S_44 S x_16 x_32 := by
  replace h0 := Eq.symm h0
  subst h0
  replace h1 := Eq.symm h1
  subst h1
  replace h2 := Eq.symm h2
  subst h2
  replace h3 := Eq.symm h3
  subst h3
  replace h4 := Eq.symm h4
  subst h4
  replace h5 := Eq.symm h5
  subst h5
  replace h6 := Eq.symm h6
  subst h6
  exact rfl
theorem F_i_tellsPit_p7 {o : Nat} {S_28 : dg_S} {x_27 : Int32} {pt : Nat} {gr : Nat} {S : dg_S} {x_16 : Int32} {S_36 : dg_S} {x_32 : Int32} {S_30 : dg_S} {x_29 : Int32} {S_33 : dg_S} {S_34 : dg_S} {x_35 : Int32} (h0 : S_30 = (F_i_next o S_28 (255 : Int32)).1) (h1 : x_29 = (F_i_next o S_28 (255 : Int32)).2) (h2 : x_32 = x_27 + x_29) (h3 : S_33 = dg_uF S_30 pt 1 (.int x_32)) (h4 : S_34 = F_i_takeCells o S_33 gr pt) (h5 : x_35 = zI S gr 6) (h6 : S_36 = F_i_takeAll_hurts o S_34 pt x_35 (1 : Int32)) : F_i_tellsPit_J3 o S_28 x_27 pt gr S x_16 = F_i_tellsPit_J4 o S_36 gr pt S x_16 x_32 := by
  replace h0 := Eq.symm h0
  subst h0
  replace h1 := Eq.symm h1
  subst h1
  replace h2 := Eq.symm h2
  subst h2
  replace h3 := Eq.symm h3
  subst h3
  replace h4 := Eq.symm h4
  subst h4
  replace h5 := Eq.symm h5
  subst h5
  replace h6 := Eq.symm h6
  subst h6
  exact rfl
theorem F_i_tellsPit_p8 {o : Nat} {S_17 : dg_S} {pt : Nat} {gr : Nat} {S : dg_S} {x_16 : Int32} {S_28 : dg_S} {x_27 : Int32} {S_19 : dg_S} {x_18 : Int32} {x_21 : Int32} {S_22 : dg_S} {S_24 : dg_S} {x_23 : Int32} {x_26 : Int32} (h0 : S_19 = (F_i_next o S_17 (255 : Int32)).1) (h1 : x_18 = (F_i_next o S_17 (255 : Int32)).2) (h2 : x_21 = x_18 <<< ((16 : Int32) &&& 31)) (h3 : S_22 = dg_uF S_19 pt 1 (.int x_21)) (h4 : S_24 = (F_i_next o S_22 (255 : Int32)).1) (h5 : x_23 = (F_i_next o S_22 (255 : Int32)).2) (h6 : x_26 = x_23 <<< ((8 : Int32) &&& 31)) (h7 : x_27 = x_21 + x_26) (h8 : S_28 = dg_uF S_24 pt 1 (.int x_27)) : F_i_tellsPit_J2 o S_17 pt gr S x_16 = F_i_tellsPit_J3 o S_28 x_27 pt gr S x_16 := by
  replace h0 := Eq.symm h0
  subst h0
  replace h1 := Eq.symm h1
  subst h1
  replace h2 := Eq.symm h2
  subst h2
  replace h3 := Eq.symm h3
  subst h3
  replace h4 := Eq.symm h4
  subst h4
  replace h5 := Eq.symm h5
  subst h5
  replace h6 := Eq.symm h6
  subst h6
  replace h7 := Eq.symm h7
  subst h7
  replace h8 := Eq.symm h8
  subst h8
  exact rfl
theorem F_i_tellsPit_p9 {o : Nat} {S_7 : dg_S} {pt : Nat} {gr : Nat} {S : dg_S} {S_17 : dg_S} {x_16 : Int32} {S_9 : dg_S} {x_8 : Int32} {x_11 : Int32} {S_12 : dg_S} {S_14 : dg_S} {x_13 : Int32} (h0 : S_9 = (F_i_next o S_7 (255 : Int32)).1) (h1 : x_8 = (F_i_next o S_7 (255 : Int32)).2) (h2 : x_11 = x_8 <<< ((8 : Int32) &&& 31)) (h3 : S_12 = dg_uF S_9 pt 0 (.int x_11)) (h4 : S_14 = (F_i_next o S_12 (255 : Int32)).1) (h5 : x_13 = (F_i_next o S_12 (255 : Int32)).2) (h6 : x_16 = x_11 + x_13) (h7 : S_17 = dg_uF S_14 pt 0 (.int x_16)) : F_i_tellsPit_J1 o S_7 pt gr S = F_i_tellsPit_J2 o S_17 pt gr S x_16 := by
  replace h0 := Eq.symm h0
  subst h0
  replace h1 := Eq.symm h1
  subst h1
  replace h2 := Eq.symm h2
  subst h2
  replace h3 := Eq.symm h3
  subst h3
  replace h4 := Eq.symm h4
  subst h4
  replace h5 := Eq.symm h5
  subst h5
  replace h6 := Eq.symm h6
  subst h6
  replace h7 := Eq.symm h7
  subst h7
  exact rfl
theorem F_i_tellsPit_p10 {o : Nat} {S : dg_S} {gr : Nat} {pt : Nat} {S_7 : dg_S} {S_2 : dg_S} {S_4 : dg_S} {S_6 : dg_S} (h0 : S_2 = dg_uF S 182 4 (.int (0 : Int32))) (h1 : S_4 = dg_uF S_2 182 3 (.int (233 : Int32))) (h2 : S_6 = dg_uF S_4 182 5 (.int (1 : Int32))) (h3 : S_7 = F_p_begin o S_6 pt gr) : F_i_tellsPit o S gr pt = F_i_tellsPit_J1 o S_7 pt gr S := by
  replace h0 := Eq.symm h0
  subst h0
  replace h1 := Eq.symm h1
  subst h1
  replace h2 := Eq.symm h2
  subst h2
  replace h3 := Eq.symm h3
  subst h3
  exact rfl
set_option maxHeartbeats 8000000 in
set_option maxRecDepth 100000 in
theorem c_i_tellsPit (l : Launch) (g : Nat → ClassId) (D : va_G) (o : Nat) (S : dg_S) (gr : Nat) (hk_gr : rX gr) (pt : Nat) (hk_pt : pX pt) (cx : Int32) (f_cx : S.1 gr 0 = .int cx) (b_cx : 0 ≤ (cx).toInt ∧ (cx).toInt ≤ 7) (sx : Int32) (f_sx : S.1 gr 2 = .int sx) (b_sx : (-1) ≤ (sx).toInt ∧ (sx).toInt ≤ 63) (ry : Int32) (f_ry : S.1 gr 1 = .int ry) (b_ry : 0 ≤ (ry).toInt ∧ (ry).toInt ≤ 7) (hcx : 0 < (cx).toInt ∧ 0 < (ry).toInt ∧ 8 ≤ (sx).toInt) (I : CX o S) (sz : Nat) : Met l yX4_tellsPit (bw yX4_tellsPit cX4_tellsPit 4 (some .boolean)) ({ frames := 3, cells := 0, slots := 0, locals := 78 } : Room) (dk_Pc g D (dg_w g shX o rfX S) sz [.ref (o + 182), .ref (o + gr), .ref (o + pt)]) (va_Qi (fun (r : Int32) S' => CX o S' ∧ dg_sm shX [(3, 0), (3, 1), (16, 3), (16, 4), (16, 5)] [4, 5, 6, 7, 8, 9] S S' ∧ (0 ≤ (r).toInt ∧ (r).toInt ≤ 1) ∧ dg_fil S' pt ∧ dg_FG S S' ∧ (S' = (F_i_tellsPit o S gr pt).1 ∧ r = (F_i_tellsPit o S gr pt).2) ∧ True) (dg_B g D shX o rfX) (dg_A o shX.length sz)) 0 0 (dg_A o shX.length sz) := by
  refine dg_met (cc := cX4_tellsPit) (maxL := 4) (ret := (some .boolean)) (dk_dq rfl) rfl (Nat.le_of_ble_eq_true rfl) ?_
  intro p e s m args below meth c A hAe harg hx hb hr hml hts hown hlocks hin hP K hS hA1 hA ST hsz ls hl
  rw [← hAe]
  have F : CallFix p m c cX4_tellsPit 4 s args (bw yX4_tellsPit cX4_tellsPit 4 (some .boolean)) RX4 := ⟨hx, hb, hml, hown, hts⟩
  have hl : lv_has ls 4 [(0, .ref (o + 182)), (1, .ref (o + gr)), (2, .ref (o + pt))] := hl
  have M_0 : dg_sm shX [(3, 0), (3, 1), (16, 3), (16, 4), (16, 5)] [4, 5, 6, 7, 8, 9] S S := dg_sm.rf
  refine lv_aload_n hx hb dX4_tellsPit_0 rfl (lv_at hl 0 rfl) ?_
  refine lv_iconst (v := 0) hx hb dX4_tellsPit_1 (by decide +kernel) ?_
  have hz_1 : (0 : Int32).toInt = 0 := by decide +kernel
  refine dg_put (ci := 4) (v := .int 0) (ty := tyX4 4) (C := RX4) (T := TX4) (N := 6) hx hb hts (fun w h => bw_mem (wU_X4 w h)) tyX4 tyX4_ok nmX4 hown K hP hS hA1 sX_182 rfl 4 (dk_dq rfl) (hts _ (bw_mem wB_804)) (fun _ h9 => h9) rfl (by decide +kernel) rfl rfl dX4_tellsPit_2 (fun S_2 e_2 H locs hP hS => ?_)
  have I_2 := dg_I.uFi (lo := 0) (hi := 1600) I e_2 sX_182 (by decide +kernel) (show 0 ≤ ((0 : Int32)).toInt ∧ ((0 : Int32)).toInt ≤ 1600 from (by decide +kernel))
  have M_2 := dg_sm.uF M_0 e_2 sX_182 (dk_dq rfl)
  refine lv_aload_n hx hb dX4_tellsPit_5 rfl (lv_at hl 0 rfl) ?_
  refine lv_sipush (v := 233) hx hb dX4_tellsPit_6 (by decide +kernel) ?_
  have hz_3 : (233 : Int32).toInt = 233 := by decide +kernel
  refine dg_put (ci := 4) (v := .int 233) (ty := tyX4 3) (C := RX4) (T := TX4) (N := 6) hx hb hts (fun w h => bw_mem (wU_X4 w h)) tyX4 tyX4_ok nmX4 hown K hP hS hA1 sX_182 rfl 3 (dk_dq rfl) (hts _ (bw_mem wB_779)) (fun _ h9 => h9) rfl (by decide +kernel) rfl rfl dX4_tellsPit_9 (fun S_4 e_4 H locs hP hS => ?_)
  have I_4 := dg_I.uFi (lo := (-2147483648)) (hi := 2147483647) I_2 e_4 sX_182 (by decide +kernel) (show (-2147483648) ≤ ((233 : Int32)).toInt ∧ ((233 : Int32)).toInt ≤ 2147483647 from (by decide +kernel))
  have M_4 := dg_sm.uF M_2 e_4 sX_182 (dk_dq rfl)
  refine lv_aload_n hx hb dX4_tellsPit_12 rfl (lv_at hl 0 rfl) ?_
  refine lv_iconst (v := 1) hx hb dX4_tellsPit_13 (by decide +kernel) ?_
  have hz_5 : (1 : Int32).toInt = 1 := by decide +kernel
  refine dg_put (ci := 4) (v := .int 1) (ty := tyX4 5) (C := RX4) (T := TX4) (N := 6) hx hb hts (fun w h => bw_mem (wU_X4 w h)) tyX4 tyX4_ok nmX4 hown K hP hS hA1 sX_182 rfl 5 (dk_dq rfl) (hts _ (bw_mem wB_807)) (fun _ h9 => h9) rfl (by decide +kernel) (by decide +kernel) (by decide +kernel) dX4_tellsPit_14 (fun S_6 e_6 H locs hP hS => ?_)
  have I_6 := dg_I.uFi (lo := 0) (hi := 1) I_4 e_6 sX_182 (by decide +kernel) (show 0 ≤ ((1 : Int32)).toInt ∧ ((1 : Int32)).toInt ≤ 1 from (by decide +kernel))
  have M_6 := dg_sm.uF M_4 e_6 sX_182 (dk_dq rfl)
  refine lv_aload_n hx hb dX4_tellsPit_17 rfl (lv_at hl 2 rfl) ?_
  refine lv_aload_n hx hb dX4_tellsPit_18 rfl (lv_at hl 1 rfl) ?_
  refine dg_callv hS hA1 hA (va_runV (As := [.ref (o + gr)]) (rest := []) F (c_p_begin l g D o S_6 pt hk_pt gr hk_gr cx (((dg_uF_ne e_6 (fun z => absurd z.2 (dk_dq rfl))).trans ((dg_uF_ne e_4 (fun z => absurd z.2 (dk_dq rfl))).trans (dg_uF_ne e_2 (fun z => absurd z.2 (dk_dq rfl))))).trans f_cx) (by omega) sx (((dg_uF_ne e_6 (fun z => absurd z.2 (dk_dq rfl))).trans ((dg_uF_ne e_4 (fun z => absurd z.2 (dk_dq rfl))).trans (dg_uF_ne e_2 (fun z => absurd z.2 (dk_dq rfl))))).trans f_sx) (by omega) (by omega) I_6 H.size) (cwV 1 hts (bw_V wB_817 wB_818 wB_819 wB_493 wB_816) rfl rfl rfl (by decide +kernel) ⟨Nat.le_of_ble_eq_true rfl, Nat.le_of_ble_eq_true rfl⟩) (dg_preV (pX_0 pt hk_pt) rfl K ST hP hS hA1 hA) rfl rfl hl.1 rfl (lv_room (Nat.le_of_ble_eq_true rfl)) dX4_tellsPit_19 ⟨Nat.le_of_ble_eq_true rfl, Nat.le_of_ble_eq_true rfl⟩) (fun S_7 hw_7 H locs hP hS => ?_)
  obtain ⟨I_7, m_7, w_7_0, w_7_1, w_7_2, -⟩ := hw_7
  have M_7 := dg_sm.tr M_6 m_7 (dk_dq rfl) (dk_dq rfl)
  have hF_1 : F_i_tellsPit o S gr pt = F_i_tellsPit_J1 o S_7 pt gr S := (F_i_tellsPit_p10 e_2 e_4 e_6 w_7_2)
  refine lv_aload_n hx hb dX4_tellsPit_22 rfl (lv_at hl 2 rfl) ?_
  refine lv_aload_n hx hb dX4_tellsPit_23 rfl (lv_at hl 0 rfl) ?_
  refine lv_sipush (v := 255) hx hb dX4_tellsPit_24 (by decide +kernel) ?_
  refine dg_calli hS hA1 hA (va_runV (As := [.int 255]) (rest := [.ref (o + pt)]) F (c_i_next l g D o S_7 255 I_7 H.size) (cwV 1 hts (bw_V wB_811 wB_812 wB_813 wB_784 wB_810) rfl rfl rfl (by decide +kernel) ⟨Nat.le_of_ble_eq_true rfl, Nat.le_of_ble_eq_true rfl⟩) (dg_preV sX_182 rfl K ST hP hS hA1 hA) rfl rfl hl.1 rfl (lv_room (Nat.le_of_ble_eq_true rfl)) dX4_tellsPit_27 ⟨Nat.le_of_ble_eq_true rfl, Nat.le_of_ble_eq_true rfl⟩) (fun x_8 S_9 hw_9 H locs hP hS => ?_)
  obtain ⟨I_9, m_9, w_9_0, w_9_1, w_9_2, -⟩ := hw_9
  have M_9 := dg_sm.tr M_7 m_9 (dk_dq rfl) (dk_dq rfl)
  have hz_10 : (255 : Int32).toInt = 255 := by decide +kernel
  have w_9_0 : 0 ≤ (x_8).toInt ∧ (x_8).toInt ≤ 255 := w_9_0
  have w_9_1 : (x_8).toInt ≤ ((255 : Int32)).toInt ∨ (x_8).toInt = 0 := w_9_1
  refine lv_bipush (v := 8) hx hb dX4_tellsPit_30 (by decide +kernel) ?_
  as_aux_lemma =>
    refine lv_ishl hx hb dX4_tellsPit_32 ?_
    refine lv_topi (fun x_11 ex_11 => ?_)
    have jx_11 := dk_shlB (x := x_8) (s := 8 &&& 31) (b := 255) (k := 8) (p := 256) (B := 65280) (by omega) (by omega) (by decide +kernel) (dk_dq rfl) (dk_dq rfl) (dk_dq rfl)
    rw [← ex_11] at jx_11
    refine dg_put (ci := 5) (v := .int x_11) (ty := tyX5 0) (C := RX5) (T := TX5) (N := 8) hx hb hts (fun w h => bw_mem (wU_X5 w h)) tyX5 tyX5_ok nmX5 hown K hP hS hA1 (pX_0 pt hk_pt) rfl 0 (dk_dq rfl) (hts _ (bw_mem wB_785)) (fun _ h9 => h9) rfl (by decide +kernel) rfl rfl dX4_tellsPit_33 (fun S_12 e_12 H locs hP hS => ?_)
    have I_12 := dg_I.uFi (lo := 0) (hi := 65535) I_9 e_12 (pX_0 pt hk_pt) (by decide +kernel) (show 0 ≤ (x_11).toInt ∧ (x_11).toInt ≤ 65535 from (by omega))
    have M_12 := dg_sm.uF M_9 e_12 (pX_0 pt hk_pt) (dk_dq rfl)
    refine lv_aload_n hx hb dX4_tellsPit_36 rfl (lv_at hl 2 rfl) ?_
    refine lv_dup hx hb dX4_tellsPit_37 rfl ?_
    refine dg_get (C := RX5) (T := TX5) (N := 8) hx hb hts (fun w h => bw_mem (wU_X5 w h)) hown K hP (pX_0 pt hk_pt) rfl 0 (dk_dq rfl) (hts _ (bw_mem wB_785)) (fun _ h9 => h9) (v := .int x_11) (dg_uF_at e_12) dX4_tellsPit_38 ?_
    refine lv_aload_n hx hb dX4_tellsPit_41 rfl (lv_at hl 0 rfl) ?_
    refine lv_sipush (v := 255) hx hb dX4_tellsPit_42 (by decide +kernel) ?_
    refine dg_calli hS hA1 hA (va_runV (As := [.int 255]) (rest := [.int x_11, .ref (o + pt)]) F (c_i_next l g D o S_12 255 I_12 H.size) (cwV 1 hts (bw_V wB_811 wB_812 wB_813 wB_784 wB_810) rfl rfl rfl (by decide +kernel) ⟨Nat.le_of_ble_eq_true rfl, Nat.le_of_ble_eq_true rfl⟩) (dg_preV sX_182 rfl K ST hP hS hA1 hA) rfl rfl hl.1 rfl (lv_room (Nat.le_of_ble_eq_true rfl)) dX4_tellsPit_45 ⟨Nat.le_of_ble_eq_true rfl, Nat.le_of_ble_eq_true rfl⟩) (fun x_13 S_14 hw_14 H locs hP hS => ?_)
    obtain ⟨I_14, m_14, w_14_0, w_14_1, w_14_2, -⟩ := hw_14
    have M_14 := dg_sm.tr M_12 m_14 (dk_dq rfl) (dk_dq rfl)
    have hz_15 : (255 : Int32).toInt = 255 := by decide +kernel
    have w_14_0 : 0 ≤ (x_13).toInt ∧ (x_13).toInt ≤ 255 := w_14_0
    have w_14_1 : (x_13).toInt ≤ ((255 : Int32)).toInt ∨ (x_13).toInt = 0 := w_14_1
    refine lv_iadd hx hb dX4_tellsPit_48 ?_
    refine lv_topi (fun x_16 ex_16 => ?_)
    have jx_16 : (x_16).toInt = (x_11).toInt + (x_13).toInt := by rw [ex_16]; exact dk_addT2 rfl rfl (by omega)
    refine dg_put (ci := 5) (v := .int x_16) (ty := tyX5 0) (C := RX5) (T := TX5) (N := 8) hx hb hts (fun w h => bw_mem (wU_X5 w h)) tyX5 tyX5_ok nmX5 hown K hP hS hA1 (pX_0 pt hk_pt) rfl 0 (dk_dq rfl) (hts _ (bw_mem wB_785)) (fun _ h9 => h9) rfl (by decide +kernel) rfl rfl dX4_tellsPit_49 (fun S_17 e_17 H locs hP hS => ?_)
    have I_17 := dg_I.uFi (lo := 0) (hi := 65535) I_14 e_17 (pX_0 pt hk_pt) (by decide +kernel) (show 0 ≤ (x_16).toInt ∧ (x_16).toInt ≤ 65535 from (by omega))
    have M_17 := dg_sm.uF M_14 e_17 (pX_0 pt hk_pt) (dk_dq rfl)
    have hF_2 : F_i_tellsPit o S gr pt = F_i_tellsPit_J2 o S_17 pt gr S x_16 := (Eq.trans hF_1 (F_i_tellsPit_p9 w_9_2.1 w_9_2.2 ex_11 e_12 w_14_2.1 w_14_2.2 ex_16 e_17))
    refine lv_aload_n hx hb dX4_tellsPit_52 rfl (lv_at hl 2 rfl) ?_
    refine lv_aload_n hx hb dX4_tellsPit_53 rfl (lv_at hl 0 rfl) ?_
    refine lv_sipush (v := 255) hx hb dX4_tellsPit_54 (by decide +kernel) ?_
    refine dg_calli hS hA1 hA (va_runV (As := [.int 255]) (rest := [.ref (o + pt)]) F (c_i_next l g D o S_17 255 I_17 H.size) (cwV 1 hts (bw_V wB_811 wB_812 wB_813 wB_784 wB_810) rfl rfl rfl (by decide +kernel) ⟨Nat.le_of_ble_eq_true rfl, Nat.le_of_ble_eq_true rfl⟩) (dg_preV sX_182 rfl K ST hP hS hA1 hA) rfl rfl hl.1 rfl (lv_room (Nat.le_of_ble_eq_true rfl)) dX4_tellsPit_57 ⟨Nat.le_of_ble_eq_true rfl, Nat.le_of_ble_eq_true rfl⟩) (fun x_18 S_19 hw_19 H locs hP hS => ?_)
    obtain ⟨I_19, m_19, w_19_0, w_19_1, w_19_2, -⟩ := hw_19
    have M_19 := dg_sm.tr M_17 m_19 (dk_dq rfl) (dk_dq rfl)
    have hz_20 : (255 : Int32).toInt = 255 := by decide +kernel
    have w_19_0 : 0 ≤ (x_18).toInt ∧ (x_18).toInt ≤ 255 := w_19_0
    have w_19_1 : (x_18).toInt ≤ ((255 : Int32)).toInt ∨ (x_18).toInt = 0 := w_19_1
    refine lv_bipush (v := 16) hx hb dX4_tellsPit_60 (by decide +kernel) ?_
    refine lv_ishl hx hb dX4_tellsPit_62 ?_
    refine lv_topi (fun x_21 ex_21 => ?_)
    have jx_21 := dk_shlB (x := x_18) (s := 16 &&& 31) (b := 255) (k := 16) (p := 65536) (B := 16711680) (by omega) (by omega) (by decide +kernel) (dk_dq rfl) (dk_dq rfl) (dk_dq rfl)
    rw [← ex_21] at jx_21
    refine dg_put (ci := 5) (v := .int x_21) (ty := tyX5 1) (C := RX5) (T := TX5) (N := 8) hx hb hts (fun w h => bw_mem (wU_X5 w h)) tyX5 tyX5_ok nmX5 hown K hP hS hA1 (pX_0 pt hk_pt) rfl 1 (dk_dq rfl) (hts _ (bw_mem wB_786)) (fun _ h9 => h9) rfl (by decide +kernel) rfl rfl dX4_tellsPit_63 (fun S_22 e_22 H locs hP hS => ?_)
    have I_22 := dg_I.uFi (lo := (-2147483648)) (hi := 2147483647) I_19 e_22 (pX_0 pt hk_pt) (by decide +kernel) (show (-2147483648) ≤ (x_21).toInt ∧ (x_21).toInt ≤ 2147483647 from (dk_full _))
    have M_22 := dg_sm.uF M_19 e_22 (pX_0 pt hk_pt) (dk_dq rfl)
    as_aux_lemma =>
      refine lv_aload_n hx hb dX4_tellsPit_66 rfl (lv_at hl 2 rfl) ?_
      refine lv_dup hx hb dX4_tellsPit_67 rfl ?_
      refine dg_get (C := RX5) (T := TX5) (N := 8) hx hb hts (fun w h => bw_mem (wU_X5 w h)) hown K hP (pX_0 pt hk_pt) rfl 1 (dk_dq rfl) (hts _ (bw_mem wB_786)) (fun _ h9 => h9) (v := .int x_21) (dg_uF_at e_22) dX4_tellsPit_68 ?_
      refine lv_aload_n hx hb dX4_tellsPit_71 rfl (lv_at hl 0 rfl) ?_
      refine lv_sipush (v := 255) hx hb dX4_tellsPit_72 (by decide +kernel) ?_
      refine dg_calli hS hA1 hA (va_runV (As := [.int 255]) (rest := [.int x_21, .ref (o + pt)]) F (c_i_next l g D o S_22 255 I_22 H.size) (cwV 1 hts (bw_V wB_811 wB_812 wB_813 wB_784 wB_810) rfl rfl rfl (by decide +kernel) ⟨Nat.le_of_ble_eq_true rfl, Nat.le_of_ble_eq_true rfl⟩) (dg_preV sX_182 rfl K ST hP hS hA1 hA) rfl rfl hl.1 rfl (lv_room (Nat.le_of_ble_eq_true rfl)) dX4_tellsPit_75 ⟨Nat.le_of_ble_eq_true rfl, Nat.le_of_ble_eq_true rfl⟩) (fun x_23 S_24 hw_24 H locs hP hS => ?_)
      obtain ⟨I_24, m_24, w_24_0, w_24_1, w_24_2, -⟩ := hw_24
      have M_24 := dg_sm.tr M_22 m_24 (dk_dq rfl) (dk_dq rfl)
      have hz_25 : (255 : Int32).toInt = 255 := by decide +kernel
      have w_24_0 : 0 ≤ (x_23).toInt ∧ (x_23).toInt ≤ 255 := w_24_0
      have w_24_1 : (x_23).toInt ≤ ((255 : Int32)).toInt ∨ (x_23).toInt = 0 := w_24_1
      refine lv_bipush (v := 8) hx hb dX4_tellsPit_78 (by decide +kernel) ?_
      refine lv_ishl hx hb dX4_tellsPit_80 ?_
      refine lv_topi (fun x_26 ex_26 => ?_)
      have jx_26 := dk_shlB (x := x_23) (s := 8 &&& 31) (b := 255) (k := 8) (p := 256) (B := 65280) (by omega) (by omega) (by decide +kernel) (dk_dq rfl) (dk_dq rfl) (dk_dq rfl)
      rw [← ex_26] at jx_26
      refine lv_iadd hx hb dX4_tellsPit_81 ?_
      refine lv_topi (fun x_27 ex_27 => ?_)
      have jx_27 : (x_27).toInt = (x_21).toInt + (x_26).toInt := by rw [ex_27]; exact dk_addT2 rfl rfl (by omega)
      refine dg_put (ci := 5) (v := .int x_27) (ty := tyX5 1) (C := RX5) (T := TX5) (N := 8) hx hb hts (fun w h => bw_mem (wU_X5 w h)) tyX5 tyX5_ok nmX5 hown K hP hS hA1 (pX_0 pt hk_pt) rfl 1 (dk_dq rfl) (hts _ (bw_mem wB_786)) (fun _ h9 => h9) rfl (by decide +kernel) rfl rfl dX4_tellsPit_82 (fun S_28 e_28 H locs hP hS => ?_)
      have I_28 := dg_I.uFi (lo := (-2147483648)) (hi := 2147483647) I_24 e_28 (pX_0 pt hk_pt) (by decide +kernel) (show (-2147483648) ≤ (x_27).toInt ∧ (x_27).toInt ≤ 2147483647 from (dk_full _))
      have M_28 := dg_sm.uF M_24 e_28 (pX_0 pt hk_pt) (dk_dq rfl)
      have hF_3 : F_i_tellsPit o S gr pt = F_i_tellsPit_J3 o S_28 x_27 pt gr S x_16 := (Eq.trans hF_2 (F_i_tellsPit_p8 w_19_2.1 w_19_2.2 ex_21 e_22 w_24_2.1 w_24_2.2 ex_26 ex_27 e_28))
      refine lv_aload_n hx hb dX4_tellsPit_85 rfl (lv_at hl 2 rfl) ?_
      refine lv_dup hx hb dX4_tellsPit_86 rfl ?_
      refine dg_get (C := RX5) (T := TX5) (N := 8) hx hb hts (fun w h => bw_mem (wU_X5 w h)) hown K hP (pX_0 pt hk_pt) rfl 1 (dk_dq rfl) (hts _ (bw_mem wB_786)) (fun _ h9 => h9) (v := .int x_27) (dg_uF_at e_28) dX4_tellsPit_87 ?_
      refine lv_aload_n hx hb dX4_tellsPit_90 rfl (lv_at hl 0 rfl) ?_
      refine lv_sipush (v := 255) hx hb dX4_tellsPit_91 (by decide +kernel) ?_
      refine dg_calli hS hA1 hA (va_runV (As := [.int 255]) (rest := [.int x_27, .ref (o + pt)]) F (c_i_next l g D o S_28 255 I_28 H.size) (cwV 1 hts (bw_V wB_811 wB_812 wB_813 wB_784 wB_810) rfl rfl rfl (by decide +kernel) ⟨Nat.le_of_ble_eq_true rfl, Nat.le_of_ble_eq_true rfl⟩) (dg_preV sX_182 rfl K ST hP hS hA1 hA) rfl rfl hl.1 rfl (lv_room (Nat.le_of_ble_eq_true rfl)) dX4_tellsPit_94 ⟨Nat.le_of_ble_eq_true rfl, Nat.le_of_ble_eq_true rfl⟩) (fun x_29 S_30 hw_30 H locs hP hS => ?_)
      obtain ⟨I_30, m_30, w_30_0, w_30_1, w_30_2, -⟩ := hw_30
      have M_30 := dg_sm.tr M_28 m_30 (dk_dq rfl) (dk_dq rfl)
      have hz_31 : (255 : Int32).toInt = 255 := by decide +kernel
      have w_30_0 : 0 ≤ (x_29).toInt ∧ (x_29).toInt ≤ 255 := w_30_0
      have w_30_1 : (x_29).toInt ≤ ((255 : Int32)).toInt ∨ (x_29).toInt = 0 := w_30_1
      refine lv_iadd hx hb dX4_tellsPit_97 ?_
      refine lv_topi (fun x_32 ex_32 => ?_)
      have jx_32 : (x_32).toInt = (x_27).toInt + (x_29).toInt := by rw [ex_32]; exact dk_addT2 rfl rfl (by omega)
      refine dg_put (ci := 5) (v := .int x_32) (ty := tyX5 1) (C := RX5) (T := TX5) (N := 8) hx hb hts (fun w h => bw_mem (wU_X5 w h)) tyX5 tyX5_ok nmX5 hown K hP hS hA1 (pX_0 pt hk_pt) rfl 1 (dk_dq rfl) (hts _ (bw_mem wB_786)) (fun _ h9 => h9) rfl (by decide +kernel) rfl rfl dX4_tellsPit_98 (fun S_33 e_33 H locs hP hS => ?_)
      have I_33 := dg_I.uFi (lo := (-2147483648)) (hi := 2147483647) I_30 e_33 (pX_0 pt hk_pt) (by decide +kernel) (show (-2147483648) ≤ (x_32).toInt ∧ (x_32).toInt ≤ 2147483647 from (dk_full _))
      have M_33 := dg_sm.uF M_30 e_33 (pX_0 pt hk_pt) (dk_dq rfl)
      as_aux_lemma =>
        refine lv_aload_n hx hb dX4_tellsPit_101 rfl (lv_at hl 0 rfl) ?_
        refine lv_aload_n hx hb dX4_tellsPit_102 rfl (lv_at hl 1 rfl) ?_
        refine lv_aload_n hx hb dX4_tellsPit_103 rfl (lv_at hl 2 rfl) ?_
        refine dg_callv hS hA1 hA (va_runV (As := [.ref (o + gr), .ref (o + pt)]) (rest := []) F (c_i_takeCells l g D o S_33 gr hk_gr pt hk_pt I_33 H.size) (cwV 2 hts (bw_V wB_821 wB_822 wB_823 wB_784 wB_820) rfl rfl rfl (by decide +kernel) ⟨Nat.le_of_ble_eq_true rfl, Nat.le_of_ble_eq_true rfl⟩) (dg_preV sX_182 rfl K ST hP hS hA1 hA) rfl rfl hl.1 rfl (lv_room (Nat.le_of_ble_eq_true rfl)) dX4_tellsPit_104 ⟨Nat.le_of_ble_eq_true rfl, Nat.le_of_ble_eq_true rfl⟩) (fun S_34 hw_34 H locs hP hS => ?_)
        obtain ⟨I_34, m_34, w_34_0, w_34_1, -⟩ := hw_34
        have M_34 := dg_sm.tr M_33 m_34 (dk_dq rfl) (dk_dq rfl)
        refine lv_aload_n hx hb dX4_tellsPit_107 rfl (lv_at hl 0 rfl) ?_
        refine lv_aload_n hx hb dX4_tellsPit_108 rfl (lv_at hl 2 rfl) ?_
        refine dg_get (C := RX5) (T := TX5) (N := 8) hx hb hts (fun w h => bw_mem (wU_X5 w h)) hown K hP (pX_0 pt hk_pt) rfl 3 (dk_dq rfl) (hts _ (bw_mem wB_794)) (fun _ h9 => h9) (v := .ref (o + (pt + 2))) (show S_34.1 pt 3 = .ref (o + (pt + 2)) from dg_I.rel (d := 2) I_34 (pX_0 pt hk_pt) (by decide +kernel)) dX4_tellsPit_109 ?_
        refine lv_aload_n hx hb dX4_tellsPit_112 rfl (lv_at hl 1 rfl) ?_
        obtain ⟨x_35, f_x_35, b_x_35⟩ := dg_I.int (i := gr) (k := 6) (lo := 0) (hi := 6) I (rX_0 gr hk_gr) (by decide +kernel)
        refine dg_get (C := RX2) (T := TX2) (N := 19) hx hb hts (fun w h => bw_mem (wU_X2 w h)) hown K hP (rX_0 gr hk_gr) rfl 6 (dk_dq rfl) (hts _ (bw_mem wB_795)) (fun _ h9 => h9) (v := .int x_35) (((m_34.1 gr 6 _ (rX_0 gr hk_gr) (dk_dq rfl)).trans ((dg_uF_ne e_33 (fun z => absurd z.2 (dk_dq rfl))).trans ((m_30.1 gr 6 _ (rX_0 gr hk_gr) (dk_dq rfl)).trans ((dg_uF_ne e_28 (fun z => absurd z.2 (dk_dq rfl))).trans ((m_24.1 gr 6 _ (rX_0 gr hk_gr) (dk_dq rfl)).trans ((dg_uF_ne e_22 (fun z => absurd z.2 (dk_dq rfl))).trans ((m_19.1 gr 6 _ (rX_0 gr hk_gr) (dk_dq rfl)).trans ((dg_uF_ne e_17 (fun z => absurd z.2 (dk_dq rfl))).trans ((m_14.1 gr 6 _ (rX_0 gr hk_gr) (dk_dq rfl)).trans ((dg_uF_ne e_12 (fun z => absurd z.2 (dk_dq rfl))).trans ((m_9.1 gr 6 _ (rX_0 gr hk_gr) (dk_dq rfl)).trans ((m_7.1 gr 6 _ (rX_0 gr hk_gr) (dk_dq rfl)).trans ((dg_uF_ne e_6 (fun z => absurd z.2 (dk_dq rfl))).trans ((dg_uF_ne e_4 (fun z => absurd z.2 (dk_dq rfl))).trans (dg_uF_ne e_2 (fun z => absurd z.2 (dk_dq rfl))))))))))))))))).trans f_x_35) dX4_tellsPit_113 ?_
        refine lv_iconst (v := 1) hx hb dX4_tellsPit_116 (by decide +kernel) ?_
        refine dg_callv hS hA1 hA (va_runV (As := [.ref (o + (pt + 2)), .int x_35, .int 1]) (rest := []) F (c_i_takeAll_hurts l g D o S_34 pt hk_pt x_35 (by omega) 1 I_34 H.size) (cwV 3 hts (bw_V wB_825 wB_826 wB_827 wB_784 wB_824) rfl rfl rfl (by decide +kernel) ⟨Nat.le_of_ble_eq_true rfl, Nat.le_of_ble_eq_true rfl⟩) (dg_preV sX_182 rfl K ST hP hS hA1 hA) rfl rfl hl.1 rfl (lv_room (Nat.le_of_ble_eq_true rfl)) dX4_tellsPit_117 ⟨Nat.le_of_ble_eq_true rfl, Nat.le_of_ble_eq_true rfl⟩) (fun S_36 hw_36 H locs hP hS => ?_)
        obtain ⟨I_36, m_36, w_36_0, -⟩ := hw_36
        have M_36 := dg_sm.tr M_34 m_36 (dk_dq rfl) (dk_dq rfl)
        have hF_4 : F_i_tellsPit o S gr pt = F_i_tellsPit_J4 o S_36 gr pt S x_16 x_32 := (Eq.trans hF_3 (F_i_tellsPit_p7 w_30_2.1 w_30_2.2 ex_32 e_33 w_34_1 (zI_eq f_x_35) w_36_0))
        refine lv_aload_n hx hb dX4_tellsPit_120 rfl (lv_at hl 0 rfl) ?_
        refine lv_aload_n hx hb dX4_tellsPit_121 rfl (lv_at hl 1 rfl) ?_
        refine lv_aload_n hx hb dX4_tellsPit_122 rfl (lv_at hl 2 rfl) ?_
        refine dg_callv hS hA1 hA (va_runV (As := [.ref (o + gr), .ref (o + pt)]) (rest := []) F (c_i_takePlan l g D o S_36 gr hk_gr pt hk_pt cx (((m_36.1 gr 0 _ (rX_0 gr hk_gr) (dk_dq rfl)).trans ((m_34.1 gr 0 _ (rX_0 gr hk_gr) (dk_dq rfl)).trans ((dg_uF_ne e_33 (fun z => absurd z.2 (dk_dq rfl))).trans ((m_30.1 gr 0 _ (rX_0 gr hk_gr) (dk_dq rfl)).trans ((dg_uF_ne e_28 (fun z => absurd z.2 (dk_dq rfl))).trans ((m_24.1 gr 0 _ (rX_0 gr hk_gr) (dk_dq rfl)).trans ((dg_uF_ne e_22 (fun z => absurd z.2 (dk_dq rfl))).trans ((m_19.1 gr 0 _ (rX_0 gr hk_gr) (dk_dq rfl)).trans ((dg_uF_ne e_17 (fun z => by have h9 := (rX_0 gr hk_gr); rw [z.1, (pX_0 pt hk_pt)] at h9; cases h9)).trans ((m_14.1 gr 0 _ (rX_0 gr hk_gr) (dk_dq rfl)).trans ((dg_uF_ne e_12 (fun z => by have h9 := (rX_0 gr hk_gr); rw [z.1, (pX_0 pt hk_pt)] at h9; cases h9)).trans ((m_9.1 gr 0 _ (rX_0 gr hk_gr) (dk_dq rfl)).trans ((m_7.1 gr 0 _ (rX_0 gr hk_gr) (dk_dq rfl)).trans ((dg_uF_ne e_6 (fun z => absurd z.2 (dk_dq rfl))).trans ((dg_uF_ne e_4 (fun z => absurd z.2 (dk_dq rfl))).trans (dg_uF_ne e_2 (fun z => absurd z.2 (dk_dq rfl)))))))))))))))))).trans f_cx) (by omega) ry (((m_36.1 gr 1 _ (rX_0 gr hk_gr) (dk_dq rfl)).trans ((m_34.1 gr 1 _ (rX_0 gr hk_gr) (dk_dq rfl)).trans ((dg_uF_ne e_33 (fun z => by have h9 := (rX_0 gr hk_gr); rw [z.1, (pX_0 pt hk_pt)] at h9; cases h9)).trans ((m_30.1 gr 1 _ (rX_0 gr hk_gr) (dk_dq rfl)).trans ((dg_uF_ne e_28 (fun z => by have h9 := (rX_0 gr hk_gr); rw [z.1, (pX_0 pt hk_pt)] at h9; cases h9)).trans ((m_24.1 gr 1 _ (rX_0 gr hk_gr) (dk_dq rfl)).trans ((dg_uF_ne e_22 (fun z => by have h9 := (rX_0 gr hk_gr); rw [z.1, (pX_0 pt hk_pt)] at h9; cases h9)).trans ((m_19.1 gr 1 _ (rX_0 gr hk_gr) (dk_dq rfl)).trans ((dg_uF_ne e_17 (fun z => absurd z.2 (dk_dq rfl))).trans ((m_14.1 gr 1 _ (rX_0 gr hk_gr) (dk_dq rfl)).trans ((dg_uF_ne e_12 (fun z => absurd z.2 (dk_dq rfl))).trans ((m_9.1 gr 1 _ (rX_0 gr hk_gr) (dk_dq rfl)).trans ((m_7.1 gr 1 _ (rX_0 gr hk_gr) (dk_dq rfl)).trans ((dg_uF_ne e_6 (fun z => absurd z.2 (dk_dq rfl))).trans ((dg_uF_ne e_4 (fun z => absurd z.2 (dk_dq rfl))).trans (dg_uF_ne e_2 (fun z => absurd z.2 (dk_dq rfl)))))))))))))))))).trans f_ry) (by omega) (by omega) I_36 H.size) (cwV 2 hts (bw_V wB_829 wB_830 wB_831 wB_784 wB_828) rfl rfl rfl (by decide +kernel) ⟨Nat.le_of_ble_eq_true rfl, Nat.le_of_ble_eq_true rfl⟩) (dg_preV sX_182 rfl K ST hP hS hA1 hA) rfl rfl hl.1 rfl (lv_room (Nat.le_of_ble_eq_true rfl)) dX4_tellsPit_123 ⟨Nat.le_of_ble_eq_true rfl, Nat.le_of_ble_eq_true rfl⟩) (fun S_37 hw_37 H locs hP hS => ?_)
        obtain ⟨I_37, m_37, w_37_0, -⟩ := hw_37
        have M_37 := dg_sm.tr M_36 m_37 (dk_dq rfl) (dk_dq rfl)
        refine lv_aload_n hx hb dX4_tellsPit_126 rfl (lv_at hl 0 rfl) ?_
        refine lv_aload_n hx hb dX4_tellsPit_127 rfl (lv_at hl 2 rfl) ?_
        refine dg_get (C := RX5) (T := TX5) (N := 8) hx hb hts (fun w h => bw_mem (wU_X5 w h)) hown K hP (pX_0 pt hk_pt) rfl 6 (dk_dq rfl) (hts _ (bw_mem wB_801)) (fun _ h9 => h9) (v := .ref (o + (pt + 5))) (show S_37.1 pt 6 = .ref (o + (pt + 5)) from dg_I.rel (d := 5) I_37 (pX_0 pt hk_pt) (by decide +kernel)) dX4_tellsPit_128 ?_
        refine lv_aload_n hx hb dX4_tellsPit_131 rfl (lv_at hl 1 rfl) ?_
        obtain ⟨x_38, f_x_38, b_x_38⟩ := dg_I.int (i := gr) (k := 11) (lo := 0) (hi := 5) I (rX_0 gr hk_gr) (by decide +kernel)
        refine dg_get (C := RX2) (T := TX2) (N := 19) hx hb hts (fun w h => bw_mem (wU_X2 w h)) hown K hP (rX_0 gr hk_gr) rfl 11 (dk_dq rfl) (hts _ (bw_mem wB_802)) (fun _ h9 => h9) (v := .int x_38) (((m_37.1 gr 11 _ (rX_0 gr hk_gr) (dk_dq rfl)).trans ((m_36.1 gr 11 _ (rX_0 gr hk_gr) (dk_dq rfl)).trans ((m_34.1 gr 11 _ (rX_0 gr hk_gr) (dk_dq rfl)).trans ((dg_uF_ne e_33 (fun z => absurd z.2 (dk_dq rfl))).trans ((m_30.1 gr 11 _ (rX_0 gr hk_gr) (dk_dq rfl)).trans ((dg_uF_ne e_28 (fun z => absurd z.2 (dk_dq rfl))).trans ((m_24.1 gr 11 _ (rX_0 gr hk_gr) (dk_dq rfl)).trans ((dg_uF_ne e_22 (fun z => absurd z.2 (dk_dq rfl))).trans ((m_19.1 gr 11 _ (rX_0 gr hk_gr) (dk_dq rfl)).trans ((dg_uF_ne e_17 (fun z => absurd z.2 (dk_dq rfl))).trans ((m_14.1 gr 11 _ (rX_0 gr hk_gr) (dk_dq rfl)).trans ((dg_uF_ne e_12 (fun z => absurd z.2 (dk_dq rfl))).trans ((m_9.1 gr 11 _ (rX_0 gr hk_gr) (dk_dq rfl)).trans ((m_7.1 gr 11 _ (rX_0 gr hk_gr) (dk_dq rfl)).trans ((dg_uF_ne e_6 (fun z => absurd z.2 (dk_dq rfl))).trans ((dg_uF_ne e_4 (fun z => absurd z.2 (dk_dq rfl))).trans (dg_uF_ne e_2 (fun z => absurd z.2 (dk_dq rfl))))))))))))))))))).trans f_x_38) dX4_tellsPit_132 ?_
        refine lv_iconst (v := 1) hx hb dX4_tellsPit_135 (by decide +kernel) ?_
        refine dg_callv hS hA1 hA (va_runV (As := [.ref (o + (pt + 5)), .int x_38, .int 1]) (rest := []) F (c_i_takeAll_sold l g D o S_37 pt hk_pt x_38 (by omega) 1 I_37 H.size) (cwV 3 hts (bw_V wB_825 wB_826 wB_827 wB_784 wB_824) rfl rfl rfl (by decide +kernel) ⟨Nat.le_of_ble_eq_true rfl, Nat.le_of_ble_eq_true rfl⟩) (dg_preV sX_182 rfl K ST hP hS hA1 hA) rfl rfl hl.1 rfl (lv_room (Nat.le_of_ble_eq_true rfl)) dX4_tellsPit_136 ⟨Nat.le_of_ble_eq_true rfl, Nat.le_of_ble_eq_true rfl⟩) (fun S_39 hw_39 H locs hP hS => ?_)
        obtain ⟨I_39, m_39, w_39_0, -⟩ := hw_39
        have M_39 := dg_sm.tr M_37 m_39 (dk_dq rfl) (dk_dq rfl)
        refine lv_aload_n hx hb dX4_tellsPit_139 rfl (lv_at hl 0 rfl) ?_
        refine lv_aload_n hx hb dX4_tellsPit_140 rfl (lv_at hl 2 rfl) ?_
        refine dg_get (C := RX5) (T := TX5) (N := 8) hx hb hts (fun w h => bw_mem (wU_X5 w h)) hown K hP (pX_0 pt hk_pt) rfl 7 (dk_dq rfl) (hts _ (bw_mem wB_803)) (fun _ h9 => h9) (v := .ref (o + (pt + 6))) (show S_39.1 pt 7 = .ref (o + (pt + 6)) from dg_I.rel (d := 6) I_39 (pX_0 pt hk_pt) (by decide +kernel)) dX4_tellsPit_141 ?_
        refine lv_bipush (v := 10) hx hb dX4_tellsPit_144 (by decide +kernel) ?_
        refine lv_bipush (v := 99) hx hb dX4_tellsPit_146 (by decide +kernel) ?_
        have hz_40 : (10 : Int32).toInt = 10 := by decide +kernel
        refine dg_callv hS hA1 hA (va_runV (As := [.ref (o + (pt + 6)), .int 10, .int 99]) (rest := []) F (c_i_takeAll_tubs l g D o S_39 pt hk_pt 10 (by decide +kernel) 99 I_39 H.size) (cwV 3 hts (bw_V wB_825 wB_826 wB_827 wB_784 wB_824) rfl rfl rfl (by decide +kernel) ⟨Nat.le_of_ble_eq_true rfl, Nat.le_of_ble_eq_true rfl⟩) (dg_preV sX_182 rfl K ST hP hS hA1 hA) rfl rfl hl.1 rfl (lv_room (Nat.le_of_ble_eq_true rfl)) dX4_tellsPit_148 ⟨Nat.le_of_ble_eq_true rfl, Nat.le_of_ble_eq_true rfl⟩) (fun S_41 hw_41 H locs hP hS => ?_)
        obtain ⟨I_41, m_41, w_41_0, -⟩ := hw_41
        have M_41 := dg_sm.tr M_39 m_41 (dk_dq rfl) (dk_dq rfl)
        as_aux_lemma =>
          refine lv_aload_n hx hb dX4_tellsPit_151 rfl (lv_at hl 0 rfl) ?_
          obtain ⟨x_42, f_x_42, b_x_42⟩ := dg_I.int (i := 182) (k := 3) (lo := (-2147483648)) (hi := 2147483647) I_41 sX_182 (by decide +kernel)
          refine dg_get (C := RX4) (T := TX4) (N := 6) hx hb hts (fun w h => bw_mem (wU_X4 w h)) hown K hP sX_182 rfl 3 (dk_dq rfl) (hts _ (bw_mem wB_779)) (fun _ h9 => h9) (v := .int x_42) f_x_42 dX4_tellsPit_152 ?_
          refine lv_istore_n (lv' := [(3, .int x_42), (0, .ref (o + 182)), (1, .ref (o + gr)), (2, .ref (o + pt))]) hx hb dX4_tellsPit_155 rfl hl (dk_dq rfl) rfl (fun ls hl => ?_)
          refine lv_aload_n hx hb dX4_tellsPit_156 rfl (lv_at hl 1 rfl) ?_
          refine lv_sipush (v := 255) hx hb dX4_tellsPit_157 (by decide +kernel) ?_
          refine dg_calli hS hA1 hA (va_runV (As := [.int 255]) (rest := []) F (c_i_next l g D o S_41 255 I_41 H.size) (cwV 1 hts (bw_V wB_811 wB_812 wB_813 wB_784 wB_810) rfl rfl rfl (by decide +kernel) ⟨Nat.le_of_ble_eq_true rfl, Nat.le_of_ble_eq_true rfl⟩) (dg_preV sX_182 rfl K ST hP hS hA1 hA) rfl rfl hl.1 rfl (lv_room (Nat.le_of_ble_eq_true rfl)) dX4_tellsPit_160 ⟨Nat.le_of_ble_eq_true rfl, Nat.le_of_ble_eq_true rfl⟩) (fun x_43 S_44 hw_44 H locs hP hS => ?_)
          obtain ⟨I_44, m_44, w_44_0, w_44_1, w_44_2, -⟩ := hw_44
          have M_44 := dg_sm.tr M_41 m_44 (dk_dq rfl) (dk_dq rfl)
          have hz_45 : (255 : Int32).toInt = 255 := by decide +kernel
          have w_44_0 : 0 ≤ (x_43).toInt ∧ (x_43).toInt ≤ 255 := w_44_0
          have w_44_1 : (x_43).toInt ≤ ((255 : Int32)).toInt ∨ (x_43).toInt = 0 := w_44_1
          have hF_5 : F_i_tellsPit o S gr pt = F_i_tellsPit_J5 x_43 x_42 S_44 S x_16 x_32 := (Eq.trans hF_4 (F_i_tellsPit_p6 w_37_0 (zI_eq f_x_38) w_39_0 w_41_0 (zI_eq f_x_42) w_44_2.1 w_44_2.2))
          refine lv_iload_n hx hb dX4_tellsPit_163 rfl (lv_at hl 0 rfl) ?_
          refine lv_icmp_ne (tgt := 211) hx hb dX4_tellsPit_164 (dk_dq rfl) (fun c_46 => ?_) (fun c_46 => ?_)
          · have hf_46 := dk_full x_42
            have jc_46 := dk_neqc (k := (x_42).toInt) rfl c_46
            refine lv_iconst (v := 0) hx hb dX4_tellsPit_211 (by decide +kernel) ?_
            have hz_48 : (0 : Int32).toInt = 0 := by decide +kernel
            refine W.widen (k := 0) (n := 0) (Nat.le_of_ble_eq_true rfl) (Nat.le_of_ble_eq_true rfl) ?_
            exact dg_iret hx hb hr hlocks (by decide +kernel) hP hS ⟨I_44, M_44, (by decide +kernel), ((dg_FG.tr (dg_FG.tr (dg_FG.tr (dg_FG.tr (dg_FG.tr (dg_FG.tr (dg_FG.tr (dg_FG.tr (dg_FG.tr (dg_FG.tr (dg_FG.tr (dg_FG.tr (dg_FG.tr (dg_FG.tr (dg_FG.tr (dg_FG.sm m_9 (dk_dq rfl)) (dg_FG.uF e_12)) (dg_FG.sm m_14 (dk_dq rfl))) (dg_FG.uF e_17)) (dg_FG.sm m_19 (dk_dq rfl))) (dg_FG.uF e_22)) (dg_FG.sm m_24 (dk_dq rfl))) (dg_FG.uF e_28)) (dg_FG.sm m_30 (dk_dq rfl))) (dg_FG.uF e_33)) w_34_0) (dg_FG.sm m_36 (dk_dq rfl))) (dg_FG.sm m_37 (dk_dq rfl))) (dg_FG.sm m_39 (dk_dq rfl))) (dg_FG.sm m_41 (dk_dq rfl))) (dg_FG.sm m_44 (dk_dq rfl))) pt hk_pt w_7_0), (dg_FG.tr (dg_FG.tr (dg_FG.tr (dg_FG.tr (dg_FG.tr (dg_FG.tr (dg_FG.tr (dg_FG.tr (dg_FG.tr (dg_FG.tr (dg_FG.tr (dg_FG.tr (dg_FG.tr (dg_FG.tr (dg_FG.tr (dg_FG.tr (dg_FG.tr (dg_FG.tr (dg_FG.tr (dg_FG.uF e_2) (dg_FG.uF e_4)) (dg_FG.uF e_6)) w_7_1) (dg_FG.sm m_9 (dk_dq rfl))) (dg_FG.uF e_12)) (dg_FG.sm m_14 (dk_dq rfl))) (dg_FG.uF e_17)) (dg_FG.sm m_19 (dk_dq rfl))) (dg_FG.uF e_22)) (dg_FG.sm m_24 (dk_dq rfl))) (dg_FG.uF e_28)) (dg_FG.sm m_30 (dk_dq rfl))) (dg_FG.uF e_33)) w_34_0) (dg_FG.sm m_36 (dk_dq rfl))) (dg_FG.sm m_37 (dk_dq rfl))) (dg_FG.sm m_39 (dk_dq rfl))) (dg_FG.sm m_41 (dk_dq rfl))) (dg_FG.sm m_44 (dk_dq rfl))), ⟨congrArg Prod.fst (Eq.symm (Eq.trans hF_5 (F_i_tellsPit_p0 c_46))), congrArg Prod.snd (Eq.symm (Eq.trans hF_5 (F_i_tellsPit_p0 c_46)))⟩, trivial⟩ dX4_tellsPit_212
          · as_aux_lemma =>
              have hf_48 := dk_full x_42
              have jc_46 := dk_eqc (k := (x_42).toInt) rfl c_46
              refine lv_aload_n hx hb dX4_tellsPit_167 rfl (lv_at hl 1 rfl) ?_
              obtain ⟨x_50, f_x_50, b_x_50⟩ := dg_I.int (i := 182) (k := 5) (lo := 0) (hi := 1) I_44 sX_182 (by decide +kernel)
              refine dg_get (C := RX4) (T := TX4) (N := 6) hx hb hts (fun w h => bw_mem (wU_X4 w h)) hown K hP sX_182 rfl 5 (dk_dq rfl) (hts _ (bw_mem wB_807)) (fun _ h9 => h9) (v := .int x_50) f_x_50 dX4_tellsPit_168 ?_
              refine lv_if_eq (tgt := 211) hx hb dX4_tellsPit_171 (dk_dq rfl) (fun c_51 => ?_) (fun c_51 => ?_)
              · have jc_51 := dk_eqc (k := 0) (by decide +kernel) c_51
                refine lv_iconst (v := 0) hx hb dX4_tellsPit_211 (by decide +kernel) ?_
                have hz_52 : (0 : Int32).toInt = 0 := by decide +kernel
                refine W.widen (k := 0) (n := 0) (Nat.le_of_ble_eq_true rfl) (Nat.le_of_ble_eq_true rfl) ?_
                exact dg_iret hx hb hr hlocks (by decide +kernel) hP hS ⟨I_44, M_44, (by decide +kernel), ((dg_FG.tr (dg_FG.tr (dg_FG.tr (dg_FG.tr (dg_FG.tr (dg_FG.tr (dg_FG.tr (dg_FG.tr (dg_FG.tr (dg_FG.tr (dg_FG.tr (dg_FG.tr (dg_FG.tr (dg_FG.tr (dg_FG.tr (dg_FG.sm m_9 (dk_dq rfl)) (dg_FG.uF e_12)) (dg_FG.sm m_14 (dk_dq rfl))) (dg_FG.uF e_17)) (dg_FG.sm m_19 (dk_dq rfl))) (dg_FG.uF e_22)) (dg_FG.sm m_24 (dk_dq rfl))) (dg_FG.uF e_28)) (dg_FG.sm m_30 (dk_dq rfl))) (dg_FG.uF e_33)) w_34_0) (dg_FG.sm m_36 (dk_dq rfl))) (dg_FG.sm m_37 (dk_dq rfl))) (dg_FG.sm m_39 (dk_dq rfl))) (dg_FG.sm m_41 (dk_dq rfl))) (dg_FG.sm m_44 (dk_dq rfl))) pt hk_pt w_7_0), (dg_FG.tr (dg_FG.tr (dg_FG.tr (dg_FG.tr (dg_FG.tr (dg_FG.tr (dg_FG.tr (dg_FG.tr (dg_FG.tr (dg_FG.tr (dg_FG.tr (dg_FG.tr (dg_FG.tr (dg_FG.tr (dg_FG.tr (dg_FG.tr (dg_FG.tr (dg_FG.tr (dg_FG.tr (dg_FG.uF e_2) (dg_FG.uF e_4)) (dg_FG.uF e_6)) w_7_1) (dg_FG.sm m_9 (dk_dq rfl))) (dg_FG.uF e_12)) (dg_FG.sm m_14 (dk_dq rfl))) (dg_FG.uF e_17)) (dg_FG.sm m_19 (dk_dq rfl))) (dg_FG.uF e_22)) (dg_FG.sm m_24 (dk_dq rfl))) (dg_FG.uF e_28)) (dg_FG.sm m_30 (dk_dq rfl))) (dg_FG.uF e_33)) w_34_0) (dg_FG.sm m_36 (dk_dq rfl))) (dg_FG.sm m_37 (dk_dq rfl))) (dg_FG.sm m_39 (dk_dq rfl))) (dg_FG.sm m_41 (dk_dq rfl))) (dg_FG.sm m_44 (dk_dq rfl))), ⟨congrArg Prod.fst (Eq.symm (Eq.trans hF_5 (F_i_tellsPit_p1 c_46 (zI_eq f_x_50) c_51))), congrArg Prod.snd (Eq.symm (Eq.trans hF_5 (F_i_tellsPit_p1 c_46 (zI_eq f_x_50) c_51)))⟩, trivial⟩ dX4_tellsPit_212
              · as_aux_lemma =>
                  have jc_51 := dk_neqc (k := 0) (by decide +kernel) c_51
                  refine lv_aload_n hx hb dX4_tellsPit_174 rfl (lv_at hl 1 rfl) ?_
                  obtain ⟨x_53, f_x_53, b_x_53⟩ := dg_I.int (i := 182) (k := 4) (lo := 0) (hi := 1600) I_44 sX_182 (by decide +kernel)
                  refine dg_get (C := RX4) (T := TX4) (N := 6) hx hb hts (fun w h => bw_mem (wU_X4 w h)) hown K hP sX_182 rfl 4 (dk_dq rfl) (hts _ (bw_mem wB_804)) (fun _ h9 => h9) (v := .int x_53) f_x_53 dX4_tellsPit_175 ?_
                  refine lv_aload_n hx hb dX4_tellsPit_178 rfl (lv_at hl 1 rfl) ?_
                  refine dg_get (C := RX4) (T := TX4) (N := 6) hx hb hts (fun w h => bw_mem (wU_X4 w h)) hown K hP sX_182 rfl 2 (dk_dq rfl) (hts _ (bw_mem wB_805)) (fun _ h9 => h9) (v := .ref (o + 1)) (show S_44.1 182 2 = .ref (o + 1) from dg_I.abs (d := 1) I_44 sX_182 (by decide +kernel)) dX4_tellsPit_179 ?_
                  obtain ⟨x_54, f_x_54, b_x_54⟩ := dg_I.int (i := 1) (k := 1) (lo := 0) (hi := 1600) I sX_1 (by decide +kernel)
                  refine dg_get (C := RX8) (T := TX8) (N := 2) hx hb hts (fun w h => bw_mem (wU_X8 w h)) hown K hP sX_1 rfl 1 (dk_dq rfl) (hts _ (bw_mem wB_806)) (fun _ h9 => h9) (v := .int x_54) (((m_44.1 1 1 _ sX_1 (dk_dq rfl)).trans ((m_41.1 1 1 _ sX_1 (dk_dq rfl)).trans ((m_39.1 1 1 _ sX_1 (dk_dq rfl)).trans ((m_37.1 1 1 _ sX_1 (dk_dq rfl)).trans ((m_36.1 1 1 _ sX_1 (dk_dq rfl)).trans ((m_34.1 1 1 _ sX_1 (dk_dq rfl)).trans ((dg_uF_ne e_33 (fun z => by have h9 := sX_1; rw [z.1, (pX_0 pt hk_pt)] at h9; cases h9)).trans ((m_30.1 1 1 _ sX_1 (dk_dq rfl)).trans ((dg_uF_ne e_28 (fun z => by have h9 := sX_1; rw [z.1, (pX_0 pt hk_pt)] at h9; cases h9)).trans ((m_24.1 1 1 _ sX_1 (dk_dq rfl)).trans ((dg_uF_ne e_22 (fun z => by have h9 := sX_1; rw [z.1, (pX_0 pt hk_pt)] at h9; cases h9)).trans ((m_19.1 1 1 _ sX_1 (dk_dq rfl)).trans ((dg_uF_ne e_17 (fun z => absurd z.2 (dk_dq rfl))).trans ((m_14.1 1 1 _ sX_1 (dk_dq rfl)).trans ((dg_uF_ne e_12 (fun z => absurd z.2 (dk_dq rfl))).trans ((m_9.1 1 1 _ sX_1 (dk_dq rfl)).trans ((m_7.1 1 1 _ sX_1 (dk_dq rfl)).trans ((dg_uF_ne e_6 (fun z => absurd z.2 (dk_dq rfl))).trans ((dg_uF_ne e_4 (fun z => absurd z.2 (dk_dq rfl))).trans (dg_uF_ne e_2 (fun z => absurd z.2 (dk_dq rfl)))))))))))))))))))))).trans f_x_54) dX4_tellsPit_182 ?_
                  refine lv_icmp_ne (tgt := 211) hx hb dX4_tellsPit_185 (dk_dq rfl) (fun c_55 => ?_) (fun c_55 => ?_)
                  · have jc_55 := dk_neqc (k := (x_54).toInt) rfl c_55
                    refine lv_iconst (v := 0) hx hb dX4_tellsPit_211 (by decide +kernel) ?_
                    have hz_56 : (0 : Int32).toInt = 0 := by decide +kernel
                    refine W.widen (k := 0) (n := 0) (Nat.le_of_ble_eq_true rfl) (Nat.le_of_ble_eq_true rfl) ?_
                    exact dg_iret hx hb hr hlocks (by decide +kernel) hP hS ⟨I_44, M_44, (by decide +kernel), ((dg_FG.tr (dg_FG.tr (dg_FG.tr (dg_FG.tr (dg_FG.tr (dg_FG.tr (dg_FG.tr (dg_FG.tr (dg_FG.tr (dg_FG.tr (dg_FG.tr (dg_FG.tr (dg_FG.tr (dg_FG.tr (dg_FG.tr (dg_FG.sm m_9 (dk_dq rfl)) (dg_FG.uF e_12)) (dg_FG.sm m_14 (dk_dq rfl))) (dg_FG.uF e_17)) (dg_FG.sm m_19 (dk_dq rfl))) (dg_FG.uF e_22)) (dg_FG.sm m_24 (dk_dq rfl))) (dg_FG.uF e_28)) (dg_FG.sm m_30 (dk_dq rfl))) (dg_FG.uF e_33)) w_34_0) (dg_FG.sm m_36 (dk_dq rfl))) (dg_FG.sm m_37 (dk_dq rfl))) (dg_FG.sm m_39 (dk_dq rfl))) (dg_FG.sm m_41 (dk_dq rfl))) (dg_FG.sm m_44 (dk_dq rfl))) pt hk_pt w_7_0), (dg_FG.tr (dg_FG.tr (dg_FG.tr (dg_FG.tr (dg_FG.tr (dg_FG.tr (dg_FG.tr (dg_FG.tr (dg_FG.tr (dg_FG.tr (dg_FG.tr (dg_FG.tr (dg_FG.tr (dg_FG.tr (dg_FG.tr (dg_FG.tr (dg_FG.tr (dg_FG.tr (dg_FG.tr (dg_FG.uF e_2) (dg_FG.uF e_4)) (dg_FG.uF e_6)) w_7_1) (dg_FG.sm m_9 (dk_dq rfl))) (dg_FG.uF e_12)) (dg_FG.sm m_14 (dk_dq rfl))) (dg_FG.uF e_17)) (dg_FG.sm m_19 (dk_dq rfl))) (dg_FG.uF e_22)) (dg_FG.sm m_24 (dk_dq rfl))) (dg_FG.uF e_28)) (dg_FG.sm m_30 (dk_dq rfl))) (dg_FG.uF e_33)) w_34_0) (dg_FG.sm m_36 (dk_dq rfl))) (dg_FG.sm m_37 (dk_dq rfl))) (dg_FG.sm m_39 (dk_dq rfl))) (dg_FG.sm m_41 (dk_dq rfl))) (dg_FG.sm m_44 (dk_dq rfl))), ⟨congrArg Prod.fst (Eq.symm (Eq.trans hF_5 (F_i_tellsPit_p2 c_46 (zI_eq f_x_50) c_51 (zI_eq f_x_53) (zI_eq f_x_54) c_55))), congrArg Prod.snd (Eq.symm (Eq.trans hF_5 (F_i_tellsPit_p2 c_46 (zI_eq f_x_50) c_51 (zI_eq f_x_53) (zI_eq f_x_54) c_55)))⟩, trivial⟩ dX4_tellsPit_212
                  · as_aux_lemma =>
                      have jc_55 := dk_eqc (k := (x_54).toInt) rfl c_55
                      refine lv_aload_n hx hb dX4_tellsPit_188 rfl (lv_at hl 3 rfl) ?_
                      refine dg_get (C := RX5) (T := TX5) (N := 8) hx hb hts (fun w h => bw_mem (wU_X5 w h)) hown K hP (pX_0 pt hk_pt) rfl 0 (dk_dq rfl) (hts _ (bw_mem wB_785)) (fun _ h9 => h9) (v := .int x_16) (((m_44.1 pt 0 _ (pX_0 pt hk_pt) (dk_dq rfl)).trans ((m_41.1 pt 0 _ (pX_0 pt hk_pt) (dk_dq rfl)).trans ((m_39.1 pt 0 _ (pX_0 pt hk_pt) (dk_dq rfl)).trans ((m_37.1 pt 0 _ (pX_0 pt hk_pt) (dk_dq rfl)).trans ((m_36.1 pt 0 _ (pX_0 pt hk_pt) (dk_dq rfl)).trans ((m_34.1 pt 0 _ (pX_0 pt hk_pt) (dk_dq rfl)).trans ((dg_uF_ne e_33 (fun z => absurd z.2 (dk_dq rfl))).trans ((m_30.1 pt 0 _ (pX_0 pt hk_pt) (dk_dq rfl)).trans ((dg_uF_ne e_28 (fun z => absurd z.2 (dk_dq rfl))).trans ((m_24.1 pt 0 _ (pX_0 pt hk_pt) (dk_dq rfl)).trans ((dg_uF_ne e_22 (fun z => absurd z.2 (dk_dq rfl))).trans (m_19.1 pt 0 _ (pX_0 pt hk_pt) (dk_dq rfl))))))))))))).trans (dg_uF_at e_17)) dX4_tellsPit_189 ?_
                      refine lv_sipush (v := 999) hx hb dX4_tellsPit_192 (by decide +kernel) ?_
                      refine lv_icmp_gt (tgt := 211) hx hb dX4_tellsPit_195 (dk_dq rfl) (fun c_57 => ?_) (fun c_57 => ?_)
                      · have jc_57 := dk_gtc (k := 999) (by decide +kernel) c_57
                        refine lv_iconst (v := 0) hx hb dX4_tellsPit_211 (by decide +kernel) ?_
                        have hz_58 : (0 : Int32).toInt = 0 := by decide +kernel
                        refine W.widen (k := 0) (n := 0) (Nat.le_of_ble_eq_true rfl) (Nat.le_of_ble_eq_true rfl) ?_
                        exact dg_iret hx hb hr hlocks (by decide +kernel) hP hS ⟨I_44, M_44, (by decide +kernel), ((dg_FG.tr (dg_FG.tr (dg_FG.tr (dg_FG.tr (dg_FG.tr (dg_FG.tr (dg_FG.tr (dg_FG.tr (dg_FG.tr (dg_FG.tr (dg_FG.tr (dg_FG.tr (dg_FG.tr (dg_FG.tr (dg_FG.tr (dg_FG.sm m_9 (dk_dq rfl)) (dg_FG.uF e_12)) (dg_FG.sm m_14 (dk_dq rfl))) (dg_FG.uF e_17)) (dg_FG.sm m_19 (dk_dq rfl))) (dg_FG.uF e_22)) (dg_FG.sm m_24 (dk_dq rfl))) (dg_FG.uF e_28)) (dg_FG.sm m_30 (dk_dq rfl))) (dg_FG.uF e_33)) w_34_0) (dg_FG.sm m_36 (dk_dq rfl))) (dg_FG.sm m_37 (dk_dq rfl))) (dg_FG.sm m_39 (dk_dq rfl))) (dg_FG.sm m_41 (dk_dq rfl))) (dg_FG.sm m_44 (dk_dq rfl))) pt hk_pt w_7_0), (dg_FG.tr (dg_FG.tr (dg_FG.tr (dg_FG.tr (dg_FG.tr (dg_FG.tr (dg_FG.tr (dg_FG.tr (dg_FG.tr (dg_FG.tr (dg_FG.tr (dg_FG.tr (dg_FG.tr (dg_FG.tr (dg_FG.tr (dg_FG.tr (dg_FG.tr (dg_FG.tr (dg_FG.tr (dg_FG.uF e_2) (dg_FG.uF e_4)) (dg_FG.uF e_6)) w_7_1) (dg_FG.sm m_9 (dk_dq rfl))) (dg_FG.uF e_12)) (dg_FG.sm m_14 (dk_dq rfl))) (dg_FG.uF e_17)) (dg_FG.sm m_19 (dk_dq rfl))) (dg_FG.uF e_22)) (dg_FG.sm m_24 (dk_dq rfl))) (dg_FG.uF e_28)) (dg_FG.sm m_30 (dk_dq rfl))) (dg_FG.uF e_33)) w_34_0) (dg_FG.sm m_36 (dk_dq rfl))) (dg_FG.sm m_37 (dk_dq rfl))) (dg_FG.sm m_39 (dk_dq rfl))) (dg_FG.sm m_41 (dk_dq rfl))) (dg_FG.sm m_44 (dk_dq rfl))), ⟨congrArg Prod.fst (Eq.symm (Eq.trans hF_5 (F_i_tellsPit_p3 c_46 (zI_eq f_x_50) c_51 (zI_eq f_x_53) (zI_eq f_x_54) c_55 c_57))), congrArg Prod.snd (Eq.symm (Eq.trans hF_5 (F_i_tellsPit_p3 c_46 (zI_eq f_x_50) c_51 (zI_eq f_x_53) (zI_eq f_x_54) c_55 c_57)))⟩, trivial⟩ dX4_tellsPit_212
                      · as_aux_lemma =>
                          have jc_57 := dk_ngtc (k := 999) (by decide +kernel) c_57
                          refine lv_aload_n hx hb dX4_tellsPit_198 rfl (lv_at hl 3 rfl) ?_
                          refine dg_get (C := RX5) (T := TX5) (N := 8) hx hb hts (fun w h => bw_mem (wU_X5 w h)) hown K hP (pX_0 pt hk_pt) rfl 1 (dk_dq rfl) (hts _ (bw_mem wB_786)) (fun _ h9 => h9) (v := .int x_32) (((m_44.1 pt 1 _ (pX_0 pt hk_pt) (dk_dq rfl)).trans ((m_41.1 pt 1 _ (pX_0 pt hk_pt) (dk_dq rfl)).trans ((m_39.1 pt 1 _ (pX_0 pt hk_pt) (dk_dq rfl)).trans ((m_37.1 pt 1 _ (pX_0 pt hk_pt) (dk_dq rfl)).trans ((m_36.1 pt 1 _ (pX_0 pt hk_pt) (dk_dq rfl)).trans (m_34.1 pt 1 _ (pX_0 pt hk_pt) (dk_dq rfl))))))).trans (dg_uF_at e_33)) dX4_tellsPit_199 ?_
                          refine lv_ldc hx hb hown (hts _ (bw_mem wB_832)) dX4_tellsPit_202 ?_
                          refine lv_icmp_gt (tgt := 211) hx hb dX4_tellsPit_204 (dk_dq rfl) (fun c_59 => ?_) (fun c_59 => ?_)
                          · have jc_59 := dk_gtc (k := 99999) (by decide +kernel) c_59
                            refine lv_iconst (v := 0) hx hb dX4_tellsPit_211 (by decide +kernel) ?_
                            have hz_60 : (0 : Int32).toInt = 0 := by decide +kernel
                            refine W.widen (k := 0) (n := 0) (Nat.le_of_ble_eq_true rfl) (Nat.le_of_ble_eq_true rfl) ?_
                            exact dg_iret hx hb hr hlocks (by decide +kernel) hP hS ⟨I_44, M_44, (by decide +kernel), ((dg_FG.tr (dg_FG.tr (dg_FG.tr (dg_FG.tr (dg_FG.tr (dg_FG.tr (dg_FG.tr (dg_FG.tr (dg_FG.tr (dg_FG.tr (dg_FG.tr (dg_FG.tr (dg_FG.tr (dg_FG.tr (dg_FG.tr (dg_FG.sm m_9 (dk_dq rfl)) (dg_FG.uF e_12)) (dg_FG.sm m_14 (dk_dq rfl))) (dg_FG.uF e_17)) (dg_FG.sm m_19 (dk_dq rfl))) (dg_FG.uF e_22)) (dg_FG.sm m_24 (dk_dq rfl))) (dg_FG.uF e_28)) (dg_FG.sm m_30 (dk_dq rfl))) (dg_FG.uF e_33)) w_34_0) (dg_FG.sm m_36 (dk_dq rfl))) (dg_FG.sm m_37 (dk_dq rfl))) (dg_FG.sm m_39 (dk_dq rfl))) (dg_FG.sm m_41 (dk_dq rfl))) (dg_FG.sm m_44 (dk_dq rfl))) pt hk_pt w_7_0), (dg_FG.tr (dg_FG.tr (dg_FG.tr (dg_FG.tr (dg_FG.tr (dg_FG.tr (dg_FG.tr (dg_FG.tr (dg_FG.tr (dg_FG.tr (dg_FG.tr (dg_FG.tr (dg_FG.tr (dg_FG.tr (dg_FG.tr (dg_FG.tr (dg_FG.tr (dg_FG.tr (dg_FG.tr (dg_FG.uF e_2) (dg_FG.uF e_4)) (dg_FG.uF e_6)) w_7_1) (dg_FG.sm m_9 (dk_dq rfl))) (dg_FG.uF e_12)) (dg_FG.sm m_14 (dk_dq rfl))) (dg_FG.uF e_17)) (dg_FG.sm m_19 (dk_dq rfl))) (dg_FG.uF e_22)) (dg_FG.sm m_24 (dk_dq rfl))) (dg_FG.uF e_28)) (dg_FG.sm m_30 (dk_dq rfl))) (dg_FG.uF e_33)) w_34_0) (dg_FG.sm m_36 (dk_dq rfl))) (dg_FG.sm m_37 (dk_dq rfl))) (dg_FG.sm m_39 (dk_dq rfl))) (dg_FG.sm m_41 (dk_dq rfl))) (dg_FG.sm m_44 (dk_dq rfl))), ⟨congrArg Prod.fst (Eq.symm (Eq.trans hF_5 (F_i_tellsPit_p4 c_46 (zI_eq f_x_50) c_51 (zI_eq f_x_53) (zI_eq f_x_54) c_55 c_57 c_59))), congrArg Prod.snd (Eq.symm (Eq.trans hF_5 (F_i_tellsPit_p4 c_46 (zI_eq f_x_50) c_51 (zI_eq f_x_53) (zI_eq f_x_54) c_55 c_57 c_59)))⟩, trivial⟩ dX4_tellsPit_212
                          · have jc_59 := dk_ngtc (k := 99999) (by decide +kernel) c_59
                            refine lv_iconst (v := 1) hx hb dX4_tellsPit_207 (by decide +kernel) ?_
                            refine lv_goto (tgt := 212) hx hb dX4_tellsPit_208 (dk_dq rfl) ?_
                            have hz_61 : (1 : Int32).toInt = 1 := by decide +kernel
                            refine W.widen (k := 0) (n := 0) (Nat.le_of_ble_eq_true rfl) (Nat.le_of_ble_eq_true rfl) ?_
                            exact dg_iret hx hb hr hlocks (by decide +kernel) hP hS ⟨I_44, M_44, (by decide +kernel), ((dg_FG.tr (dg_FG.tr (dg_FG.tr (dg_FG.tr (dg_FG.tr (dg_FG.tr (dg_FG.tr (dg_FG.tr (dg_FG.tr (dg_FG.tr (dg_FG.tr (dg_FG.tr (dg_FG.tr (dg_FG.tr (dg_FG.tr (dg_FG.sm m_9 (dk_dq rfl)) (dg_FG.uF e_12)) (dg_FG.sm m_14 (dk_dq rfl))) (dg_FG.uF e_17)) (dg_FG.sm m_19 (dk_dq rfl))) (dg_FG.uF e_22)) (dg_FG.sm m_24 (dk_dq rfl))) (dg_FG.uF e_28)) (dg_FG.sm m_30 (dk_dq rfl))) (dg_FG.uF e_33)) w_34_0) (dg_FG.sm m_36 (dk_dq rfl))) (dg_FG.sm m_37 (dk_dq rfl))) (dg_FG.sm m_39 (dk_dq rfl))) (dg_FG.sm m_41 (dk_dq rfl))) (dg_FG.sm m_44 (dk_dq rfl))) pt hk_pt w_7_0), (dg_FG.tr (dg_FG.tr (dg_FG.tr (dg_FG.tr (dg_FG.tr (dg_FG.tr (dg_FG.tr (dg_FG.tr (dg_FG.tr (dg_FG.tr (dg_FG.tr (dg_FG.tr (dg_FG.tr (dg_FG.tr (dg_FG.tr (dg_FG.tr (dg_FG.tr (dg_FG.tr (dg_FG.tr (dg_FG.uF e_2) (dg_FG.uF e_4)) (dg_FG.uF e_6)) w_7_1) (dg_FG.sm m_9 (dk_dq rfl))) (dg_FG.uF e_12)) (dg_FG.sm m_14 (dk_dq rfl))) (dg_FG.uF e_17)) (dg_FG.sm m_19 (dk_dq rfl))) (dg_FG.uF e_22)) (dg_FG.sm m_24 (dk_dq rfl))) (dg_FG.uF e_28)) (dg_FG.sm m_30 (dk_dq rfl))) (dg_FG.uF e_33)) w_34_0) (dg_FG.sm m_36 (dk_dq rfl))) (dg_FG.sm m_37 (dk_dq rfl))) (dg_FG.sm m_39 (dk_dq rfl))) (dg_FG.sm m_41 (dk_dq rfl))) (dg_FG.sm m_44 (dk_dq rfl))), ⟨congrArg Prod.fst (Eq.symm (Eq.trans hF_5 (F_i_tellsPit_p5 c_46 (zI_eq f_x_50) c_51 (zI_eq f_x_53) (zI_eq f_x_54) c_55 c_57 c_59))), congrArg Prod.snd (Eq.symm (Eq.trans hF_5 (F_i_tellsPit_p5 c_46 (zI_eq f_x_50) c_51 (zI_eq f_x_53) (zI_eq f_x_54) c_55 c_57 c_59)))⟩, trivial⟩ dX4_tellsPit_212
        