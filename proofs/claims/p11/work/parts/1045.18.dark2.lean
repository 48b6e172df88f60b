/-! 18.dark2.lean.txt -/
theorem dX11_feed_0 : decode cX11_feed 0 = .ok (.aload_n 0, 1) := dk_o42 (by decide +kernel)
theorem dX11_feed_1 : decode cX11_feed 1 = .ok (.getfield 10, 3) := dk_o180 (by decide +kernel)
theorem dX11_feed_4 : decode cX11_feed 4 = .ok (.getfield 97, 3) := dk_o180 (by decide +kernel)
theorem dX11_feed_7 : decode cX11_feed 7 = .ok (.bipush 20, 2) := dk_o16 (by decide +kernel)
theorem dX11_feed_9 : decode cX11_feed 9 = .ok (.iadd, 1) := dk_o96 (by decide +kernel)
theorem dX11_feed_10 : decode cX11_feed 10 = .ok (.sipush 1600, 3) := dk_o17 (by decide +kernel)
theorem dX11_feed_13 : decode cX11_feed 13 = .ok (.if_icmp .le 9, 3) := dk_o164 (by decide +kernel)
theorem dX11_feed_16 : decode cX11_feed 16 = .ok (.aload_n 0, 1) := dk_o42 (by decide +kernel)
theorem dX11_feed_17 : decode cX11_feed 17 = .ok (.iconst 0, 1) := dk_o3 (by decide +kernel)
theorem dX11_feed_18 : decode cX11_feed 18 = .ok (.invokevirtual 100, 3) := dk_o182 (by decide +kernel)
theorem dX11_feed_21 : decode cX11_feed 21 = .ok (.ireturn, 1) := dk_o172 (by decide +kernel)
theorem dX11_feed_22 : decode cX11_feed 22 = .ok (.aload_n 0, 1) := dk_o42 (by decide +kernel)
theorem dX11_feed_23 : decode cX11_feed 23 = .ok (.getfield 10, 3) := dk_o180 (by decide +kernel)
theorem dX11_feed_26 : decode cX11_feed 26 = .ok (.iload_n 1, 1) := dk_o27 (by decide +kernel)
theorem dX11_feed_27 : decode cX11_feed 27 = .ok (.invokevirtual 104, 3) := dk_o182 (by decide +kernel)
theorem dX11_feed_30 : decode cX11_feed 30 = .ok (.aload_n 0, 1) := dk_o42 (by decide +kernel)
theorem dX11_feed_31 : decode cX11_feed 31 = .ok (.getfield 10, 3) := dk_o180 (by decide +kernel)
theorem dX11_feed_34 : decode cX11_feed 34 = .ok (.iload_n 2, 1) := dk_o28 (by decide +kernel)
theorem dX11_feed_35 : decode cX11_feed 35 = .ok (.invokevirtual 104, 3) := dk_o182 (by decide +kernel)
theorem dX11_feed_38 : decode cX11_feed 38 = .ok (.aload_n 0, 1) := dk_o42 (by decide +kernel)
theorem dX11_feed_39 : decode cX11_feed 39 = .ok (.getfield 10, 3) := dk_o180 (by decide +kernel)
theorem dX11_feed_42 : decode cX11_feed 42 = .ok (.iload_n 3, 1) := dk_o29 (by decide +kernel)
theorem dX11_feed_43 : decode cX11_feed 43 = .ok (.invokevirtual 104, 3) := dk_o182 (by decide +kernel)
theorem dX11_feed_46 : decode cX11_feed 46 = .ok (.aload_n 0, 1) := dk_o42 (by decide +kernel)
theorem dX11_feed_47 : decode cX11_feed 47 = .ok (.getfield 10, 3) := dk_o180 (by decide +kernel)
theorem dX11_feed_50 : decode cX11_feed 50 = .ok (.iload 4, 2) := dk_o21 (by decide +kernel)
theorem dX11_feed_52 : decode cX11_feed 52 = .ok (.invokevirtual 104, 3) := dk_o182 (by decide +kernel)
theorem dX11_feed_55 : decode cX11_feed 55 = .ok (.aload_n 0, 1) := dk_o42 (by decide +kernel)
theorem dX11_feed_56 : decode cX11_feed 56 = .ok (.getfield 10, 3) := dk_o180 (by decide +kernel)
theorem dX11_feed_59 : decode cX11_feed 59 = .ok (.iload 5, 2) := dk_o21 (by decide +kernel)
theorem dX11_feed_61 : decode cX11_feed 61 = .ok (.invokevirtual 104, 3) := dk_o182 (by decide +kernel)
theorem dX11_feed_64 : decode cX11_feed 64 = .ok (.aload_n 0, 1) := dk_o42 (by decide +kernel)
theorem dX11_feed_65 : decode cX11_feed 65 = .ok (.getfield 10, 3) := dk_o180 (by decide +kernel)
theorem dX11_feed_68 : decode cX11_feed 68 = .ok (.getfield 97, 3) := dk_o180 (by decide +kernel)
theorem dX11_feed_71 : decode cX11_feed 71 = .ok (.ireturn, 1) := dk_o172 (by decide +kernel)
theorem dX11_end_0 : decode cX11_end 0 = .ok (.iload_n 1, 1) := dk_o27 (by decide +kernel)
theorem dX11_end_1 : decode cX11_end 1 = .ok (.ifCond .lt 14, 3) := dk_o155 (by decide +kernel)
theorem dX11_end_4 : decode cX11_end 4 = .ok (.iload_n 1, 1) := dk_o27 (by decide +kernel)
theorem dX11_end_5 : decode cX11_end 5 = .ok (.aload_n 0, 1) := dk_o42 (by decide +kernel)
theorem dX11_end_6 : decode cX11_end 6 = .ok (.getfield 10, 3) := dk_o180 (by decide +kernel)
theorem dX11_end_9 : decode cX11_end 9 = .ok (.getfield 97, 3) := dk_o180 (by decide +kernel)
theorem dX11_end_12 : decode cX11_end 12 = .ok (.if_icmp .le 9, 3) := dk_o164 (by decide +kernel)
theorem dX11_end_15 : decode cX11_end 15 = .ok (.aload_n 0, 1) := dk_o42 (by decide +kernel)
theorem dX11_end_16 : decode cX11_end 16 = .ok (.iconst 0, 1) := dk_o3 (by decide +kernel)
theorem dX11_end_17 : decode cX11_end 17 = .ok (.invokevirtual 108, 3) := dk_o182 (by decide +kernel)
theorem dX11_end_20 : decode cX11_end 20 = .ok (.ireturn, 1) := dk_o172 (by decide +kernel)
theorem dX11_end_21 : decode cX11_end 21 = .ok (.aload_n 0, 1) := dk_o42 (by decide +kernel)
theorem dX11_end_22 : decode cX11_end 22 = .ok (.getfield 10, 3) := dk_o180 (by decide +kernel)
theorem dX11_end_25 : decode cX11_end 25 = .ok (.iload_n 1, 1) := dk_o27 (by decide +kernel)
theorem dX11_end_26 : decode cX11_end 26 = .ok (.putfield 97, 3) := dk_o181 (by decide +kernel)
theorem dX11_end_29 : decode cX11_end 29 = .ok (.iconst 1, 1) := dk_o4 (by decide +kernel)
theorem dX11_end_30 : decode cX11_end 30 = .ok (.ireturn, 1) := dk_o172 (by decide +kernel)
theorem dX11_fault_0 : decode cX11_fault 0 = .ok (.iload_n 1, 1) := dk_o27 (by decide +kernel)
theorem dX11_fault_1 : decode cX11_fault 1 = .ok (.ifCond .ne 11, 3) := dk_o154 (by decide +kernel)
theorem dX11_fault_4 : decode cX11_fault 4 = .ok (.aload_n 0, 1) := dk_o42 (by decide +kernel)
theorem dX11_fault_5 : decode cX11_fault 5 = .ok (.getfield 61, 3) := dk_o180 (by decide +kernel)
theorem dX11_fault_8 : decode cX11_fault 8 = .ok (.getfield 125, 3) := dk_o180 (by decide +kernel)
theorem dX11_fault_11 : decode cX11_fault 11 = .ok (.ireturn, 1) := dk_o172 (by decide +kernel)
theorem dX11_fault_12 : decode cX11_fault 12 = .ok (.iload_n 1, 1) := dk_o27 (by decide +kernel)
theorem dX11_fault_13 : decode cX11_fault 13 = .ok (.iconst 1, 1) := dk_o4 (by decide +kernel)
theorem dX11_fault_14 : decode cX11_fault 14 = .ok (.if_icmp .ne 13, 3) := dk_o160 (by decide +kernel)
theorem dX11_fault_17 : decode cX11_fault 17 = .ok (.aload_n 0, 1) := dk_o42 (by decide +kernel)
theorem dX11_fault_18 : decode cX11_fault 18 = .ok (.getfield 61, 3) := dk_o180 (by decide +kernel)
theorem dX11_fault_21 : decode cX11_fault 21 = .ok (.getfield 128, 3) := dk_o180 (by decide +kernel)
theorem dX11_fault_24 : decode cX11_fault 24 = .ok (.goto 4, 3) := dk_o167 (by decide +kernel)
theorem dX11_fault_27 : decode cX11_fault 27 = .ok (.iconst (-1), 1) := dk_o2 (by decide +kernel)
theorem dX11_fault_28 : decode cX11_fault 28 = .ok (.ireturn, 1) := dk_o172 (by decide +kernel)
theorem dX11_has_0 : decode cX11_has 0 = .ok (.iload_n 1, 1) := dk_o27 (by decide +kernel)
theorem dX11_has_1 : decode cX11_has 1 = .ok (.tableswitch 205 0 16 #[83, 91, 99, 107, 115, 123, 131, 136, 141, 146, 151, 160, 168, 176, 184, 192, 200], 83) := by decide +kernel
theorem dX11_has_84 : decode cX11_has 84 = .ok (.aload_n 0, 1) := dk_o42 (by decide +kernel)
theorem dX11_has_85 : decode cX11_has 85 = .ok (.getfield 49, 3) := dk_o180 (by decide +kernel)
theorem dX11_has_88 : decode cX11_has 88 = .ok (.getfield 131, 3) := dk_o180 (by decide +kernel)
theorem dX11_has_91 : decode cX11_has 91 = .ok (.ireturn, 1) := dk_o172 (by decide +kernel)
theorem dX11_has_92 : decode cX11_has 92 = .ok (.aload_n 0, 1) := dk_o42 (by decide +kernel)
theorem dX11_has_93 : decode cX11_has 93 = .ok (.getfield 49, 3) := dk_o180 (by decide +kernel)
theorem dX11_has_96 : decode cX11_has 96 = .ok (.getfield 134, 3) := dk_o180 (by decide +kernel)
theorem dX11_has_99 : decode cX11_has 99 = .ok (.ireturn, 1) := dk_o172 (by decide +kernel)
theorem dX11_has_100 : decode cX11_has 100 = .ok (.aload_n 0, 1) := dk_o42 (by decide +kernel)
theorem dX11_has_101 : decode cX11_has 101 = .ok (.getfield 49, 3) := dk_o180 (by decide +kernel)
theorem dX11_has_104 : decode cX11_has 104 = .ok (.getfield 137, 3) := dk_o180 (by decide +kernel)
theorem dX11_has_107 : decode cX11_has 107 = .ok (.ireturn, 1) := dk_o172 (by decide +kernel)
theorem dX11_has_108 : decode cX11_has 108 = .ok (.aload_n 0, 1) := dk_o42 (by decide +kernel)
theorem dX11_has_109 : decode cX11_has 109 = .ok (.getfield 49, 3) := dk_o180 (by decide +kernel)
theorem dX11_has_112 : decode cX11_has 112 = .ok (.getfield 140, 3) := dk_o180 (by decide +kernel)
theorem dX11_has_115 : decode cX11_has 115 = .ok (.ireturn, 1) := dk_o172 (by decide +kernel)
theorem dX11_has_116 : decode cX11_has 116 = .ok (.aload_n 0, 1) := dk_o42 (by decide +kernel)
theorem dX11_has_117 : decode cX11_has 117 = .ok (.getfield 49, 3) := dk_o180 (by decide +kernel)
theorem dX11_has_120 : decode cX11_has 120 = .ok (.getfield 143, 3) := dk_o180 (by decide +kernel)
theorem dX11_has_123 : decode cX11_has 123 = .ok (.ireturn, 1) := dk_o172 (by decide +kernel)
theorem dX11_has_124 : decode cX11_has 124 = .ok (.aload_n 0, 1) := dk_o42 (by decide +kernel)
theorem dX11_has_125 : decode cX11_has 125 = .ok (.getfield 19, 3) := dk_o180 (by decide +kernel)
theorem dX11_has_128 : decode cX11_has 128 = .ok (.getfield 146, 3) := dk_o180 (by decide +kernel)
theorem dX11_has_131 : decode cX11_has 131 = .ok (.ireturn, 1) := dk_o172 (by decide +kernel)
theorem dX11_has_132 : decode cX11_has 132 = .ok (.aload_n 0, 1) := dk_o42 (by decide +kernel)
theorem dX11_has_133 : decode cX11_has 133 = .ok (.invokevirtual 149, 3) := dk_o182 (by decide +kernel)
theorem dX11_has_136 : decode cX11_has 136 = .ok (.ireturn, 1) := dk_o172 (by decide +kernel)
theorem dX11_has_137 : decode cX11_has 137 = .ok (.aload_n 0, 1) := dk_o42 (by decide +kernel)
theorem dX11_has_138 : decode cX11_has 138 = .ok (.invokevirtual 153, 3) := dk_o182 (by decide +kernel)
theorem dX11_has_141 : decode cX11_has 141 = .ok (.ireturn, 1) := dk_o172 (by decide +kernel)
theorem dX11_has_142 : decode cX11_has 142 = .ok (.aload_n 0, 1) := dk_o42 (by decide +kernel)
theorem dX11_has_143 : decode cX11_has 143 = .ok (.invokevirtual 156, 3) := dk_o182 (by decide +kernel)
theorem dX11_has_146 : decode cX11_has 146 = .ok (.ireturn, 1) := dk_o172 (by decide +kernel)
theorem dX11_has_147 : decode cX11_has 147 = .ok (.aload_n 0, 1) := dk_o42 (by decide +kernel)
theorem dX11_has_148 : decode cX11_has 148 = .ok (.invokevirtual 159, 3) := dk_o182 (by decide +kernel)
theorem dX11_has_151 : decode cX11_has 151 = .ok (.ireturn, 1) := dk_o172 (by decide +kernel)
theorem dX11_has_152 : decode cX11_has 152 = .ok (.aload_n 0, 1) := dk_o42 (by decide +kernel)
theorem dX11_has_153 : decode cX11_has 153 = .ok (.getfield 19, 3) := dk_o180 (by decide +kernel)
theorem dX11_has_156 : decode cX11_has 156 = .ok (.iconst 0, 1) := dk_o3 (by decide +kernel)
theorem dX11_has_157 : decode cX11_has 157 = .ok (.invokevirtual 162, 3) := dk_o182 (by decide +kernel)
theorem dX11_has_160 : decode cX11_has 160 = .ok (.ireturn, 1) := dk_o172 (by decide +kernel)
theorem dX11_has_161 : decode cX11_has 161 = .ok (.aload_n 0, 1) := dk_o42 (by decide +kernel)
theorem dX11_has_162 : decode cX11_has 162 = .ok (.getfield 19, 3) := dk_o180 (by decide +kernel)
theorem dX11_has_165 : decode cX11_has 165 = .ok (.getfield 165, 3) := dk_o180 (by decide +kernel)
theorem dX11_has_168 : decode cX11_has 168 = .ok (.ireturn, 1) := dk_o172 (by decide +kernel)
theorem dX11_has_169 : decode cX11_has 169 = .ok (.aload_n 0, 1) := dk_o42 (by decide +kernel)
theorem dX11_has_170 : decode cX11_has 170 = .ok (.getfield 19, 3) := dk_o180 (by decide +kernel)
theorem dX11_has_173 : decode cX11_has 173 = .ok (.invokevirtual 168, 3) := dk_o182 (by decide +kernel)
theorem dX11_has_176 : decode cX11_has 176 = .ok (.ireturn, 1) := dk_o172 (by decide +kernel)
theorem dX11_has_177 : decode cX11_has 177 = .ok (.aload_n 0, 1) := dk_o42 (by decide +kernel)
theorem dX11_has_178 : decode cX11_has 178 = .ok (.getfield 29, 3) := dk_o180 (by decide +kernel)
theorem dX11_has_181 : decode cX11_has 181 = .ok (.getfield 171, 3) := dk_o180 (by decide +kernel)
theorem dX11_has_184 : decode cX11_has 184 = .ok (.ireturn, 1) := dk_o172 (by decide +kernel)
theorem dX11_has_185 : decode cX11_has 185 = .ok (.aload_n 0, 1) := dk_o42 (by decide +kernel)
theorem dX11_has_186 : decode cX11_has 186 = .ok (.getfield 86, 3) := dk_o180 (by decide +kernel)
theorem dX11_has_189 : decode cX11_has 189 = .ok (.getfield 119, 3) := dk_o180 (by decide +kernel)
theorem dX11_has_192 : decode cX11_has 192 = .ok (.ireturn, 1) := dk_o172 (by decide +kernel)
theorem dX11_has_193 : decode cX11_has 193 = .ok (.aload_n 0, 1) := dk_o42 (by decide +kernel)
theorem dX11_has_194 : decode cX11_has 194 = .ok (.getfield 29, 3) := dk_o180 (by decide +kernel)
theorem dX11_has_197 : decode cX11_has 197 = .ok (.getfield 174, 3) := dk_o180 (by decide +kernel)
theorem dX11_has_200 : decode cX11_has 200 = .ok (.ireturn, 1) := dk_o172 (by decide +kernel)
theorem dX11_has_201 : decode cX11_has 201 = .ok (.aload_n 0, 1) := dk_o42 (by decide +kernel)
theorem dX11_has_202 : decode cX11_has 202 = .ok (.getfield 90, 3) := dk_o180 (by decide +kernel)
theorem dX11_has_205 : decode cX11_has 205 = .ok (.ireturn, 1) := dk_o172 (by decide +kernel)
theorem dX11_has_206 : decode cX11_has 206 = .ok (.iconst (-1), 1) := dk_o2 (by decide +kernel)
theorem dX11_has_207 : decode cX11_has 207 = .ok (.ireturn, 1) := dk_o172 (by decide +kernel)
theorem dX11_letter_0 : decode cX11_letter 0 = .ok (.iload_n 1, 1) := dk_o27 (by decide +kernel)
theorem dX11_letter_1 : decode cX11_letter 1 = .ok (.ifCond .ne 36, 3) := dk_o154 (by decide +kernel)
theorem dX11_letter_4 : decode cX11_letter 4 = .ok (.iload_n 2, 1) := dk_o28 (by decide +kernel)
theorem dX11_letter_5 : decode cX11_letter 5 = .ok (.ifCond .lt 30, 3) := dk_o155 (by decide +kernel)
theorem dX11_letter_8 : decode cX11_letter 8 = .ok (.iload_n 2, 1) := dk_o28 (by decide +kernel)
theorem dX11_letter_9 : decode cX11_letter 9 = .ok (.aload_n 0, 1) := dk_o42 (by decide +kernel)
theorem dX11_letter_10 : decode cX11_letter 10 = .ok (.getfield 49, 3) := dk_o180 (by decide +kernel)
theorem dX11_letter_13 : decode cX11_letter 13 = .ok (.getfield 137, 3) := dk_o180 (by decide +kernel)
theorem dX11_letter_16 : decode cX11_letter 16 = .ok (.if_icmp .ge 19, 3) := dk_o162 (by decide +kernel)
theorem dX11_letter_19 : decode cX11_letter 19 = .ok (.aload_n 0, 1) := dk_o42 (by decide +kernel)
theorem dX11_letter_20 : decode cX11_letter 20 = .ok (.getfield 49, 3) := dk_o180 (by decide +kernel)
theorem dX11_letter_23 : decode cX11_letter 23 = .ok (.getfield 177, 3) := dk_o180 (by decide +kernel)
theorem dX11_letter_26 : decode cX11_letter 26 = .ok (.iload_n 2, 1) := dk_o28 (by decide +kernel)
theorem dX11_letter_27 : decode cX11_letter 27 = .ok (.iaload, 1) := dk_o46 (by decide +kernel)
theorem dX11_letter_28 : decode cX11_letter 28 = .ok (.iload_n 3, 1) := dk_o29 (by decide +kernel)
theorem dX11_letter_29 : decode cX11_letter 29 = .ok (.invokestatic 180, 3) := dk_o184 (by decide +kernel)
theorem dX11_letter_32 : decode cX11_letter 32 = .ok (.goto 4, 3) := dk_o167 (by decide +kernel)
theorem dX11_letter_35 : decode cX11_letter 35 = .ok (.iconst (-1), 1) := dk_o2 (by decide +kernel)
theorem dX11_letter_36 : decode cX11_letter 36 = .ok (.ireturn, 1) := dk_o172 (by decide +kernel)
theorem dX11_letter_37 : decode cX11_letter 37 = .ok (.iload_n 1, 1) := dk_o27 (by decide +kernel)
theorem dX11_letter_38 : decode cX11_letter 38 = .ok (.iconst 1, 1) := dk_o4 (by decide +kernel)
theorem dX11_letter_39 : decode cX11_letter 39 = .ok (.if_icmp .ne 36, 3) := dk_o160 (by decide +kernel)
theorem dX11_letter_42 : decode cX11_letter 42 = .ok (.iload_n 2, 1) := dk_o28 (by decide +kernel)
theorem dX11_letter_43 : decode cX11_letter 43 = .ok (.ifCond .lt 30, 3) := dk_o155 (by decide +kernel)
theorem dX11_letter_46 : decode cX11_letter 46 = .ok (.iload_n 2, 1) := dk_o28 (by decide +kernel)
theorem dX11_letter_47 : decode cX11_letter 47 = .ok (.aload_n 0, 1) := dk_o42 (by decide +kernel)
theorem dX11_letter_48 : decode cX11_letter 48 = .ok (.getfield 49, 3) := dk_o180 (by decide +kernel)
theorem dX11_letter_51 : decode cX11_letter 51 = .ok (.getfield 143, 3) := dk_o180 (by decide +kernel)
theorem dX11_letter_54 : decode cX11_letter 54 = .ok (.if_icmp .ge 19, 3) := dk_o162 (by decide +kernel)
theorem dX11_letter_57 : decode cX11_letter 57 = .ok (.aload_n 0, 1) := dk_o42 (by decide +kernel)
theorem dX11_letter_58 : decode cX11_letter 58 = .ok (.getfield 49, 3) := dk_o180 (by decide +kernel)
theorem dX11_letter_61 : decode cX11_letter 61 = .ok (.getfield 184, 3) := dk_o180 (by decide +kernel)
theorem dX11_letter_64 : decode cX11_letter 64 = .ok (.iload_n 2, 1) := dk_o28 (by decide +kernel)
theorem dX11_letter_65 : decode cX11_letter 65 = .ok (.iaload, 1) := dk_o46 (by decide +kernel)
theorem dX11_letter_66 : decode cX11_letter 66 = .ok (.iload_n 3, 1) := dk_o29 (by decide +kernel)
theorem dX11_letter_67 : decode cX11_letter 67 = .ok (.invokestatic 180, 3) := dk_o184 (by decide +kernel)
theorem dX11_letter_70 : decode cX11_letter 70 = .ok (.goto 4, 3) := dk_o167 (by decide +kernel)
theorem dX11_letter_73 : decode cX11_letter 73 = .ok (.iconst (-1), 1) := dk_o2 (by decide +kernel)
theorem dX11_letter_74 : decode cX11_letter 74 = .ok (.ireturn, 1) := dk_o172 (by decide +kernel)
theorem dX11_letter_75 : decode cX11_letter 75 = .ok (.iconst (-1), 1) := dk_o2 (by decide +kernel)
theorem dX11_letter_76 : decode cX11_letter 76 = .ok (.ireturn, 1) := dk_o172 (by decide +kernel)
theorem dX11_cell_0 : decode cX11_cell 0 = .ok (.aload_n 0, 1) := dk_o42 (by decide +kernel)
theorem dX11_cell_1 : decode cX11_cell 1 = .ok (.getfield 49, 3) := dk_o180 (by decide +kernel)
theorem dX11_cell_4 : decode cX11_cell 4 = .ok (.iload_n 1, 1) := dk_o27 (by decide +kernel)
theorem dX11_cell_5 : decode cX11_cell 5 = .ok (.iload_n 2, 1) := dk_o28 (by decide +kernel)
theorem dX11_cell_6 : decode cX11_cell 6 = .ok (.invokevirtual 187, 3) := dk_o182 (by decide +kernel)
theorem dX11_cell_9 : decode cX11_cell 9 = .ok (.istore 4, 2) := dk_o54 (by decide +kernel)
theorem dX11_cell_11 : decode cX11_cell 11 = .ok (.iload 4, 2) := dk_o21 (by decide +kernel)
theorem dX11_cell_13 : decode cX11_cell 13 = .ok (.iconst (-1), 1) := dk_o2 (by decide +kernel)
theorem dX11_cell_14 : decode cX11_cell 14 = .ok (.if_icmp .ne 5, 3) := dk_o160 (by decide +kernel)
theorem dX11_cell_17 : decode cX11_cell 17 = .ok (.iconst (-1), 1) := dk_o2 (by decide +kernel)
theorem dX11_cell_18 : decode cX11_cell 18 = .ok (.ireturn, 1) := dk_o172 (by decide +kernel)
theorem dX11_cell_19 : decode cX11_cell 19 = .ok (.aload_n 0, 1) := dk_o42 (by decide +kernel)
theorem dX11_cell_20 : decode cX11_cell 20 = .ok (.getfield 70, 3) := dk_o180 (by decide +kernel)
theorem dX11_cell_23 : decode cX11_cell 23 = .ok (.aload_n 0, 1) := dk_o42 (by decide +kernel)
theorem dX11_cell_24 : decode cX11_cell 24 = .ok (.getfield 49, 3) := dk_o180 (by decide +kernel)
theorem dX11_cell_27 : decode cX11_cell 27 = .ok (.aload_n 0, 1) := dk_o42 (by decide +kernel)
theorem dX11_cell_28 : decode cX11_cell 28 = .ok (.getfield 19, 3) := dk_o180 (by decide +kernel)
theorem dX11_cell_31 : decode cX11_cell 31 = .ok (.aload_n 0, 1) := dk_o42 (by decide +kernel)
theorem dX11_cell_32 : decode cX11_cell 32 = .ok (.getfield 49, 3) := dk_o180 (by decide +kernel)
theorem dX11_cell_35 : decode cX11_cell 35 = .ok (.getfield 190, 3) := dk_o180 (by decide +kernel)
theorem dX11_cell_38 : decode cX11_cell 38 = .ok (.invokevirtual 193, 3) := dk_o182 (by decide +kernel)
theorem dX11_cell_41 : decode cX11_cell 41 = .ok (.iload_n 3, 1) := dk_o29 (by decide +kernel)
theorem dX11_cell_42 : decode cX11_cell 42 = .ok (.tableswitch 122 0 5 #[38, 48, 61, 74, 99, 109], 38) := by decide +kernel
theorem dX11_cell_80 : decode cX11_cell 80 = .ok (.aload_n 0, 1) := dk_o42 (by decide +kernel)
theorem dX11_cell_81 : decode cX11_cell 81 = .ok (.getfield 19, 3) := dk_o180 (by decide +kernel)
theorem dX11_cell_84 : decode cX11_cell 84 = .ok (.iload 4, 2) := dk_o21 (by decide +kernel)
theorem dX11_cell_86 : decode cX11_cell 86 = .ok (.invokevirtual 197, 3) := dk_o182 (by decide +kernel)
theorem dX11_cell_89 : decode cX11_cell 89 = .ok (.ireturn, 1) := dk_o172 (by decide +kernel)
theorem dX11_cell_90 : decode cX11_cell 90 = .ok (.aload_n 0, 1) := dk_o42 (by decide +kernel)
theorem dX11_cell_91 : decode cX11_cell 91 = .ok (.getfield 19, 3) := dk_o180 (by decide +kernel)
theorem dX11_cell_94 : decode cX11_cell 94 = .ok (.iload 4, 2) := dk_o21 (by decide +kernel)
theorem dX11_cell_96 : decode cX11_cell 96 = .ok (.invokevirtual 200, 3) := dk_o182 (by decide +kernel)
theorem dX11_cell_99 : decode cX11_cell 99 = .ok (.invokestatic 203, 3) := dk_o184 (by decide +kernel)
theorem dX11_cell_102 : decode cX11_cell 102 = .ok (.ireturn, 1) := dk_o172 (by decide +kernel)
theorem dX11_cell_103 : decode cX11_cell 103 = .ok (.aload_n 0, 1) := dk_o42 (by decide +kernel)
theorem dX11_cell_104 : decode cX11_cell 104 = .ok (.getfield 70, 3) := dk_o180 (by decide +kernel)
theorem dX11_cell_107 : decode cX11_cell 107 = .ok (.iload 4, 2) := dk_o21 (by decide +kernel)
theorem dX11_cell_109 : decode cX11_cell 109 = .ok (.invokevirtual 207, 3) := dk_o182 (by decide +kernel)
theorem dX11_cell_112 : decode cX11_cell 112 = .ok (.invokestatic 203, 3) := dk_o184 (by decide +kernel)
theorem dX11_cell_115 : decode cX11_cell 115 = .ok (.ireturn, 1) := dk_o172 (by decide +kernel)
theorem dX11_cell_116 : decode cX11_cell 116 = .ok (.aload_n 0, 1) := dk_o42 (by decide +kernel)
theorem dX11_cell_117 : decode cX11_cell 117 = .ok (.getfield 19, 3) := dk_o180 (by decide +kernel)
theorem dX11_cell_120 : decode cX11_cell 120 = .ok (.getfield 210, 3) := dk_o180 (by decide +kernel)
theorem dX11_cell_123 : decode cX11_cell 123 = .ok (.iload 4, 2) := dk_o21 (by decide +kernel)
theorem dX11_cell_125 : decode cX11_cell 125 = .ok (.iaload, 1) := dk_o46 (by decide +kernel)
theorem dX11_cell_126 : decode cX11_cell 126 = .ok (.sipush 254, 3) := dk_o17 (by decide +kernel)
theorem dX11_cell_129 : decode cX11_cell 129 = .ok (.if_icmp .ne 7, 3) := dk_o160 (by decide +kernel)
theorem dX11_cell_132 : decode cX11_cell 132 = .ok (.iconst 1, 1) := dk_o4 (by decide +kernel)
theorem dX11_cell_133 : decode cX11_cell 133 = .ok (.goto 4, 3) := dk_o167 (by decide +kernel)
theorem dX11_cell_136 : decode cX11_cell 136 = .ok (.iconst 0, 1) := dk_o3 (by decide +kernel)
theorem dX11_cell_137 : decode cX11_cell 137 = .ok (.invokestatic 203, 3) := dk_o184 (by decide +kernel)
theorem dX11_cell_140 : decode cX11_cell 140 = .ok (.ireturn, 1) := dk_o172 (by decide +kernel)
theorem dX11_cell_141 : decode cX11_cell 141 = .ok (.aload_n 0, 1) := dk_o42 (by decide +kernel)
theorem dX11_cell_142 : decode cX11_cell 142 = .ok (.getfield 70, 3) := dk_o180 (by decide +kernel)
theorem dX11_cell_145 : decode cX11_cell 145 = .ok (.iload 4, 2) := dk_o21 (by decide +kernel)
theorem dX11_cell_147 : decode cX11_cell 147 = .ok (.invokevirtual 213, 3) := dk_o182 (by decide +kernel)
theorem dX11_cell_150 : decode cX11_cell 150 = .ok (.ireturn, 1) := dk_o172 (by decide +kernel)
theorem dX11_cell_151 : decode cX11_cell 151 = .ok (.aload_n 0, 1) := dk_o42 (by decide +kernel)
theorem dX11_cell_152 : decode cX11_cell 152 = .ok (.getfield 70, 3) := dk_o180 (by decide +kernel)
theorem dX11_cell_155 : decode cX11_cell 155 = .ok (.iload 4, 2) := dk_o21 (by decide +kernel)
theorem dX11_cell_157 : decode cX11_cell 157 = .ok (.invokevirtual 216, 3) := dk_o182 (by decide +kernel)
theorem dX11_cell_160 : decode cX11_cell 160 = .ok (.invokestatic 203, 3) := dk_o184 (by decide +kernel)
theorem dX11_cell_163 : decode cX11_cell 163 = .ok (.ireturn, 1) := dk_o172 (by decide +kernel)
theorem dX11_cell_164 : decode cX11_cell 164 = .ok (.iconst (-1), 1) := dk_o2 (by decide +kernel)
theorem dX11_cell_165 : decode cX11_cell 165 = .ok (.ireturn, 1) := dk_o172 (by decide +kernel)
theorem dX11_hurt_0 : decode cX11_hurt 0 = .ok (.aload_n 0, 1) := dk_o42 (by decide +kernel)
theorem dX11_hurt_1 : decode cX11_hurt 1 = .ok (.getfield 49, 3) := dk_o180 (by decide +kernel)
theorem dX11_hurt_4 : decode cX11_hurt 4 = .ok (.iload_n 1, 1) := dk_o27 (by decide +kernel)
theorem dX11_hurt_5 : decode cX11_hurt 5 = .ok (.invokevirtual 219, 3) := dk_o182 (by decide +kernel)
theorem dX11_hurt_8 : decode cX11_hurt 8 = .ok (.ifCond .eq 15, 3) := dk_o153 (by decide +kernel)
theorem dX11_hurt_11 : decode cX11_hurt 11 = .ok (.aload_n 0, 1) := dk_o42 (by decide +kernel)
theorem dX11_hurt_12 : decode cX11_hurt 12 = .ok (.getfield 19, 3) := dk_o180 (by decide +kernel)
theorem dX11_hurt_15 : decode cX11_hurt 15 = .ok (.getfield 222, 3) := dk_o180 (by decide +kernel)
theorem dX11_hurt_18 : decode cX11_hurt 18 = .ok (.iload_n 1, 1) := dk_o27 (by decide +kernel)
theorem dX11_hurt_19 : decode cX11_hurt 19 = .ok (.iaload, 1) := dk_o46 (by decide +kernel)
theorem dX11_hurt_20 : decode cX11_hurt 20 = .ok (.goto 4, 3) := dk_o167 (by decide +kernel)
theorem dX11_hurt_23 : decode cX11_hurt 23 = .ok (.iconst (-1), 1) := dk_o2 (by decide +kernel)
theorem dX11_hurt_24 : decode cX11_hurt 24 = .ok (.ireturn, 1) := dk_o172 (by decide +kernel)
theorem dX11_plan_0 : decode cX11_plan 0 = .ok (.aload_n 0, 1) := dk_o42 (by decide +kernel)
theorem dX11_plan_1 : decode cX11_plan 1 = .ok (.getfield 49, 3) := dk_o180 (by decide +kernel)
theorem dX11_plan_4 : decode cX11_plan 4 = .ok (.iload_n 1, 1) := dk_o27 (by decide +kernel)
theorem dX11_plan_5 : decode cX11_plan 5 = .ok (.invokevirtual 225, 3) := dk_o182 (by decide +kernel)
theorem dX11_plan_8 : decode cX11_plan 8 = .ok (.ifCond .ne 5, 3) := dk_o154 (by decide +kernel)
theorem dX11_plan_11 : decode cX11_plan 11 = .ok (.iconst (-1), 1) := dk_o2 (by decide +kernel)
theorem dX11_plan_12 : decode cX11_plan 12 = .ok (.ireturn, 1) := dk_o172 (by decide +kernel)
theorem dX11_plan_13 : decode cX11_plan 13 = .ok (.iload_n 2, 1) := dk_o28 (by decide +kernel)
theorem dX11_plan_14 : decode cX11_plan 14 = .ok (.tableswitch 62 0 2 #[26, 36, 49], 26) := by decide +kernel
theorem dX11_plan_40 : decode cX11_plan 40 = .ok (.aload_n 0, 1) := dk_o42 (by decide +kernel)
theorem dX11_plan_41 : decode cX11_plan 41 = .ok (.getfield 19, 3) := dk_o180 (by decide +kernel)
theorem dX11_plan_44 : decode cX11_plan 44 = .ok (.getfield 228, 3) := dk_o180 (by decide +kernel)
theorem dX11_plan_47 : decode cX11_plan 47 = .ok (.iload_n 1, 1) := dk_o27 (by decide +kernel)
theorem dX11_plan_48 : decode cX11_plan 48 = .ok (.iaload, 1) := dk_o46 (by decide +kernel)
theorem dX11_plan_49 : decode cX11_plan 49 = .ok (.ireturn, 1) := dk_o172 (by decide +kernel)
theorem dX11_plan_50 : decode cX11_plan 50 = .ok (.aload_n 0, 1) := dk_o42 (by decide +kernel)
theorem dX11_plan_51 : decode cX11_plan 51 = .ok (.getfield 19, 3) := dk_o180 (by decide +kernel)
theorem dX11_plan_54 : decode cX11_plan 54 = .ok (.getfield 231, 3) := dk_o180 (by decide +kernel)
theorem dX11_plan_57 : decode cX11_plan 57 = .ok (.iload_n 1, 1) := dk_o27 (by decide +kernel)
theorem dX11_plan_58 : decode cX11_plan 58 = .ok (.iaload, 1) := dk_o46 (by decide +kernel)
theorem dX11_plan_59 : decode cX11_plan 59 = .ok (.invokestatic 234, 3) := dk_o184 (by decide +kernel)
theorem dX11_plan_62 : decode cX11_plan 62 = .ok (.ireturn, 1) := dk_o172 (by decide +kernel)
theorem dX11_plan_63 : decode cX11_plan 63 = .ok (.aload_n 0, 1) := dk_o42 (by decide +kernel)
theorem dX11_plan_64 : decode cX11_plan 64 = .ok (.getfield 19, 3) := dk_o180 (by decide +kernel)
theorem dX11_plan_67 : decode cX11_plan 67 = .ok (.getfield 231, 3) := dk_o180 (by decide +kernel)
theorem dX11_plan_70 : decode cX11_plan 70 = .ok (.iload_n 1, 1) := dk_o27 (by decide +kernel)
theorem dX11_plan_71 : decode cX11_plan 71 = .ok (.iaload, 1) := dk_o46 (by decide +kernel)
theorem dX11_plan_72 : decode cX11_plan 72 = .ok (.invokestatic 237, 3) := dk_o184 (by decide +kernel)
theorem dX11_plan_75 : decode cX11_plan 75 = .ok (.ireturn, 1) := dk_o172 (by decide +kernel)
theorem dX11_plan_76 : decode cX11_plan 76 = .ok (.iconst (-1), 1) := dk_o2 (by decide +kernel)
theorem dX11_plan_77 : decode cX11_plan 77 = .ok (.ireturn, 1) := dk_o172 (by decide +kernel)
theorem dX11_order_0 : decode cX11_order 0 = .ok (.aload_n 0, 1) := dk_o42 (by decide +kernel)
theorem dX11_order_1 : decode cX11_order 1 = .ok (.getfield 49, 3) := dk_o180 (by decide +kernel)
theorem dX11_order_4 : decode cX11_order 4 = .ok (.iload_n 1, 1) := dk_o27 (by decide +kernel)
theorem dX11_order_5 : decode cX11_order 5 = .ok (.invokevirtual 240, 3) := dk_o182 (by decide +kernel)
theorem dX11_order_8 : decode cX11_order 8 = .ok (.ifCond .ne 5, 3) := dk_o154 (by decide +kernel)
theorem dX11_order_11 : decode cX11_order 11 = .ok (.iconst (-1), 1) := dk_o2 (by decide +kernel)
theorem dX11_order_12 : decode cX11_order 12 = .ok (.ireturn, 1) := dk_o172 (by decide +kernel)
theorem dX11_order_13 : decode cX11_order 13 = .ok (.iload_n 2, 1) := dk_o28 (by decide +kernel)
theorem dX11_order_14 : decode cX11_order 14 = .ok (.tableswitch 83 0 4 #[34, 44, 54, 64, 74], 34) := by decide +kernel
theorem dX11_order_48 : decode cX11_order 48 = .ok (.aload_n 0, 1) := dk_o42 (by decide +kernel)
theorem dX11_order_49 : decode cX11_order 49 = .ok (.getfield 49, 3) := dk_o180 (by decide +kernel)
theorem dX11_order_52 : decode cX11_order 52 = .ok (.getfield 243, 3) := dk_o180 (by decide +kernel)
theorem dX11_order_55 : decode cX11_order 55 = .ok (.iload_n 1, 1) := dk_o27 (by decide +kernel)
theorem dX11_order_56 : decode cX11_order 56 = .ok (.iaload, 1) := dk_o46 (by decide +kernel)
theorem dX11_order_57 : decode cX11_order 57 = .ok (.ireturn, 1) := dk_o172 (by decide +kernel)
theorem dX11_order_58 : decode cX11_order 58 = .ok (.aload_n 0, 1) := dk_o42 (by decide +kernel)
theorem dX11_order_59 : decode cX11_order 59 = .ok (.getfield 49, 3) := dk_o180 (by decide +kernel)
theorem dX11_order_62 : decode cX11_order 62 = .ok (.getfield 246, 3) := dk_o180 (by decide +kernel)
theorem dX11_order_65 : decode cX11_order 65 = .ok (.iload_n 1, 1) := dk_o27 (by decide +kernel)
theorem dX11_order_66 : decode cX11_order 66 = .ok (.iaload, 1) := dk_o46 (by decide +kernel)
theorem dX11_order_67 : decode cX11_order 67 = .ok (.ireturn, 1) := dk_o172 (by decide +kernel)
theorem dX11_order_68 : decode cX11_order 68 = .ok (.aload_n 0, 1) := dk_o42 (by decide +kernel)
theorem dX11_order_69 : decode cX11_order 69 = .ok (.getfield 49, 3) := dk_o180 (by decide +kernel)
theorem dX11_order_72 : decode cX11_order 72 = .ok (.getfield 249, 3) := dk_o180 (by decide +kernel)
theorem dX11_order_75 : decode cX11_order 75 = .ok (.iload_n 1, 1) := dk_o27 (by decide +kernel)
theorem dX11_order_76 : decode cX11_order 76 = .ok (.iaload, 1) := dk_o46 (by decide +kernel)
theorem dX11_order_77 : decode cX11_order 77 = .ok (.ireturn, 1) := dk_o172 (by decide +kernel)
theorem dX11_order_78 : decode cX11_order 78 = .ok (.aload_n 0, 1) := dk_o42 (by decide +kernel)
theorem dX11_order_79 : decode cX11_order 79 = .ok (.getfield 19, 3) := dk_o180 (by decide +kernel)
theorem dX11_order_82 : decode cX11_order 82 = .ok (.getfield 252, 3) := dk_o180 (by decide +kernel)
theorem dX11_order_85 : decode cX11_order 85 = .ok (.iload_n 1, 1) := dk_o27 (by decide +kernel)
theorem dX11_order_86 : decode cX11_order 86 = .ok (.iaload, 1) := dk_o46 (by decide +kernel)
theorem dX11_order_87 : decode cX11_order 87 = .ok (.ireturn, 1) := dk_o172 (by decide +kernel)
theorem dX11_order_88 : decode cX11_order 88 = .ok (.aload_n 0, 1) := dk_o42 (by decide +kernel)
theorem dX11_order_89 : decode cX11_order 89 = .ok (.iload_n 1, 1) := dk_o27 (by decide +kernel)
theorem dX11_order_90 : decode cX11_order 90 = .ok (.invokevirtual 255, 3) := dk_o182 (by decide +kernel)
theorem dX11_order_93 : decode cX11_order 93 = .ok (.invokestatic 203, 3) := dk_o184 (by decide +kernel)
theorem dX11_order_96 : decode cX11_order 96 = .ok (.ireturn, 1) := dk_o172 (by decide +kernel)
theorem dX11_order_97 : decode cX11_order 97 = .ok (.iconst (-1), 1) := dk_o2 (by decide +kernel)
theorem dX11_order_98 : decode cX11_order 98 = .ok (.ireturn, 1) := dk_o172 (by decide +kernel)
theorem dX11_tubs_0 : decode cX11_tubs 0 = .ok (.iload_n 1, 1) := dk_o27 (by decide +kernel)
theorem dX11_tubs_1 : decode cX11_tubs 1 = .ok (.ifCond .lt 21, 3) := dk_o155 (by decide +kernel)
theorem dX11_tubs_4 : decode cX11_tubs 4 = .ok (.iload_n 1, 1) := dk_o27 (by decide +kernel)
theorem dX11_tubs_5 : decode cX11_tubs 5 = .ok (.bipush 9, 2) := dk_o16 (by decide +kernel)
theorem dX11_tubs_7 : decode cX11_tubs 7 = .ok (.if_icmp .gt 15, 3) := dk_o163 (by decide +kernel)
theorem dX11_tubs_10 : decode cX11_tubs 10 = .ok (.aload_n 0, 1) := dk_o42 (by decide +kernel)
theorem dX11_tubs_11 : decode cX11_tubs 11 = .ok (.getfield 19, 3) := dk_o180 (by decide +kernel)
theorem dX11_tubs_14 : decode cX11_tubs 14 = .ok (.getfield 258, 3) := dk_o180 (by decide +kernel)
theorem dX11_tubs_17 : decode cX11_tubs 17 = .ok (.iload_n 1, 1) := dk_o27 (by decide +kernel)
theorem dX11_tubs_18 : decode cX11_tubs 18 = .ok (.iaload, 1) := dk_o46 (by decide +kernel)
theorem dX11_tubs_19 : decode cX11_tubs 19 = .ok (.goto 4, 3) := dk_o167 (by decide +kernel)
theorem dX11_tubs_22 : decode cX11_tubs 22 = .ok (.iconst (-1), 1) := dk_o2 (by decide +kernel)
theorem dX11_tubs_23 : decode cX11_tubs 23 = .ok (.ireturn, 1) := dk_o172 (by decide +kernel)
theorem wB_914 : Cond.code yX8_put cX8_put 3 none ∈ dgB := List.mem_filter.mpr ⟨tbl_3 _ (List.mem_of_getElem? (i := 99) rfl), rfl⟩
theorem wB_915 : Cond.methodLink RX11 104 yX8_put ∈ dgB := List.mem_filter.mpr ⟨tbl_3 _ (List.mem_of_getElem? (i := 96) (by decide +kernel)), by decide +kernel⟩
theorem wB_916 : Cond.instanceMethod yX8_put ∈ dgB := List.mem_filter.mpr ⟨tbl_3 _ (List.mem_of_getElem? (i := 97) (by decide +kernel)), by decide +kernel⟩
theorem wB_917 : Cond.selects RX8 yX8_put yX8_put ∈ dgB := List.mem_filter.mpr ⟨tbl_3 _ (List.mem_of_getElem? (i := 98) (by decide +kernel)), by decide +kernel⟩
theorem wB_918 : Cond.initialized RX8 ∈ dgB := List.mem_filter.mpr ⟨tbl_1 _ (List.mem_of_getElem? (i := 2) (by decide +kernel)), by decide +kernel⟩
theorem wB_919 : Cond.code yX11_none cX11_none 2 (some .int) ∈ dgB := List.mem_filter.mpr ⟨tbl_3 _ (List.mem_of_getElem? (i := 95) rfl), rfl⟩
theorem wB_920 : Cond.methodLink RX11 100 yX11_none ∈ dgB := List.mem_filter.mpr ⟨tbl_3 _ (List.mem_of_getElem? (i := 92) (by decide +kernel)), by decide +kernel⟩
theorem wB_921 : Cond.instanceMethod yX11_none ∈ dgB := List.mem_filter.mpr ⟨tbl_3 _ (List.mem_of_getElem? (i := 94) (by decide +kernel)), by decide +kernel⟩
theorem wB_922 : Cond.selects RX11 yX11_none yX11_none ∈ dgB := List.mem_filter.mpr ⟨List.mem_of_getElem? (i := 0) (by decide +kernel), by decide +kernel⟩
theorem wB_923 : Cond.code yX11_no cX11_no 2 (some .boolean) ∈ dgB := List.mem_filter.mpr ⟨tbl_3 _ (List.mem_of_getElem? (i := 107) rfl), rfl⟩
theorem wB_924 : Cond.methodLink RX11 108 yX11_no ∈ dgB := List.mem_filter.mpr ⟨tbl_3 _ (List.mem_of_getElem? (i := 104) (by decide +kernel)), by decide +kernel⟩
theorem wB_925 : Cond.instanceMethod yX11_no ∈ dgB := List.mem_filter.mpr ⟨tbl_3 _ (List.mem_of_getElem? (i := 106) (by decide +kernel)), by decide +kernel⟩
theorem wB_926 : Cond.selects RX11 yX11_no yX11_no ∈ dgB := List.mem_filter.mpr ⟨List.mem_of_getElem? (i := 1) (by decide +kernel), by decide +kernel⟩
theorem wB_927 : Cond.fieldLink RX11 128 "DarkMine$Reader" "faultAt" "I" ∈ dgB := List.mem_filter.mpr ⟨tbl_2 _ (List.mem_of_getElem? (i := 82) (by decide +kernel)), by decide +kernel⟩
theorem wB_928 : Cond.fieldLink RX11 125 "DarkMine$Reader" "fault" "I" ∈ dgB := List.mem_filter.mpr ⟨tbl_2 _ (List.mem_of_getElem? (i := 80) (by decide +kernel)), by decide +kernel⟩
theorem wB_929 : Cond.fieldLink RX11 140 "DarkMine$Ground" "planRows" "I" ∈ dgB := List.mem_filter.mpr ⟨tbl_1 _ (List.mem_of_getElem? (i := 215) (by decide +kernel)), by decide +kernel⟩
theorem wB_930 : Cond.code yX11_countOpen cX11_countOpen 3 (some .int) ∈ dgB := List.mem_filter.mpr ⟨tbl_4 _ (List.mem_of_getElem? (i := 143) rfl), rfl⟩
theorem wB_931 : Cond.methodLink RX11 149 yX11_countOpen ∈ dgB := List.mem_filter.mpr ⟨tbl_4 _ (List.mem_of_getElem? (i := 140) (by decide +kernel)), by decide +kernel⟩
theorem wB_932 : Cond.instanceMethod yX11_countOpen ∈ dgB := List.mem_filter.mpr ⟨tbl_4 _ (List.mem_of_getElem? (i := 142) (by decide +kernel)), by decide +kernel⟩
theorem wB_933 : Cond.selects RX11 yX11_countOpen yX11_countOpen ∈ dgB := List.mem_filter.mpr ⟨List.mem_of_getElem? (i := 43) (by decide +kernel), by decide +kernel⟩
theorem wB_934 : Cond.code yX11_countLit cX11_countLit 3 (some .int) ∈ dgB := List.mem_filter.mpr ⟨tbl_4 _ (List.mem_of_getElem? (i := 154) rfl), rfl⟩
theorem wB_935 : Cond.methodLink RX11 153 yX11_countLit ∈ dgB := List.mem_filter.mpr ⟨tbl_4 _ (List.mem_of_getElem? (i := 151) (by decide +kernel)), by decide +kernel⟩
theorem wB_936 : Cond.instanceMethod yX11_countLit ∈ dgB := List.mem_filter.mpr ⟨tbl_4 _ (List.mem_of_getElem? (i := 153) (by decide +kernel)), by decide +kernel⟩
theorem wB_937 : Cond.selects RX11 yX11_countLit yX11_countLit ∈ dgB := List.mem_filter.mpr ⟨List.mem_of_getElem? (i := 44) (by decide +kernel), by decide +kernel⟩
theorem wB_938 : Cond.code yX11_countCurtains cX11_countCurtains 3 (some .int) ∈ dgB := List.mem_filter.mpr ⟨tbl_4 _ (List.mem_of_getElem? (i := 191) rfl), rfl⟩
theorem wB_939 : Cond.methodLink RX11 156 yX11_countCurtains ∈ dgB := List.mem_filter.mpr ⟨tbl_4 _ (List.mem_of_getElem? (i := 188) (by decide +kernel)), by decide +kernel⟩
theorem wB_940 : Cond.instanceMethod yX11_countCurtains ∈ dgB := List.mem_filter.mpr ⟨tbl_4 _ (List.mem_of_getElem? (i := 190) (by decide +kernel)), by decide +kernel⟩
theorem wB_941 : Cond.selects RX11 yX11_countCurtains yX11_countCurtains ∈ dgB := List.mem_filter.mpr ⟨List.mem_of_getElem? (i := 48) (by decide +kernel), by decide +kernel⟩
theorem wB_942 : Cond.code yX11_countHurt cX11_countHurt 3 (some .int) ∈ dgB := List.mem_filter.mpr ⟨tbl_4 _ (List.mem_of_getElem? (i := 195) rfl), rfl⟩
theorem wB_943 : Cond.methodLink RX11 159 yX11_countHurt ∈ dgB := List.mem_filter.mpr ⟨tbl_4 _ (List.mem_of_getElem? (i := 192) (by decide +kernel)), by decide +kernel⟩
theorem wB_944 : Cond.instanceMethod yX11_countHurt ∈ dgB := List.mem_filter.mpr ⟨tbl_4 _ (List.mem_of_getElem? (i := 194) (by decide +kernel)), by decide +kernel⟩
theorem wB_945 : Cond.selects RX11 yX11_countHurt yX11_countHurt ∈ dgB := List.mem_filter.mpr ⟨List.mem_of_getElem? (i := 49) (by decide +kernel), by decide +kernel⟩
theorem wB_946 : Cond.fieldLink RX11 165 "DarkMine$Pit" "purse" "I" ∈ dgB := List.mem_filter.mpr ⟨tbl_1 _ (List.mem_of_getElem? (i := 64) (by decide +kernel)), by decide +kernel⟩
theorem wB_947 : Cond.methodLink RX11 168 yX5_wholeWorth ∈ dgB := List.mem_filter.mpr ⟨tbl_4 _ (List.mem_of_getElem? (i := 200) (by decide +kernel)), by decide +kernel⟩
theorem wB_948 : Cond.fieldLink RX11 171 "DarkMine$History" "keptCount" "I" ∈ dgB := List.mem_filter.mpr ⟨tbl_1 _ (List.mem_of_getElem? (i := 120) (by decide +kernel)), by decide +kernel⟩
theorem wB_949 : Cond.fieldLink RX11 119 "DarkMine$Feeling" "count" "I" ∈ dgB := List.mem_filter.mpr ⟨tbl_3 _ (List.mem_of_getElem? (i := 8) (by decide +kernel)), by decide +kernel⟩
theorem wB_950 : Cond.fieldLink RX11 174 "DarkMine$History" "acts" "I" ∈ dgB := List.mem_filter.mpr ⟨tbl_1 _ (List.mem_of_getElem? (i := 122) (by decide +kernel)), by decide +kernel⟩
theorem wB_951 : Cond.fieldLink RX11 184 "DarkMine$Ground" "orderNames" "[I" ∈ dgB := List.mem_filter.mpr ⟨tbl_1 _ (List.mem_of_getElem? (i := 229) (by decide +kernel)), by decide +kernel⟩
theorem wB_952 : Cond.code yX11_letterOf cX11_letterOf 4 (some .int) ∈ dgB := List.mem_filter.mpr ⟨tbl_4 _ (List.mem_of_getElem? (i := 215) rfl), rfl⟩
theorem wB_953 : Cond.methodLink RX11 180 yX11_letterOf ∈ dgB := List.mem_filter.mpr ⟨tbl_4 _ (List.mem_of_getElem? (i := 213) (by decide +kernel)), by decide +kernel⟩
theorem wB_954 : Cond.static yX11_letterOf ∈ dgB := List.mem_filter.mpr ⟨tbl_4 _ (List.mem_of_getElem? (i := 214) (by decide +kernel)), by decide +kernel⟩
theorem wB_955 : Cond.fieldLink RX11 177 "DarkMine$Ground" "minerNames" "[I" ∈ dgB := List.mem_filter.mpr ⟨tbl_1 _ (List.mem_of_getElem? (i := 210) (by decide +kernel)), by decide +kernel⟩
theorem wB_956 : Cond.methodLink RX11 197 yX5_gradeAt ∈ dgB := List.mem_filter.mpr ⟨tbl_4 _ (List.mem_of_getElem? (i := 221) (by decide +kernel)), by decide +kernel⟩
theorem wB_957 : Cond.methodLink RX11 213 yX10_farOf ∈ dgB := List.mem_filter.mpr ⟨tbl_4 _ (List.mem_of_getElem? (i := 225) (by decide +kernel)), by decide +kernel⟩
theorem wB_958 : Cond.code yX10_isSafe cX10_isSafe 2 (some .boolean) ∈ dgB := List.mem_filter.mpr ⟨tbl_4 _ (List.mem_of_getElem? (i := 229) rfl), rfl⟩
theorem wB_959 : Cond.methodLink RX11 216 yX10_isSafe ∈ dgB := List.mem_filter.mpr ⟨tbl_4 _ (List.mem_of_getElem? (i := 226) (by decide +kernel)), by decide +kernel⟩
theorem wB_960 : Cond.instanceMethod yX10_isSafe ∈ dgB := List.mem_filter.mpr ⟨tbl_4 _ (List.mem_of_getElem? (i := 227) (by decide +kernel)), by decide +kernel⟩
theorem wB_961 : Cond.selects RX10 yX10_isSafe yX10_isSafe ∈ dgB := List.mem_filter.mpr ⟨tbl_4 _ (List.mem_of_getElem? (i := 228) (by decide +kernel)), by decide +kernel⟩
theorem wB_962 : Cond.code yX2_hasMiner cX2_hasMiner 2 (some .boolean) ∈ dgB := List.mem_filter.mpr ⟨tbl_5 _ (List.mem_of_getElem? (i := 51) rfl), rfl⟩
theorem wB_963 : Cond.methodLink RX11 219 yX2_hasMiner ∈ dgB := List.mem_filter.mpr ⟨tbl_5 _ (List.mem_of_getElem? (i := 48) (by decide +kernel)), by decide +kernel⟩
theorem wB_964 : Cond.instanceMethod yX2_hasMiner ∈ dgB := List.mem_filter.mpr ⟨tbl_5 _ (List.mem_of_getElem? (i := 49) (by decide +kernel)), by decide +kernel⟩
theorem wB_965 : Cond.selects RX2 yX2_hasMiner yX2_hasMiner ∈ dgB := List.mem_filter.mpr ⟨tbl_5 _ (List.mem_of_getElem? (i := 50) (by decide +kernel)), by decide +kernel⟩
theorem wB_966 : Cond.code yX2_hasPlanRow cX2_hasPlanRow 2 (some .boolean) ∈ dgB := List.mem_filter.mpr ⟨tbl_5 _ (List.mem_of_getElem? (i := 59) rfl), rfl⟩
theorem wB_967 : Cond.methodLink RX11 225 yX2_hasPlanRow ∈ dgB := List.mem_filter.mpr ⟨tbl_5 _ (List.mem_of_getElem? (i := 56) (by decide +kernel)), by decide +kernel⟩
theorem wB_968 : Cond.instanceMethod yX2_hasPlanRow ∈ dgB := List.mem_filter.mpr ⟨tbl_5 _ (List.mem_of_getElem? (i := 57) (by decide +kernel)), by decide +kernel⟩
theorem wB_969 : Cond.selects RX2 yX2_hasPlanRow yX2_hasPlanRow ∈ dgB := List.mem_filter.mpr ⟨tbl_5 _ (List.mem_of_getElem? (i := 58) (by decide +kernel)), by decide +kernel⟩
theorem wB_970 : Cond.fieldLink RX11 228 "DarkMine$Pit" "planMiners" "[I" ∈ dgB := List.mem_filter.mpr ⟨tbl_1 _ (List.mem_of_getElem? (i := 78) (by decide +kernel)), by decide +kernel⟩
theorem wB_971 : Cond.fieldLink RX11 231 "DarkMine$Pit" "planPlaces" "[I" ∈ dgB := List.mem_filter.mpr ⟨tbl_1 _ (List.mem_of_getElem? (i := 82) (by decide +kernel)), by decide +kernel⟩
theorem wB_972 : Cond.methodLink RX11 234 yX11_columnOf ∈ dgB := List.mem_filter.mpr ⟨tbl_5 _ (List.mem_of_getElem? (i := 60) (by decide +kernel)), by decide +kernel⟩
theorem wB_973 : Cond.methodLink RX11 237 yX11_rowOf ∈ dgB := List.mem_filter.mpr ⟨tbl_5 _ (List.mem_of_getElem? (i := 63) (by decide +kernel)), by decide +kernel⟩
theorem wB_974 : Cond.code yX2_hasOrder cX2_hasOrder 2 (some .boolean) ∈ dgB := List.mem_filter.mpr ⟨tbl_5 _ (List.mem_of_getElem? (i := 71) rfl), rfl⟩
theorem wB_975 : Cond.methodLink RX11 240 yX2_hasOrder ∈ dgB := List.mem_filter.mpr ⟨tbl_5 _ (List.mem_of_getElem? (i := 68) (by decide +kernel)), by decide +kernel⟩
theorem wB_976 : Cond.instanceMethod yX2_hasOrder ∈ dgB := List.mem_filter.mpr ⟨tbl_5 _ (List.mem_of_getElem? (i := 69) (by decide +kernel)), by decide +kernel⟩
theorem wB_977 : Cond.selects RX2 yX2_hasOrder yX2_hasOrder ∈ dgB := List.mem_filter.mpr ⟨tbl_5 _ (List.mem_of_getElem? (i := 70) (by decide +kernel)), by decide +kernel⟩
theorem wB_978 : Cond.code yX11_canBeSold cX11_canBeSold 2 (some .boolean) ∈ dgB := List.mem_filter.mpr ⟨tbl_5 _ (List.mem_of_getElem? (i := 75) rfl), rfl⟩
theorem wB_979 : Cond.methodLink RX11 255 yX11_canBeSold ∈ dgB := List.mem_filter.mpr ⟨tbl_5 _ (List.mem_of_getElem? (i := 72) (by decide +kernel)), by decide +kernel⟩
theorem wB_980 : Cond.instanceMethod yX11_canBeSold ∈ dgB := List.mem_filter.mpr ⟨tbl_5 _ (List.mem_of_getElem? (i := 74) (by decide +kernel)), by decide +kernel⟩
theorem wB_981 : Cond.selects RX11 yX11_canBeSold yX11_canBeSold ∈ dgB := List.mem_filter.mpr ⟨List.mem_of_getElem? (i := 54) (by decide +kernel), by decide +kernel⟩
theorem wB_982 : Cond.fieldLink RX11 258 "DarkMine$Pit" "tubCounts" "[I" ∈ dgB := List.mem_filter.mpr ⟨tbl_1 _ (List.mem_of_getElem? (i := 88) (by decide +kernel)), by decide +kernel⟩
noncomputable def F_d_feed_J1 (o : Nat) (S_9 : dg_S) (a5 : Int32) : dg_S × Int32 := let S_11 : dg_S := F_t_put o S_9 a5; let y_12 : Int32 := zI S_11 1 1; (S_11, y_12)
noncomputable def F_d_feed (o : Nat) (S : dg_S) (a1 : Int32) (a2 : Int32) (a3 : Int32) (a4 : Int32) (a5 : Int32) : dg_S × Int32 := let t0 : Int32 := zI S 1 1; let x_1 : Int32 := t0 + (20 : Int32); (if x_1 ≤ (1600 : Int32) then let S_3 : dg_S := F_t_put o S a1; let y_4 : Int32 := zI S_3 1 1; let S_5 : dg_S := F_t_put o S_3 a2; let y_6 : Int32 := zI S_5 1 1; let S_7 : dg_S := F_t_put o S_5 a3; let y_8 : Int32 := zI S_7 1 1; let S_9 : dg_S := F_t_put o S_7 a4; let y_10 : Int32 := zI S_9 1 1; (F_d_feed_J1 o S_9 a5) else let S_15 : dg_S := (F_d_none o S (0 : Int32)).1; let x_14 : Int32 := (F_d_none o S (0 : Int32)).2; (S_15, x_14))
theorem F_d_feed_p0 {o : Nat} {S_9 : dg_S} {a5 : Int32} {S_11 : dg_S} {y_12 : Int32} (h0 : S_11 = F_t_put o S_9 a5) (h1 : y_12 = zI S_11 1 1) : F_d_feed_J1 o S_9 a5 = (S_11, y_12) := by
  replace h0 := Eq.symm h0
  subst h0
  replace h1 := Eq.symm h1
  subst h1
  exact rfl
theorem F_d_feed_p1 {o : Nat} {S : dg_S} {a1 : Int32} {a2 : Int32} {a3 : Int32} {a4 : Int32} {a5 : Int32} {S_9 : dg_S} {t0 : Int32} {x_1 : Int32} {S_3 : dg_S} {S_5 : dg_S} {S_7 : dg_S} (h0 : t0 = zI S 1 1) (h1 : x_1 = t0 + (20 : Int32)) (h2 : x_1 ≤ (1600 : Int32)) (h3 : S_3 = F_t_put o S a1) (h4 : S_5 = F_t_put o S_3 a2) (h5 : S_7 = F_t_put o S_5 a3) (h6 : S_9 = F_t_put o S_7 a4) : F_d_feed o S a1 a2 a3 a4 a5 = F_d_feed_J1 o S_9 a5 := by
  replace h0 := Eq.symm h0
  subst h0
  replace h1 := Eq.symm h1
  subst h1
  replace h3 := Eq.symm h3
  subst h3
  replace h4 := Eq.symm h4
  subst h4
  replace h5 := Eq.symm h5
  subst h5
  replace h6 := Eq.symm h6
  subst h6
  exact (Eq.trans (if_pos h2) rfl)
theorem F_d_feed_p2 {o : Nat} {S : dg_S} {a1 : Int32} {a2 : Int32} {a3 : Int32} {a4 : Int32} {a5 : Int32} {S_15 : dg_S} {x_14 : Int32} {t0 : Int32} {x_1 : Int32} (h0 : t0 = zI S 1 1) (h1 : x_1 = t0 + (20 : Int32)) (h2 : ¬ (x_1 ≤ (1600 : Int32))) (h3 : S_15 = (F_d_none o S (0 : Int32)).1) (h4 : x_14 = (F_d_none o S (0 : Int32)).2) : F_d_feed o S a1 a2 a3 a4 a5 = (S_15, x_14) := by
  replace h0 := Eq.symm h0
  subst h0
  replace h1 := Eq.symm h1
  subst h1
  replace h3 := Eq.symm h3
  subst h3
  replace h4 := Eq.symm h4
  subst h4
  exact (Eq.trans (if_neg h2) rfl)
set_option maxHeartbeats 8000000 in
set_option maxRecDepth 100000 in
theorem c_d_feed (l : Launch) (g : Nat → ClassId) (D : va_G) (o : Nat) (S : dg_S) (a1 : Int32) (a2 : Int32) (a3 : Int32) (a4 : Int32) (a5 : Int32) (t0 : Int32) (f_t0 : S.1 1 1 = .int t0) (b_t0 : 0 ≤ (t0).toInt ∧ (t0).toInt ≤ 1600) (Z1 : Z1X S) (Z2 : Z2X S) (Z3 : Z3X o S) (Z4 : Z4X S) (Z6 : Z6X S) (I : CX o S) (sz : Nat) : Met l yX11_feed (bw yX11_feed cX11_feed 6 (some .int)) ({ frames := 2, cells := 0, slots := 0, locals := 54 } : Room) (dk_Pc g D (dg_w g shX o rfX S) sz [.ref (o + 0), .int a1, .int a2, .int a3, .int a4, .int a5]) (va_Qi (fun (r : Int32) S' => CX o S' ∧ dg_sm shX [(1, 1)] [2, 18] S S' ∧ ((-1) ≤ (r).toInt ∧ (r).toInt ≤ 1600) ∧ (((t0).toInt ≤ 1580 → (r).toInt = (t0).toInt + 20) ∧ (1580 < (t0).toInt → (r).toInt = -1)) ∧ (∃ y9 : Int32, S'.1 1 1 = .int y9 ∧ (((t0).toInt ≤ 1580 → (y9).toInt = (t0).toInt + 20) ∧ (1580 < (t0).toInt → (y9).toInt = (t0).toInt))) ∧ (m_hid (((t0).toInt ≤ 1580 → S'.2.1 2 = tp_5 (S.2.1 2) (t0 : Int32).toNatClampNeg a1 a2 a3 a4 a5) ∧ (1580 < (t0).toInt → S'.2.1 2 = S.2.1 2))) ∧ (S' = (F_d_feed o S a1 a2 a3 a4 a5).1 ∧ r = (F_d_feed o S a1 a2 a3 a4 a5).2) ∧ True) (dg_B g D shX o rfX) (dg_A o shX.length sz)) 0 0 (dg_A o shX.length sz) := by
  refine dg_met (cc := cX11_feed) (maxL := 6) (ret := (some .int)) (dk_dq rfl) rfl (Nat.le_of_ble_eq_true rfl) ?_
  intro p e s m args below meth c A hAe harg hx hb hr hml hts hown hlocks hin hP K hS hA1 hA ST hsz ls hl
  rw [← hAe]
  have F : CallFix p m c cX11_feed 6 s args (bw yX11_feed cX11_feed 6 (some .int)) RX11 := ⟨hx, hb, hml, hown, hts⟩
  have hl : lv_has ls 6 [(0, .ref (o + 0)), (1, .int a1), (2, .int a2), (3, .int a3), (4, .int a4), (5, .int a5)] := hl
  have M_0 : dg_sm shX [(1, 1)] [2, 18] S S := dg_sm.rf
  refine lv_aload_n hx hb dX11_feed_0 rfl (lv_at hl 0 rfl) ?_
  refine dg_get (C := RX11) (T := TX11) (N := 13) hx hb hts (fun w h => bw_mem (wU_X11 w h)) hown K hP sX_0 rfl 0 (dk_dq rfl) (hts _ (bw_mem wB_279)) (fun _ h9 => h9) (v := .ref (o + 1)) (show S.1 0 0 = .ref (o + 1) from dg_I.rel (d := 1) I sX_0 (by decide +kernel)) dX11_feed_1 ?_
  refine dg_get (C := RX8) (T := TX8) (N := 2) hx hb hts (fun w h => bw_mem (wU_X8 w h)) hown K hP sX_1 rfl 1 (dk_dq rfl) (hts _ (bw_mem wB_285)) (fun _ h9 => h9) (v := .int t0) f_t0 dX11_feed_4 ?_
  refine lv_bipush (v := 20) hx hb dX11_feed_7 (by decide +kernel) ?_
  refine lv_iadd hx hb dX11_feed_9 ?_
  refine lv_topi (fun x_1 ex_1 => ?_)
  have jx_1 : (x_1).toInt = (t0).toInt + 20 := by rw [ex_1]; exact dk_addT2 rfl (by decide +kernel) (by omega)
  refine lv_sipush (v := 1600) hx hb dX11_feed_10 (by decide +kernel) ?_
  refine lv_icmp_le (tgt := 22) hx hb dX11_feed_13 (dk_dq rfl) (fun c_2 => ?_) (fun c_2 => ?_)
  · as_aux_lemma =>
      have jc_2 := dk_lec (k := 1600) (by decide +kernel) c_2
      refine lv_aload_n hx hb dX11_feed_22 rfl (lv_at hl 0 rfl) ?_
      refine dg_get (C := RX11) (T := TX11) (N := 13) hx hb hts (fun w h => bw_mem (wU_X11 w h)) hown K hP sX_0 rfl 0 (dk_dq rfl) (hts _ (bw_mem wB_279)) (fun _ h9 => h9) (v := .ref (o + 1)) (show S.1 0 0 = .ref (o + 1) from dg_I.rel (d := 1) I sX_0 (by decide +kernel)) dX11_feed_23 ?_
      refine lv_iload_n hx hb dX11_feed_26 rfl (lv_at hl 1 rfl) ?_
      refine dg_callv hS hA1 hA (va_runV (As := [.int a1]) (rest := []) F (c_t_put l g D o S a1 t0 f_t0 (by omega) I s.heap.size) (cwV 1 hts (bw_V wB_915 wB_916 wB_917 wB_918 wB_914) rfl rfl rfl (by decide +kernel) ⟨Nat.le_of_ble_eq_true rfl, Nat.le_of_ble_eq_true rfl⟩) (dg_preV sX_1 rfl K ST hP hS hA1 hA) rfl rfl hl.1 rfl (lv_room (Nat.le_of_ble_eq_true rfl)) dX11_feed_27 ⟨Nat.le_of_ble_eq_true rfl, Nat.le_of_ble_eq_true rfl⟩) (fun S_3 hw_3 H locs hP hS => ?_)
      obtain ⟨I_3, m_3, w_3_0, w_3_1, w_3_2, -⟩ := hw_3
      have M_3 := dg_sm.tr M_0 m_3 (dk_dq rfl) (dk_dq rfl)
      obtain ⟨y_4, f_y_4, w_3_0⟩ := w_3_0
      have w_3_0 : (t0).toInt ≤ 1596 → (y_4).toInt = (t0).toInt + 4 := w_3_0
      have b_y_4 : 0 ≤ (y_4).toInt ∧ (y_4).toInt ≤ 1600 := dg_I.intb (lo := 0) (hi := 1600) I_3 sX_1 (by decide +kernel) f_y_4
      replace w_3_1 : (t0).toInt ≤ 1596 → S_3.2.1 2 = tp_k (S.2.1 2) (t0 : Int32).toNatClampNeg a1 4 := w_3_1
      refine lv_aload_n hx hb dX11_feed_30 rfl (lv_at hl 0 rfl) ?_
      refine dg_get (C := RX11) (T := TX11) (N := 13) hx hb hts (fun w h => bw_mem (wU_X11 w h)) hown K hP sX_0 rfl 0 (dk_dq rfl) (hts _ (bw_mem wB_279)) (fun _ h9 => h9) (v := .ref (o + 1)) (show S_3.1 0 0 = .ref (o + 1) from dg_I.rel (d := 1) I_3 sX_0 (by decide +kernel)) dX11_feed_31 ?_
      refine lv_iload_n hx hb dX11_feed_34 rfl (lv_at hl 2 rfl) ?_
      refine dg_callv hS hA1 hA (va_runV (As := [.int a2]) (rest := []) F (c_t_put l g D o S_3 a2 y_4 f_y_4 (by omega) I_3 H.size) (cwV 1 hts (bw_V wB_915 wB_916 wB_917 wB_918 wB_914) rfl rfl rfl (by decide +kernel) ⟨Nat.le_of_ble_eq_true rfl, Nat.le_of_ble_eq_true rfl⟩) (dg_preV sX_1 rfl K ST hP hS hA1 hA) rfl rfl hl.1 rfl (lv_room (Nat.le_of_ble_eq_true rfl)) dX11_feed_35 ⟨Nat.le_of_ble_eq_true rfl, Nat.le_of_ble_eq_true rfl⟩) (fun S_5 hw_5 H locs hP hS => ?_)
      obtain ⟨I_5, m_5, w_5_0, w_5_1, w_5_2, -⟩ := hw_5
      have M_5 := dg_sm.tr M_3 m_5 (dk_dq rfl) (dk_dq rfl)
      obtain ⟨y_6, f_y_6, w_5_0⟩ := w_5_0
      have w_5_0 : (y_4).toInt ≤ 1596 → (y_6).toInt = (y_4).toInt + 4 := w_5_0
      have b_y_6 : 0 ≤ (y_6).toInt ∧ (y_6).toInt ≤ 1600 := dg_I.intb (lo := 0) (hi := 1600) I_5 sX_1 (by decide +kernel) f_y_6
      replace w_5_1 : (y_4).toInt ≤ 1596 → S_5.2.1 2 = tp_k (S_3.2.1 2) (y_4 : Int32).toNatClampNeg a2 4 := w_5_1
      refine lv_aload_n hx hb dX11_feed_38 rfl (lv_at hl 0 rfl) ?_
      refine dg_get (C := RX11) (T := TX11) (N := 13) hx hb hts (fun w h => bw_mem (wU_X11 w h)) hown K hP sX_0 rfl 0 (dk_dq rfl) (hts _ (bw_mem wB_279)) (fun _ h9 => h9) (v := .ref (o + 1)) (show S_5.1 0 0 = .ref (o + 1) from dg_I.rel (d := 1) I_5 sX_0 (by decide +kernel)) dX11_feed_39 ?_
      refine lv_iload_n hx hb dX11_feed_42 rfl (lv_at hl 3 rfl) ?_
      refine dg_callv hS hA1 hA (va_runV (As := [.int a3]) (rest := []) F (c_t_put l g D o S_5 a3 y_6 f_y_6 (by omega) I_5 H.size) (cwV 1 hts (bw_V wB_915 wB_916 wB_917 wB_918 wB_914) rfl rfl rfl (by decide +kernel) ⟨Nat.le_of_ble_eq_true rfl, Nat.le_of_ble_eq_true rfl⟩) (dg_preV sX_1 rfl K ST hP hS hA1 hA) rfl rfl hl.1 rfl (lv_room (Nat.le_of_ble_eq_true rfl)) dX11_feed_43 ⟨Nat.le_of_ble_eq_true rfl, Nat.le_of_ble_eq_true rfl⟩) (fun S_7 hw_7 H locs hP hS => ?_)
      obtain ⟨I_7, m_7, w_7_0, w_7_1, w_7_2, -⟩ := hw_7
      have M_7 := dg_sm.tr M_5 m_7 (dk_dq rfl) (dk_dq rfl)
      obtain ⟨y_8, f_y_8, w_7_0⟩ := w_7_0
      have w_7_0 : (y_6).toInt ≤ 1596 → (y_8).toInt = (y_6).toInt + 4 := w_7_0
      have b_y_8 : 0 ≤ (y_8).toInt ∧ (y_8).toInt ≤ 1600 := dg_I.intb (lo := 0) (hi := 1600) I_7 sX_1 (by decide +kernel) f_y_8
      replace w_7_1 : (y_6).toInt ≤ 1596 → S_7.2.1 2 = tp_k (S_5.2.1 2) (y_6 : Int32).toNatClampNeg a3 4 := w_7_1
      refine lv_aload_n hx hb dX11_feed_46 rfl (lv_at hl 0 rfl) ?_
      refine dg_get (C := RX11) (T := TX11) (N := 13) hx hb hts (fun w h => bw_mem (wU_X11 w h)) hown K hP sX_0 rfl 0 (dk_dq rfl) (hts _ (bw_mem wB_279)) (fun _ h9 => h9) (v := .ref (o + 1)) (show S_7.1 0 0 = .ref (o + 1) from dg_I.rel (d := 1) I_7 sX_0 (by decide +kernel)) dX11_feed_47 ?_
      refine lv_iload hx hb dX11_feed_50 (lv_at hl 4 rfl) ?_
      refine dg_callv hS hA1 hA (va_runV (As := [.int a4]) (rest := []) F (c_t_put l g D o S_7 a4 y_8 f_y_8 (by omega) I_7 H.size) (cwV 1 hts (bw_V wB_915 wB_916 wB_917 wB_918 wB_914) rfl rfl rfl (by decide +kernel) ⟨Nat.le_of_ble_eq_true rfl, Nat.le_of_ble_eq_true rfl⟩) (dg_preV sX_1 rfl K ST hP hS hA1 hA) rfl rfl hl.1 rfl (lv_room (Nat.le_of_ble_eq_true rfl)) dX11_feed_52 ⟨Nat.le_of_ble_eq_true rfl, Nat.le_of_ble_eq_true rfl⟩) (fun S_9 hw_9 H locs hP hS => ?_)
      obtain ⟨I_9, m_9, w_9_0, w_9_1, w_9_2, -⟩ := hw_9
      have M_9 := dg_sm.tr M_7 m_9 (dk_dq rfl) (dk_dq rfl)
      obtain ⟨y_10, f_y_10, w_9_0⟩ := w_9_0
      have w_9_0 : (y_8).toInt ≤ 1596 → (y_10).toInt = (y_8).toInt + 4 := w_9_0
      have b_y_10 : 0 ≤ (y_10).toInt ∧ (y_10).toInt ≤ 1600 := dg_I.intb (lo := 0) (hi := 1600) I_9 sX_1 (by decide +kernel) f_y_10
      replace w_9_1 : (y_8).toInt ≤ 1596 → S_9.2.1 2 = tp_k (S_7.2.1 2) (y_8 : Int32).toNatClampNeg a4 4 := w_9_1
      have hF_1 : F_d_feed o S a1 a2 a3 a4 a5 = F_d_feed_J1 o S_9 a5 := (F_d_feed_p1 (zI_eq f_t0) ex_1 c_2 w_3_2 w_5_2 w_7_2 w_9_2)
      refine lv_aload_n hx hb dX11_feed_55 rfl (lv_at hl 0 rfl) ?_
      refine dg_get (C := RX11) (T := TX11) (N := 13) hx hb hts (fun w h => bw_mem (wU_X11 w h)) hown K hP sX_0 rfl 0 (dk_dq rfl) (hts _ (bw_mem wB_279)) (fun _ h9 => h9) (v := .ref (o + 1)) (show S_9.1 0 0 = .ref (o + 1) from dg_I.rel (d := 1) I_9 sX_0 (by decide +kernel)) dX11_feed_56 ?_
      refine lv_iload hx hb dX11_feed_59 (lv_at hl 5 rfl) ?_
      refine dg_callv hS hA1 hA (va_runV (As := [.int a5]) (rest := []) F (c_t_put l g D o S_9 a5 y_10 f_y_10 (by omega) I_9 H.size) (cwV 1 hts (bw_V wB_915 wB_916 wB_917 wB_918 wB_914) rfl rfl rfl (by decide +kernel) ⟨Nat.le_of_ble_eq_true rfl, Nat.le_of_ble_eq_true rfl⟩) (dg_preV sX_1 rfl K ST hP hS hA1 hA) rfl rfl hl.1 rfl (lv_room (Nat.le_of_ble_eq_true rfl)) dX11_feed_61 ⟨Nat.le_of_ble_eq_true rfl, Nat.le_of_ble_eq_true rfl⟩) (fun S_11 hw_11 H locs hP hS => ?_)
      obtain ⟨I_11, m_11, w_11_0, w_11_1, w_11_2, -⟩ := hw_11
      have M_11 := dg_sm.tr M_9 m_11 (dk_dq rfl) (dk_dq rfl)
      obtain ⟨y_12, f_y_12, w_11_0⟩ := w_11_0
      have w_11_0 : (y_10).toInt ≤ 1596 → (y_12).toInt = (y_10).toInt + 4 := w_11_0
      have b_y_12 : 0 ≤ (y_12).toInt ∧ (y_12).toInt ≤ 1600 := dg_I.intb (lo := 0) (hi := 1600) I_11 sX_1 (by decide +kernel) f_y_12
      replace w_11_1 : (y_10).toInt ≤ 1596 → S_11.2.1 2 = tp_k (S_9.2.1 2) (y_10 : Int32).toNatClampNeg a5 4 := w_11_1
      refine lv_aload_n hx hb dX11_feed_64 rfl (lv_at hl 0 rfl) ?_
      refine dg_get (C := RX11) (T := TX11) (N := 13) hx hb hts (fun w h => bw_mem (wU_X11 w h)) hown K hP sX_0 rfl 0 (dk_dq rfl) (hts _ (bw_mem wB_279)) (fun _ h9 => h9) (v := .ref (o + 1)) (show S_11.1 0 0 = .ref (o + 1) from dg_I.rel (d := 1) I_11 sX_0 (by decide +kernel)) dX11_feed_65 ?_
      refine dg_get (C := RX8) (T := TX8) (N := 2) hx hb hts (fun w h => bw_mem (wU_X8 w h)) hown K hP sX_1 rfl 1 (dk_dq rfl) (hts _ (bw_mem wB_285)) (fun _ h9 => h9) (v := .int y_12) f_y_12 dX11_feed_68 ?_
      refine W.widen (k := 0) (n := 0) (Nat.le_of_ble_eq_true rfl) (Nat.le_of_ble_eq_true rfl) ?_
      exact dg_iret hx hb hr hlocks rfl hP hS ⟨I_11, M_11, (by omega), (by omega), ⟨y_12, f_y_12, (by omega)⟩, (m_hid.mk ⟨fun q9 => by rw [w_11_1 (by omega), w_9_1 (by omega), w_7_1 (by omega), w_5_1 (by omega), w_3_1 (by omega), show (y_4 : Int32).toNatClampNeg = (t0 : Int32).toNatClampNeg + 4 from by have h8 := dk_clN y_4; have h9 := dk_clN t0; omega, show (y_6 : Int32).toNatClampNeg = (t0 : Int32).toNatClampNeg + 8 from by have h8 := dk_clN y_6; have h9 := dk_clN t0; omega, show (y_8 : Int32).toNatClampNeg = (t0 : Int32).toNatClampNeg + 12 from by have h8 := dk_clN y_8; have h9 := dk_clN t0; omega, show (y_10 : Int32).toNatClampNeg = (t0 : Int32).toNatClampNeg + 16 from by have h8 := dk_clN y_10; have h9 := dk_clN t0; omega]; rfl, fun q9 => by exfalso; omega⟩), ⟨congrArg Prod.fst (Eq.symm (Eq.trans hF_1 (F_d_feed_p0 w_11_2 (zI_eq f_y_12)))), congrArg Prod.snd (Eq.symm (Eq.trans hF_1 (F_d_feed_p0 w_11_2 (zI_eq f_y_12))))⟩, trivial⟩ dX11_feed_71
  · have jc_2 := dk_nlec (k := 1600) (by decide +kernel) c_2
    refine lv_aload_n hx hb dX11_feed_16 rfl (lv_at hl 0 rfl) ?_
    refine lv_iconst (v := 0) hx hb dX11_feed_17 (by decide +kernel) ?_
    have hz_13 : (0 : Int32).toInt = 0 := by decide +kernel
    refine dg_calli hS hA1 hA (va_runV (As := [.int 0]) (rest := []) F (c_d_none l g D o S 0 (by decide +kernel) Z1 Z2 Z3 Z4 Z6 I s.heap.size) (cwV 1 hts (bw_V wB_920 wB_921 wB_922 wB_610 wB_919) rfl rfl rfl (by decide +kernel) ⟨Nat.le_of_ble_eq_true rfl, Nat.le_of_ble_eq_true rfl⟩) (dg_preV sX_0 rfl K ST hP hS hA1 hA) rfl rfl hl.1 rfl (lv_room (Nat.le_of_ble_eq_true rfl)) dX11_feed_18 ⟨Nat.le_of_ble_eq_true rfl, Nat.le_of_ble_eq_true rfl⟩) (fun x_14 S_15 hw_15 H locs hP hS => ?_)
    obtain ⟨I_15, m_15, w_15_0, w_15_1, -⟩ := hw_15
    have M_15 := dg_sm.tr M_0 m_15 (dk_dq rfl) (dk_dq rfl)
    have w_15_0 : (-1) ≤ (x_14).toInt ∧ (x_14).toInt ≤ (-1) := w_15_0
    refine W.widen (k := 0) (n := 0) (Nat.le_of_ble_eq_true rfl) (Nat.le_of_ble_eq_true rfl) ?_
    exact dg_iret hx hb hr hlocks rfl hP hS ⟨I_15, M_15, (by omega), (by omega), ⟨t0, ((m_15.1 1 1 _ sX_1 (dk_dq rfl)).trans f_t0), (by omega)⟩, (m_hid.mk ⟨fun q9 => by exfalso; omega, fun _ => (m_15.2 2 _ sX_2 (dk_dq rfl)).1⟩), ⟨congrArg Prod.fst (Eq.symm (F_d_feed_p2 (zI_eq f_t0) ex_1 c_2 w_15_1.1 w_15_1.2)), congrArg Prod.snd (Eq.symm (F_d_feed_p2 (zI_eq f_t0) ex_1 c_2 w_15_1.1 w_15_1.2))⟩, trivial⟩ dX11_feed_21
noncomputable def F_d_end (o : Nat) (S : dg_S) (a1 : Int32) : dg_S × Int32 := let t0 : Int32 := zI S 1 1; (if a1 < (0 : Int32) then let S_4 : dg_S := (F_d_no o S (0 : Int32)).1; let x_3 : Int32 := (F_d_no o S (0 : Int32)).2; (S_4, x_3) else (if a1 ≤ t0 then let S_7 : dg_S := dg_uF S 1 1 (.int a1); (S_7, (1 : Int32)) else let S_14 : dg_S := (F_d_no o S (0 : Int32)).1; let x_13 : Int32 := (F_d_no o S (0 : Int32)).2; (S_14, x_13)))
theorem F_d_end_p0 {o : Nat} {S : dg_S} {a1 : Int32} {S_4 : dg_S} {x_3 : Int32} (h0 : a1 < (0 : Int32)) (h1 : S_4 = (F_d_no o S (0 : Int32)).1) (h2 : x_3 = (F_d_no o S (0 : Int32)).2) : F_d_end o S a1 = (S_4, x_3) := by
  replace h1 := Eq.symm h1
  subst h1
  replace h2 := Eq.symm h2
  subst h2
  exact (Eq.trans (if_pos h0) rfl)
theorem F_d_end_p1 {o : Nat} {S : dg_S} {a1 : Int32} {S_7 : dg_S} {t0 : Int32} (h0 : t0 = zI S 1 1) (h1 : ¬ (a1 < (0 : Int32))) (h2 : a1 ≤ t0) (h3 : S_7 = dg_uF S 1 1 (.int a1)) : F_d_end o S a1 = (S_7, (1 : Int32)) := by
  replace h0 := Eq.symm h0
  subst h0
  replace h3 := Eq.symm h3
  subst h3
  exact (Eq.trans (if_neg h1) (Eq.trans (if_pos h2) rfl))
theorem F_d_end_p2 {o : Nat} {S : dg_S} {a1 : Int32} {S_14 : dg_S} {x_13 : Int32} {t0 : Int32} (h0 : t0 = zI S 1 1) (h1 : ¬ (a1 < (0 : Int32))) (h2 : ¬ (a1 ≤ t0)) (h3 : S_14 = (F_d_no o S (0 : Int32)).1) (h4 : x_13 = (F_d_no o S (0 : Int32)).2) : F_d_end o S a1 = (S_14, x_13) := by
  replace h0 := Eq.symm h0
  subst h0
  replace h3 := Eq.symm h3
  subst h3
  replace h4 := Eq.symm h4
  subst h4
  exact (Eq.trans (if_neg h1) (Eq.trans (if_neg h2) rfl))
set_option maxHeartbeats 8000000 in
set_option maxRecDepth 100000 in
theorem c_d_end (l : Launch) (g : Nat → ClassId) (D : va_G) (o : Nat) (S : dg_S) (a1 : Int32) (t0 : Int32) (f_t0 : S.1 1 1 = .int t0) (b_t0 : 0 ≤ (t0).toInt ∧ (t0).toInt ≤ 1600) (Z1 : Z1X S) (Z2 : Z2X S) (Z3 : Z3X o S) (Z4 : Z4X S) (Z6 : Z6X S) (I : CX o S) (sz : Nat) : Met l yX11_end (bw yX11_end cX11_end 2 (some .boolean)) ({ frames := 2, cells := 0, slots := 0, locals := 53 } : Room) (dk_Pc g D (dg_w g shX o rfX S) sz [.ref (o + 0), .int a1]) (va_Qi (fun (r : Int32) S' => CX o S' ∧ dg_sm shX [(1, 1)] [18] S S' ∧ (0 ≤ (r).toInt ∧ (r).toInt ≤ 1) ∧ ((r).toInt = 1 ↔ (0 ≤ (a1).toInt ∧ (a1).toInt ≤ (t0).toInt)) ∧ (∃ y9 : Int32, S'.1 1 1 = .int y9 ∧ (((r).toInt = 1 → (y9).toInt = (a1).toInt) ∧ ((r).toInt ≠ 1 → (y9).toInt = (t0).toInt))) ∧ (S' = (F_d_end o S a1).1 ∧ r = (F_d_end o S a1).2) ∧ True) (dg_B g D shX o rfX) (dg_A o shX.length sz)) 0 0 (dg_A o shX.length sz) := by
  refine dg_met (cc := cX11_end) (maxL := 2) (ret := (some .boolean)) (dk_dq rfl) rfl (Nat.le_of_ble_eq_true rfl) ?_
  intro p e s m args below meth c A hAe harg hx hb hr hml hts hown hlocks hin hP K hS hA1 hA ST hsz ls hl
  rw [← hAe]
  have F : CallFix p m c cX11_end 2 s args (bw yX11_end cX11_end 2 (some .boolean)) RX11 := ⟨hx, hb, hml, hown, hts⟩
  have hl : lv_has ls 2 [(0, .ref (o + 0)), (1, .int a1)] := hl
  have M_0 : dg_sm shX [(1, 1)] [18] S S := dg_sm.rf
  refine lv_iload_n hx hb dX11_end_0 rfl (lv_at hl 1 rfl) ?_
  refine lv_if_lt (tgt := 15) hx hb dX11_end_1 (dk_dq rfl) (fun c_1 => ?_) (fun c_1 => ?_)
  · have jc_1 := dk_ltc (k := 0) (by decide +kernel) c_1
    refine lv_aload_n hx hb dX11_end_15 rfl (lv_at hl 0 rfl) ?_
    refine lv_iconst (v := 0) hx hb dX11_end_16 (by decide +kernel) ?_
    have hz_2 : (0 : Int32).toInt = 0 := by decide +kernel
    refine dg_calli hS hA1 hA (va_runV (As := [.int 0]) (rest := []) F (c_d_no l g D o S 0 (by decide +kernel) Z1 Z2 Z3 Z4 Z6 I s.heap.size) (cwV 1 hts (bw_V wB_924 wB_925 wB_926 wB_610 wB_923) rfl rfl rfl (by decide +kernel) ⟨Nat.le_of_ble_eq_true rfl, Nat.le_of_ble_eq_true rfl⟩) (dg_preV sX_0 rfl K ST hP hS hA1 hA) rfl rfl hl.1 rfl (lv_room (Nat.le_of_ble_eq_true rfl)) dX11_end_17 ⟨Nat.le_of_ble_eq_true rfl, Nat.le_of_ble_eq_true rfl⟩) (fun x_3 S_4 hw_4 H locs hP hS => ?_)
    obtain ⟨I_4, m_4, w_4_0, w_4_1, -⟩ := hw_4
    have M_4 := dg_sm.tr M_0 m_4 (dk_dq rfl) (dk_dq rfl)
    have w_4_0 : 0 ≤ (x_3).toInt ∧ (x_3).toInt ≤ 0 := w_4_0
    refine W.widen (k := 0) (n := 0) (Nat.le_of_ble_eq_true rfl) (Nat.le_of_ble_eq_true rfl) ?_
    exact dg_iret hx hb hr hlocks (dk_znar2 (by omega)) hP hS ⟨I_4, M_4, (by omega), (by omega), ⟨t0, ((m_4.1 1 1 _ sX_1 (dk_dq rfl)).trans f_t0), (by omega)⟩, ⟨congrArg Prod.fst (Eq.symm (F_d_end_p0 c_1 w_4_1.1 w_4_1.2)), congrArg Prod.snd (Eq.symm (F_d_end_p0 c_1 w_4_1.1 w_4_1.2))⟩, trivial⟩ dX11_end_20
  · as_aux_lemma =>
      have jc_1 := dk_nltc (k := 0) (by decide +kernel) c_1
      refine lv_iload_n hx hb dX11_end_4 rfl (lv_at hl 1 rfl) ?_
      refine lv_aload_n hx hb dX11_end_5 rfl (lv_at hl 0 rfl) ?_
      refine dg_get (C := RX11) (T := TX11) (N := 13) hx hb hts (fun w h => bw_mem (wU_X11 w h)) hown K hP sX_0 rfl 0 (dk_dq rfl) (hts _ (bw_mem wB_279)) (fun _ h9 => h9) (v := .ref (o + 1)) (show S.1 0 0 = .ref (o + 1) from dg_I.rel (d := 1) I sX_0 (by decide +kernel)) dX11_end_6 ?_
      refine dg_get (C := RX8) (T := TX8) (N := 2) hx hb hts (fun w h => bw_mem (wU_X8 w h)) hown K hP sX_1 rfl 1 (dk_dq rfl) (hts _ (bw_mem wB_285)) (fun _ h9 => h9) (v := .int t0) f_t0 dX11_end_9 ?_
      refine lv_icmp_le (tgt := 21) hx hb dX11_end_12 (dk_dq rfl) (fun c_5 => ?_) (fun c_5 => ?_)
      · have hf_5 := dk_full a1
        have jc_5 := dk_lec (k := (t0).toInt) rfl c_5
        refine lv_aload_n hx hb dX11_end_21 rfl (lv_at hl 0 rfl) ?_
        refine dg_get (C := RX11) (T := TX11) (N := 13) hx hb hts (fun w h => bw_mem (wU_X11 w h)) hown K hP sX_0 rfl 0 (dk_dq rfl) (hts _ (bw_mem wB_279)) (fun _ h9 => h9) (v := .ref (o + 1)) (show S.1 0 0 = .ref (o + 1) from dg_I.rel (d := 1) I sX_0 (by decide +kernel)) dX11_end_22 ?_
        refine lv_iload_n hx hb dX11_end_25 rfl (lv_at hl 1 rfl) ?_
        refine dg_put (ci := 8) (v := .int a1) (ty := tyX8 1) (C := RX8) (T := TX8) (N := 2) hx hb hts (fun w h => bw_mem (wU_X8 w h)) tyX8 tyX8_ok nmX8 hown K hP hS hA1 sX_1 rfl 1 (dk_dq rfl) (hts _ (bw_mem wB_285)) (fun _ h9 => h9) rfl (by decide +kernel) rfl rfl dX11_end_26 (fun S_7 e_7 H locs hP hS => ?_)
        have I_7 := dg_I.uFi (lo := 0) (hi := 1600) I e_7 sX_1 (by decide +kernel) (show 0 ≤ (a1).toInt ∧ (a1).toInt ≤ 1600 from (by omega))
        have M_7 := dg_sm.uF M_0 e_7 sX_1 (dk_dq rfl)
        refine lv_iconst (v := 1) hx hb dX11_end_29 (by decide +kernel) ?_
        have hz_8 : (1 : Int32).toInt = 1 := by decide +kernel
        have hz_9 : (1 : Int32).toInt = 1 := by decide +kernel
        have hz_10 : (1 : Int32).toInt = 1 := by decide +kernel
        refine W.widen (k := 0) (n := 0) (Nat.le_of_ble_eq_true rfl) (Nat.le_of_ble_eq_true rfl) ?_
        exact dg_iret hx hb hr hlocks (by decide +kernel) hP hS ⟨I_7, M_7, (by decide +kernel), (by omega), ⟨a1, (dg_uF_at e_7), (by omega)⟩, ⟨congrArg Prod.fst (Eq.symm (F_d_end_p1 (zI_eq f_t0) c_1 c_5 e_7)), congrArg Prod.snd (Eq.symm (F_d_end_p1 (zI_eq f_t0) c_1 c_5 e_7))⟩, trivial⟩ dX11_end_30
      · have hf_10 := dk_full a1
        have jc_5 := dk_nlec (k := (t0).toInt) rfl c_5
        refine lv_aload_n hx hb dX11_end_15 rfl (lv_at hl 0 rfl) ?_
        refine lv_iconst (v := 0) hx hb dX11_end_16 (by decide +kernel) ?_
        have hz_12 : (0 : Int32).toInt = 0 := by decide +kernel
        refine dg_calli hS hA1 hA (va_runV (As := [.int 0]) (rest := []) F (c_d_no l g D o S 0 (by decide +kernel) Z1 Z2 Z3 Z4 Z6 I s.heap.size) (cwV 1 hts (bw_V wB_924 wB_925 wB_926 wB_610 wB_923) rfl rfl rfl (by decide +kernel) ⟨Nat.le_of_ble_eq_true rfl, Nat.le_of_ble_eq_true rfl⟩) (dg_preV sX_0 rfl K ST hP hS hA1 hA) rfl rfl hl.1 rfl (lv_room (Nat.le_of_ble_eq_true rfl)) dX11_end_17 ⟨Nat.le_of_ble_eq_true rfl, Nat.le_of_ble_eq_true rfl⟩) (fun x_13 S_14 hw_14 H locs hP hS => ?_)
        obtain ⟨I_14, m_14, w_14_0, w_14_1, -⟩ := hw_14
        have M_14 := dg_sm.tr M_0 m_14 (dk_dq rfl) (dk_dq rfl)
        have w_14_0 : 0 ≤ (x_13).toInt ∧ (x_13).toInt ≤ 0 := w_14_0
        refine W.widen (k := 0) (n := 0) (Nat.le_of_ble_eq_true rfl) (Nat.le_of_ble_eq_true rfl) ?_
        exact dg_iret hx hb hr hlocks (dk_znar2 (by omega)) hP hS ⟨I_14, M_14, (by omega), (by omega), ⟨t0, ((m_14.1 1 1 _ sX_1 (dk_dq rfl)).trans f_t0), (by omega)⟩, ⟨congrArg Prod.fst (Eq.symm (F_d_end_p2 (zI_eq f_t0) c_1 c_5 w_14_1.1 w_14_1.2)), congrArg Prod.snd (Eq.symm (F_d_end_p2 (zI_eq f_t0) c_1 c_5 w_14_1.1 w_14_1.2))⟩, trivial⟩ dX11_end_20
noncomputable def F_d_fault (o : Nat) (S : dg_S) (a1 : Int32) : Int32 := (if a1 = (0 : Int32) then let x_4 : Int32 := zI S 209 0; x_4 else (if a1 = (1 : Int32) then let x_3 : Int32 := zI S 209 1; x_3 else (-1 : Int32)))
theorem F_d_fault_p0 {o : Nat} {S : dg_S} {a1 : Int32} (h0 : ¬ (a1 = (0 : Int32))) (h1 : ¬ (a1 = (1 : Int32))) : F_d_fault o S a1 = (-1 : Int32) := (Eq.trans (if_neg h0) (Eq.trans (if_neg h1) rfl))
theorem F_d_fault_p1 {o : Nat} {S : dg_S} {a1 : Int32} {x_3 : Int32} (h0 : ¬ (a1 = (0 : Int32))) (h1 : a1 = (1 : Int32)) (h2 : x_3 = zI S 209 1) : F_d_fault o S a1 = x_3 := by
  replace h2 := Eq.symm h2
  subst h2
  exact (Eq.trans (if_neg h0) (Eq.trans (if_pos h1) rfl))
theorem F_d_fault_p2 {o : Nat} {S : dg_S} {a1 : Int32} {x_4 : Int32} (h0 : a1 = (0 : Int32)) (h1 : x_4 = zI S 209 0) : F_d_fault o S a1 = x_4 := by
  replace h1 := Eq.symm h1
  subst h1
  exact (Eq.trans (if_pos h0) rfl)
set_option maxHeartbeats 8000000 in
set_option maxRecDepth 100000 in
theorem c_d_fault (l : Launch) (g : Nat → ClassId) (D : va_G) (o : Nat) (S : dg_S) (a1 : Int32) (Z1 : Z1X S) (Z2 : Z2X S) (Z3 : Z3X o S) (Z4 : Z4X S) (Z6 : Z6X S) (I : CX o S) (sz : Nat) : Met l yX11_fault (bw yX11_fault cX11_fault 2 (some .int)) ({ frames := 1, cells := 0, slots := 0, locals := 32 } : Room) (dk_Pc g D (dg_w g shX o rfX S) sz [.ref (o + 0), .int a1]) (va_Qi (fun (r : Int32) S' => S' = S ∧ (r = F_d_fault o S a1) ∧ True) (dg_B g D shX o rfX) (dg_A o shX.length sz)) 0 0 (dg_A o shX.length sz) := by
  refine dg_met (cc := cX11_fault) (maxL := 2) (ret := (some .int)) (dk_dq rfl) rfl (Nat.le_of_ble_eq_true rfl) ?_
  intro p e s m args below meth c A hAe harg hx hb hr hml hts hown hlocks hin hP K hS hA1 hA ST hsz ls hl
  rw [← hAe]
  have F : CallFix p m c cX11_fault 2 s args (bw yX11_fault cX11_fault 2 (some .int)) RX11 := ⟨hx, hb, hml, hown, hts⟩
  have hl : lv_has ls 2 [(0, .ref (o + 0)), (1, .int a1)] := hl
  have M_0 : dg_sm shX [] [] S S := dg_sm.rf
  refine lv_iload_n hx hb dX11_fault_0 rfl (lv_at hl 1 rfl) ?_
  refine lv_if_ne (tgt := 12) hx hb dX11_fault_1 (dk_dq rfl) (fun c_1 => ?_) (fun c_1 => ?_)
  · have jc_1 := dk_neqc (k := 0) (by decide +kernel) c_1
    refine lv_iload_n hx hb dX11_fault_12 rfl (lv_at hl 1 rfl) ?_
    refine lv_iconst (v := 1) hx hb dX11_fault_13 (by decide +kernel) ?_
    refine lv_icmp_ne (tgt := 27) hx hb dX11_fault_14 (dk_dq rfl) (fun c_2 => ?_) (fun c_2 => ?_)
    · have jc_2 := dk_neqc (k := 1) (by decide +kernel) c_2
      refine lv_iconst (v := (-1)) hx hb dX11_fault_27 (by decide +kernel) ?_
      refine W.widen (k := 0) (n := 0) (Nat.le_of_ble_eq_true rfl) (Nat.le_of_ble_eq_true rfl) ?_
      exact dg_iret hx hb hr hlocks rfl hP hS ⟨rfl, (Eq.symm (F_d_fault_p0 c_1 c_2)), trivial⟩ dX11_fault_28
    · have jc_2 := dk_eqc (k := 1) (by decide +kernel) c_2
      refine lv_aload_n hx hb dX11_fault_17 rfl (lv_at hl 0 rfl) ?_
      refine dg_get (C := RX11) (T := TX11) (N := 13) hx hb hts (fun w h => bw_mem (wU_X11 w h)) hown K hP sX_0 rfl 8 (dk_dq rfl) (hts _ (bw_mem wB_278)) (fun _ h9 => h9) (v := .ref (o + 209)) (show S.1 0 8 = .ref (o + 209) from dg_I.rel (d := 209) I sX_0 (by decide +kernel)) dX11_fault_18 ?_
      obtain ⟨x_3, f_x_3, b_x_3⟩ := dg_I.int (i := 209) (k := 1) (lo := (-2147483648)) (hi := 2147483647) I sX_209 (by decide +kernel)
      refine dg_get (C := RX6) (T := TX6) (N := 8) hx hb hts (fun w h => bw_mem (wU_X6 w h)) hown K hP sX_209 rfl 1 (dk_dq rfl) (hts _ (bw_mem wB_927)) (fun _ h9 => h9) (v := .int x_3) f_x_3 dX11_fault_21 ?_
      refine lv_goto (tgt := 28) hx hb dX11_fault_24 (dk_dq rfl) ?_
      refine W.widen (k := 0) (n := 0) (Nat.le_of_ble_eq_true rfl) (Nat.le_of_ble_eq_true rfl) ?_
      exact dg_iret hx hb hr hlocks rfl hP hS ⟨rfl, (Eq.symm (F_d_fault_p1 c_1 c_2 (zI_eq f_x_3))), trivial⟩ dX11_fault_28
  · have jc_1 := dk_eqc (k := 0) (by decide +kernel) c_1
    refine lv_aload_n hx hb dX11_fault_4 rfl (lv_at hl 0 rfl) ?_
    refine dg_get (C := RX11) (T := TX11) (N := 13) hx hb hts (fun w h => bw_mem (wU_X11 w h)) hown K hP sX_0 rfl 8 (dk_dq rfl) (hts _ (bw_mem wB_278)) (fun _ h9 => h9) (v := .ref (o + 209)) (show S.1 0 8 = .ref (o + 209) from dg_I.rel (d := 209) I sX_0 (by decide +kernel)) dX11_fault_5 ?_
    obtain ⟨x_4, f_x_4, b_x_4⟩ := dg_I.int (i := 209) (k := 0) (lo := (-2147483648)) (hi := 2147483647) I sX_209 (by decide +kernel)
    refine dg_get (C := RX6) (T := TX6) (N := 8) hx hb hts (fun w h => bw_mem (wU_X6 w h)) hown K hP sX_209 rfl 0 (dk_dq rfl) (hts _ (bw_mem wB_928)) (fun _ h9 => h9) (v := .int x_4) f_x_4 dX11_fault_8 ?_
    refine W.widen (k := 0) (n := 0) (Nat.le_of_ble_eq_true rfl) (Nat.le_of_ble_eq_true rfl) ?_
    exact dg_iret hx hb hr hlocks rfl hP hS ⟨rfl, (Eq.symm (F_d_fault_p2 c_1 (zI_eq f_x_4))), trivial⟩ dX11_fault_11
noncomputable def F_d_has (o : Nat) (S : dg_S) (a1 : Int32) : dg_S × Int32 := (if a1 = (0 : Int32) then let d_2 : Nat := zR o S 0 6; let x_3 : Int32 := zI S d_2 0; (S, x_3) else (if a1 = (1 : Int32) then let d_4 : Nat := zR o S 0 6; let x_5 : Int32 := zI S d_4 1; (S, x_5) else (if a1 = (2 : Int32) then let d_6 : Nat := zR o S 0 6; let x_7 : Int32 := zI S d_6 6; (S, x_7) else (if a1 = (3 : Int32) then let d_8 : Nat := zR o S 0 6; let x_9 : Int32 := zI S d_8 8; (S, x_9) else (if a1 = (4 : Int32) then let d_10 : Nat := zR o S 0 6; let x_11 : Int32 := zI S d_10 11; (S, x_11) else (if a1 = (5 : Int32) then let x_12 : Int32 := zI S 3 0; (S, x_12) else (if a1 = (6 : Int32) then let x_13 : Int32 := F_d_countOpen o S; (S, x_13) else (if a1 = (7 : Int32) then let S_16 : dg_S := (F_d_countLit o S).1; let x_15 : Int32 := (F_d_countLit o S).2; (S_16, x_15) else (if a1 = (8 : Int32) then let x_17 : Int32 := F_d_countCurtains o S; (S, x_17) else (if a1 = (9 : Int32) then let x_19 : Int32 := F_d_countHurt o S; (S, x_19) else (if a1 = (10 : Int32) then let x_22 : Int32 := F_p_tubsFrom o S 3 (0 : Int32); (S, x_22) else (if a1 = (11 : Int32) then let x_24 : Int32 := zI S 3 1; (S, x_24) else (if a1 = (12 : Int32) then let x_25 : Int32 := F_p_wholeWorth o S 3; (S, x_25) else (if a1 = (13 : Int32) then let x_27 : Int32 := zI S 17 1; (S, x_27) else (if a1 = (14 : Int32) then let x_28 : Int32 := zI S 229 5; (S, x_28) else (if a1 = (15 : Int32) then let x_29 : Int32 := zI S 17 2; (S, x_29) else (if a1 = (16 : Int32) then let x_30 : Int32 := zI S 0 12; (S, x_30) else (S, (-1 : Int32)))))))))))))))))))
theorem F_d_has_p0 {o : Nat} {S : dg_S} {a1 : Int32} (h0 : ¬ (a1 = (0 : Int32))) (h1 : ¬ (a1 = (1 : Int32))) (h2 : ¬ (a1 = (2 : Int32))) (h3 : ¬ (a1 = (3 : Int32))) (h4 : ¬ (a1 = (4 : Int32))) (h5 : ¬ (a1 = (5 : Int32))) (h6 : ¬ (a1 = (6 : Int32))) (h7 : ¬ (a1 = (7 : Int32))) (h8 : ¬ (a1 = (8 : Int32))) (h9 : ¬ (a1 = (9 : Int32))) (h10 : ¬ (a1 = (10 : Int32))) (h11 : ¬ (a1 = (11 : Int32))) (h12 : ¬ (a1 = (12 : Int32))) (h13 : ¬ (a1 = (13 : Int32))) (h14 : ¬ (a1 = (14 : Int32))) (h15 : ¬ (a1 = (15 : Int32))) (h16 : ¬ (a1 = (16 : Int32))) : F_d_has o S a1 = (S, (-1 : Int32)) := (Eq.trans (if_neg h0) (Eq.trans (if_neg h1) (Eq.trans (if_neg h2) (Eq.trans (if_neg h3) (Eq.trans (if_neg h4) (Eq.trans (if_neg h5) (Eq.trans (if_neg h6) (Eq.trans (if_neg h7) (Eq.trans (if_neg h8) (Eq.trans (if_neg h9) (Eq.trans (if_neg h10) (Eq.trans (if_neg h11) (Eq.trans (if_neg h12) (Eq.trans (if_neg h13) (Eq.trans (if_neg h14) (Eq.trans (if_neg h15) (Eq.trans (if_neg h16) rfl)))))))))))))))))
theorem F_d_has_p1 {o : Nat} {S : dg_S} {a1 : Int32} {x_3 : Int32} {d_2 : Nat} (h0 : a1 = (0 : Int32)) (h1 : d_2 = zR o S 0 6) (h2 : x_3 = zI S d_2 0) : F_d_has o S a1 = (S, x_3) := by
  replace h1 := Eq.symm h1
  subst h1
  replace h2 := Eq.symm h2
  subst h2
  exact (Eq.trans (if_pos h0) rfl)
theorem F_d_has_p2 {o : Nat} {S : dg_S} {a1 : Int32} {x_5 : Int32} {d_4 : Nat} (h0 : ¬ (a1 = (0 : Int32))) (h1 : a1 = (1 : Int32)) (h2 : d_4 = zR o S 0 6) (h3 : x_5 = zI S d_4 1) : F_d_has o S a1 = (S, x_5) := by
  replace h2 := Eq.symm h2
  subst h2
  replace h3 := Eq.symm h3
  subst h3
  exact (Eq.trans (if_neg h0) (Eq.trans (if_pos h1) rfl))
theorem F_d_has_p3 {o : Nat} {S : dg_S} {a1 : Int32} {x_7 : Int32} {d_6 : Nat} (h0 : ¬ (a1 = (0 : Int32))) (h1 : ¬ (a1 = (1 : Int32))) (h2 : a1 = (2 : Int32)) (h3 : d_6 = zR o S 0 6) (h4 : x_7 = zI S d_6 6) : F_d_has o S a1 = (S, x_7) := by
  replace h3 := Eq.symm h3
  subst h3
  replace h4 := Eq.symm h4
  subst h4
  exact (Eq.trans (if_neg h0) (Eq.trans (if_neg h1) (Eq.trans (if_pos h2) rfl)))
theorem F_d_has_p4 {o : Nat} {S : dg_S} {a1 : Int32} {x_9 : Int32} {d_8 : Nat} (h0 : ¬ (a1 = (0 : Int32))) (h1 : ¬ (a1 = (1 : Int32))) (h2 : ¬ (a1 = (2 : Int32))) (h3 : a1 = (3 : Int32)) (h4 : d_8 = zR o S 0 6) (h5 : x_9 = zI S d_8 8) : F_d_has o S a1 = (S, x_9) := by
  replace h4 := Eq.symm h4
  subst h4
  replace h5 := Eq.symm h5
  subst h5
  exact (Eq.trans (if_neg h0) (Eq.trans (if_neg h1) (Eq.trans (if_neg h2) (Eq.trans (if_pos h3) rfl))))
theorem F_d_has_p5 {o : Nat} {S : dg_S} {a1 : Int32} {x_11 : Int32} {d_10 : Nat} (h0 : ¬ (a1 = (0 : Int32))) (h1 : ¬ (a1 = (1 : Int32))) (h2 : ¬ (a1 = (2 : Int32))) (h3 : ¬ (a1 = (3 : Int32))) (h4 : a1 = (4 : Int32)) (h5 : d_10 = zR o S 0 6) (h6 : x_11 = zI S d_10 11) : F_d_has o S a1 = (S, x_11) := by
  replace h5 := Eq.symm h5
  subst h5
  replace h6 := Eq.symm h6
  subst h6
  exact (Eq.trans (if_neg h0) (Eq.trans (if_neg h1) (Eq.trans (if_neg h2) (Eq.trans (if_neg h3) (Eq.trans (if_pos h4) rfl)))))
theorem F_d_has_p6 {o : Nat} {S : dg_S} {a1 : Int32} {x_12 : Int32} (h0 : ¬ (a1 = (0 : Int32))) (h1 : ¬ (a1 = (1 : Int32))) (h2 : ¬ (a1 = (2 : Int32))) (h3 : ¬ (a1 = (3 : Int32))) (h4 : ¬ (a1 = (4 : Int32))) (h5 : a1 = (5 : Int32)) (h6 : x_12 = zI S 3 0) : F_d_has o S a1 = (S, x_12) := by
  replace h6 := Eq.symm h6
  subst h6
  exact (Eq.trans (if_neg h0) (Eq.trans (if_neg h1) (Eq.trans (if_neg h2) (Eq.trans (if_neg h3) (Eq.trans (if_neg h4) (Eq.trans (if_pos h5) rfl))))))
theorem F_d_has_p7 {o : Nat} {S : dg_S} {a1 : Int32} {x_13 : Int32} (h0 : ¬ (a1 = (0 : Int32))) (h1 : ¬ (a1 = (1 : Int32))) (h2 : ¬ (a1 = (2 : Int32))) (h3 : ¬ (a1 = (3 : Int32))) (h4 : ¬ (a1 = (4 : Int32))) (h5 : ¬ (a1 = (5 : Int32))) (h6 : a1 = (6 : Int32)) (h7 : x_13 = F_d_countOpen o S) : F_d_has o S a1 = (S, x_13) := by
  replace h7 := Eq.symm h7
  subst h7
  exact (Eq.trans (if_neg h0) (Eq.trans (if_neg h1) (Eq.trans (if_neg h2) (Eq.trans (if_neg h3) (Eq.trans (if_neg h4) (Eq.trans (if_neg h5) (Eq.trans (if_pos h6) rfl)))))))
theorem F_d_has_p8 {o : Nat} {S : dg_S} {a1 : Int32} {S_16 : dg_S} {x_15 : Int32} (h0 : ¬ (a1 = (0 : Int32))) (h1 : ¬ (a1 = (1 : Int32))) (h2 : ¬ (a1 = (2 : Int32))) (h3 : ¬ (a1 = (3 : Int32))) (h4 : ¬ (a1 = (4 : Int32))) (h5 : ¬ (a1 = (5 : Int32))) (h6 : ¬ (a1 = (6 : Int32))) (h7 : a1 = (7 : Int32)) (h8 : S_16 = (F_d_countLit o S).1) (h9 : x_15 = (F_d_countLit o S).2) : F_d_has o S a1 = (S_16, x_15) := by
  replace h8 := Eq.symm h8
  subst h8
  replace h9 := Eq.symm h9
  subst h9
  exact (Eq.trans (if_neg h0) (Eq.trans (if_neg h1) (Eq.trans (if_neg h2) (Eq.trans (if_neg h3) (Eq.trans (if_neg h4) (Eq.trans (if_neg h5) (Eq.trans (if_neg h6) (Eq.trans (if_pos h7) rfl))))))))
theorem F_d_has_p9 {o : Nat} {S : dg_S} {a1 : Int32} {x_17 : Int32} (h0 : ¬ (a1 = (0 : Int32))) (h1 : ¬ (a1 = (1 : Int32))) (h2 : ¬ (a1 = (2 : Int32))) (h3 : ¬ (a1 = (3 : Int32))) (h4 : ¬ (a1 = (4 : Int32))) (h5 : ¬ (a1 = (5 : Int32))) (h6 : ¬ (a1 = (6 : Int32))) (h7 : ¬ (a1 = (7 : Int32))) (h8 : a1 = (8 : Int32)) (h9 : x_17 = F_d_countCurtains o S) : F_d_has o S a1 = (S, x_17) := by
  replace h9 := Eq.symm h9
  subst h9
  exact (Eq.trans (if_neg h0) (Eq.trans (if_neg h1) (Eq.trans (if_neg h2) (Eq.trans (if_neg h3) (Eq.trans (if_neg h4) (Eq.trans (if_neg h5) (Eq.trans (if_neg h6) (Eq.trans (if_neg h7) (Eq.trans (if_pos h8) rfl)))))))))
theorem F_d_has_p10 {o : Nat} {S : dg_S} {a1 : Int32} {x_19 : Int32} (h0 : ¬ (a1 = (0 : Int32))) (h1 : ¬ (a1 = (1 : Int32))) (h2 : ¬ (a1 = (2 : Int32))) (h3 : ¬ (a1 = (3 : Int32))) (h4 : ¬ (a1 = (4 : Int32))) (h5 : ¬ (a1 = (5 : Int32))) (h6 : ¬ (a1 = (6 : Int32))) (h7 : ¬ (a1 = (7 : Int32))) (h8 : ¬ (a1 = (8 : Int32))) (h9 : a1 = (9 : Int32)) (h10 : x_19 = F_d_countHurt o S) : F_d_has o S a1 = (S, x_19) := by
  replace h10 := Eq.symm h10
  subst h10
  exact (Eq.trans (if_neg h0) (Eq.trans (if_neg h1) (Eq.trans (if_neg h2) (Eq.trans (if_neg h3) (Eq.trans (if_neg h4) (Eq.trans (if_neg h5) (Eq.trans (if_neg h6) (Eq.trans (if_neg h7) (Eq.trans (if_neg h8) (Eq.trans (if_pos h9) rfl))))))))))
theorem F_d_has_p11 {o : Nat} {S : dg_S} {a1 : Int32} {x_22 : Int32} (h0 : ¬ (a1 = (0 : Int32))) (h1 : ¬ (a1 = (1 : Int32))) (h2 : ¬ (a1 = (2 : Int32))) (h3 : ¬ (a1 = (3 : Int32))) (h4 : ¬ (a1 = (4 : Int32))) (h5 : ¬ (a1 = (5 : Int32))) (h6 : ¬ (a1 = (6 : Int32))) (h7 : ¬ (a1 = (7 : Int32))) (h8 : ¬ (a1 = (8 : Int32))) (h9 : ¬ (a1 = (9 : Int32))) (h10 : a1 = (10 : Int32)) (h11 : x_22 = F_p_tubsFrom o S 3 (0 : Int32)) : F_d_has o S a1 = (S, x_22) := by
  replace h11 := Eq.symm h11
  subst h11
  exact (Eq.trans (if_neg h0) (Eq.trans (if_neg h1) (Eq.trans (if_neg h2) (Eq.trans (if_neg h3) (Eq.trans (if_neg h4) (Eq.trans (if_neg h5) (Eq.trans (if_neg h6) (Eq.trans (if_neg h7) (Eq.trans (if_neg h8) (Eq.trans (if_neg h9) (Eq.trans (if_pos h10) rfl)))))))))))
theorem F_d_has_p12 {o : Nat} {S : dg_S} {a1 : Int32} {x_24 : Int32} (h0 : ¬ (a1 = (0 : Int32))) (h1 : ¬ (a1 = (1 : Int32))) (h2 : ¬ (a1 = (2 : Int32))) (h3 : ¬ (a1 = (3 : Int32))) (h4 : ¬ (a1 = (4 : Int32))) (h5 : ¬ (a1 = (5 : Int32))) (h6 : ¬ (a1 = (6 : Int32))) (h7 : ¬ (a1 = (7 : Int32))) (h8 : ¬ (a1 = (8 : Int32))) (h9 : ¬ (a1 = (9 : Int32))) (h10 : ¬ (a1 = (10 : Int32))) (h11 : a1 = (11 : Int32)) (h12 : x_24 = zI S 3 1) : F_d_has o S a1 = (S, x_24) := by
  replace h12 := Eq.symm h12
  subst h12
  exact (Eq.trans (if_neg h0) (Eq.trans (if_neg h1) (Eq.trans (if_neg h2) (Eq.trans (if_neg h3) (Eq.trans (if_neg h4) (Eq.trans (if_neg h5) (Eq.trans (if_neg h6) (Eq.trans (if_neg h7) (Eq.trans (if_neg h8) (Eq.trans (if_neg h9) (Eq.trans (if_neg h10) (Eq.trans (if_pos h11) rfl))))))))))))
theorem F_d_has_p13 {o : Nat} {S : dg_S} {a1 : Int32} {x_25 : Int32} (h0 : ¬ (a1 = (0 : Int32))) (h1 : ¬ (a1 = (1 : Int32))) (h2 : ¬ (a1 = (2 : Int32))) (h3 : ¬ (a1 = (3 : Int32))) (h4 : ¬ (a1 = (4 : Int32))) (h5 : ¬ (a1 = (5 : Int32))) (h6 : ¬ (a1 = (6 : Int32))) (h7 : ¬ (a1 = (7 : Int32))) (h8 : ¬ (a1 = (8 : Int32))) (h9 : ¬ (a1 = (9 : Int32))) (h10 : ¬ (a1 = (10 : Int32))) (h11 : ¬ (a1 = (11 : Int32))) (h12 : a1 = (12 : Int32)) (h13 : x_25 = F_p_wholeWorth o S 3) : F_d_has o S a1 = (S, x_25) := by
  replace h13 := Eq.symm h13
  subst h13
  exact (Eq.trans (if_neg h0) (Eq.trans (if_neg h1) (Eq.trans (if_neg h2) (Eq.trans (if_neg h3) (Eq.trans (if_neg h4) (Eq.trans (if_neg h5) (Eq.trans (if_neg h6) (Eq.trans (if_neg h7) (Eq.trans (if_neg h8) (Eq.trans (if_neg h9) (Eq.trans (if_neg h10) (Eq.trans (if_neg h11) (Eq.trans (if_pos h12) rfl)))))))))))))
theorem F_d_has_p14 {o : Nat} {S : dg_S} {a1 : Int32} {x_27 : Int32} (h0 : ¬ (a1 = (0 : Int32))) (h1 : ¬ (a1 = (1 : Int32))) (h2 : ¬ (a1 = (2 : Int32))) (h3 : ¬ (a1 = (3 : Int32))) (h4 : ¬ (a1 = (4 : Int32))) (h5 : ¬ (a1 = (5 : Int32))) (h6 : ¬ (a1 = (6 : Int32))) (h7 : ¬ (a1 = (7 : Int32))) (h8 : ¬ (a1 = (8 : Int32))) (h9 : ¬ (a1 = (9 : Int32))) (h10 : ¬ (a1 = (10 : Int32))) (h11 : ¬ (a1 = (11 : Int32))) (h12 : ¬ (a1 = (12 : Int32))) (h13 : a1 = (13 : Int32)) (h14 : x_27 = zI S 17 1) : F_d_has o S a1 = (S, x_27) := by
  replace h14 := Eq.symm h14
  subst h14
  exact (Eq.trans (if_neg h0) (Eq.trans (if_neg h1) (Eq.trans (if_neg h2) (Eq.trans (if_neg h3) (Eq.trans (if_neg h4) (Eq.trans (if_neg h5) (Eq.trans (if_neg h6) (Eq.trans (if_neg h7) (Eq.trans (if_neg h8) (Eq.trans (if_neg h9) (Eq.trans (if_neg h10) (Eq.trans (if_neg h11) (Eq.trans (if_neg h12) (Eq.trans (if_pos h13) rfl))))))))))))))
theorem F_d_has_p15 {o : Nat} {S : dg_S} {a1 : Int32} {x_28 : Int32} (h0 : ¬ (a1 = (0 : Int32))) (h1 : ¬ (a1 = (1 : Int32))) (h2 : ¬ (a1 = (2 : Int32))) (h3 : ¬ (a1 = (3 : Int32))) (h4 : ¬ (a1 = (4 : Int32))) (h5 : ¬ (a1 = (5 : Int32))) (h6 : ¬ (a1 = (6 : Int32))) (h7 : ¬ (a1 = (7 : Int32))) (h8 : ¬ (a1 = (8 : Int32))) (h9 : ¬ (a1 = (9 : Int32))) (h10 : ¬ (a1 = (10 : Int32))) (h11 : ¬ (a1 = (11 : Int32))) (h12 : ¬ (a1 = (12 : Int32))) (h13 : ¬ (a1 = (13 : Int32))) (h14 : a1 = (14 : Int32)) (h15 : x_28 = zI S 229 5) : F_d_has o S a1 = (S, x_28) := by
  replace h15 := Eq.symm h15
  subst h15
  exact (Eq.trans (if_neg h0) (Eq.trans (if_neg h1) (Eq.trans (if_neg h2) (Eq.trans (if_neg h3) (Eq.trans (if_neg h4) (Eq.trans (if_neg h5) (Eq.trans (if_neg h6) (Eq.trans (if_neg h7) (Eq.trans (if_neg h8) (Eq.trans (if_neg h9) (Eq.trans (if_neg h10) (Eq.trans (if_neg h11) (Eq.trans (if_neg h12) (Eq.trans (if_neg h13) (Eq.trans (if_pos h14) rfl)))))))))))))))
theorem F_d_has_p16 {o : Nat} {S : dg_S} {a1 : Int32} {x_29 : Int32} (h0 : ¬ (a1 = (0 : Int32))) (h1 : ¬ (a1 = (1 : Int32))) (h2 : ¬ (a1 = (2 : Int32))) (h3 : ¬ (a1 = (3 : Int32))) (h4 : ¬ (a1 = (4 : Int32))) (h5 : ¬ (a1 = (5 : Int32))) (h6 : ¬ (a1 = (6 : Int32))) (h7 : ¬ (a1 = (7 : Int32))) (h8 : ¬ (a1 = (8 : Int32))) (h9 : ¬ (a1 = (9 : Int32))) (h10 : ¬ (a1 = (10 : Int32))) (h11 : ¬ (a1 = (11 : Int32))) (h12 : ¬ (a1 = (12 : Int32))) (h13 : ¬ (a1 = (13 : Int32))) (h14 : ¬ (a1 = (14 : Int32))) (h15 : a1 = (15 : Int32)) (h16 : x_29 = zI S 17 2) : F_d_has o S a1 = (S, x_29) := by
  replace h16 := Eq.symm h16
  subst h16
  exact (Eq.trans (if_neg h0) (Eq.trans (if_neg h1) (Eq.trans (if_neg h2) (Eq.trans (if_neg h3) (Eq.trans (if_neg h4) (Eq.trans (if_neg h5) (Eq.trans (if_neg h6) (Eq.trans (if_neg h7) (Eq.trans (if_neg h8) (Eq.trans (if_neg h9) (Eq.trans (if_neg h10) (Eq.trans (if_neg h11) (Eq.trans (if_neg h12) (Eq.trans (if_neg h13) (Eq.trans (if_neg h14) (Eq.trans (if_pos h15) rfl))))))))))))))))
theorem F_d_has_p17 {o : Nat} {S : dg_S} {a1 : Int32} {x_30 : Int32} (h0 : ¬ (a1 = (0 : Int32))) (h1 : ¬ (a1 = (1 : Int32))) (h2 : ¬ (a1 = (2 : Int32))) (h3 : ¬ (a1 = (3 : Int32))) (h4 : ¬ (a1 = (4 : Int32))) (h5 : ¬ (a1 = (5 : Int32))) (h6 : ¬ (a1 = (6 : Int32))) (h7 : ¬ (a1 = (7 : Int32))) (h8 : ¬ (a1 = (8 : Int32))) (h9 : ¬ (a1 = (9 : Int32))) (h10 : ¬ (a1 = (10 : Int32))) (h11 : ¬ (a1 = (11 : Int32))) (h12 : ¬ (a1 = (12 : Int32))) (h13 : ¬ (a1 = (13 : Int32))) (h14 : ¬ (a1 = (14 : Int32))) (h15 : ¬ (a1 = (15 : Int32))) (h16 : a1 = (16 : Int32)) (h17 : x_30 = zI S 0 12) : F_d_has o S a1 = (S, x_30) := by
  replace h17 := Eq.symm h17
  subst h17
  exact (Eq.trans (if_neg h0) (Eq.trans (if_neg h1) (Eq.trans (if_neg h2) (Eq.trans (if_neg h3) (Eq.trans (if_neg h4) (Eq.trans (if_neg h5) (Eq.trans (if_neg h6) (Eq.trans (if_neg h7) (Eq.trans (if_neg h8) (Eq.trans (if_neg h9) (Eq.trans (if_neg h10) (Eq.trans (if_neg h11) (Eq.trans (if_neg h12) (Eq.trans (if_neg h13) (Eq.trans (if_neg h14) (Eq.trans (if_neg h15) (Eq.trans (if_pos h16) rfl)))))))))))))))))
set_option maxHeartbeats 8000000 in
set_option maxRecDepth 100000 in
theorem c_d_has (l : Launch) (g : Nat → ClassId) (D : va_G) (o : Nat) (S : dg_S) (a1 : Int32) (Z1 : Z1X S) (Z2 : Z2X S) (Z3 : Z3X o S) (Z4 : Z4X S) (Z6 : Z6X S) (I : CX o S) (sz : Nat) : Met l yX11_has (bw yX11_has cX11_has 2 (some .int)) ({ frames := 7, cells := 0, slots := 0, locals := 170 } : Room) (dk_Pc g D (dg_w g shX o rfX S) sz [.ref (o + 0), .int a1]) (va_Qi (fun (r : Int32) S' => CX o S' ∧ dg_sm shX [(36, 4), (36, 6), (36, 7), (36, 8), (36, 9)] [39, 40, 41, 42] S S' ∧ Z2X S' ∧ Z3X o S' ∧ (S' = (F_d_has o S a1).1 ∧ r = (F_d_has o S a1).2) ∧ True) (dg_B g D shX o rfX) (dg_A o shX.length sz)) 0 0 (dg_A o shX.length sz) := by
  refine dg_met (cc := cX11_has) (maxL := 2) (ret := (some .int)) (dk_dq rfl) rfl (Nat.le_of_ble_eq_true rfl) ?_
  intro p e s m args below meth c A hAe harg hx hb hr hml hts hown hlocks hin hP K hS hA1 hA ST hsz ls hl
  rw [← hAe]
  have F : CallFix p m c cX11_has 2 s args (bw yX11_has cX11_has 2 (some .int)) RX11 := ⟨hx, hb, hml, hown, hts⟩
  have hl : lv_has ls 2 [(0, .ref (o + 0)), (1, .int a1)] := hl
  have M_0 : dg_sm shX [(36, 4), (36, 6), (36, 7), (36, 8), (36, 9)] [39, 40, 41, 42] S S := dg_sm.rf
  refine lv_iload_n hx hb dX11_has_0 rfl (lv_at hl 1 rfl) ?_
  rcases (show ((a1).toInt < 0 ∨ 16 < (a1).toInt) ∨ (a1).toInt = 0 ∨ (a1).toInt = 1 ∨ (a1).toInt = 2 ∨ (a1).toInt = 3 ∨ (a1).toInt = 4 ∨ (a1).toInt = 5 ∨ (a1).toInt = 6 ∨ (a1).toInt = 7 ∨ (a1).toInt = 8 ∨ (a1).toInt = 9 ∨ (a1).toInt = 10 ∨ (a1).toInt = 11 ∨ (a1).toInt = 12 ∨ (a1).toInt = 13 ∨ (a1).toInt = 14 ∨ (a1).toInt = 15 ∨ (a1).toInt = 16 by omega) with jc_1 | jc_1 | jc_1 | jc_1 | jc_1 | jc_1 | jc_1 | jc_1 | jc_1 | jc_1 | jc_1 | jc_1 | jc_1 | jc_1 | jc_1 | jc_1 | jc_1 | jc_1
  · refine lv_tableOut (tgt := 206) hx hb dX11_has_1 jc_1 (dk_dq rfl) ?_
    refine lv_iconst (v := (-1)) hx hb dX11_has_206 (by decide +kernel) ?_
    refine W.widen (k := 0) (n := 0) (Nat.le_of_ble_eq_true rfl) (Nat.le_of_ble_eq_true rfl) ?_
    exact dg_iret hx hb hr hlocks rfl hP hS ⟨I, M_0, Z2, Z3, ⟨congrArg Prod.fst (Eq.symm (F_d_has_p0 (dk_neO jc_1 (k := 0) (b := 0) (by decide +kernel) (dk_dq rfl)) (dk_neO jc_1 (k := 1) (b := 1) (by decide +kernel) (dk_dq rfl)) (dk_neO jc_1 (k := 2) (b := 2) (by decide +kernel) (dk_dq rfl)) (dk_neO jc_1 (k := 3) (b := 3) (by decide +kernel) (dk_dq rfl)) (dk_neO jc_1 (k := 4) (b := 4) (by decide +kernel) (dk_dq rfl)) (dk_neO jc_1 (k := 5) (b := 5) (by decide +kernel) (dk_dq rfl)) (dk_neO jc_1 (k := 6) (b := 6) (by decide +kernel) (dk_dq rfl)) (dk_neO jc_1 (k := 7) (b := 7) (by decide +kernel) (dk_dq rfl)) (dk_neO jc_1 (k := 8) (b := 8) (by decide +kernel) (dk_dq rfl)) (dk_neO jc_1 (k := 9) (b := 9) (by decide +kernel) (dk_dq rfl)) (dk_neO jc_1 (k := 10) (b := 10) (by decide +kernel) (dk_dq rfl)) (dk_neO jc_1 (k := 11) (b := 11) (by decide +kernel) (dk_dq rfl)) (dk_neO jc_1 (k := 12) (b := 12) (by decide +kernel) (dk_dq rfl)) (dk_neO jc_1 (k := 13) (b := 13) (by decide +kernel) (dk_dq rfl)) (dk_neO jc_1 (k := 14) (b := 14) (by decide +kernel) (dk_dq rfl)) (dk_neO jc_1 (k := 15) (b := 15) (by decide +kernel) (dk_dq rfl)) (dk_neO jc_1 (k := 16) (b := 16) (by decide +kernel) (dk_dq rfl)))), congrArg Prod.snd (Eq.symm (F_d_has_p0 (dk_neO jc_1 (k := 0) (b := 0) (by decide +kernel) (dk_dq rfl)) (dk_neO jc_1 (k := 1) (b := 1) (by decide +kernel) (dk_dq rfl)) (dk_neO jc_1 (k := 2) (b := 2) (by decide +kernel) (dk_dq rfl)) (dk_neO jc_1 (k := 3) (b := 3) (by decide +kernel) (dk_dq rfl)) (dk_neO jc_1 (k := 4) (b := 4) (by decide +kernel) (dk_dq rfl)) (dk_neO jc_1 (k := 5) (b := 5) (by decide +kernel) (dk_dq rfl)) (dk_neO jc_1 (k := 6) (b := 6) (by decide +kernel) (dk_dq rfl)) (dk_neO jc_1 (k := 7) (b := 7) (by decide +kernel) (dk_dq rfl)) (dk_neO jc_1 (k := 8) (b := 8) (by decide +kernel) (dk_dq rfl)) (dk_neO jc_1 (k := 9) (b := 9) (by decide +kernel) (dk_dq rfl)) (dk_neO jc_1 (k := 10) (b := 10) (by decide +kernel) (dk_dq rfl)) (dk_neO jc_1 (k := 11) (b := 11) (by decide +kernel) (dk_dq rfl)) (dk_neO jc_1 (k := 12) (b := 12) (by decide +kernel) (dk_dq rfl)) (dk_neO jc_1 (k := 13) (b := 13) (by decide +kernel) (dk_dq rfl)) (dk_neO jc_1 (k := 14) (b := 14) (by decide +kernel) (dk_dq rfl)) (dk_neO jc_1 (k := 15) (b := 15) (by decide +kernel) (dk_dq rfl)) (dk_neO jc_1 (k := 16) (b := 16) (by decide +kernel) (dk_dq rfl))))⟩, trivial⟩ dX11_has_207
  · refine lv_tableIn (off := 83) (tgt := 84) hx hb dX11_has_1 (by rw [jc_1]; decide) (by rw [jc_1]; decide) (by rw [jc_1]; decide +kernel) (dk_dq rfl) ?_
    refine lv_aload_n hx hb dX11_has_84 rfl (lv_at hl 0 rfl) ?_
    obtain ⟨d_2, hk_d_2, f_d_2⟩ := dg_I.one (i := 0) (k := 6) (d := 0) I sX_0 (by decide +kernel)
    have hk_d_2 : rX d_2 := hk_d_2
    refine dg_get (C := RX11) (T := TX11) (N := 13) hx hb hts (fun w h => bw_mem (wU_X11 w h)) hown K hP sX_0 rfl 6 (dk_dq rfl) (hts _ (bw_mem wB_286)) (fun _ h9 => h9) (v := .ref (o + d_2)) f_d_2 dX11_has_85 ?_
    obtain ⟨x_3, f_x_3, b_x_3⟩ := dg_I.int (i := d_2) (k := 0) (lo := 0) (hi := 7) I (rX_0 d_2 hk_d_2) (by decide +kernel)
    refine dg_get (C := RX2) (T := TX2) (N := 19) hx hb hts (fun w h => bw_mem (wU_X2 w h)) hown K hP (rX_0 d_2 hk_d_2) rfl 0 (dk_dq rfl) (hts _ (bw_mem wB_878)) (fun _ h9 => h9) (v := .int x_3) f_x_3 dX11_has_88 ?_
    refine W.widen (k := 0) (n := 0) (Nat.le_of_ble_eq_true rfl) (Nat.le_of_ble_eq_true rfl) ?_
    exact dg_iret hx hb hr hlocks rfl hP hS ⟨I, M_0, Z2, Z3, ⟨congrArg Prod.fst (Eq.symm (F_d_has_p1 (dk_eqT jc_1 (k := 0) (by decide +kernel)) (zR_eq f_d_2) (zI_eq f_x_3))), congrArg Prod.snd (Eq.symm (F_d_has_p1 (dk_eqT jc_1 (k := 0) (by decide +kernel)) (zR_eq f_d_2) (zI_eq f_x_3)))⟩, trivial⟩ dX11_has_91
  · refine lv_tableIn (off := 91) (tgt := 92) hx hb dX11_has_1 (by rw [jc_1]; decide) (by rw [jc_1]; decide) (by rw [jc_1]; decide +kernel) (dk_dq rfl) ?_
    refine lv_aload_n hx hb dX11_has_92 rfl (lv_at hl 0 rfl) ?_
    obtain ⟨d_4, hk_d_4, f_d_4⟩ := dg_I.one (i := 0) (k := 6) (d := 0) I sX_0 (by decide +kernel)
    have hk_d_4 : rX d_4 := hk_d_4
    refine dg_get (C := RX11) (T := TX11) (N := 13) hx hb hts (fun w h => bw_mem (wU_X11 w h)) hown K hP sX_0 rfl 6 (dk_dq rfl) (hts _ (bw_mem wB_286)) (fun _ h9 => h9) (v := .ref (o + d_4)) f_d_4 dX11_has_93 ?_
    obtain ⟨x_5, f_x_5, b_x_5⟩ := dg_I.int (i := d_4) (k := 1) (lo := 0) (hi := 7) I (rX_0 d_4 hk_d_4) (by decide +kernel)
    refine dg_get (C := RX2) (T := TX2) (N := 19) hx hb hts (fun w h => bw_mem (wU_X2 w h)) hown K hP (rX_0 d_4 hk_d_4) rfl 1 (dk_dq rfl) (hts _ (bw_mem wB_879)) (fun _ h9 => h9) (v := .int x_5) f_x_5 dX11_has_96 ?_
    refine W.widen (k := 0) (n := 0) (Nat.le_of_ble_eq_true rfl) (Nat.le_of_ble_eq_true rfl) ?_
    exact dg_iret hx hb hr hlocks rfl hP hS ⟨I, M_0, Z2, Z3, ⟨congrArg Prod.fst (Eq.symm (F_d_has_p2 (dk_neT jc_1 (k := 0) (b := 0) (by decide +kernel) (dk_dq rfl)) (dk_eqT jc_1 (k := 1) (by decide +kernel)) (zR_eq f_d_4) (zI_eq f_x_5))), congrArg Prod.snd (Eq.symm (F_d_has_p2 (dk_neT jc_1 (k := 0) (b := 0) (by decide +kernel) (dk_dq rfl)) (dk_eqT jc_1 (k := 1) (by decide +kernel)) (zR_eq f_d_4) (zI_eq f_x_5)))⟩, trivial⟩ dX11_has_99
  · refine lv_tableIn (off := 99) (tgt := 100) hx hb dX11_has_1 (by rw [jc_1]; decide) (by rw [jc_1]; decide) (by rw [jc_1]; decide +kernel) (dk_dq rfl) ?_
    refine lv_aload_n hx hb dX11_has_100 rfl (lv_at hl 0 rfl) ?_
    obtain ⟨d_6, hk_d_6, f_d_6⟩ := dg_I.one (i := 0) (k := 6) (d := 0) I sX_0 (by decide +kernel)
    have hk_d_6 : rX d_6 := hk_d_6
    refine dg_get (C := RX11) (T := TX11) (N := 13) hx hb hts (fun w h => bw_mem (wU_X11 w h)) hown K hP sX_0 rfl 6 (dk_dq rfl) (hts _ (bw_mem wB_286)) (fun _ h9 => h9) (v := .ref (o + d_6)) f_d_6 dX11_has_101 ?_
    obtain ⟨x_7, f_x_7, b_x_7⟩ := dg_I.int (i := d_6) (k := 6) (lo := 0) (hi := 6) I (rX_0 d_6 hk_d_6) (by decide +kernel)
    refine dg_get (C := RX2) (T := TX2) (N := 19) hx hb hts (fun w h => bw_mem (wU_X2 w h)) hown K hP (rX_0 d_6 hk_d_6) rfl 6 (dk_dq rfl) (hts _ (bw_mem wB_891)) (fun _ h9 => h9) (v := .int x_7) f_x_7 dX11_has_104 ?_
    refine W.widen (k := 0) (n := 0) (Nat.le_of_ble_eq_true rfl) (Nat.le_of_ble_eq_true rfl) ?_
    exact dg_iret hx hb hr hlocks rfl hP hS ⟨I, M_0, Z2, Z3, ⟨congrArg Prod.fst (Eq.symm (F_d_has_p3 (dk_neT jc_1 (k := 0) (b := 0) (by decide +kernel) (dk_dq rfl)) (dk_neT jc_1 (k := 1) (b := 1) (by decide +kernel) (dk_dq rfl)) (dk_eqT jc_1 (k := 2) (by decide +kernel)) (zR_eq f_d_6) (zI_eq f_x_7))), congrArg Prod.snd (Eq.symm (F_d_has_p3 (dk_neT jc_1 (k := 0) (b := 0) (by decide +kernel) (dk_dq rfl)) (dk_neT jc_1 (k := 1) (b := 1) (by decide +kernel) (dk_dq rfl)) (dk_eqT jc_1 (k := 2) (by decide +kernel)) (zR_eq f_d_6) (zI_eq f_x_7)))⟩, trivial⟩ dX11_has_107
  · refine lv_tableIn (off := 107) (tgt := 108) hx hb dX11_has_1 (by rw [jc_1]; decide) (by rw [jc_1]; decide) (by rw [jc_1]; decide +kernel) (dk_dq rfl) ?_
    refine lv_aload_n hx hb dX11_has_108 rfl (lv_at hl 0 rfl) ?_
    obtain ⟨d_8, hk_d_8, f_d_8⟩ := dg_I.one (i := 0) (k := 6) (d := 0) I sX_0 (by decide +kernel)
    have hk_d_8 : rX d_8 := hk_d_8
    refine dg_get (C := RX11) (T := TX11) (N := 13) hx hb hts (fun w h => bw_mem (wU_X11 w h)) hown K hP sX_0 rfl 6 (dk_dq rfl) (hts _ (bw_mem wB_286)) (fun _ h9 => h9) (v := .ref (o + d_8)) f_d_8 dX11_has_109 ?_
    obtain ⟨x_9, f_x_9, b_x_9⟩ := dg_I.int (i := d_8) (k := 8) (lo := 0) (hi := 16) I (rX_0 d_8 hk_d_8) (by decide +kernel)
    refine dg_get (C := RX2) (T := TX2) (N := 19) hx hb hts (fun w h => bw_mem (wU_X2 w h)) hown K hP (rX_0 d_8 hk_d_8) rfl 8 (dk_dq rfl) (hts _ (bw_mem wB_929)) (fun _ h9 => h9) (v := .int x_9) f_x_9 dX11_has_112 ?_
    refine W.widen (k := 0) (n := 0) (Nat.le_of_ble_eq_true rfl) (Nat.le_of_ble_eq_true rfl) ?_
    exact dg_iret hx hb hr hlocks rfl hP hS ⟨I, M_0, Z2, Z3, ⟨congrArg Prod.fst (Eq.symm (F_d_has_p4 (dk_neT jc_1 (k := 0) (b := 0) (by decide +kernel) (dk_dq rfl)) (dk_neT jc_1 (k := 1) (b := 1) (by decide +kernel) (dk_dq rfl)) (dk_neT jc_1 (k := 2) (b := 2) (by decide +kernel) (dk_dq rfl)) (dk_eqT jc_1 (k := 3) (by decide +kernel)) (zR_eq f_d_8) (zI_eq f_x_9))), congrArg Prod.snd (Eq.symm (F_d_has_p4 (dk_neT jc_1 (k := 0) (b := 0) (by decide +kernel) (dk_dq rfl)) (dk_neT jc_1 (k := 1) (b := 1) (by decide +kernel) (dk_dq rfl)) (dk_neT jc_1 (k := 2) (b := 2) (by decide +kernel) (dk_dq rfl)) (dk_eqT jc_1 (k := 3) (by decide +kernel)) (zR_eq f_d_8) (zI_eq f_x_9)))⟩, trivial⟩ dX11_has_115
  · refine lv_tableIn (off := 115) (tgt := 116) hx hb dX11_has_1 (by rw [jc_1]; decide) (by rw [jc_1]; decide) (by rw [jc_1]; decide +kernel) (dk_dq rfl) ?_
    refine lv_aload_n hx hb dX11_has_116 rfl (lv_at hl 0 rfl) ?_
    obtain ⟨d_10, hk_d_10, f_d_10⟩ := dg_I.one (i := 0) (k := 6) (d := 0) I sX_0 (by decide +kernel)
    have hk_d_10 : rX d_10 := hk_d_10
    refine dg_get (C := RX11) (T := TX11) (N := 13) hx hb hts (fun w h => bw_mem (wU_X11 w h)) hown K hP sX_0 rfl 6 (dk_dq rfl) (hts _ (bw_mem wB_286)) (fun _ h9 => h9) (v := .ref (o + d_10)) f_d_10 dX11_has_117 ?_
    obtain ⟨x_11, f_x_11, b_x_11⟩ := dg_I.int (i := d_10) (k := 11) (lo := 0) (hi := 5) I (rX_0 d_10 hk_d_10) (by decide +kernel)
    refine dg_get (C := RX2) (T := TX2) (N := 19) hx hb hts (fun w h => bw_mem (wU_X2 w h)) hown K hP (rX_0 d_10 hk_d_10) rfl 11 (dk_dq rfl) (hts _ (bw_mem wB_900)) (fun _ h9 => h9) (v := .int x_11) f_x_11 dX11_has_120 ?_
    refine W.widen (k := 0) (n := 0) (Nat.le_of_ble_eq_true rfl) (Nat.le_of_ble_eq_true rfl) ?_
    exact dg_iret hx hb hr hlocks rfl hP hS ⟨I, M_0, Z2, Z3, ⟨congrArg Prod.fst (Eq.symm (F_d_has_p5 (dk_neT jc_1 (k := 0) (b := 0) (by decide +kernel) (dk_dq rfl)) (dk_neT jc_1 (k := 1) (b := 1) (by decide +kernel) (dk_dq rfl)) (dk_neT jc_1 (k := 2) (b := 2) (by decide +kernel) (dk_dq rfl)) (dk_neT jc_1 (k := 3) (b := 3) (by decide +kernel) (dk_dq rfl)) (dk_eqT jc_1 (k := 4) (by decide +kernel)) (zR_eq f_d_10) (zI_eq f_x_11))), congrArg Prod.snd (Eq.symm (F_d_has_p5 (dk_neT jc_1 (k := 0) (b := 0) (by decide +kernel) (dk_dq rfl)) (dk_neT jc_1 (k := 1) (b := 1) (by decide +kernel) (dk_dq rfl)) (dk_neT jc_1 (k := 2) (b := 2) (by decide +kernel) (dk_dq rfl)) (dk_neT jc_1 (k := 3) (b := 3) (by decide +kernel) (dk_dq rfl)) (dk_eqT jc_1 (k := 4) (by decide +kernel)) (zR_eq f_d_10) (zI_eq f_x_11)))⟩, trivial⟩ dX11_has_123
  · refine lv_tableIn (off := 123) (tgt := 124) hx hb dX11_has_1 (by rw [jc_1]; decide) (by rw [jc_1]; decide) (by rw [jc_1]; decide +kernel) (dk_dq rfl) ?_
    refine lv_aload_n hx hb dX11_has_124 rfl (lv_at hl 0 rfl) ?_
    refine dg_get (C := RX11) (T := TX11) (N := 13) hx hb hts (fun w h => bw_mem (wU_X11 w h)) hown K hP sX_0 rfl 1 (dk_dq rfl) (hts _ (bw_mem wB_287)) (fun _ h9 => h9) (v := .ref (o + 3)) (show S.1 0 1 = .ref (o + 3) from dg_I.rel (d := 3) I sX_0 (by decide +kernel)) dX11_has_125 ?_
    obtain ⟨x_12, f_x_12, b_x_12⟩ := dg_I.int (i := 3) (k := 0) (lo := 0) (hi := 65535) I (pX_0 3 (dk_dq rfl)) (by decide +kernel)
    refine dg_get (C := RX5) (T := TX5) (N := 8) hx hb hts (fun w h => bw_mem (wU_X5 w h)) hown K hP (pX_0 3 (dk_dq rfl)) rfl 0 (dk_dq rfl) (hts _ (bw_mem wB_855)) (fun _ h9 => h9) (v := .int x_12) f_x_12 dX11_has_128 ?_
    refine W.widen (k := 0) (n := 0) (Nat.le_of_ble_eq_true rfl) (Nat.le_of_ble_eq_true rfl) ?_
    exact dg_iret hx hb hr hlocks rfl hP hS ⟨I, M_0, Z2, Z3, ⟨congrArg Prod.fst (Eq.symm (F_d_has_p6 (dk_neT jc_1 (k := 0) (b := 0) (by decide +kernel) (dk_dq rfl)) (dk_neT jc_1 (k := 1) (b := 1) (by decide +kernel) (dk_dq rfl)) (dk_neT jc_1 (k := 2) (b := 2) (by decide +kernel) (dk_dq rfl)) (dk_neT jc_1 (k := 3) (b := 3) (by decide +kernel) (dk_dq rfl)) (dk_neT jc_1 (k := 4) (b := 4) (by decide +kernel) (dk_dq rfl)) (dk_eqT jc_1 (k := 5) (by decide +kernel)) (zI_eq f_x_12))), congrArg Prod.snd (Eq.symm (F_d_has_p6 (dk_neT jc_1 (k := 0) (b := 0) (by decide +kernel) (dk_dq rfl)) (dk_neT jc_1 (k := 1) (b := 1) (by decide +kernel) (dk_dq rfl)) (dk_neT jc_1 (k := 2) (b := 2) (by decide +kernel) (dk_dq rfl)) (dk_neT jc_1 (k := 3) (b := 3) (by decide +kernel) (dk_dq rfl)) (dk_neT jc_1 (k := 4) (b := 4) (by decide +kernel) (dk_dq rfl)) (dk_eqT jc_1 (k := 5) (by decide +kernel)) (zI_eq f_x_12)))⟩, trivial⟩ dX11_has_131
  · refine lv_tableIn (off := 131) (tgt := 132) hx hb dX11_has_1 (by rw [jc_1]; decide) (by rw [jc_1]; decide) (by rw [jc_1]; decide +kernel) (dk_dq rfl) ?_
    refine lv_aload_n hx hb dX11_has_132 rfl (lv_at hl 0 rfl) ?_
    refine dg_calli hS hA1 hA (va_runV (As := []) (rest := []) F (c_d_countOpen l g D o S Z1 Z2 Z3 Z4 Z6 I s.heap.size) (cwV 0 hts (bw_V wB_931 wB_932 wB_933 wB_610 wB_930) rfl rfl rfl (by decide +kernel) ⟨Nat.le_of_ble_eq_true rfl, Nat.le_of_ble_eq_true rfl⟩) (dg_preV sX_0 rfl K ST hP hS hA1 hA) rfl rfl hl.1 rfl (lv_room (Nat.le_of_ble_eq_true rfl)) dX11_has_133 ⟨Nat.le_of_ble_eq_true rfl, Nat.le_of_ble_eq_true rfl⟩) (fun x_13 S_14 hw_14 H locs hP hS => ?_)
    rw [hw_14.1] at hP
    obtain ⟨hq_14, w_14_0, -⟩ := hw_14
    refine W.widen (k := 0) (n := 0) (Nat.le_of_ble_eq_true rfl) (Nat.le_of_ble_eq_true rfl) ?_
    exact dg_iret hx hb hr hlocks rfl hP hS ⟨I, M_0, Z2, Z3, ⟨congrArg Prod.fst (Eq.symm (F_d_has_p7 (dk_neT jc_1 (k := 0) (b := 0) (by decide +kernel) (dk_dq rfl)) (dk_neT jc_1 (k := 1) (b := 1) (by decide +kernel) (dk_dq rfl)) (dk_neT jc_1 (k := 2) (b := 2) (by decide +kernel) (dk_dq rfl)) (dk_neT jc_1 (k := 3) (b := 3) (by decide +kernel) (dk_dq rfl)) (dk_neT jc_1 (k := 4) (b := 4) (by decide +kernel) (dk_dq rfl)) (dk_neT jc_1 (k := 5) (b := 5) (by decide +kernel) (dk_dq rfl)) (dk_eqT jc_1 (k := 6) (by decide +kernel)) w_14_0)), congrArg Prod.snd (Eq.symm (F_d_has_p7 (dk_neT jc_1 (k := 0) (b := 0) (by decide +kernel) (dk_dq rfl)) (dk_neT jc_1 (k := 1) (b := 1) (by decide +kernel) (dk_dq rfl)) (dk_neT jc_1 (k := 2) (b := 2) (by decide +kernel) (dk_dq rfl)) (dk_neT jc_1 (k := 3) (b := 3) (by decide +kernel) (dk_dq rfl)) (dk_neT jc_1 (k := 4) (b := 4) (by decide +kernel) (dk_dq rfl)) (dk_neT jc_1 (k := 5) (b := 5) (by decide +kernel) (dk_dq rfl)) (dk_eqT jc_1 (k := 6) (by decide +kernel)) w_14_0))⟩, trivial⟩ dX11_has_136
  · refine lv_tableIn (off := 136) (tgt := 137) hx hb dX11_has_1 (by rw [jc_1]; decide) (by rw [jc_1]; decide) (by rw [jc_1]; decide +kernel) (dk_dq rfl) ?_
    refine lv_aload_n hx hb dX11_has_137 rfl (lv_at hl 0 rfl) ?_
    refine dg_calli hS hA1 hA (va_runV (As := []) (rest := []) F (c_d_countLit l g D o S Z1 Z2 Z3 Z4 Z6 I s.heap.size) (cwV 0 hts (bw_V wB_935 wB_936 wB_937 wB_610 wB_934) rfl rfl rfl (by decide +kernel) ⟨Nat.le_of_ble_eq_true rfl, Nat.le_of_ble_eq_true rfl⟩) (dg_preV sX_0 rfl K ST hP hS hA1 hA) rfl rfl hl.1 rfl (lv_room (Nat.le_of_ble_eq_true rfl)) dX11_has_138 ⟨Nat.le_of_ble_eq_true rfl, Nat.le_of_ble_eq_true rfl⟩) (fun x_15 S_16 hw_16 H locs hP hS => ?_)
    obtain ⟨I_16, m_16, w_16_0, w_16_1, w_16_2, -⟩ := hw_16
    have M_16 := dg_sm.tr M_0 m_16 (dk_dq rfl) (dk_dq rfl)
    refine W.widen (k := 0) (n := 0) (Nat.le_of_ble_eq_true rfl) (Nat.le_of_ble_eq_true rfl) ?_
    exact dg_iret hx hb hr hlocks rfl hP hS ⟨I_16, M_16, w_16_0, w_16_1, ⟨congrArg Prod.fst (Eq.symm (F_d_has_p8 (dk_neT jc_1 (k := 0) (b := 0) (by decide +kernel) (dk_dq rfl)) (dk_neT jc_1 (k := 1) (b := 1) (by decide +kernel) (dk_dq rfl)) (dk_neT jc_1 (k := 2) (b := 2) (by decide +kernel) (dk_dq rfl)) (dk_neT jc_1 (k := 3) (b := 3) (by decide +kernel) (dk_dq rfl)) (dk_neT jc_1 (k := 4) (b := 4) (by decide +kernel) (dk_dq rfl)) (dk_neT jc_1 (k := 5) (b := 5) (by decide +kernel) (dk_dq rfl)) (dk_neT jc_1 (k := 6) (b := 6) (by decide +kernel) (dk_dq rfl)) (dk_eqT jc_1 (k := 7) (by decide +kernel)) w_16_2.1 w_16_2.2)), congrArg Prod.snd (Eq.symm (F_d_has_p8 (dk_neT jc_1 (k := 0) (b := 0) (by decide +kernel) (dk_dq rfl)) (dk_neT jc_1 (k := 1) (b := 1) (by decide +kernel) (dk_dq rfl)) (dk_neT jc_1 (k := 2) (b := 2) (by decide +kernel) (dk_dq rfl)) (dk_neT jc_1 (k := 3) (b := 3) (by decide +kernel) (dk_dq rfl)) (dk_neT jc_1 (k := 4) (b := 4) (by decide +kernel) (dk_dq rfl)) (dk_neT jc_1 (k := 5) (b := 5) (by decide +kernel) (dk_dq rfl)) (dk_neT jc_1 (k := 6) (b := 6) (by decide +kernel) (dk_dq rfl)) (dk_eqT jc_1 (k := 7) (by decide +kernel)) w_16_2.1 w_16_2.2))⟩, trivial⟩ dX11_has_141
  · refine lv_tableIn (off := 141) (tgt := 142) hx hb dX11_has_1 (by rw [jc_1]; decide) (by rw [jc_1]; decide) (by rw [jc_1]; decide +kernel) (dk_dq rfl) ?_
    refine lv_aload_n hx hb dX11_has_142 rfl (lv_at hl 0 rfl) ?_
    refine dg_calli hS hA1 hA (va_runV (As := []) (rest := []) F (c_d_countCurtains l g D o S Z1 Z2 Z3 Z4 Z6 I s.heap.size) (cwV 0 hts (bw_V wB_939 wB_940 wB_941 wB_610 wB_938) rfl rfl rfl (by decide +kernel) ⟨Nat.le_of_ble_eq_true rfl, Nat.le_of_ble_eq_true rfl⟩) (dg_preV sX_0 rfl K ST hP hS hA1 hA) rfl rfl hl.1 rfl (lv_room (Nat.le_of_ble_eq_true rfl)) dX11_has_143 ⟨Nat.le_of_ble_eq_true rfl, Nat.le_of_ble_eq_true rfl⟩) (fun x_17 S_18 hw_18 H locs hP hS => ?_)
    rw [hw_18.1] at hP
    obtain ⟨hq_18, w_18_0, -⟩ := hw_18
    refine W.widen (k := 0) (n := 0) (Nat.le_of_ble_eq_true rfl) (Nat.le_of_ble_eq_true rfl) ?_
    exact dg_iret hx hb hr hlocks rfl hP hS ⟨I, M_0, Z2, Z3, ⟨congrArg Prod.fst (Eq.symm (F_d_has_p9 (dk_neT jc_1 (k := 0) (b := 0) (by decide +kernel) (dk_dq rfl)) (dk_neT jc_1 (k := 1) (b := 1) (by decide +kernel) (dk_dq rfl)) (dk_neT jc_1 (k := 2) (b := 2) (by decide +kernel) (dk_dq rfl)) (dk_neT jc_1 (k := 3) (b := 3) (by decide +kernel) (dk_dq rfl)) (dk_neT jc_1 (k := 4) (b := 4) (by decide +kernel) (dk_dq rfl)) (dk_neT jc_1 (k := 5) (b := 5) (by decide +kernel) (dk_dq rfl)) (dk_neT jc_1 (k := 6) (b := 6) (by decide +kernel) (dk_dq rfl)) (dk_neT jc_1 (k := 7) (b := 7) (by decide +kernel) (dk_dq rfl)) (dk_eqT jc_1 (k := 8) (by decide +kernel)) w_18_0)), congrArg Prod.snd (Eq.symm (F_d_has_p9 (dk_neT jc_1 (k := 0) (b := 0) (by decide +kernel) (dk_dq rfl)) (dk_neT jc_1 (k := 1) (b := 1) (by decide +kernel) (dk_dq rfl)) (dk_neT jc_1 (k := 2) (b := 2) (by decide +kernel) (dk_dq rfl)) (dk_neT jc_1 (k := 3) (b := 3) (by decide +kernel) (dk_dq rfl)) (dk_neT jc_1 (k := 4) (b := 4) (by decide +kernel) (dk_dq rfl)) (dk_neT jc_1 (k := 5) (b := 5) (by decide +kernel) (dk_dq rfl)) (dk_neT jc_1 (k := 6) (b := 6) (by decide +kernel) (dk_dq rfl)) (dk_neT jc_1 (k := 7) (b := 7) (by decide +kernel) (dk_dq rfl)) (dk_eqT jc_1 (k := 8) (by decide +kernel)) w_18_0))⟩, trivial⟩ dX11_has_146
  · refine lv_tableIn (off := 146) (tgt := 147) hx hb dX11_has_1 (by rw [jc_1]; decide) (by rw [jc_1]; decide) (by rw [jc_1]; decide +kernel) (dk_dq rfl) ?_
    refine lv_aload_n hx hb dX11_has_147 rfl (lv_at hl 0 rfl) ?_
    refine dg_calli hS hA1 hA (va_runV (As := []) (rest := []) F (c_d_countHurt l g D o S Z1 Z2 Z3 Z4 Z6 I s.heap.size) (cwV 0 hts (bw_V wB_943 wB_944 wB_945 wB_610 wB_942) rfl rfl rfl (by decide +kernel) ⟨Nat.le_of_ble_eq_true rfl, Nat.le_of_ble_eq_true rfl⟩) (dg_preV sX_0 rfl K ST hP hS hA1 hA) rfl rfl hl.1 rfl (lv_room (Nat.le_of_ble_eq_true rfl)) dX11_has_148 ⟨Nat.le_of_ble_eq_true rfl, Nat.le_of_ble_eq_true rfl⟩) (fun x_19 S_20 hw_20 H locs hP hS => ?_)
    rw [hw_20.1] at hP
    obtain ⟨hq_20, w_20_0, -⟩ := hw_20
    refine W.widen (k := 0) (n := 0) (Nat.le_of_ble_eq_true rfl) (Nat.le_of_ble_eq_true rfl) ?_
    exact dg_iret hx hb hr hlocks rfl hP hS ⟨I, M_0, Z2, Z3, ⟨congrArg Prod.fst (Eq.symm (F_d_has_p10 (dk_neT jc_1 (k := 0) (b := 0) (by decide +kernel) (dk_dq rfl)) (dk_neT jc_1 (k := 1) (b := 1) (by decide +kernel) (dk_dq rfl)) (dk_neT jc_1 (k := 2) (b := 2) (by decide +kernel) (dk_dq rfl)) (dk_neT jc_1 (k := 3) (b := 3) (by decide +kernel) (dk_dq rfl)) (dk_neT jc_1 (k := 4) (b := 4) (by decide +kernel) (dk_dq rfl)) (dk_neT jc_1 (k := 5) (b := 5) (by decide +kernel) (dk_dq rfl)) (dk_neT jc_1 (k := 6) (b := 6) (by decide +kernel) (dk_dq rfl)) (dk_neT jc_1 (k := 7) (b := 7) (by decide +kernel) (dk_dq rfl)) (dk_neT jc_1 (k := 8) (b := 8) (by decide +kernel) (dk_dq rfl)) (dk_eqT jc_1 (k := 9) (by decide +kernel)) w_20_0)), congrArg Prod.snd (Eq.symm (F_d_has_p10 (dk_neT jc_1 (k := 0) (b := 0) (by decide +kernel) (dk_dq rfl)) (dk_neT jc_1 (k := 1) (b := 1) (by decide +kernel) (dk_dq rfl)) (dk_neT jc_1 (k := 2) (b := 2) (by decide +kernel) (dk_dq rfl)) (dk_neT jc_1 (k := 3) (b := 3) (by decide +kernel) (dk_dq rfl)) (dk_neT jc_1 (k := 4) (b := 4) (by decide +kernel) (dk_dq rfl)) (dk_neT jc_1 (k := 5) (b := 5) (by decide +kernel) (dk_dq rfl)) (dk_neT jc_1 (k := 6) (b := 6) (by decide +kernel) (dk_dq rfl)) (dk_neT jc_1 (k := 7) (b := 7) (by decide +kernel) (dk_dq rfl)) (dk_neT jc_1 (k := 8) (b := 8) (by decide +kernel) (dk_dq rfl)) (dk_eqT jc_1 (k := 9) (by decide +kernel)) w_20_0))⟩, trivial⟩ dX11_has_151
  · refine lv_tableIn (off := 151) (tgt := 152) hx hb dX11_has_1 (by rw [jc_1]; decide) (by rw [jc_1]; decide) (by rw [jc_1]; decide +kernel) (dk_dq rfl) ?_
    refine lv_aload_n hx hb dX11_has_152 rfl (lv_at hl 0 rfl) ?_
    refine dg_get (C := RX11) (T := TX11) (N := 13) hx hb hts (fun w h => bw_mem (wU_X11 w h)) hown K hP sX_0 rfl 1 (dk_dq rfl) (hts _ (bw_mem wB_287)) (fun _ h9 => h9) (v := .ref (o + 3)) (show S.1 0 1 = .ref (o + 3) from dg_I.rel (d := 3) I sX_0 (by decide +kernel)) dX11_has_153 ?_
    refine lv_iconst (v := 0) hx hb dX11_has_156 (by decide +kernel) ?_
    have hz_21 : (0 : Int32).toInt = 0 := by decide +kernel
    refine dg_calli hS hA1 hA (va_runV (As := [.int 0]) (rest := []) F (c_p_tubsFrom l g D o S 3 (by unfold pX; decide : pX 3) 0 (by decide +kernel) I s.heap.size) (cwV 1 hts (bw_V wB_896 wB_897 wB_898 wB_493 wB_895) rfl rfl rfl (by decide +kernel) ⟨Nat.le_of_ble_eq_true rfl, Nat.le_of_ble_eq_true rfl⟩) (dg_preV (pX_0 3 (dk_dq rfl)) rfl K ST hP hS hA1 hA) rfl rfl hl.1 rfl (lv_room (Nat.le_of_ble_eq_true rfl)) dX11_has_157 ⟨Nat.le_of_ble_eq_true rfl, Nat.le_of_ble_eq_true rfl⟩) (fun x_22 S_23 hw_23 H locs hP hS => ?_)
    rw [hw_23.1] at hP
    obtain ⟨hq_23, w_23_0, -⟩ := hw_23
    refine W.widen (k := 0) (n := 0) (Nat.le_of_ble_eq_true rfl) (Nat.le_of_ble_eq_true rfl) ?_
    exact dg_iret hx hb hr hlocks rfl hP hS ⟨I, M_0, Z2, Z3, ⟨congrArg Prod.fst (Eq.symm (F_d_has_p11 (dk_neT jc_1 (k := 0) (b := 0) (by decide +kernel) (dk_dq rfl)) (dk_neT jc_1 (k := 1) (b := 1) (by decide +kernel) (dk_dq rfl)) (dk_neT jc_1 (k := 2) (b := 2) (by decide +kernel) (dk_dq rfl)) (dk_neT jc_1 (k := 3) (b := 3) (by decide +kernel) (dk_dq rfl)) (dk_neT jc_1 (k := 4) (b := 4) (by decide +kernel) (dk_dq rfl)) (dk_neT jc_1 (k := 5) (b := 5) (by decide +kernel) (dk_dq rfl)) (dk_neT jc_1 (k := 6) (b := 6) (by decide +kernel) (dk_dq rfl)) (dk_neT jc_1 (k := 7) (b := 7) (by decide +kernel) (dk_dq rfl)) (dk_neT jc_1 (k := 8) (b := 8) (by decide +kernel) (dk_dq rfl)) (dk_neT jc_1 (k := 9) (b := 9) (by decide +kernel) (dk_dq rfl)) (dk_eqT jc_1 (k := 10) (by decide +kernel)) w_23_0)), congrArg Prod.snd (Eq.symm (F_d_has_p11 (dk_neT jc_1 (k := 0) (b := 0) (by decide +kernel) (dk_dq rfl)) (dk_neT jc_1 (k := 1) (b := 1) (by decide +kernel) (dk_dq rfl)) (dk_neT jc_1 (k := 2) (b := 2) (by decide +kernel) (dk_dq rfl)) (dk_neT jc_1 (k := 3) (b := 3) (by decide +kernel) (dk_dq rfl)) (dk_neT jc_1 (k := 4) (b := 4) (by decide +kernel) (dk_dq rfl)) (dk_neT jc_1 (k := 5) (b := 5) (by decide +kernel) (dk_dq rfl)) (dk_neT jc_1 (k := 6) (b := 6) (by decide +kernel) (dk_dq rfl)) (dk_neT jc_1 (k := 7) (b := 7) (by decide +kernel) (dk_dq rfl)) (dk_neT jc_1 (k := 8) (b := 8) (by decide +kernel) (dk_dq rfl)) (dk_neT jc_1 (k := 9) (b := 9) (by decide +kernel) (dk_dq rfl)) (dk_eqT jc_1 (k := 10) (by decide +kernel)) w_23_0))⟩, trivial⟩ dX11_has_160
  · refine lv_tableIn (off := 160) (tgt := 161) hx hb dX11_has_1 (by rw [jc_1]; decide) (by rw [jc_1]; decide) (by rw [jc_1]; decide +kernel) (dk_dq rfl) ?_
    refine lv_aload_n hx hb dX11_has_161 rfl (lv_at hl 0 rfl) ?_
    refine dg_get (C := RX11) (T := TX11) (N := 13) hx hb hts (fun w h => bw_mem (wU_X11 w h)) hown K hP sX_0 rfl 1 (dk_dq rfl) (hts _ (bw_mem wB_287)) (fun _ h9 => h9) (v := .ref (o + 3)) (show S.1 0 1 = .ref (o + 3) from dg_I.rel (d := 3) I sX_0 (by decide +kernel)) dX11_has_162 ?_
    obtain ⟨x_24, f_x_24, b_x_24⟩ := dg_I.int (i := 3) (k := 1) (lo := (-2147483648)) (hi := 2147483647) I (pX_0 3 (dk_dq rfl)) (by decide +kernel)
    refine dg_get (C := RX5) (T := TX5) (N := 8) hx hb hts (fun w h => bw_mem (wU_X5 w h)) hown K hP (pX_0 3 (dk_dq rfl)) rfl 1 (dk_dq rfl) (hts _ (bw_mem wB_946)) (fun _ h9 => h9) (v := .int x_24) f_x_24 dX11_has_165 ?_
    refine W.widen (k := 0) (n := 0) (Nat.le_of_ble_eq_true rfl) (Nat.le_of_ble_eq_true rfl) ?_
    exact dg_iret hx hb hr hlocks rfl hP hS ⟨I, M_0, Z2, Z3, ⟨congrArg Prod.fst (Eq.symm (F_d_has_p12 (dk_neT jc_1 (k := 0) (b := 0) (by decide +kernel) (dk_dq rfl)) (dk_neT jc_1 (k := 1) (b := 1) (by decide +kernel) (dk_dq rfl)) (dk_neT jc_1 (k := 2) (b := 2) (by decide +kernel) (dk_dq rfl)) (dk_neT jc_1 (k := 3) (b := 3) (by decide +kernel) (dk_dq rfl)) (dk_neT jc_1 (k := 4) (b := 4) (by decide +kernel) (dk_dq rfl)) (dk_neT jc_1 (k := 5) (b := 5) (by decide +kernel) (dk_dq rfl)) (dk_neT jc_1 (k := 6) (b := 6) (by decide +kernel) (dk_dq rfl)) (dk_neT jc_1 (k := 7) (b := 7) (by decide +kernel) (dk_dq rfl)) (dk_neT jc_1 (k := 8) (b := 8) (by decide +kernel) (dk_dq rfl)) (dk_neT jc_1 (k := 9) (b := 9) (by decide +kernel) (dk_dq rfl)) (dk_neT jc_1 (k := 10) (b := 10) (by decide +kernel) (dk_dq rfl)) (dk_eqT jc_1 (k := 11) (by decide +kernel)) (zI_eq f_x_24))), congrArg Prod.snd (Eq.symm (F_d_has_p12 (dk_neT jc_1 (k := 0) (b := 0) (by decide +kernel) (dk_dq rfl)) (dk_neT jc_1 (k := 1) (b := 1) (by decide +kernel) (dk_dq rfl)) (dk_neT jc_1 (k := 2) (b := 2) (by decide +kernel) (dk_dq rfl)) (dk_neT jc_1 (k := 3) (b := 3) (by decide +kernel) (dk_dq rfl)) (dk_neT jc_1 (k := 4) (b := 4) (by decide +kernel) (dk_dq rfl)) (dk_neT jc_1 (k := 5) (b := 5) (by decide +kernel) (dk_dq rfl)) (dk_neT jc_1 (k := 6) (b := 6) (by decide +kernel) (dk_dq rfl)) (dk_neT jc_1 (k := 7) (b := 7) (by decide +kernel) (dk_dq rfl)) (dk_neT jc_1 (k := 8) (b := 8) (by decide +kernel) (dk_dq rfl)) (dk_neT jc_1 (k := 9) (b := 9) (by decide +kernel) (dk_dq rfl)) (dk_neT jc_1 (k := 10) (b := 10) (by decide +kernel) (dk_dq rfl)) (dk_eqT jc_1 (k := 11) (by decide +kernel)) (zI_eq f_x_24)))⟩, trivial⟩ dX11_has_168
  · refine lv_tableIn (off := 168) (tgt := 169) hx hb dX11_has_1 (by rw [jc_1]; decide) (by rw [jc_1]; decide) (by rw [jc_1]; decide +kernel) (dk_dq rfl) ?_
    refine lv_aload_n hx hb dX11_has_169 rfl (lv_at hl 0 rfl) ?_
    refine dg_get (C := RX11) (T := TX11) (N := 13) hx hb hts (fun w h => bw_mem (wU_X11 w h)) hown K hP sX_0 rfl 1 (dk_dq rfl) (hts _ (bw_mem wB_287)) (fun _ h9 => h9) (v := .ref (o + 3)) (show S.1 0 1 = .ref (o + 3) from dg_I.rel (d := 3) I sX_0 (by decide +kernel)) dX11_has_170 ?_
    refine dg_calli hS hA1 hA (va_runV (As := []) (rest := []) F (c_p_wholeWorth l g D o S 3 (by unfold pX; decide : pX 3) I s.heap.size) (cwV 0 hts (bw_V wB_947 wB_684 wB_685 wB_493 wB_682) rfl rfl rfl (by decide +kernel) ⟨Nat.le_of_ble_eq_true rfl, Nat.le_of_ble_eq_true rfl⟩) (dg_preV (pX_0 3 (dk_dq rfl)) rfl K ST hP hS hA1 hA) rfl rfl hl.1 rfl (lv_room (Nat.le_of_ble_eq_true rfl)) dX11_has_173 ⟨Nat.le_of_ble_eq_true rfl, Nat.le_of_ble_eq_true rfl⟩) (fun x_25 S_26 hw_26 H locs hP hS => ?_)
    rw [hw_26.1] at hP
    obtain ⟨hq_26, w_26_0, -⟩ := hw_26
    refine W.widen (k := 0) (n := 0) (Nat.le_of_ble_eq_true rfl) (Nat.le_of_ble_eq_true rfl) ?_
    exact dg_iret hx hb hr hlocks rfl hP hS ⟨I, M_0, Z2, Z3, ⟨congrArg Prod.fst (Eq.symm (F_d_has_p13 (dk_neT jc_1 (k := 0) (b := 0) (by decide +kernel) (dk_dq rfl)) (dk_neT jc_1 (k := 1) (b := 1) (by decide +kernel) (dk_dq rfl)) (dk_neT jc_1 (k := 2) (b := 2) (by decide +kernel) (dk_dq rfl)) (dk_neT jc_1 (k := 3) (b := 3) (by decide +kernel) (dk_dq rfl)) (dk_neT jc_1 (k := 4) (b := 4) (by decide +kernel) (dk_dq rfl)) (dk_neT jc_1 (k := 5) (b := 5) (by decide +kernel) (dk_dq rfl)) (dk_neT jc_1 (k := 6) (b := 6) (by decide +kernel) (dk_dq rfl)) (dk_neT jc_1 (k := 7) (b := 7) (by decide +kernel) (dk_dq rfl)) (dk_neT jc_1 (k := 8) (b := 8) (by decide +kernel) (dk_dq rfl)) (dk_neT jc_1 (k := 9) (b := 9) (by decide +kernel) (dk_dq rfl)) (dk_neT jc_1 (k := 10) (b := 10) (by decide +kernel) (dk_dq rfl)) (dk_neT jc_1 (k := 11) (b := 11) (by decide +kernel) (dk_dq rfl)) (dk_eqT jc_1 (k := 12) (by decide +kernel)) w_26_0)), congrArg Prod.snd (Eq.symm (F_d_has_p13 (dk_neT jc_1 (k := 0) (b := 0) (by decide +kernel) (dk_dq rfl)) (dk_neT jc_1 (k := 1) (b := 1) (by decide +kernel) (dk_dq rfl)) (dk_neT jc_1 (k := 2) (b := 2) (by decide +kernel) (dk_dq rfl)) (dk_neT jc_1 (k := 3) (b := 3) (by decide +kernel) (dk_dq rfl)) (dk_neT jc_1 (k := 4) (b := 4) (by decide +kernel) (dk_dq rfl)) (dk_neT jc_1 (k := 5) (b := 5) (by decide +kernel) (dk_dq rfl)) (dk_neT jc_1 (k := 6) (b := 6) (by decide +kernel) (dk_dq rfl)) (dk_neT jc_1 (k := 7) (b := 7) (by decide +kernel) (dk_dq rfl)) (dk_neT jc_1 (k := 8) (b := 8) (by decide +kernel) (dk_dq rfl)) (dk_neT jc_1 (k := 9) (b := 9) (by decide +kernel) (dk_dq rfl)) (dk_neT jc_1 (k := 10) (b := 10) (by decide +kernel) (dk_dq rfl)) (dk_neT jc_1 (k := 11) (b := 11) (by decide +kernel) (dk_dq rfl)) (dk_eqT jc_1 (k := 12) (by decide +kernel)) w_26_0))⟩, trivial⟩ dX11_has_176
  · refine lv_tableIn (off := 176) (tgt := 177) hx hb dX11_has_1 (by rw [jc_1]; decide) (by rw [jc_1]; decide) (by rw [jc_1]; decide +kernel) (dk_dq rfl) ?_
    refine lv_aload_n hx hb dX11_has_177 rfl (lv_at hl 0 rfl) ?_
    refine dg_get (C := RX11) (T := TX11) (N := 13) hx hb hts (fun w h => bw_mem (wU_X11 w h)) hown K hP sX_0 rfl 3 (dk_dq rfl) (hts _ (bw_mem wB_844)) (fun _ h9 => h9) (v := .ref (o + 17)) (show S.1 0 3 = .ref (o + 17) from dg_I.rel (d := 17) I sX_0 (by decide +kernel)) dX11_has_178 ?_
    obtain ⟨x_27, f_x_27, b_x_27⟩ := dg_I.int (i := 17) (k := 1) (lo := 0) (hi := 40) I sX_17 (by decide +kernel)
    refine dg_get (C := RX3) (T := TX3) (N := 7) hx hb hts (fun w h => bw_mem (wU_X3 w h)) hown K hP sX_17 rfl 1 (dk_dq rfl) (hts _ (bw_mem wB_948)) (fun _ h9 => h9) (v := .int x_27) f_x_27 dX11_has_181 ?_
    refine W.widen (k := 0) (n := 0) (Nat.le_of_ble_eq_true rfl) (Nat.le_of_ble_eq_true rfl) ?_
    exact dg_iret hx hb hr hlocks rfl hP hS ⟨I, M_0, Z2, Z3, ⟨congrArg Prod.fst (Eq.symm (F_d_has_p14 (dk_neT jc_1 (k := 0) (b := 0) (by decide +kernel) (dk_dq rfl)) (dk_neT jc_1 (k := 1) (b := 1) (by decide +kernel) (dk_dq rfl)) (dk_neT jc_1 (k := 2) (b := 2) (by decide +kernel) (dk_dq rfl)) (dk_neT jc_1 (k := 3) (b := 3) (by decide +kernel) (dk_dq rfl)) (dk_neT jc_1 (k := 4) (b := 4) (by decide +kernel) (dk_dq rfl)) (dk_neT jc_1 (k := 5) (b := 5) (by decide +kernel) (dk_dq rfl)) (dk_neT jc_1 (k := 6) (b := 6) (by decide +kernel) (dk_dq rfl)) (dk_neT jc_1 (k := 7) (b := 7) (by decide +kernel) (dk_dq rfl)) (dk_neT jc_1 (k := 8) (b := 8) (by decide +kernel) (dk_dq rfl)) (dk_neT jc_1 (k := 9) (b := 9) (by decide +kernel) (dk_dq rfl)) (dk_neT jc_1 (k := 10) (b := 10) (by decide +kernel) (dk_dq rfl)) (dk_neT jc_1 (k := 11) (b := 11) (by decide +kernel) (dk_dq rfl)) (dk_neT jc_1 (k := 12) (b := 12) (by decide +kernel) (dk_dq rfl)) (dk_eqT jc_1 (k := 13) (by decide +kernel)) (zI_eq f_x_27))), congrArg Prod.snd (Eq.symm (F_d_has_p14 (dk_neT jc_1 (k := 0) (b := 0) (by decide +kernel) (dk_dq rfl)) (dk_neT jc_1 (k := 1) (b := 1) (by decide +kernel) (dk_dq rfl)) (dk_neT jc_1 (k := 2) (b := 2) (by decide +kernel) (dk_dq rfl)) (dk_neT jc_1 (k := 3) (b := 3) (by decide +kernel) (dk_dq rfl)) (dk_neT jc_1 (k := 4) (b := 4) (by decide +kernel) (dk_dq rfl)) (dk_neT jc_1 (k := 5) (b := 5) (by decide +kernel) (dk_dq rfl)) (dk_neT jc_1 (k := 6) (b := 6) (by decide +kernel) (dk_dq rfl)) (dk_neT jc_1 (k := 7) (b := 7) (by decide +kernel) (dk_dq rfl)) (dk_neT jc_1 (k := 8) (b := 8) (by decide +kernel) (dk_dq rfl)) (dk_neT jc_1 (k := 9) (b := 9) (by decide +kernel) (dk_dq rfl)) (dk_neT jc_1 (k := 10) (b := 10) (by decide +kernel) (dk_dq rfl)) (dk_neT jc_1 (k := 11) (b := 11) (by decide +kernel) (dk_dq rfl)) (dk_neT jc_1 (k := 12) (b := 12) (by decide +kernel) (dk_dq rfl)) (dk_eqT jc_1 (k := 13) (by decide +kernel)) (zI_eq f_x_27)))⟩, trivial⟩ dX11_has_184
  · refine lv_tableIn (off := 184) (tgt := 185) hx hb dX11_has_1 (by rw [jc_1]; decide) (by rw [jc_1]; decide) (by rw [jc_1]; decide +kernel) (dk_dq rfl) ?_
    refine lv_aload_n hx hb dX11_has_185 rfl (lv_at hl 0 rfl) ?_
    refine dg_get (C := RX11) (T := TX11) (N := 13) hx hb hts (fun w h => bw_mem (wU_X11 w h)) hown K hP sX_0 rfl 11 (dk_dq rfl) (hts _ (bw_mem wB_842)) (fun _ h9 => h9) (v := .ref (o + 229)) (show S.1 0 11 = .ref (o + 229) from dg_I.rel (d := 229) I sX_0 (by decide +kernel)) dX11_has_186 ?_
    obtain ⟨x_28, f_x_28, b_x_28⟩ := dg_I.int (i := 229) (k := 5) (lo := 0) (hi := 16) I sX_229 (by decide +kernel)
    refine dg_get (C := RX0) (T := TX0) (N := 9) hx hb hts (fun w h => bw_mem (wU_X0 w h)) hown K hP sX_229 rfl 5 (dk_dq rfl) (hts _ (bw_mem wB_949)) (fun _ h9 => h9) (v := .int x_28) f_x_28 dX11_has_189 ?_
    refine W.widen (k := 0) (n := 0) (Nat.le_of_ble_eq_true rfl) (Nat.le_of_ble_eq_true rfl) ?_
    exact dg_iret hx hb hr hlocks rfl hP hS ⟨I, M_0, Z2, Z3, ⟨congrArg Prod.fst (Eq.symm (F_d_has_p15 (dk_neT jc_1 (k := 0) (b := 0) (by decide +kernel) (dk_dq rfl)) (dk_neT jc_1 (k := 1) (b := 1) (by decide +kernel) (dk_dq rfl)) (dk_neT jc_1 (k := 2) (b := 2) (by decide +kernel) (dk_dq rfl)) (dk_neT jc_1 (k := 3) (b := 3) (by decide +kernel) (dk_dq rfl)) (dk_neT jc_1 (k := 4) (b := 4) (by decide +kernel) (dk_dq rfl)) (dk_neT jc_1 (k := 5) (b := 5) (by decide +kernel) (dk_dq rfl)) (dk_neT jc_1 (k := 6) (b := 6) (by decide +kernel) (dk_dq rfl)) (dk_neT jc_1 (k := 7) (b := 7) (by decide +kernel) (dk_dq rfl)) (dk_neT jc_1 (k := 8) (b := 8) (by decide +kernel) (dk_dq rfl)) (dk_neT jc_1 (k := 9) (b := 9) (by decide +kernel) (dk_dq rfl)) (dk_neT jc_1 (k := 10) (b := 10) (by decide +kernel) (dk_dq rfl)) (dk_neT jc_1 (k := 11) (b := 11) (by decide +kernel) (dk_dq rfl)) (dk_neT jc_1 (k := 12) (b := 12) (by decide +kernel) (dk_dq rfl)) (dk_neT jc_1 (k := 13) (b := 13) (by decide +kernel) (dk_dq rfl)) (dk_eqT jc_1 (k := 14) (by decide +kernel)) (zI_eq f_x_28))), congrArg Prod.snd (Eq.symm (F_d_has_p15 (dk_neT jc_1 (k := 0) (b := 0) (by decide +kernel) (dk_dq rfl)) (dk_neT jc_1 (k := 1) (b := 1) (by decide +kernel) (dk_dq rfl)) (dk_neT jc_1 (k := 2) (b := 2) (by decide +kernel) (dk_dq rfl)) (dk_neT jc_1 (k := 3) (b := 3) (by decide +kernel) (dk_dq rfl)) (dk_neT jc_1 (k := 4) (b := 4) (by decide +kernel) (dk_dq rfl)) (dk_neT jc_1 (k := 5) (b := 5) (by decide +kernel) (dk_dq rfl)) (dk_neT jc_1 (k := 6) (b := 6) (by decide +kernel) (dk_dq rfl)) (dk_neT jc_1 (k := 7) (b := 7) (by decide +kernel) (dk_dq rfl)) (dk_neT jc_1 (k := 8) (b := 8) (by decide +kernel) (dk_dq rfl)) (dk_neT jc_1 (k := 9) (b := 9) (by decide +kernel) (dk_dq rfl)) (dk_neT jc_1 (k := 10) (b := 10) (by decide +kernel) (dk_dq rfl)) (dk_neT jc_1 (k := 11) (b := 11) (by decide +kernel) (dk_dq rfl)) (dk_neT jc_1 (k := 12) (b := 12) (by decide +kernel) (dk_dq rfl)) (dk_neT jc_1 (k := 13) (b := 13) (by decide +kernel) (dk_dq rfl)) (dk_eqT jc_1 (k := 14) (by decide +kernel)) (zI_eq f_x_28)))⟩, trivial⟩ dX11_has_192
  · refine lv_tableIn (off := 192) (tgt := 193) hx hb dX11_has_1 (by rw [jc_1]; decide) (by rw [jc_1]; decide) (by rw [jc_1]; decide +kernel) (dk_dq rfl) ?_
    refine lv_aload_n hx hb dX11_has_193 rfl (lv_at hl 0 rfl) ?_
    refine dg_get (C := RX11) (T := TX11) (N := 13) hx hb hts (fun w h => bw_mem (wU_X11 w h)) hown K hP sX_0 rfl 3 (dk_dq rfl) (hts _ (bw_mem wB_844)) (fun _ h9 => h9) (v := .ref (o + 17)) (show S.1 0 3 = .ref (o + 17) from dg_I.rel (d := 17) I sX_0 (by decide +kernel)) dX11_has_194 ?_
    obtain ⟨x_29, f_x_29, b_x_29⟩ := dg_I.int (i := 17) (k := 2) (lo := 0) (hi := 20) I sX_17 (by decide +kernel)
    refine dg_get (C := RX3) (T := TX3) (N := 7) hx hb hts (fun w h => bw_mem (wU_X3 w h)) hown K hP sX_17 rfl 2 (dk_dq rfl) (hts _ (bw_mem wB_950)) (fun _ h9 => h9) (v := .int x_29) f_x_29 dX11_has_197 ?_
    refine W.widen (k := 0) (n := 0) (Nat.le_of_ble_eq_true rfl) (Nat.le_of_ble_eq_true rfl) ?_
    exact dg_iret hx hb hr hlocks rfl hP hS ⟨I, M_0, Z2, Z3, ⟨congrArg Prod.fst (Eq.symm (F_d_has_p16 (dk_neT jc_1 (k := 0) (b := 0) (by decide +kernel) (dk_dq rfl)) (dk_neT jc_1 (k := 1) (b := 1) (by decide +kernel) (dk_dq rfl)) (dk_neT jc_1 (k := 2) (b := 2) (by decide +kernel) (dk_dq rfl)) (dk_neT jc_1 (k := 3) (b := 3) (by decide +kernel) (dk_dq rfl)) (dk_neT jc_1 (k := 4) (b := 4) (by decide +kernel) (dk_dq rfl)) (dk_neT jc_1 (k := 5) (b := 5) (by decide +kernel) (dk_dq rfl)) (dk_neT jc_1 (k := 6) (b := 6) (by decide +kernel) (dk_dq rfl)) (dk_neT jc_1 (k := 7) (b := 7) (by decide +kernel) (dk_dq rfl)) (dk_neT jc_1 (k := 8) (b := 8) (by decide +kernel) (dk_dq rfl)) (dk_neT jc_1 (k := 9) (b := 9) (by decide +kernel) (dk_dq rfl)) (dk_neT jc_1 (k := 10) (b := 10) (by decide +kernel) (dk_dq rfl)) (dk_neT jc_1 (k := 11) (b := 11) (by decide +kernel) (dk_dq rfl)) (dk_neT jc_1 (k := 12) (b := 12) (by decide +kernel) (dk_dq rfl)) (dk_neT jc_1 (k := 13) (b := 13) (by decide +kernel) (dk_dq rfl)) (dk_neT jc_1 (k := 14) (b := 14) (by decide +kernel) (dk_dq rfl)) (dk_eqT jc_1 (k := 15) (by decide +kernel)) (zI_eq f_x_29))), congrArg Prod.snd (Eq.symm (F_d_has_p16 (dk_neT jc_1 (k := 0) (b := 0) (by decide +kernel) (dk_dq rfl)) (dk_neT jc_1 (k := 1) (b := 1) (by decide +kernel) (dk_dq rfl)) (dk_neT jc_1 (k := 2) (b := 2) (by decide +kernel) (dk_dq rfl)) (dk_neT jc_1 (k := 3) (b := 3) (by decide +kernel) (dk_dq rfl)) (dk_neT jc_1 (k := 4) (b := 4) (by decide +kernel) (dk_dq rfl)) (dk_neT jc_1 (k := 5) (b := 5) (by decide +kernel) (dk_dq rfl)) (dk_neT jc_1 (k := 6) (b := 6) (by decide +kernel) (dk_dq rfl)) (dk_neT jc_1 (k := 7) (b := 7) (by decide +kernel) (dk_dq rfl)) (dk_neT jc_1 (k := 8) (b := 8) (by decide +kernel) (dk_dq rfl)) (dk_neT jc_1 (k := 9) (b := 9) (by decide +kernel) (dk_dq rfl)) (dk_neT jc_1 (k := 10) (b := 10) (by decide +kernel) (dk_dq rfl)) (dk_neT jc_1 (k := 11) (b := 11) (by decide +kernel) (dk_dq rfl)) (dk_neT jc_1 (k := 12) (b := 12) (by decide +kernel) (dk_dq rfl)) (dk_neT jc_1 (k := 13) (b := 13) (by decide +kernel) (dk_dq rfl)) (dk_neT jc_1 (k := 14) (b := 14) (by decide +kernel) (dk_dq rfl)) (dk_eqT jc_1 (k := 15) (by decide +kernel)) (zI_eq f_x_29)))⟩, trivial⟩ dX11_has_200
  · refine lv_tableIn (off := 200) (tgt := 201) hx hb dX11_has_1 (by rw [jc_1]; decide) (by rw [jc_1]; decide) (by rw [jc_1]; decide +kernel) (dk_dq rfl) ?_
    refine lv_aload_n hx hb dX11_has_201 rfl (lv_at hl 0 rfl) ?_
    obtain ⟨x_30, f_x_30, b_x_30⟩ := dg_I.int (i := 0) (k := 12) (lo := (-2147483648)) (hi := 2147483647) I sX_0 (by decide +kernel)
    refine dg_get (C := RX11) (T := TX11) (N := 13) hx hb hts (fun w h => bw_mem (wU_X11 w h)) hown K hP sX_0 rfl 12 (dk_dq rfl) (hts _ (bw_mem wB_870)) (fun _ h9 => h9) (v := .int x_30) f_x_30 dX11_has_202 ?_
    refine W.widen (k := 0) (n := 0) (Nat.le_of_ble_eq_true rfl) (Nat.le_of_ble_eq_true rfl) ?_
    exact dg_iret hx hb hr hlocks rfl hP hS ⟨I, M_0, Z2, Z3, ⟨congrArg Prod.fst (Eq.symm (F_d_has_p17 (dk_neT jc_1 (k := 0) (b := 0) (by decide +kernel) (dk_dq rfl)) (dk_neT jc_1 (k := 1) (b := 1) (by decide +kernel) (dk_dq rfl)) (dk_neT jc_1 (k := 2) (b := 2) (by decide +kernel) (dk_dq rfl)) (dk_neT jc_1 (k := 3) (b := 3) (by decide +kernel) (dk_dq rfl)) (dk_neT jc_1 (k := 4) (b := 4) (by decide +kernel) (dk_dq rfl)) (dk_neT jc_1 (k := 5) (b := 5) (by decide +kernel) (dk_dq rfl)) (dk_neT jc_1 (k := 6) (b := 6) (by decide +kernel) (dk_dq rfl)) (dk_neT jc_1 (k := 7) (b := 7) (by decide +kernel) (dk_dq rfl)) (dk_neT jc_1 (k := 8) (b := 8) (by decide +kernel) (dk_dq rfl)) (dk_neT jc_1 (k := 9) (b := 9) (by decide +kernel) (dk_dq rfl)) (dk_neT jc_1 (k := 10) (b := 10) (by decide +kernel) (dk_dq rfl)) (dk_neT jc_1 (k := 11) (b := 11) (by decide +kernel) (dk_dq rfl)) (dk_neT jc_1 (k := 12) (b := 12) (by decide +kernel) (dk_dq rfl)) (dk_neT jc_1 (k := 13) (b := 13) (by decide +kernel) (dk_dq rfl)) (dk_neT jc_1 (k := 14) (b := 14) (by decide +kernel) (dk_dq rfl)) (dk_neT jc_1 (k := 15) (b := 15) (by decide +kernel) (dk_dq rfl)) (dk_eqT jc_1 (k := 16) (by decide +kernel)) (zI_eq f_x_30))), congrArg Prod.snd (Eq.symm (F_d_has_p17 (dk_neT jc_1 (k := 0) (b := 0) (by decide +kernel) (dk_dq rfl)) (dk_neT jc_1 (k := 1) (b := 1) (by decide +kernel) (dk_dq rfl)) (dk_neT jc_1 (k := 2) (b := 2) (by decide +kernel) (dk_dq rfl)) (dk_neT jc_1 (k := 3) (b := 3) (by decide +kernel) (dk_dq rfl)) (dk_neT jc_1 (k := 4) (b := 4) (by decide +kernel) (dk_dq rfl)) (dk_neT jc_1 (k := 5) (b := 5) (by decide +kernel) (dk_dq rfl)) (dk_neT jc_1 (k := 6) (b := 6) (by decide +kernel) (dk_dq rfl)) (dk_neT jc_1 (k := 7) (b := 7) (by decide +kernel) (dk_dq rfl)) (dk_neT jc_1 (k := 8) (b := 8) (by decide +kernel) (dk_dq rfl)) (dk_neT jc_1 (k := 9) (b := 9) (by decide +kernel) (dk_dq rfl)) (dk_neT jc_1 (k := 10) (b := 10) (by decide +kernel) (dk_dq rfl)) (dk_neT jc_1 (k := 11) (b := 11) (by decide +kernel) (dk_dq rfl)) (dk_neT jc_1 (k := 12) (b := 12) (by decide +kernel) (dk_dq rfl)) (dk_neT jc_1 (k := 13) (b := 13) (by decide +kernel) (dk_dq rfl)) (dk_neT jc_1 (k := 14) (b := 14) (by decide +kernel) (dk_dq rfl)) (dk_neT jc_1 (k := 15) (b := 15) (by decide +kernel) (dk_dq rfl)) (dk_eqT jc_1 (k := 16) (by decide +kernel)) (zI_eq f_x_30)))⟩, trivial⟩ dX11_has_205
noncomputable def F_d_letter (o : Nat) (S : dg_S) (a1 : Int32) (a2 : Int32) (a3 : Int32) : Int32 := (if a1 = (0 : Int32) then (if a2 < (0 : Int32) then (-1 : Int32) else let d_14 : Nat := zR o S 0 6; let x_15 : Int32 := zI S d_14 6; (if x_15 ≤ a2 then (-1 : Int32) else let x_20 : Int32 := S.2.1 (d_14 + 2) (a2 : Int32).toNatClampNeg; let x_21 : Int32 := F_letterOf o S x_20 a3; x_21)) else (if a1 = (1 : Int32) then (if a2 < (0 : Int32) then (-1 : Int32) else let d_4 : Nat := zR o S 0 6; let x_5 : Int32 := zI S d_4 11; (if x_5 ≤ a2 then (-1 : Int32) else let x_10 : Int32 := S.2.1 (d_4 + 5) (a2 : Int32).toNatClampNeg; let x_11 : Int32 := F_letterOf o S x_10 a3; x_11)) else (-1 : Int32)))
theorem F_d_letter_p0 {o : Nat} {S : dg_S} {a1 : Int32} {a2 : Int32} {a3 : Int32} (h0 : ¬ (a1 = (0 : Int32))) (h1 : ¬ (a1 = (1 : Int32))) : F_d_letter o S a1 a2 a3 = (-1 : Int32) := (Eq.trans (if_neg h0) (Eq.trans (if_neg h1) rfl))
theorem F_d_letter_p1 {o : Nat} {S : dg_S} {a1 : Int32} {a2 : Int32} {a3 : Int32} (h0 : ¬ (a1 = (0 : Int32))) (h1 : a1 = (1 : Int32)) (h2 : a2 < (0 : Int32)) : F_d_letter o S a1 a2 a3 = (-1 : Int32) := (Eq.trans (if_neg h0) (Eq.trans (if_pos h1) (Eq.trans (if_pos h2) rfl)))
theorem F_d_letter_p2 {o : Nat} {S : dg_S} {a1 : Int32} {a2 : Int32} {a3 : Int32} {d_4 : Nat} {x_5 : Int32} (h0 : ¬ (a1 = (0 : Int32))) (h1 : a1 = (1 : Int32)) (h2 : ¬ (a2 < (0 : Int32))) (h3 : d_4 = zR o S 0 6) (h4 : x_5 = zI S d_4 11) (h5 : x_5 ≤ a2) : F_d_letter o S a1 a2 a3 = (-1 : Int32) := by
  replace h3 := Eq.symm h3
  subst h3
  replace h4 := Eq.symm h4
  subst h4
  exact (Eq.trans (if_neg h0) (Eq.trans (if_pos h1) (Eq.trans (if_neg h2) (Eq.trans (if_pos h5) rfl))))
theorem F_d_letter_p3 {o : Nat} {S : dg_S} {a1 : Int32} {a2 : Int32} {a3 : Int32} {x_11 : Int32} {d_4 : Nat} {x_5 : Int32} {x_10 : Int32} (h0 : ¬ (a1 = (0 : Int32))) (h1 : a1 = (1 : Int32)) (h2 : ¬ (a2 < (0 : Int32))) (h3 : d_4 = zR o S 0 6) (h4 : x_5 = zI S d_4 11) (h5 : ¬ (x_5 ≤ a2)) (h6 : x_10 = S.2.1 (d_4 + 5) (a2 : Int32).toNatClampNeg) (h7 : x_11 = F_letterOf o S x_10 a3) : F_d_letter o S a1 a2 a3 = x_11 := by
  replace h3 := Eq.symm h3
  subst h3
  replace h4 := Eq.symm h4
  subst h4
  replace h6 := Eq.symm h6
  subst h6
  replace h7 := Eq.symm h7
  subst h7
  exact (Eq.trans (if_neg h0) (Eq.trans (if_pos h1) (Eq.trans (if_neg h2) (Eq.trans (if_neg h5) rfl))))
theorem F_d_letter_p4 {o : Nat} {S : dg_S} {a1 : Int32} {a2 : Int32} {a3 : Int32} (h0 : a1 = (0 : Int32)) (h1 : a2 < (0 : Int32)) : F_d_letter o S a1 a2 a3 = (-1 : Int32) := (Eq.trans (if_pos h0) (Eq.trans (if_pos h1) rfl))
theorem F_d_letter_p5 {o : Nat} {S : dg_S} {a1 : Int32} {a2 : Int32} {a3 : Int32} {d_14 : Nat} {x_15 : Int32} (h0 : a1 = (0 : Int32)) (h1 : ¬ (a2 < (0 : Int32))) (h2 : d_14 = zR o S 0 6) (h3 : x_15 = zI S d_14 6) (h4 : x_15 ≤ a2) : F_d_letter o S a1 a2 a3 = (-1 : Int32) := by
  replace h2 := Eq.symm h2
  subst h2
  replace h3 := Eq.symm h3
  subst h3
  exact (Eq.trans (if_pos h0) (Eq.trans (if_neg h1) (Eq.trans (if_pos h4) rfl)))
theorem F_d_letter_p6 {o : Nat} {S : dg_S} {a1 : Int32} {a2 : Int32} {a3 : Int32} {x_21 : Int32} {d_14 : Nat} {x_15 : Int32} {x_20 : Int32} (h0 : a1 = (0 : Int32)) (h1 : ¬ (a2 < (0 : Int32))) (h2 : d_14 = zR o S 0 6) (h3 : x_15 = zI S d_14 6) (h4 : ¬ (x_15 ≤ a2)) (h5 : x_20 = S.2.1 (d_14 + 2) (a2 : Int32).toNatClampNeg) (h6 : x_21 = F_letterOf o S x_20 a3) : F_d_letter o S a1 a2 a3 = x_21 := by
  replace h2 := Eq.symm h2
  subst h2
  replace h3 := Eq.symm h3
  subst h3
  replace h5 := Eq.symm h5
  subst h5
  replace h6 := Eq.symm h6
  subst h6
  exact (Eq.trans (if_pos h0) (Eq.trans (if_neg h1) (Eq.trans (if_neg h4) rfl)))
set_option maxHeartbeats 8000000 in
set_option maxRecDepth 100000 in
theorem c_d_letter (l : Launch) (g : Nat → ClassId) (D : va_G) (o : Nat) (S : dg_S) (a1 : Int32) (a2 : Int32) (a3 : Int32) (Z1 : Z1X S) (Z2 : Z2X S) (Z3 : Z3X o S) (Z4 : Z4X S) (Z6 : Z6X S) (I : CX o S) (sz : Nat) : Met l yX11_letter (bw yX11_letter cX11_letter 4 (some .int)) ({ frames := 2, cells := 0, slots := 0, locals := 55 } : Room) (dk_Pc g D (dg_w g shX o rfX S) sz [.ref (o + 0), .int a1, .int a2, .int a3]) (va_Qi (fun (r : Int32) S' => S' = S ∧ (r = F_d_letter o S a1 a2 a3) ∧ True) (dg_B g D shX o rfX) (dg_A o shX.length sz)) 0 0 (dg_A o shX.length sz) := by
  refine dg_met (cc := cX11_letter) (maxL := 4) (ret := (some .int)) (dk_dq rfl) rfl (Nat.le_of_ble_eq_true rfl) ?_
  intro p e s m args below meth c A hAe harg hx hb hr hml hts hown hlocks hin hP K hS hA1 hA ST hsz ls hl
  rw [← hAe]
  have F : CallFix p m c cX11_letter 4 s args (bw yX11_letter cX11_letter 4 (some .int)) RX11 := ⟨hx, hb, hml, hown, hts⟩
  have hl : lv_has ls 4 [(0, .ref (o + 0)), (1, .int a1), (2, .int a2), (3, .int a3)] := hl
  have M_0 : dg_sm shX [] [] S S := dg_sm.rf
  refine lv_iload_n hx hb dX11_letter_0 rfl (lv_at hl 1 rfl) ?_
  refine lv_if_ne (tgt := 37) hx hb dX11_letter_1 (dk_dq rfl) (fun c_1 => ?_) (fun c_1 => ?_)
  · as_aux_lemma =>
      have jc_1 := dk_neqc (k := 0) (by decide +kernel) c_1
      refine lv_iload_n hx hb dX11_letter_37 rfl (lv_at hl 1 rfl) ?_
      refine lv_iconst (v := 1) hx hb dX11_letter_38 (by decide +kernel) ?_
      refine lv_icmp_ne (tgt := 75) hx hb dX11_letter_39 (dk_dq rfl) (fun c_2 => ?_) (fun c_2 => ?_)
      · have jc_2 := dk_neqc (k := 1) (by decide +kernel) c_2
        refine lv_iconst (v := (-1)) hx hb dX11_letter_75 (by decide +kernel) ?_
        refine W.widen (k := 0) (n := 0) (Nat.le_of_ble_eq_true rfl) (Nat.le_of_ble_eq_true rfl) ?_
        exact dg_iret hx hb hr hlocks rfl hP hS ⟨rfl, (Eq.symm (F_d_letter_p0 c_1 c_2)), trivial⟩ dX11_letter_76
      · as_aux_lemma =>
          have jc_2 := dk_eqc (k := 1) (by decide +kernel) c_2
          refine lv_iload_n hx hb dX11_letter_42 rfl (lv_at hl 2 rfl) ?_
          refine lv_if_lt (tgt := 73) hx hb dX11_letter_43 (dk_dq rfl) (fun c_3 => ?_) (fun c_3 => ?_)
          · have jc_3 := dk_ltc (k := 0) (by decide +kernel) c_3
            refine lv_iconst (v := (-1)) hx hb dX11_letter_73 (by decide +kernel) ?_
            refine W.widen (k := 0) (n := 0) (Nat.le_of_ble_eq_true rfl) (Nat.le_of_ble_eq_true rfl) ?_
            exact dg_iret hx hb hr hlocks rfl hP hS ⟨rfl, (Eq.symm (F_d_letter_p1 c_1 c_2 c_3)), trivial⟩ dX11_letter_74
          · as_aux_lemma =>
              have jc_3 := dk_nltc (k := 0) (by decide +kernel) c_3
              refine lv_iload_n hx hb dX11_letter_46 rfl (lv_at hl 2 rfl) ?_
              refine lv_aload_n hx hb dX11_letter_47 rfl (lv_at hl 0 rfl) ?_
              obtain ⟨d_4, hk_d_4, f_d_4⟩ := dg_I.one (i := 0) (k := 6) (d := 0) I sX_0 (by decide +kernel)
              have hk_d_4 : rX d_4 := hk_d_4
              refine dg_get (C := RX11) (T := TX11) (N := 13) hx hb hts (fun w h => bw_mem (wU_X11 w h)) hown K hP sX_0 rfl 6 (dk_dq rfl) (hts _ (bw_mem wB_286)) (fun _ h9 => h9) (v := .ref (o + d_4)) f_d_4 dX11_letter_48 ?_
              obtain ⟨x_5, f_x_5, b_x_5⟩ := dg_I.int (i := d_4) (k := 11) (lo := 0) (hi := 5) I (rX_0 d_4 hk_d_4) (by decide +kernel)
              refine dg_get (C := RX2) (T := TX2) (N := 19) hx hb hts (fun w h => bw_mem (wU_X2 w h)) hown K hP (rX_0 d_4 hk_d_4) rfl 11 (dk_dq rfl) (hts _ (bw_mem wB_900)) (fun _ h9 => h9) (v := .int x_5) f_x_5 dX11_letter_51 ?_
              refine lv_icmp_ge (tgt := 73) hx hb dX11_letter_54 (dk_dq rfl) (fun c_6 => ?_) (fun c_6 => ?_)
              · have hf_6 := dk_full a2
                have jc_6 := dk_gec (k := (x_5).toInt) rfl c_6
                refine lv_iconst (v := (-1)) hx hb dX11_letter_73 (by decide +kernel) ?_
                refine W.widen (k := 0) (n := 0) (Nat.le_of_ble_eq_true rfl) (Nat.le_of_ble_eq_true rfl) ?_
                exact dg_iret hx hb hr hlocks rfl hP hS ⟨rfl, (Eq.symm (F_d_letter_p2 c_1 c_2 c_3 (zR_eq f_d_4) (zI_eq f_x_5) c_6)), trivial⟩ dX11_letter_74
              · have hf_7 := dk_full a2
                have jc_6 := dk_ngec (k := (x_5).toInt) rfl c_6
                refine lv_aload_n hx hb dX11_letter_57 rfl (lv_at hl 0 rfl) ?_
                refine dg_get (C := RX11) (T := TX11) (N := 13) hx hb hts (fun w h => bw_mem (wU_X11 w h)) hown K hP sX_0 rfl 6 (dk_dq rfl) (hts _ (bw_mem wB_286)) (fun _ h9 => h9) (v := .ref (o + d_4)) f_d_4 dX11_letter_58 ?_
                refine dg_get (C := RX2) (T := TX2) (N := 19) hx hb hts (fun w h => bw_mem (wU_X2 w h)) hown K hP (rX_0 d_4 hk_d_4) rfl 12 (dk_dq rfl) (hts _ (bw_mem wB_951)) (fun _ h9 => h9) (v := .ref (o + (d_4 + 5))) (show S.1 d_4 12 = .ref (o + (d_4 + 5)) from dg_I.rel (d := 5) I (rX_0 d_4 hk_d_4) (by decide +kernel)) dX11_letter_61 ?_
                refine lv_iload_n hx hb dX11_letter_64 rfl (lv_at hl 2 rfl) ?_
                have hin_9 : vp_in a2 5 := (dk_inv2 (by omega))
                refine dg_iald hx hb K hP (rX_5 d_4 hk_d_4) hin_9 dX11_letter_65 (fun x_10 ex_10 => ?_)
                refine lv_iload_n hx hb dX11_letter_66 rfl (lv_at hl 3 rfl) ?_
                refine dg_calli hS hA1 hA (va_runS (As := [.int x_10, .int a3]) (rest := []) F (c_letterOf l g D o S x_10 a3 I s.heap.size) (va_cwS 2 hts (bw_S wB_953 wB_954 wB_610 wB_952) rfl rfl rfl (by decide +kernel) ⟨Nat.le_of_ble_eq_true rfl, Nat.le_of_ble_eq_true rfl⟩) (dg_preS K ST hP hS hA1 hA) rfl rfl hl.1 rfl (lv_room (Nat.le_of_ble_eq_true rfl)) dX11_letter_67 ⟨Nat.le_of_ble_eq_true rfl, Nat.le_of_ble_eq_true rfl⟩) (fun x_11 S_12 hw_12 H locs hP hS => ?_)
                rw [hw_12.1] at hP
                obtain ⟨hq_12, w_12_0, -⟩ := hw_12
                refine lv_goto (tgt := 74) hx hb dX11_letter_70 (dk_dq rfl) ?_
                refine W.widen (k := 0) (n := 0) (Nat.le_of_ble_eq_true rfl) (Nat.le_of_ble_eq_true rfl) ?_
                exact dg_iret hx hb hr hlocks rfl hP hS ⟨rfl, (Eq.symm (F_d_letter_p3 c_1 c_2 c_3 (zR_eq f_d_4) (zI_eq f_x_5) c_6 (Eq.symm ex_10.symm) w_12_0)), trivial⟩ dX11_letter_74
  · as_aux_lemma =>
      have jc_1 := dk_eqc (k := 0) (by decide +kernel) c_1
      refine lv_iload_n hx hb dX11_letter_4 rfl (lv_at hl 2 rfl) ?_
      refine lv_if_lt (tgt := 35) hx hb dX11_letter_5 (dk_dq rfl) (fun c_13 => ?_) (fun c_13 => ?_)
      · have jc_13 := dk_ltc (k := 0) (by decide +kernel) c_13
        refine lv_iconst (v := (-1)) hx hb dX11_letter_35 (by decide +kernel) ?_
        refine W.widen (k := 0) (n := 0) (Nat.le_of_ble_eq_true rfl) (Nat.le_of_ble_eq_true rfl) ?_
        exact dg_iret hx hb hr hlocks rfl hP hS ⟨rfl, (Eq.symm (F_d_letter_p4 c_1 c_13)), trivial⟩ dX11_letter_36
      · as_aux_lemma =>
          have jc_13 := dk_nltc (k := 0) (by decide +kernel) c_13
          refine lv_iload_n hx hb dX11_letter_8 rfl (lv_at hl 2 rfl) ?_
          refine lv_aload_n hx hb dX11_letter_9 rfl (lv_at hl 0 rfl) ?_
          obtain ⟨d_14, hk_d_14, f_d_14⟩ := dg_I.one (i := 0) (k := 6) (d := 0) I sX_0 (by decide +kernel)
          have hk_d_14 : rX d_14 := hk_d_14
          refine dg_get (C := RX11) (T := TX11) (N := 13) hx hb hts (fun w h => bw_mem (wU_X11 w h)) hown K hP sX_0 rfl 6 (dk_dq rfl) (hts _ (bw_mem wB_286)) (fun _ h9 => h9) (v := .ref (o + d_14)) f_d_14 dX11_letter_10 ?_
          obtain ⟨x_15, f_x_15, b_x_15⟩ := dg_I.int (i := d_14) (k := 6) (lo := 0) (hi := 6) I (rX_0 d_14 hk_d_14) (by decide +kernel)
          refine dg_get (C := RX2) (T := TX2) (N := 19) hx hb hts (fun w h => bw_mem (wU_X2 w h)) hown K hP (rX_0 d_14 hk_d_14) rfl 6 (dk_dq rfl) (hts _ (bw_mem wB_891)) (fun _ h9 => h9) (v := .int x_15) f_x_15 dX11_letter_13 ?_
          refine lv_icmp_ge (tgt := 35) hx hb dX11_letter_16 (dk_dq rfl) (fun c_16 => ?_) (fun c_16 => ?_)
          · have hf_16 := dk_full a2
            have jc_16 := dk_gec (k := (x_15).toInt) rfl c_16
            refine lv_iconst (v := (-1)) hx hb dX11_letter_35 (by decide +kernel) ?_
            refine W.widen (k := 0) (n := 0) (Nat.le_of_ble_eq_true rfl) (Nat.le_of_ble_eq_true rfl) ?_
            exact dg_iret hx hb hr hlocks rfl hP hS ⟨rfl, (Eq.symm (F_d_letter_p5 c_1 c_13 (zR_eq f_d_14) (zI_eq f_x_15) c_16)), trivial⟩ dX11_letter_36
          · have hf_17 := dk_full a2
            have jc_16 := dk_ngec (k := (x_15).toInt) rfl c_16
            refine lv_aload_n hx hb dX11_letter_19 rfl (lv_at hl 0 rfl) ?_
            refine dg_get (C := RX11) (T := TX11) (N := 13) hx hb hts (fun w h => bw_mem (wU_X11 w h)) hown K hP sX_0 rfl 6 (dk_dq rfl) (hts _ (bw_mem wB_286)) (fun _ h9 => h9) (v := .ref (o + d_14)) f_d_14 dX11_letter_20 ?_
            refine dg_get (C := RX2) (T := TX2) (N := 19) hx hb hts (fun w h => bw_mem (wU_X2 w h)) hown K hP (rX_0 d_14 hk_d_14) rfl 7 (dk_dq rfl) (hts _ (bw_mem wB_955)) (fun _ h9 => h9) (v := .ref (o + (d_14 + 2))) (show S.1 d_14 7 = .ref (o + (d_14 + 2)) from dg_I.rel (d := 2) I (rX_0 d_14 hk_d_14) (by decide +kernel)) dX11_letter_23 ?_
            refine lv_iload_n hx hb dX11_letter_26 rfl (lv_at hl 2 rfl) ?_
            have hin_19 : vp_in a2 6 := (dk_inv2 (by omega))
            refine dg_iald hx hb K hP (rX_2 d_14 hk_d_14) hin_19 dX11_letter_27 (fun x_20 ex_20 => ?_)
            refine lv_iload_n hx hb dX11_letter_28 rfl (lv_at hl 3 rfl) ?_
            refine dg_calli hS hA1 hA (va_runS (As := [.int x_20, .int a3]) (rest := []) F (c_letterOf l g D o S x_20 a3 I s.heap.size) (va_cwS 2 hts (bw_S wB_953 wB_954 wB_610 wB_952) rfl rfl rfl (by decide +kernel) ⟨Nat.le_of_ble_eq_true rfl, Nat.le_of_ble_eq_true rfl⟩) (dg_preS K ST hP hS hA1 hA) rfl rfl hl.1 rfl (lv_room (Nat.le_of_ble_eq_true rfl)) dX11_letter_29 ⟨Nat.le_of_ble_eq_true rfl, Nat.le_of_ble_eq_true rfl⟩) (fun x_21 S_22 hw_22 H locs hP hS => ?_)
            rw [hw_22.1] at hP
            obtain ⟨hq_22, w_22_0, -⟩ := hw_22
            refine lv_goto (tgt := 36) hx hb dX11_letter_32 (dk_dq rfl) ?_
            refine W.widen (k := 0) (n := 0) (Nat.le_of_ble_eq_true rfl) (Nat.le_of_ble_eq_true rfl) ?_
            exact dg_iret hx hb hr hlocks rfl hP hS ⟨rfl, (Eq.symm (F_d_letter_p6 c_1 c_13 (zR_eq f_d_14) (zI_eq f_x_15) c_16 (Eq.symm ex_20.symm) w_22_0)), trivial⟩ dX11_letter_36
noncomputable def F_d_cell (o : Nat) (S : dg_S) (a1 : Int32) (a2 : Int32) (a3 : Int32) : dg_S × Int32 := let d_1 : Nat := zR o S 0 6; let x_2 : Int32 := zI S d_1 0; let x_3 : Int32 := zI S d_1 1; let x_4 : Int32 := F_g_placeOf o S d_1 a1 a2; (if x_4 = (-1 : Int32) then (S, (-1 : Int32)) else let x_7 : Int32 := zI S d_1 3; let S_8 : dg_S := F_w_enter o S d_1 3 x_7; (if a3 = (0 : Int32) then let x_10 : Int32 := F_p_gradeAt o S_8 3 x_4; (S_8, x_10) else (if a3 = (1 : Int32) then let x_12 : Int32 := F_p_isOpen o S_8 3 x_4; let x_14 : Int32 := F_flag o S_8 x_12; (S_8, x_14) else (if a3 = (2 : Int32) then let S_17 : dg_S := (F_w_isLit o S_8 x_4).1; let x_16 : Int32 := (F_w_isLit o S_8 x_4).2; let x_18 : Int32 := F_flag o S_17 x_16; (S_17, x_18) else (if a3 = (3 : Int32) then let x_21 : Int32 := S_8.2.1 4 (x_4 : Int32).toNatClampNeg; (if x_21 = (254 : Int32) then let x_27 : Int32 := F_flag o S_8 (1 : Int32); (S_8, x_27) else let x_24 : Int32 := F_flag o S_8 (0 : Int32); (S_8, x_24)) else (if a3 = (4 : Int32) then let S_30 : dg_S := (F_w_farOf o S_8 x_4).1; let x_29 : Int32 := (F_w_farOf o S_8 x_4).2; (S_30, x_29) else (if a3 = (5 : Int32) then let S_32 : dg_S := (F_w_isSafe o S_8 x_4).1; let x_31 : Int32 := (F_w_isSafe o S_8 x_4).2; let x_33 : Int32 := F_flag o S_32 x_31; (S_32, x_33) else (S_8, (-1 : Int32)))))))))
theorem F_d_cell_p0 {o : Nat} {S : dg_S} {a1 : Int32} {a2 : Int32} {a3 : Int32} {S_8 : dg_S} {d_1 : Nat} {x_4 : Int32} {x_7 : Int32} (h0 : d_1 = zR o S 0 6) (h1 : x_4 = F_g_placeOf o S d_1 a1 a2) (h2 : ¬ (x_4 = (-1 : Int32))) (h3 : x_7 = zI S d_1 3) (h4 : S_8 = F_w_enter o S d_1 3 x_7) (h5 : ¬ (a3 = (0 : Int32))) (h6 : ¬ (a3 = (1 : Int32))) (h7 : ¬ (a3 = (2 : Int32))) (h8 : ¬ (a3 = (3 : Int32))) (h9 : ¬ (a3 = (4 : Int32))) (h10 : ¬ (a3 = (5 : Int32))) : F_d_cell o S a1 a2 a3 = (S_8, (-1 : Int32)) := by
  replace h0 := Eq.symm h0
  subst h0
  replace h1 := Eq.symm h1
  subst h1
  replace h3 := Eq.symm h3
  subst h3
  replace h4 := Eq.symm h4
  subst h4
  exact (Eq.trans (if_neg h2) (Eq.trans (if_neg h5) (Eq.trans (if_neg h6) (Eq.trans (if_neg h7) (Eq.trans (if_neg h8) (Eq.trans (if_neg h9) (Eq.trans (if_neg h10) rfl)))))))
theorem F_d_cell_p1 {o : Nat} {S : dg_S} {a1 : Int32} {a2 : Int32} {a3 : Int32} {S_8 : dg_S} {x_10 : Int32} {d_1 : Nat} {x_4 : Int32} {x_7 : Int32} (h0 : d_1 = zR o S 0 6) (h1 : x_4 = F_g_placeOf o S d_1 a1 a2) (h2 : ¬ (x_4 = (-1 : Int32))) (h3 : x_7 = zI S d_1 3) (h4 : S_8 = F_w_enter o S d_1 3 x_7) (h5 : a3 = (0 : Int32)) (h6 : x_10 = F_p_gradeAt o S_8 3 x_4) : F_d_cell o S a1 a2 a3 = (S_8, x_10) := by
  replace h0 := Eq.symm h0
  subst h0
  replace h1 := Eq.symm h1
  subst h1
  replace h3 := Eq.symm h3
  subst h3
  replace h4 := Eq.symm h4
  subst h4
  replace h6 := Eq.symm h6
  subst h6
  exact (Eq.trans (if_neg h2) (Eq.trans (if_pos h5) rfl))
theorem F_d_cell_p2 {o : Nat} {S : dg_S} {a1 : Int32} {a2 : Int32} {a3 : Int32} {S_8 : dg_S} {x_14 : Int32} {d_1 : Nat} {x_4 : Int32} {x_7 : Int32} {x_12 : Int32} (h0 : d_1 = zR o S 0 6) (h1 : x_4 = F_g_placeOf o S d_1 a1 a2) (h2 : ¬ (x_4 = (-1 : Int32))) (h3 : x_7 = zI S d_1 3) (h4 : S_8 = F_w_enter o S d_1 3 x_7) (h5 : ¬ (a3 = (0 : Int32))) (h6 : a3 = (1 : Int32)) (h7 : x_12 = F_p_isOpen o S_8 3 x_4) (h8 : x_14 = F_flag o S_8 x_12) : F_d_cell o S a1 a2 a3 = (S_8, x_14) := by
  replace h0 := Eq.symm h0
  subst h0
  replace h1 := Eq.symm h1
  subst h1
  replace h3 := Eq.symm h3
  subst h3
  replace h4 := Eq.symm h4
  subst h4
  replace h7 := Eq.symm h7
  subst h7
  replace h8 := Eq.symm h8
  subst h8
  exact (Eq.trans (if_neg h2) (Eq.trans (if_neg h5) (Eq.trans (if_pos h6) rfl)))
theorem F_d_cell_p3 {o : Nat} {S : dg_S} {a1 : Int32} {a2 : Int32} {a3 : Int32} {S_17 : dg_S} {x_18 : Int32} {d_1 : Nat} {x_4 : Int32} {x_7 : Int32} {S_8 : dg_S} {x_16 : Int32} (h0 : d_1 = zR o S 0 6) (h1 : x_4 = F_g_placeOf o S d_1 a1 a2) (h2 : ¬ (x_4 = (-1 : Int32))) (h3 : x_7 = zI S d_1 3) (h4 : S_8 = F_w_enter o S d_1 3 x_7) (h5 : ¬ (a3 = (0 : Int32))) (h6 : ¬ (a3 = (1 : Int32))) (h7 : a3 = (2 : Int32)) (h8 : S_17 = (F_w_isLit o S_8 x_4).1) (h9 : x_16 = (F_w_isLit o S_8 x_4).2) (h10 : x_18 = F_flag o S_17 x_16) : F_d_cell o S a1 a2 a3 = (S_17, x_18) := by
  replace h0 := Eq.symm h0
  subst h0
  replace h1 := Eq.symm h1
  subst h1
  replace h3 := Eq.symm h3
  subst h3
  replace h4 := Eq.symm h4
  subst h4
  replace h8 := Eq.symm h8
  subst h8
  replace h9 := Eq.symm h9
  subst h9
  replace h10 := Eq.symm h10
  subst h10
  exact (Eq.trans (if_neg h2) (Eq.trans (if_neg h5) (Eq.trans (if_neg h6) (Eq.trans (if_pos h7) rfl))))
theorem F_d_cell_p4 {o : Nat} {S : dg_S} {a1 : Int32} {a2 : Int32} {a3 : Int32} {S_8 : dg_S} {x_24 : Int32} {d_1 : Nat} {x_4 : Int32} {x_7 : Int32} {x_21 : Int32} (h0 : d_1 = zR o S 0 6) (h1 : x_4 = F_g_placeOf o S d_1 a1 a2) (h2 : ¬ (x_4 = (-1 : Int32))) (h3 : x_7 = zI S d_1 3) (h4 : S_8 = F_w_enter o S d_1 3 x_7) (h5 : ¬ (a3 = (0 : Int32))) (h6 : ¬ (a3 = (1 : Int32))) (h7 : ¬ (a3 = (2 : Int32))) (h8 : a3 = (3 : Int32)) (h9 : x_21 = S_8.2.1 4 (x_4 : Int32).toNatClampNeg) (h10 : ¬ (x_21 = (254 : Int32))) (h11 : x_24 = F_flag o S_8 (0 : Int32)) : F_d_cell o S a1 a2 a3 = (S_8, x_24) := by
  replace h0 := Eq.symm h0
  subst h0
  replace h1 := Eq.symm h1
  subst h1
  replace h3 := Eq.symm h3
  subst h3
  replace h4 := Eq.symm h4
  subst h4
  replace h9 := Eq.symm h9
  subst h9
  replace h11 := Eq.symm h11
  subst h11
  exact (Eq.trans (if_neg h2) (Eq.trans (if_neg h5) (Eq.trans (if_neg h6) (Eq.trans (if_neg h7) (Eq.trans (if_pos h8) (Eq.trans (if_neg h10) rfl))))))
theorem F_d_cell_p5 {o : Nat} {S : dg_S} {a1 : Int32} {a2 : Int32} {a3 : Int32} {S_8 : dg_S} {x_27 : Int32} {d_1 : Nat} {x_4 : Int32} {x_7 : Int32} {x_21 : Int32} (h0 : d_1 = zR o S 0 6) (h1 : x_4 = F_g_placeOf o S d_1 a1 a2) (h2 : ¬ (x_4 = (-1 : Int32))) (h3 : x_7 = zI S d_1 3) (h4 : S_8 = F_w_enter o S d_1 3 x_7) (h5 : ¬ (a3 = (0 : Int32))) (h6 : ¬ (a3 = (1 : Int32))) (h7 : ¬ (a3 = (2 : Int32))) (h8 : a3 = (3 : Int32)) (h9 : x_21 = S_8.2.1 4 (x_4 : Int32).toNatClampNeg) (h10 : x_21 = (254 : Int32)) (h11 : x_27 = F_flag o S_8 (1 : Int32)) : F_d_cell o S a1 a2 a3 = (S_8, x_27) := by
  replace h0 := Eq.symm h0
  subst h0
  replace h1 := Eq.symm h1
  subst h1
  replace h3 := Eq.symm h3
  subst h3
  replace h4 := Eq.symm h4
  subst h4
  replace h9 := Eq.symm h9
  subst h9
  replace h11 := Eq.symm h11
  subst h11
  exact (Eq.trans (if_neg h2) (Eq.trans (if_neg h5) (Eq.trans (if_neg h6) (Eq.trans (if_neg h7) (Eq.trans (if_pos h8) (Eq.trans (if_pos h10) rfl))))))
theorem F_d_cell_p6 {o : Nat} {S : dg_S} {a1 : Int32} {a2 : Int32} {a3 : Int32} {S_30 : dg_S} {x_29 : Int32} {d_1 : Nat} {x_4 : Int32} {x_7 : Int32} {S_8 : dg_S} (h0 : d_1 = zR o S 0 6) (h1 : x_4 = F_g_placeOf o S d_1 a1 a2) (h2 : ¬ (x_4 = (-1 : Int32))) (h3 : x_7 = zI S d_1 3) (h4 : S_8 = F_w_enter o S d_1 3 x_7) (h5 : ¬ (a3 = (0 : Int32))) (h6 : ¬ (a3 = (1 : Int32))) (h7 : ¬ (a3 = (2 : Int32))) (h8 : ¬ (a3 = (3 : Int32))) (h9 : a3 = (4 : Int32)) (h10 : S_30 = (F_w_farOf o S_8 x_4).1) (h11 : x_29 = (F_w_farOf o S_8 x_4).2) : F_d_cell o S a1 a2 a3 = (S_30, x_29) := by
  replace h0 := Eq.symm h0
  subst h0
  replace h1 := Eq.symm h1
  subst h1
  replace h3 := Eq.symm h3
  subst h3
  replace h4 := Eq.symm h4
  subst h4
  replace h10 := Eq.symm h10
  subst h10
  replace h11 := Eq.symm h11
  subst h11
  exact (Eq.trans (if_neg h2) (Eq.trans (if_neg h5) (Eq.trans (if_neg h6) (Eq.trans (if_neg h7) (Eq.trans (if_neg h8) (Eq.trans (if_pos h9) rfl))))))
theorem F_d_cell_p7 {o : Nat} {S : dg_S} {a1 : Int32} {a2 : Int32} {a3 : Int32} {S_32 : dg_S} {x_33 : Int32} {d_1 : Nat} {x_4 : Int32} {x_7 : Int32} {S_8 : dg_S} {x_31 : Int32} (h0 : d_1 = zR o S 0 6) (h1 : x_4 = F_g_placeOf o S d_1 a1 a2) (h2 : ¬ (x_4 = (-1 : Int32))) (h3 : x_7 = zI S d_1 3) (h4 : S_8 = F_w_enter o S d_1 3 x_7) (h5 : ¬ (a3 = (0 : Int32))) (h6 : ¬ (a3 = (1 : Int32))) (h7 : ¬ (a3 = (2 : Int32))) (h8 : ¬ (a3 = (3 : Int32))) (h9 : ¬ (a3 = (4 : Int32))) (h10 : a3 = (5 : Int32)) (h11 : S_32 = (F_w_isSafe o S_8 x_4).1) (h12 : x_31 = (F_w_isSafe o S_8 x_4).2) (h13 : x_33 = F_flag o S_32 x_31) : F_d_cell o S a1 a2 a3 = (S_32, x_33) := by
  replace h0 := Eq.symm h0
  subst h0
  replace h1 := Eq.symm h1
  subst h1
  replace h3 := Eq.symm h3
  subst h3
  replace h4 := Eq.symm h4
  subst h4
  replace h11 := Eq.symm h11
  subst h11
  replace h12 := Eq.symm h12
  subst h12
  replace h13 := Eq.symm h13
  subst h13
  exact (Eq.trans (if_neg h2) (Eq.trans (if_neg h5) (Eq.trans (if_neg h6) (Eq.trans (if_neg h7) (Eq.trans (if_neg h8) (Eq.trans (if_neg h9) (Eq.trans (if_pos h10) rfl)))))))
theorem F_d_cell_p8 {o : Nat} {S : dg_S} {a1 : Int32} {a2 : Int32} {a3 : Int32} {d_1 : Nat} {x_4 : Int32} (h0 : d_1 = zR o S 0 6) (h1 : x_4 = F_g_placeOf o S d_1 a1 a2) (h2 : x_4 = (-1 : Int32)) : F_d_cell o S a1 a2 a3 = (S, (-1 : Int32)) := by
  replace h0 := Eq.symm h0
  subst h0
  replace h1 := Eq.symm h1
  subst h1
  exact (Eq.trans (if_pos h2) rfl)
set_option maxHeartbeats 8000000 in
set_option maxRecDepth 100000 in
theorem c_d_cell (l : Launch) (g : Nat → ClassId) (D : va_G) (o : Nat) (S : dg_S) (a1 : Int32) (a2 : Int32) (a3 : Int32) (Z1 : Z1X S) (Z2 : Z2X S) (Z3 : Z3X o S) (Z4 : Z4X S) (Z6 : Z6X S) (I : CX o S) (sz : Nat) : Met l yX11_cell (bw yX11_cell cX11_cell 5 (some .int)) ({ frames := 6, cells := 0, slots := 0, locals := 148 } : Room) (dk_Pc g D (dg_w g shX o rfX S) sz [.ref (o + 0), .int a1, .int a2, .int a3]) (va_Qi (fun (r : Int32) S' => CX o S' ∧ dg_sm shX [(36, 4), (36, 6), (36, 7), (36, 8), (36, 9), (37, 0), (37, 1), (37, 2), (37, 4), (37, 5), (37, 7)] [38, 39, 40, 41, 42] S S' ∧ Z2X S' ∧ Z3X o S' ∧ (S' = (F_d_cell o S a1 a2 a3).1 ∧ r = (F_d_cell o S a1 a2 a3).2) ∧ True) (dg_B g D shX o rfX) (dg_A o shX.length sz)) 0 0 (dg_A o shX.length sz) := by
  refine dg_met (cc := cX11_cell) (maxL := 5) (ret := (some .int)) (dk_dq rfl) rfl (Nat.le_of_ble_eq_true rfl) ?_
  intro p e s m args below meth c A hAe harg hx hb hr hml hts hown hlocks hin hP K hS hA1 hA ST hsz ls hl
  rw [← hAe]
  have F : CallFix p m c cX11_cell 5 s args (bw yX11_cell cX11_cell 5 (some .int)) RX11 := ⟨hx, hb, hml, hown, hts⟩
  have hl : lv_has ls 5 [(0, .ref (o + 0)), (1, .int a1), (2, .int a2), (3, .int a3)] := hl
  have M_0 : dg_sm shX [(36, 4), (36, 6), (36, 7), (36, 8), (36, 9), (37, 0), (37, 1), (37, 2), (37, 4), (37, 5), (37, 7)] [38, 39, 40, 41, 42] S S := dg_sm.rf
  refine lv_aload_n hx hb dX11_cell_0 rfl (lv_at hl 0 rfl) ?_
  obtain ⟨d_1, hk_d_1, f_d_1⟩ := dg_I.one (i := 0) (k := 6) (d := 0) I sX_0 (by decide +kernel)
  have hk_d_1 : rX d_1 := hk_d_1
  refine dg_get (C := RX11) (T := TX11) (N := 13) hx hb hts (fun w h => bw_mem (wU_X11 w h)) hown K hP sX_0 rfl 6 (dk_dq rfl) (hts _ (bw_mem wB_286)) (fun _ h9 => h9) (v := .ref (o + d_1)) f_d_1 dX11_cell_1 ?_
  refine lv_iload_n hx hb dX11_cell_4 rfl (lv_at hl 1 rfl) ?_
  refine lv_iload_n hx hb dX11_cell_5 rfl (lv_at hl 2 rfl) ?_
  obtain ⟨x_2, f_x_2, b_x_2⟩ := dg_I.int (i := d_1) (k := 0) (lo := 0) (hi := 7) I (rX_0 d_1 hk_d_1) (by decide +kernel)
  obtain ⟨x_3, f_x_3, b_x_3⟩ := dg_I.int (i := d_1) (k := 1) (lo := 0) (hi := 7) I (rX_0 d_1 hk_d_1) (by decide +kernel)
  refine dg_calli hS hA1 hA (va_runV (As := [.int a1, .int a2]) (rest := []) F (c_g_placeOfR l g D o S d_1 hk_d_1 a1 a2 x_2 f_x_2 (by omega) x_3 f_x_3 (by omega) I s.heap.size) (cwV 2 hts (bw_V wB_880 wB_55 wB_56 wB_9 wB_53) rfl rfl rfl (by decide +kernel) ⟨Nat.le_of_ble_eq_true rfl, Nat.le_of_ble_eq_true rfl⟩) (dg_preV (rX_0 d_1 hk_d_1) rfl K ST hP hS hA1 hA) rfl rfl hl.1 rfl (lv_room (Nat.le_of_ble_eq_true rfl)) dX11_cell_6 ⟨Nat.le_of_ble_eq_true rfl, Nat.le_of_ble_eq_true rfl⟩) (fun x_4 S_5 hw_5 H locs hP hS => ?_)
  rw [hw_5.1] at hP
  obtain ⟨hq_5, w_5_0, w_5_1, w_5_2, -⟩ := hw_5
  have w_5_0 : ((-1) ≤ (x_4).toInt ∧ (x_4).toInt ≤ 62) ∧ ((x_4).toInt ≤ (-1) ∨ 8 ≤ (x_4).toInt) := w_5_0
  have w_5_1 : (0 ≤ (a1).toInt ∧ (a1).toInt < (x_2).toInt ∧ 0 ≤ (a2).toInt ∧ (a2).toInt < (x_3).toInt) → 8 ≤ (x_4).toInt := w_5_1
  refine lv_istore (lv' := [(4, .int x_4), (0, .ref (o + 0)), (1, .int a1), (2, .int a2), (3, .int a3)]) hx hb dX11_cell_9 hl (dk_dq rfl) rfl (fun ls hl => ?_)
  refine lv_iload hx hb dX11_cell_11 (lv_at hl 0 rfl) ?_
  refine lv_iconst (v := (-1)) hx hb dX11_cell_13 (by decide +kernel) ?_
  refine lv_icmp_ne (tgt := 19) hx hb dX11_cell_14 (dk_dq rfl) (fun c_6 => ?_) (fun c_6 => ?_)
  · as_aux_lemma =>
      have jc_6 := dk_neqc (k := (-1)) (by decide +kernel) c_6
      refine lv_aload_n hx hb dX11_cell_19 rfl (lv_at hl 1 rfl) ?_
      refine dg_get (C := RX11) (T := TX11) (N := 13) hx hb hts (fun w h => bw_mem (wU_X11 w h)) hown K hP sX_0 rfl 9 (dk_dq rfl) (hts _ (bw_mem wB_858)) (fun _ h9 => h9) (v := .ref (o + 214)) (show S.1 0 9 = .ref (o + 214) from dg_I.rel (d := 214) I sX_0 (by decide +kernel)) dX11_cell_20 ?_
      refine lv_aload_n hx hb dX11_cell_23 rfl (lv_at hl 1 rfl) ?_
      refine dg_get (C := RX11) (T := TX11) (N := 13) hx hb hts (fun w h => bw_mem (wU_X11 w h)) hown K hP sX_0 rfl 6 (dk_dq rfl) (hts _ (bw_mem wB_286)) (fun _ h9 => h9) (v := .ref (o + d_1)) f_d_1 dX11_cell_24 ?_
      refine lv_aload_n hx hb dX11_cell_27 rfl (lv_at hl 1 rfl) ?_
      refine dg_get (C := RX11) (T := TX11) (N := 13) hx hb hts (fun w h => bw_mem (wU_X11 w h)) hown K hP sX_0 rfl 1 (dk_dq rfl) (hts _ (bw_mem wB_287)) (fun _ h9 => h9) (v := .ref (o + 3)) (show S.1 0 1 = .ref (o + 3) from dg_I.rel (d := 3) I sX_0 (by decide +kernel)) dX11_cell_28 ?_
      refine lv_aload_n hx hb dX11_cell_31 rfl (lv_at hl 1 rfl) ?_
      refine dg_get (C := RX11) (T := TX11) (N := 13) hx hb hts (fun w h => bw_mem (wU_X11 w h)) hown K hP sX_0 rfl 6 (dk_dq rfl) (hts _ (bw_mem wB_286)) (fun _ h9 => h9) (v := .ref (o + d_1)) f_d_1 dX11_cell_32 ?_
      obtain ⟨x_7, f_x_7, b_x_7⟩ := dg_I.int (i := d_1) (k := 3) (lo := (-2147483648)) (hi := 2147483647) I (rX_0 d_1 hk_d_1) (by decide +kernel)
      refine dg_get (C := RX2) (T := TX2) (N := 19) hx hb hts (fun w h => bw_mem (wU_X2 w h)) hown K hP (rX_0 d_1 hk_d_1) rfl 3 (dk_dq rfl) (hts _ (bw_mem wB_859)) (fun _ h9 => h9) (v := .int x_7) f_x_7 dX11_cell_35 ?_
      refine dg_callv hS hA1 hA (va_runV (As := [.ref (o + d_1), .ref (o + 3), .int x_7]) (rest := []) F (c_w_enter l g D o S d_1 hk_d_1 3 (by unfold pX; decide : pX 3) x_7 Z6 I H.size) (cwV 3 hts (bw_V wB_860 wB_676 wB_677 wB_594 wB_674) rfl rfl rfl (by decide +kernel) ⟨Nat.le_of_ble_eq_true rfl, Nat.le_of_ble_eq_true rfl⟩) (dg_preV sX_214 rfl K ST hP hS hA1 hA) rfl rfl hl.1 rfl (lv_room (Nat.le_of_ble_eq_true rfl)) dX11_cell_38 ⟨Nat.le_of_ble_eq_true rfl, Nat.le_of_ble_eq_true rfl⟩) (fun S_8 hw_8 H locs hP hS => ?_)
      obtain ⟨I_8, m_8, w_8_0, w_8_1, -⟩ := hw_8
      have M_8 := dg_sm.tr M_0 m_8 (dk_dq rfl) (dk_dq rfl)
      refine lv_iload_n hx hb dX11_cell_41 rfl (lv_at hl 4 rfl) ?_
      rcases (show ((a3).toInt < 0 ∨ 5 < (a3).toInt) ∨ (a3).toInt = 0 ∨ (a3).toInt = 1 ∨ (a3).toInt = 2 ∨ (a3).toInt = 3 ∨ (a3).toInt = 4 ∨ (a3).toInt = 5 by omega) with jc_9 | jc_9 | jc_9 | jc_9 | jc_9 | jc_9 | jc_9
      · refine lv_tableOut (tgt := 164) hx hb dX11_cell_42 jc_9 (dk_dq rfl) ?_
        refine lv_iconst (v := (-1)) hx hb dX11_cell_164 (by decide +kernel) ?_
        refine W.widen (k := 0) (n := 0) (Nat.le_of_ble_eq_true rfl) (Nat.le_of_ble_eq_true rfl) ?_
        exact dg_iret hx hb hr hlocks rfl hP hS ⟨I_8, M_8, (Z2X.keep Z2 m_8 (dk_dq rfl) (dk_dq rfl)), w_8_0, ⟨congrArg Prod.fst (Eq.symm (F_d_cell_p0 (zR_eq f_d_1) w_5_2 c_6 (zI_eq f_x_7) w_8_1 (dk_neO jc_9 (k := 0) (b := 0) (by decide +kernel) (dk_dq rfl)) (dk_neO jc_9 (k := 1) (b := 1) (by decide +kernel) (dk_dq rfl)) (dk_neO jc_9 (k := 2) (b := 2) (by decide +kernel) (dk_dq rfl)) (dk_neO jc_9 (k := 3) (b := 3) (by decide +kernel) (dk_dq rfl)) (dk_neO jc_9 (k := 4) (b := 4) (by decide +kernel) (dk_dq rfl)) (dk_neO jc_9 (k := 5) (b := 5) (by decide +kernel) (dk_dq rfl)))), congrArg Prod.snd (Eq.symm (F_d_cell_p0 (zR_eq f_d_1) w_5_2 c_6 (zI_eq f_x_7) w_8_1 (dk_neO jc_9 (k := 0) (b := 0) (by decide +kernel) (dk_dq rfl)) (dk_neO jc_9 (k := 1) (b := 1) (by decide +kernel) (dk_dq rfl)) (dk_neO jc_9 (k := 2) (b := 2) (by decide +kernel) (dk_dq rfl)) (dk_neO jc_9 (k := 3) (b := 3) (by decide +kernel) (dk_dq rfl)) (dk_neO jc_9 (k := 4) (b := 4) (by decide +kernel) (dk_dq rfl)) (dk_neO jc_9 (k := 5) (b := 5) (by decide +kernel) (dk_dq rfl))))⟩, trivial⟩ dX11_cell_165
      · refine lv_tableIn (off := 38) (tgt := 80) hx hb dX11_cell_42 (by rw [jc_9]; decide) (by rw [jc_9]; decide) (by rw [jc_9]; decide +kernel) (dk_dq rfl) ?_
        refine lv_aload_n hx hb dX11_cell_80 rfl (lv_at hl 1 rfl) ?_
        refine dg_get (C := RX11) (T := TX11) (N := 13) hx hb hts (fun w h => bw_mem (wU_X11 w h)) hown K hP sX_0 rfl 1 (dk_dq rfl) (hts _ (bw_mem wB_287)) (fun _ h9 => h9) (v := .ref (o + 3)) (show S_8.1 0 1 = .ref (o + 3) from dg_I.rel (d := 3) I_8 sX_0 (by decide +kernel)) dX11_cell_81 ?_
        refine lv_iload hx hb dX11_cell_84 (lv_at hl 0 rfl) ?_
        refine dg_calli hS hA1 hA (va_runV (As := [.int x_4]) (rest := []) F (c_p_gradeAt l g D o S_8 3 (by unfold pX; decide : pX 3) x_4 (by omega) I_8 H.size) (cwV 1 hts (bw_V wB_956 wB_740 wB_741 wB_493 wB_738) rfl rfl rfl (by decide +kernel) ⟨Nat.le_of_ble_eq_true rfl, Nat.le_of_ble_eq_true rfl⟩) (dg_preV (pX_0 3 (dk_dq rfl)) rfl K ST hP hS hA1 hA) rfl rfl hl.1 rfl (lv_room (Nat.le_of_ble_eq_true rfl)) dX11_cell_86 ⟨Nat.le_of_ble_eq_true rfl, Nat.le_of_ble_eq_true rfl⟩) (fun x_10 S_11 hw_11 H locs hP hS => ?_)
        rw [hw_11.1] at hP
        obtain ⟨hq_11, w_11_0, w_11_1, -⟩ := hw_11
        have w_11_0 : (-1) ≤ (x_10).toInt ∧ (x_10).toInt ≤ 9 := w_11_0
        refine W.widen (k := 0) (n := 0) (Nat.le_of_ble_eq_true rfl) (Nat.le_of_ble_eq_true rfl) ?_
        exact dg_iret hx hb hr hlocks rfl hP hS ⟨I_8, M_8, (Z2X.keep Z2 m_8 (dk_dq rfl) (dk_dq rfl)), w_8_0, ⟨congrArg Prod.fst (Eq.symm (F_d_cell_p1 (zR_eq f_d_1) w_5_2 c_6 (zI_eq f_x_7) w_8_1 (dk_eqT jc_9 (k := 0) (by decide +kernel)) w_11_1)), congrArg Prod.snd (Eq.symm (F_d_cell_p1 (zR_eq f_d_1) w_5_2 c_6 (zI_eq f_x_7) w_8_1 (dk_eqT jc_9 (k := 0) (by decide +kernel)) w_11_1))⟩, trivial⟩ dX11_cell_89
      · refine lv_tableIn (off := 48) (tgt := 90) hx hb dX11_cell_42 (by rw [jc_9]; decide) (by rw [jc_9]; decide) (by rw [jc_9]; decide +kernel) (dk_dq rfl) ?_
        refine lv_aload_n hx hb dX11_cell_90 rfl (lv_at hl 1 rfl) ?_
        refine dg_get (C := RX11) (T := TX11) (N := 13) hx hb hts (fun w h => bw_mem (wU_X11 w h)) hown K hP sX_0 rfl 1 (dk_dq rfl) (hts _ (bw_mem wB_287)) (fun _ h9 => h9) (v := .ref (o + 3)) (show S_8.1 0 1 = .ref (o + 3) from dg_I.rel (d := 3) I_8 sX_0 (by decide +kernel)) dX11_cell_91 ?_
        refine lv_iload hx hb dX11_cell_94 (lv_at hl 0 rfl) ?_
        refine dg_calli hS hA1 hA (va_runV (As := [.int x_4]) (rest := []) F (c_p_isOpen l g D o S_8 3 (by unfold pX; decide : pX 3) x_4 (by omega) I_8 H.size) (cwV 1 hts (bw_V wB_882 wB_496 wB_497 wB_493 wB_494) rfl rfl rfl (by decide +kernel) ⟨Nat.le_of_ble_eq_true rfl, Nat.le_of_ble_eq_true rfl⟩) (dg_preV (pX_0 3 (dk_dq rfl)) rfl K ST hP hS hA1 hA) rfl rfl hl.1 rfl (lv_room (Nat.le_of_ble_eq_true rfl)) dX11_cell_96 ⟨Nat.le_of_ble_eq_true rfl, Nat.le_of_ble_eq_true rfl⟩) (fun x_12 S_13 hw_13 H locs hP hS => ?_)
        rw [hw_13.1] at hP
        obtain ⟨hq_13, w_13_0, w_13_1, w_13_2, -⟩ := hw_13
        have w_13_0 : 0 ≤ (x_12).toInt ∧ (x_12).toInt ≤ 1 := w_13_0
        have w_13_1 : (x_12).toInt = 1 → (8 ≤ (x_4).toInt ∧ (x_4).toInt ≤ 63) := w_13_1
        refine dg_calli hS hA1 hA (va_runS (As := [.int x_12]) (rest := []) F (c_flag l g D o S_8 x_12 (by omega) I_8 H.size) (va_cwS 1 hts (bw_S wB_884 wB_885 wB_610 wB_883) rfl rfl rfl (by decide +kernel) ⟨Nat.le_of_ble_eq_true rfl, Nat.le_of_ble_eq_true rfl⟩) (dg_preS K ST hP hS hA1 hA) rfl rfl hl.1 rfl (lv_room (Nat.le_of_ble_eq_true rfl)) dX11_cell_99 ⟨Nat.le_of_ble_eq_true rfl, Nat.le_of_ble_eq_true rfl⟩) (fun x_14 S_15 hw_15 H locs hP hS => ?_)
        rw [hw_15.1] at hP
        obtain ⟨hq_15, w_15_0, w_15_1, -⟩ := hw_15
        have w_15_0 : 0 ≤ (x_14).toInt ∧ (x_14).toInt ≤ 1 := w_15_0
        refine W.widen (k := 0) (n := 0) (Nat.le_of_ble_eq_true rfl) (Nat.le_of_ble_eq_true rfl) ?_
        exact dg_iret hx hb hr hlocks rfl hP hS ⟨I_8, M_8, (Z2X.keep Z2 m_8 (dk_dq rfl) (dk_dq rfl)), w_8_0, ⟨congrArg Prod.fst (Eq.symm (F_d_cell_p2 (zR_eq f_d_1) w_5_2 c_6 (zI_eq f_x_7) w_8_1 (dk_neT jc_9 (k := 0) (b := 0) (by decide +kernel) (dk_dq rfl)) (dk_eqT jc_9 (k := 1) (by decide +kernel)) w_13_2 w_15_1)), congrArg Prod.snd (Eq.symm (F_d_cell_p2 (zR_eq f_d_1) w_5_2 c_6 (zI_eq f_x_7) w_8_1 (dk_neT jc_9 (k := 0) (b := 0) (by decide +kernel) (dk_dq rfl)) (dk_eqT jc_9 (k := 1) (by decide +kernel)) w_13_2 w_15_1))⟩, trivial⟩ dX11_cell_102
      · refine lv_tableIn (off := 61) (tgt := 103) hx hb dX11_cell_42 (by rw [jc_9]; decide) (by rw [jc_9]; decide) (by rw [jc_9]; decide +kernel) (dk_dq rfl) ?_
        refine lv_aload_n hx hb dX11_cell_103 rfl (lv_at hl 1 rfl) ?_
        refine dg_get (C := RX11) (T := TX11) (N := 13) hx hb hts (fun w h => bw_mem (wU_X11 w h)) hown K hP sX_0 rfl 9 (dk_dq rfl) (hts _ (bw_mem wB_858)) (fun _ h9 => h9) (v := .ref (o + 214)) (show S_8.1 0 9 = .ref (o + 214) from dg_I.rel (d := 214) I_8 sX_0 (by decide +kernel)) dX11_cell_104 ?_
        refine lv_iload hx hb dX11_cell_107 (lv_at hl 0 rfl) ?_
        refine dg_calli hS hA1 hA (va_runV (As := [.int x_4]) (rest := []) F (c_w_isLit l g D o S_8 x_4 (by omega) (Z2X.keep Z2 m_8 (dk_dq rfl) (dk_dq rfl)) w_8_0 I_8 H.size) (cwV 1 hts (bw_V wB_887 wB_888 wB_889 wB_594 wB_886) rfl rfl rfl (by decide +kernel) ⟨Nat.le_of_ble_eq_true rfl, Nat.le_of_ble_eq_true rfl⟩) (dg_preV sX_214 rfl K ST hP hS hA1 hA) rfl rfl hl.1 rfl (lv_room (Nat.le_of_ble_eq_true rfl)) dX11_cell_109 ⟨Nat.le_of_ble_eq_true rfl, Nat.le_of_ble_eq_true rfl⟩) (fun x_16 S_17 hw_17 H locs hP hS => ?_)
        obtain ⟨I_17, m_17, w_17_0, w_17_1, w_17_2, -⟩ := hw_17
        have M_17 := dg_sm.tr M_8 m_17 (dk_dq rfl) (dk_dq rfl)
        have w_17_0 : 0 ≤ (x_16).toInt ∧ (x_16).toInt ≤ 1 := w_17_0
        refine dg_calli hS hA1 hA (va_runS (As := [.int x_16]) (rest := []) F (c_flag l g D o S_17 x_16 (by omega) I_17 H.size) (va_cwS 1 hts (bw_S wB_884 wB_885 wB_610 wB_883) rfl rfl rfl (by decide +kernel) ⟨Nat.le_of_ble_eq_true rfl, Nat.le_of_ble_eq_true rfl⟩) (dg_preS K ST hP hS hA1 hA) rfl rfl hl.1 rfl (lv_room (Nat.le_of_ble_eq_true rfl)) dX11_cell_112 ⟨Nat.le_of_ble_eq_true rfl, Nat.le_of_ble_eq_true rfl⟩) (fun x_18 S_19 hw_19 H locs hP hS => ?_)
        rw [hw_19.1] at hP
        obtain ⟨hq_19, w_19_0, w_19_1, -⟩ := hw_19
        have w_19_0 : 0 ≤ (x_18).toInt ∧ (x_18).toInt ≤ 1 := w_19_0
        refine W.widen (k := 0) (n := 0) (Nat.le_of_ble_eq_true rfl) (Nat.le_of_ble_eq_true rfl) ?_
        exact dg_iret hx hb hr hlocks rfl hP hS ⟨I_17, M_17, w_17_1, (Z3X.keep w_8_0 m_17 (dg_FG.sm m_17 (dk_dq rfl)) (dk_dq rfl)), ⟨congrArg Prod.fst (Eq.symm (F_d_cell_p3 (zR_eq f_d_1) w_5_2 c_6 (zI_eq f_x_7) w_8_1 (dk_neT jc_9 (k := 0) (b := 0) (by decide +kernel) (dk_dq rfl)) (dk_neT jc_9 (k := 1) (b := 1) (by decide +kernel) (dk_dq rfl)) (dk_eqT jc_9 (k := 2) (by decide +kernel)) w_17_2.1 w_17_2.2 w_19_1)), congrArg Prod.snd (Eq.symm (F_d_cell_p3 (zR_eq f_d_1) w_5_2 c_6 (zI_eq f_x_7) w_8_1 (dk_neT jc_9 (k := 0) (b := 0) (by decide +kernel) (dk_dq rfl)) (dk_neT jc_9 (k := 1) (b := 1) (by decide +kernel) (dk_dq rfl)) (dk_eqT jc_9 (k := 2) (by decide +kernel)) w_17_2.1 w_17_2.2 w_19_1))⟩, trivial⟩ dX11_cell_115
      · as_aux_lemma =>
          refine lv_tableIn (off := 74) (tgt := 116) hx hb dX11_cell_42 (by rw [jc_9]; decide) (by rw [jc_9]; decide) (by rw [jc_9]; decide +kernel) (dk_dq rfl) ?_
          refine lv_aload_n hx hb dX11_cell_116 rfl (lv_at hl 1 rfl) ?_
          refine dg_get (C := RX11) (T := TX11) (N := 13) hx hb hts (fun w h => bw_mem (wU_X11 w h)) hown K hP sX_0 rfl 1 (dk_dq rfl) (hts _ (bw_mem wB_287)) (fun _ h9 => h9) (v := .ref (o + 3)) (show S_8.1 0 1 = .ref (o + 3) from dg_I.rel (d := 3) I_8 sX_0 (by decide +kernel)) dX11_cell_117 ?_
          refine dg_get (C := RX5) (T := TX5) (N := 8) hx hb hts (fun w h => bw_mem (wU_X5 w h)) hown K hP (pX_0 3 (dk_dq rfl)) rfl 2 (dk_dq rfl) (hts _ (bw_mem wB_890)) (fun _ h9 => h9) (v := .ref (o + 4)) (show S_8.1 3 2 = .ref (o + 4) from dg_I.rel (d := 1) I_8 (pX_0 3 (dk_dq rfl)) (by decide +kernel)) dX11_cell_120 ?_
          refine lv_iload hx hb dX11_cell_123 (lv_at hl 0 rfl) ?_
          have hin_20 : vp_in x_4 72 := (dk_inv2 (by omega))
          refine dg_iald hx hb K hP (pX_1 3 (dk_dq rfl)) hin_20 dX11_cell_125 (fun x_21 ex_21 => ?_)
          have b_x_21 := dg_cel_at (dg_I.cel (lo := 0) (hi := 255) I_8 (pX_1 3 (dk_dq rfl)) (by decide +kernel) (Z6X.keep Z6 m_8 (dg_FG.sm m_8 (dk_dq rfl)))) hin_20 ex_21
          refine lv_sipush (v := 254) hx hb dX11_cell_126 (by decide +kernel) ?_
          refine lv_icmp_ne (tgt := 136) hx hb dX11_cell_129 (dk_dq rfl) (fun c_22 => ?_) (fun c_22 => ?_)
          · have jc_22 := dk_neqc (k := 254) (by decide +kernel) c_22
            refine lv_iconst (v := 0) hx hb dX11_cell_136 (by decide +kernel) ?_
            have hz_23 : (0 : Int32).toInt = 0 := by decide +kernel
            refine dg_calli hS hA1 hA (va_runS (As := [.int 0]) (rest := []) F (c_flag l g D o S_8 0 (by decide +kernel) I_8 H.size) (va_cwS 1 hts (bw_S wB_884 wB_885 wB_610 wB_883) rfl rfl rfl (by decide +kernel) ⟨Nat.le_of_ble_eq_true rfl, Nat.le_of_ble_eq_true rfl⟩) (dg_preS K ST hP hS hA1 hA) rfl rfl hl.1 rfl (lv_room (Nat.le_of_ble_eq_true rfl)) dX11_cell_137 ⟨Nat.le_of_ble_eq_true rfl, Nat.le_of_ble_eq_true rfl⟩) (fun x_24 S_25 hw_25 H locs hP hS => ?_)
            rw [hw_25.1] at hP
            obtain ⟨hq_25, w_25_0, w_25_1, -⟩ := hw_25
            have w_25_0 : 0 ≤ (x_24).toInt ∧ (x_24).toInt ≤ 1 := w_25_0
            refine W.widen (k := 0) (n := 0) (Nat.le_of_ble_eq_true rfl) (Nat.le_of_ble_eq_true rfl) ?_
            exact dg_iret hx hb hr hlocks rfl hP hS ⟨I_8, M_8, (Z2X.keep Z2 m_8 (dk_dq rfl) (dk_dq rfl)), w_8_0, ⟨congrArg Prod.fst (Eq.symm (F_d_cell_p4 (zR_eq f_d_1) w_5_2 c_6 (zI_eq f_x_7) w_8_1 (dk_neT jc_9 (k := 0) (b := 0) (by decide +kernel) (dk_dq rfl)) (dk_neT jc_9 (k := 1) (b := 1) (by decide +kernel) (dk_dq rfl)) (dk_neT jc_9 (k := 2) (b := 2) (by decide +kernel) (dk_dq rfl)) (dk_eqT jc_9 (k := 3) (by decide +kernel)) (Eq.symm ex_21.symm) c_22 w_25_1)), congrArg Prod.snd (Eq.symm (F_d_cell_p4 (zR_eq f_d_1) w_5_2 c_6 (zI_eq f_x_7) w_8_1 (dk_neT jc_9 (k := 0) (b := 0) (by decide +kernel) (dk_dq rfl)) (dk_neT jc_9 (k := 1) (b := 1) (by decide +kernel) (dk_dq rfl)) (dk_neT jc_9 (k := 2) (b := 2) (by decide +kernel) (dk_dq rfl)) (dk_eqT jc_9 (k := 3) (by decide +kernel)) (Eq.symm ex_21.symm) c_22 w_25_1))⟩, trivial⟩ dX11_cell_140
          · have jc_22 := dk_eqc (k := 254) (by decide +kernel) c_22
            refine lv_iconst (v := 1) hx hb dX11_cell_132 (by decide +kernel) ?_
            refine lv_goto (tgt := 137) hx hb dX11_cell_133 (dk_dq rfl) ?_
            have hz_26 : (1 : Int32).toInt = 1 := by decide +kernel
            refine dg_calli hS hA1 hA (va_runS (As := [.int 1]) (rest := []) F (c_flag l g D o S_8 1 (by decide +kernel) I_8 H.size) (va_cwS 1 hts (bw_S wB_884 wB_885 wB_610 wB_883) rfl rfl rfl (by decide +kernel) ⟨Nat.le_of_ble_eq_true rfl, Nat.le_of_ble_eq_true rfl⟩) (dg_preS K ST hP hS hA1 hA) rfl rfl hl.1 rfl (lv_room (Nat.le_of_ble_eq_true rfl)) dX11_cell_137 ⟨Nat.le_of_ble_eq_true rfl, Nat.le_of_ble_eq_true rfl⟩) (fun x_27 S_28 hw_28 H locs hP hS => ?_)
            rw [hw_28.1] at hP
            obtain ⟨hq_28, w_28_0, w_28_1, -⟩ := hw_28
            have w_28_0 : 0 ≤ (x_27).toInt ∧ (x_27).toInt ≤ 1 := w_28_0
            refine W.widen (k := 0) (n := 0) (Nat.le_of_ble_eq_true rfl) (Nat.le_of_ble_eq_true rfl) ?_
            exact dg_iret hx hb hr hlocks rfl hP hS ⟨I_8, M_8, (Z2X.keep Z2 m_8 (dk_dq rfl) (dk_dq rfl)), w_8_0, ⟨congrArg Prod.fst (Eq.symm (F_d_cell_p5 (zR_eq f_d_1) w_5_2 c_6 (zI_eq f_x_7) w_8_1 (dk_neT jc_9 (k := 0) (b := 0) (by decide +kernel) (dk_dq rfl)) (dk_neT jc_9 (k := 1) (b := 1) (by decide +kernel) (dk_dq rfl)) (dk_neT jc_9 (k := 2) (b := 2) (by decide +kernel) (dk_dq rfl)) (dk_eqT jc_9 (k := 3) (by decide +kernel)) (Eq.symm ex_21.symm) c_22 w_28_1)), congrArg Prod.snd (Eq.symm (F_d_cell_p5 (zR_eq f_d_1) w_5_2 c_6 (zI_eq f_x_7) w_8_1 (dk_neT jc_9 (k := 0) (b := 0) (by decide +kernel) (dk_dq rfl)) (dk_neT jc_9 (k := 1) (b := 1) (by decide +kernel) (dk_dq rfl)) (dk_neT jc_9 (k := 2) (b := 2) (by decide +kernel) (dk_dq rfl)) (dk_eqT jc_9 (k := 3) (by decide +kernel)) (Eq.symm ex_21.symm) c_22 w_28_1))⟩, trivial⟩ dX11_cell_140
      · refine lv_tableIn (off := 99) (tgt := 141) hx hb dX11_cell_42 (by rw [jc_9]; decide) (by rw [jc_9]; decide) (by rw [jc_9]; decide +kernel) (dk_dq rfl) ?_
        refine lv_aload_n hx hb dX11_cell_141 rfl (lv_at hl 1 rfl) ?_
        refine dg_get (C := RX11) (T := TX11) (N := 13) hx hb hts (fun w h => bw_mem (wU_X11 w h)) hown K hP sX_0 rfl 9 (dk_dq rfl) (hts _ (bw_mem wB_858)) (fun _ h9 => h9) (v := .ref (o + 214)) (show S_8.1 0 9 = .ref (o + 214) from dg_I.rel (d := 214) I_8 sX_0 (by decide +kernel)) dX11_cell_142 ?_
        refine lv_iload hx hb dX11_cell_145 (lv_at hl 0 rfl) ?_
        refine dg_calli hS hA1 hA (va_runV (As := [.int x_4]) (rest := []) F (c_w_farOf l g D o S_8 x_4 (by omega) (Z2X.keep Z2 m_8 (dk_dq rfl) (dk_dq rfl)) w_8_0 I_8 H.size) (cwV 1 hts (bw_V wB_957 wB_605 wB_606 wB_594 wB_603) rfl rfl rfl (by decide +kernel) ⟨Nat.le_of_ble_eq_true rfl, Nat.le_of_ble_eq_true rfl⟩) (dg_preV sX_214 rfl K ST hP hS hA1 hA) rfl rfl hl.1 rfl (lv_room (Nat.le_of_ble_eq_true rfl)) dX11_cell_147 ⟨Nat.le_of_ble_eq_true rfl, Nat.le_of_ble_eq_true rfl⟩) (fun x_29 S_30 hw_30 H locs hP hS => ?_)
        obtain ⟨I_30, m_30, w_30_0, w_30_1, -⟩ := hw_30
        have M_30 := dg_sm.tr M_8 m_30 (dk_dq rfl) (dk_dq rfl)
        refine W.widen (k := 0) (n := 0) (Nat.le_of_ble_eq_true rfl) (Nat.le_of_ble_eq_true rfl) ?_
        exact dg_iret hx hb hr hlocks rfl hP hS ⟨I_30, M_30, w_30_0, (Z3X.keep w_8_0 m_30 (dg_FG.sm m_30 (dk_dq rfl)) (dk_dq rfl)), ⟨congrArg Prod.fst (Eq.symm (F_d_cell_p6 (zR_eq f_d_1) w_5_2 c_6 (zI_eq f_x_7) w_8_1 (dk_neT jc_9 (k := 0) (b := 0) (by decide +kernel) (dk_dq rfl)) (dk_neT jc_9 (k := 1) (b := 1) (by decide +kernel) (dk_dq rfl)) (dk_neT jc_9 (k := 2) (b := 2) (by decide +kernel) (dk_dq rfl)) (dk_neT jc_9 (k := 3) (b := 3) (by decide +kernel) (dk_dq rfl)) (dk_eqT jc_9 (k := 4) (by decide +kernel)) w_30_1.1 w_30_1.2)), congrArg Prod.snd (Eq.symm (F_d_cell_p6 (zR_eq f_d_1) w_5_2 c_6 (zI_eq f_x_7) w_8_1 (dk_neT jc_9 (k := 0) (b := 0) (by decide +kernel) (dk_dq rfl)) (dk_neT jc_9 (k := 1) (b := 1) (by decide +kernel) (dk_dq rfl)) (dk_neT jc_9 (k := 2) (b := 2) (by decide +kernel) (dk_dq rfl)) (dk_neT jc_9 (k := 3) (b := 3) (by decide +kernel) (dk_dq rfl)) (dk_eqT jc_9 (k := 4) (by decide +kernel)) w_30_1.1 w_30_1.2))⟩, trivial⟩ dX11_cell_150
      · refine lv_tableIn (off := 109) (tgt := 151) hx hb dX11_cell_42 (by rw [jc_9]; decide) (by rw [jc_9]; decide) (by rw [jc_9]; decide +kernel) (dk_dq rfl) ?_
        refine lv_aload_n hx hb dX11_cell_151 rfl (lv_at hl 1 rfl) ?_
        refine dg_get (C := RX11) (T := TX11) (N := 13) hx hb hts (fun w h => bw_mem (wU_X11 w h)) hown K hP sX_0 rfl 9 (dk_dq rfl) (hts _ (bw_mem wB_858)) (fun _ h9 => h9) (v := .ref (o + 214)) (show S_8.1 0 9 = .ref (o + 214) from dg_I.rel (d := 214) I_8 sX_0 (by decide +kernel)) dX11_cell_152 ?_
        refine lv_iload hx hb dX11_cell_155 (lv_at hl 0 rfl) ?_
        refine dg_calli hS hA1 hA (va_runV (As := [.int x_4]) (rest := []) F (c_w_isSafe l g D o S_8 x_4 (by omega) (Z2X.keep Z2 m_8 (dk_dq rfl) (dk_dq rfl)) w_8_0 I_8 H.size) (cwV 1 hts (bw_V wB_959 wB_960 wB_961 wB_594 wB_958) rfl rfl rfl (by decide +kernel) ⟨Nat.le_of_ble_eq_true rfl, Nat.le_of_ble_eq_true rfl⟩) (dg_preV sX_214 rfl K ST hP hS hA1 hA) rfl rfl hl.1 rfl (lv_room (Nat.le_of_ble_eq_true rfl)) dX11_cell_157 ⟨Nat.le_of_ble_eq_true rfl, Nat.le_of_ble_eq_true rfl⟩) (fun x_31 S_32 hw_32 H locs hP hS => ?_)
        obtain ⟨I_32, m_32, w_32_0, w_32_1, w_32_2, -⟩ := hw_32
        have M_32 := dg_sm.tr M_8 m_32 (dk_dq rfl) (dk_dq rfl)
        have w_32_0 : 0 ≤ (x_31).toInt ∧ (x_31).toInt ≤ 1 := w_32_0
        refine dg_calli hS hA1 hA (va_runS (As := [.int x_31]) (rest := []) F (c_flag l g D o S_32 x_31 (by omega) I_32 H.size) (va_cwS 1 hts (bw_S wB_884 wB_885 wB_610 wB_883) rfl rfl rfl (by decide +kernel) ⟨Nat.le_of_ble_eq_true rfl, Nat.le_of_ble_eq_true rfl⟩) (dg_preS K ST hP hS hA1 hA) rfl rfl hl.1 rfl (lv_room (Nat.le_of_ble_eq_true rfl)) dX11_cell_160 ⟨Nat.le_of_ble_eq_true rfl, Nat.le_of_ble_eq_true rfl⟩) (fun x_33 S_34 hw_34 H locs hP hS => ?_)
        rw [hw_34.1] at hP
        obtain ⟨hq_34, w_34_0, w_34_1, -⟩ := hw_34
        have w_34_0 : 0 ≤ (x_33).toInt ∧ (x_33).toInt ≤ 1 := w_34_0
        refine W.widen (k := 0) (n := 0) (Nat.le_of_ble_eq_true rfl) (Nat.le_of_ble_eq_true rfl) ?_
        exact dg_iret hx hb hr hlocks rfl hP hS ⟨I_32, M_32, w_32_1, (Z3X.keep w_8_0 m_32 (dg_FG.sm m_32 (dk_dq rfl)) (dk_dq rfl)), ⟨congrArg Prod.fst (Eq.symm (F_d_cell_p7 (zR_eq f_d_1) w_5_2 c_6 (zI_eq f_x_7) w_8_1 (dk_neT jc_9 (k := 0) (b := 0) (by decide +kernel) (dk_dq rfl)) (dk_neT jc_9 (k := 1) (b := 1) (by decide +kernel) (dk_dq rfl)) (dk_neT jc_9 (k := 2) (b := 2) (by decide +kernel) (dk_dq rfl)) (dk_neT jc_9 (k := 3) (b := 3) (by decide +kernel) (dk_dq rfl)) (dk_neT jc_9 (k := 4) (b := 4) (by decide +kernel) (dk_dq rfl)) (dk_eqT jc_9 (k := 5) (by decide +kernel)) w_32_2.1 w_32_2.2 w_34_1)), congrArg Prod.snd (Eq.symm (F_d_cell_p7 (zR_eq f_d_1) w_5_2 c_6 (zI_eq f_x_7) w_8_1 (dk_neT jc_9 (k := 0) (b := 0) (by decide +kernel) (dk_dq rfl)) (dk_neT jc_9 (k := 1) (b := 1) (by decide +kernel) (dk_dq rfl)) (dk_neT jc_9 (k := 2) (b := 2) (by decide +kernel) (dk_dq rfl)) (dk_neT jc_9 (k := 3) (b := 3) (by decide +kernel) (dk_dq rfl)) (dk_neT jc_9 (k := 4) (b := 4) (by decide +kernel) (dk_dq rfl)) (dk_eqT jc_9 (k := 5) (by decide +kernel)) w_32_2.1 w_32_2.2 w_34_1))⟩, trivial⟩ dX11_cell_163
  · have jc_6 := dk_eqc (k := (-1)) (by decide +kernel) c_6
    refine lv_iconst (v := (-1)) hx hb dX11_cell_17 (by decide +kernel) ?_
    refine W.widen (k := 0) (n := 0) (Nat.le_of_ble_eq_true rfl) (Nat.le_of_ble_eq_true rfl) ?_
    exact dg_iret hx hb hr hlocks rfl hP hS ⟨I, M_0, Z2, Z3, ⟨congrArg Prod.fst (Eq.symm (F_d_cell_p8 (zR_eq f_d_1) w_5_2 c_6)), congrArg Prod.snd (Eq.symm (F_d_cell_p8 (zR_eq f_d_1) w_5_2 c_6))⟩, trivial⟩ dX11_cell_18
noncomputable def F_d_hurt (o : Nat) (S : dg_S) (a1 : Int32) : Int32 := let d_1 : Nat := zR o S 0 6; let x_2 : Int32 := zI S d_1 6; let x_3 : Int32 := F_g_hasMiner o S d_1 a1; (if x_3 = (0 : Int32) then (-1 : Int32) else let x_7 : Int32 := S.2.1 5 (a1 : Int32).toNatClampNeg; x_7)
theorem F_d_hurt_p0 {o : Nat} {S : dg_S} {a1 : Int32} {d_1 : Nat} {x_3 : Int32} (h0 : d_1 = zR o S 0 6) (h1 : x_3 = F_g_hasMiner o S d_1 a1) (h2 : x_3 = (0 : Int32)) : F_d_hurt o S a1 = (-1 : Int32) := by
  replace h0 := Eq.symm h0
  subst h0
  replace h1 := Eq.symm h1
  subst h1
  exact (Eq.trans (if_pos h2) rfl)
theorem F_d_hurt_p1 {o : Nat} {S : dg_S} {a1 : Int32} {x_7 : Int32} {d_1 : Nat} {x_3 : Int32} (h0 : d_1 = zR o S 0 6) (h1 : x_3 = F_g_hasMiner o S d_1 a1) (h2 : ¬ (x_3 = (0 : Int32))) (h3 : x_7 = S.2.1 5 (a1 : Int32).toNatClampNeg) : F_d_hurt o S a1 = x_7 := by
  replace h0 := Eq.symm h0
  subst h0
  replace h1 := Eq.symm h1
  subst h1
  replace h3 := Eq.symm h3
  subst h3
  exact (Eq.trans (if_neg h2) rfl)
set_option maxHeartbeats 8000000 in
set_option maxRecDepth 100000 in
theorem c_d_hurt (l : Launch) (g : Nat → ClassId) (D : va_G) (o : Nat) (S : dg_S) (a1 : Int32) (Z1 : Z1X S) (Z2 : Z2X S) (Z3 : Z3X o S) (Z4 : Z4X S) (Z6 : Z6X S) (I : CX o S) (sz : Nat) : Met l yX11_hurt (bw yX11_hurt cX11_hurt 2 (some .int)) ({ frames := 2, cells := 0, slots := 0, locals := 53 } : Room) (dk_Pc g D (dg_w g shX o rfX S) sz [.ref (o + 0), .int a1]) (va_Qi (fun (r : Int32) S' => S' = S ∧ (r = F_d_hurt o S a1) ∧ True) (dg_B g D shX o rfX) (dg_A o shX.length sz)) 0 0 (dg_A o shX.length sz) := by
  refine dg_met (cc := cX11_hurt) (maxL := 2) (ret := (some .int)) (dk_dq rfl) rfl (Nat.le_of_ble_eq_true rfl) ?_
  intro p e s m args below meth c A hAe harg hx hb hr hml hts hown hlocks hin hP K hS hA1 hA ST hsz ls hl
  rw [← hAe]
  have F : CallFix p m c cX11_hurt 2 s args (bw yX11_hurt cX11_hurt 2 (some .int)) RX11 := ⟨hx, hb, hml, hown, hts⟩
  have hl : lv_has ls 2 [(0, .ref (o + 0)), (1, .int a1)] := hl
  have M_0 : dg_sm shX [] [] S S := dg_sm.rf
  refine lv_aload_n hx hb dX11_hurt_0 rfl (lv_at hl 0 rfl) ?_
  obtain ⟨d_1, hk_d_1, f_d_1⟩ := dg_I.one (i := 0) (k := 6) (d := 0) I sX_0 (by decide +kernel)
  have hk_d_1 : rX d_1 := hk_d_1
  refine dg_get (C := RX11) (T := TX11) (N := 13) hx hb hts (fun w h => bw_mem (wU_X11 w h)) hown K hP sX_0 rfl 6 (dk_dq rfl) (hts _ (bw_mem wB_286)) (fun _ h9 => h9) (v := .ref (o + d_1)) f_d_1 dX11_hurt_1 ?_
  refine lv_iload_n hx hb dX11_hurt_4 rfl (lv_at hl 1 rfl) ?_
  obtain ⟨x_2, f_x_2, b_x_2⟩ := dg_I.int (i := d_1) (k := 6) (lo := 0) (hi := 6) I (rX_0 d_1 hk_d_1) (by decide +kernel)
  refine dg_calli hS hA1 hA (va_runV (As := [.int a1]) (rest := []) F (c_g_hasMiner l g D o S d_1 hk_d_1 a1 x_2 f_x_2 (by omega) I s.heap.size) (cwV 1 hts (bw_V wB_963 wB_964 wB_965 wB_9 wB_962) rfl rfl rfl (by decide +kernel) ⟨Nat.le_of_ble_eq_true rfl, Nat.le_of_ble_eq_true rfl⟩) (dg_preV (rX_0 d_1 hk_d_1) rfl K ST hP hS hA1 hA) rfl rfl hl.1 rfl (lv_room (Nat.le_of_ble_eq_true rfl)) dX11_hurt_5 ⟨Nat.le_of_ble_eq_true rfl, Nat.le_of_ble_eq_true rfl⟩) (fun x_3 S_4 hw_4 H locs hP hS => ?_)
  rw [hw_4.1] at hP
  obtain ⟨hq_4, w_4_0, w_4_1, w_4_2, -⟩ := hw_4
  have w_4_0 : 0 ≤ (x_3).toInt ∧ (x_3).toInt ≤ 1 := w_4_0
  have w_4_1 : (x_3).toInt = 1 ↔ (0 ≤ (a1).toInt ∧ (a1).toInt < (x_2).toInt) := w_4_1
  refine lv_if_eq (tgt := 23) hx hb dX11_hurt_8 (dk_dq rfl) (fun c_5 => ?_) (fun c_5 => ?_)
  · have jc_5 := dk_eqc (k := 0) (by decide +kernel) c_5
    refine lv_iconst (v := (-1)) hx hb dX11_hurt_23 (by decide +kernel) ?_
    refine W.widen (k := 0) (n := 0) (Nat.le_of_ble_eq_true rfl) (Nat.le_of_ble_eq_true rfl) ?_
    exact dg_iret hx hb hr hlocks rfl hP hS ⟨rfl, (Eq.symm (F_d_hurt_p0 (zR_eq f_d_1) w_4_2 c_5)), trivial⟩ dX11_hurt_24
  · have jc_5 := dk_neqc (k := 0) (by decide +kernel) c_5
    refine lv_aload_n hx hb dX11_hurt_11 rfl (lv_at hl 0 rfl) ?_
    refine dg_get (C := RX11) (T := TX11) (N := 13) hx hb hts (fun w h => bw_mem (wU_X11 w h)) hown K hP sX_0 rfl 1 (dk_dq rfl) (hts _ (bw_mem wB_287)) (fun _ h9 => h9) (v := .ref (o + 3)) (show S.1 0 1 = .ref (o + 3) from dg_I.rel (d := 3) I sX_0 (by decide +kernel)) dX11_hurt_12 ?_
    refine dg_get (C := RX5) (T := TX5) (N := 8) hx hb hts (fun w h => bw_mem (wU_X5 w h)) hown K hP (pX_0 3 (dk_dq rfl)) rfl 3 (dk_dq rfl) (hts _ (bw_mem wB_892)) (fun _ h9 => h9) (v := .ref (o + 5)) (show S.1 3 3 = .ref (o + 5) from dg_I.rel (d := 2) I (pX_0 3 (dk_dq rfl)) (by decide +kernel)) dX11_hurt_15 ?_
    refine lv_iload_n hx hb dX11_hurt_18 rfl (lv_at hl 1 rfl) ?_
    have hin_6 : vp_in a1 6 := (dk_inv2 (by omega))
    refine dg_iald hx hb K hP (pX_2 3 (dk_dq rfl)) hin_6 dX11_hurt_19 (fun x_7 ex_7 => ?_)
    refine lv_goto (tgt := 24) hx hb dX11_hurt_20 (dk_dq rfl) ?_
    refine W.widen (k := 0) (n := 0) (Nat.le_of_ble_eq_true rfl) (Nat.le_of_ble_eq_true rfl) ?_
    exact dg_iret hx hb hr hlocks rfl hP hS ⟨rfl, (Eq.symm (F_d_hurt_p1 (zR_eq f_d_1) w_4_2 c_5 (Eq.symm ex_7.symm))), trivial⟩ dX11_hurt_24
noncomputable def F_d_plan (o : Nat) (S : dg_S) (a1 : Int32) (a2 : Int32) : Int32 := let d_1 : Nat := zR o S 0 6; let x_2 : Int32 := zI S d_1 8; let x_3 : Int32 := F_g_hasPlanRow o S d_1 a1; (if x_3 = (0 : Int32) then (-1 : Int32) else (if a2 = (0 : Int32) then let x_8 : Int32 := S.2.1 6 (a1 : Int32).toNatClampNeg; x_8 else (if a2 = (1 : Int32) then let x_10 : Int32 := S.2.1 7 (a1 : Int32).toNatClampNeg; let x_11 : Int32 := F_columnOf o S x_10; x_11 else (if a2 = (2 : Int32) then let x_14 : Int32 := S.2.1 7 (a1 : Int32).toNatClampNeg; let x_15 : Int32 := F_rowOf o S x_14; x_15 else (-1 : Int32)))))
theorem F_d_plan_p0 {o : Nat} {S : dg_S} {a1 : Int32} {a2 : Int32} {d_1 : Nat} {x_3 : Int32} (h0 : d_1 = zR o S 0 6) (h1 : x_3 = F_g_hasPlanRow o S d_1 a1) (h2 : ¬ (x_3 = (0 : Int32))) (h3 : ¬ (a2 = (0 : Int32))) (h4 : ¬ (a2 = (1 : Int32))) (h5 : ¬ (a2 = (2 : Int32))) : F_d_plan o S a1 a2 = (-1 : Int32) := by
  replace h0 := Eq.symm h0
  subst h0
  replace h1 := Eq.symm h1
  subst h1
  exact (Eq.trans (if_neg h2) (Eq.trans (if_neg h3) (Eq.trans (if_neg h4) (Eq.trans (if_neg h5) rfl))))
theorem F_d_plan_p1 {o : Nat} {S : dg_S} {a1 : Int32} {a2 : Int32} {x_8 : Int32} {d_1 : Nat} {x_3 : Int32} (h0 : d_1 = zR o S 0 6) (h1 : x_3 = F_g_hasPlanRow o S d_1 a1) (h2 : ¬ (x_3 = (0 : Int32))) (h3 : a2 = (0 : Int32)) (h4 : x_8 = S.2.1 6 (a1 : Int32).toNatClampNeg) : F_d_plan o S a1 a2 = x_8 := by
  replace h0 := Eq.symm h0
  subst h0
  replace h1 := Eq.symm h1
  subst h1
  replace h4 := Eq.symm h4
  subst h4
  exact (Eq.trans (if_neg h2) (Eq.trans (if_pos h3) rfl))
theorem F_d_plan_p2 {o : Nat} {S : dg_S} {a1 : Int32} {a2 : Int32} {x_11 : Int32} {d_1 : Nat} {x_3 : Int32} {x_10 : Int32} (h0 : d_1 = zR o S 0 6) (h1 : x_3 = F_g_hasPlanRow o S d_1 a1) (h2 : ¬ (x_3 = (0 : Int32))) (h3 : ¬ (a2 = (0 : Int32))) (h4 : a2 = (1 : Int32)) (h5 : x_10 = S.2.1 7 (a1 : Int32).toNatClampNeg) (h6 : x_11 = F_columnOf o S x_10) : F_d_plan o S a1 a2 = x_11 := by
  replace h0 := Eq.symm h0
  subst h0
  replace h1 := Eq.symm h1
  subst h1
  replace h5 := Eq.symm h5
  subst h5
  replace h6 := Eq.symm h6
  subst h6
  exact (Eq.trans (if_neg h2) (Eq.trans (if_neg h3) (Eq.trans (if_pos h4) rfl)))
theorem F_d_plan_p3 {o : Nat} {S : dg_S} {a1 : Int32} {a2 : Int32} {x_15 : Int32} {d_1 : Nat} {x_3 : Int32} {x_14 : Int32} (h0 : d_1 = zR o S 0 6) (h1 : x_3 = F_g_hasPlanRow o S d_1 a1) (h2 : ¬ (x_3 = (0 : Int32))) (h3 : ¬ (a2 = (0 : Int32))) (h4 : ¬ (a2 = (1 : Int32))) (h5 : a2 = (2 : Int32)) (h6 : x_14 = S.2.1 7 (a1 : Int32).toNatClampNeg) (h7 : x_15 = F_rowOf o S x_14) : F_d_plan o S a1 a2 = x_15 := by
  replace h0 := Eq.symm h0
  subst h0
  replace h1 := Eq.symm h1
  subst h1
  replace h6 := Eq.symm h6
  subst h6
  replace h7 := Eq.symm h7
  subst h7
  exact (Eq.trans (if_neg h2) (Eq.trans (if_neg h3) (Eq.trans (if_neg h4) (Eq.trans (if_pos h5) rfl))))
theorem F_d_plan_p4 {o : Nat} {S : dg_S} {a1 : Int32} {a2 : Int32} {d_1 : Nat} {x_3 : Int32} (h0 : d_1 = zR o S 0 6) (h1 : x_3 = F_g_hasPlanRow o S d_1 a1) (h2 : x_3 = (0 : Int32)) : F_d_plan o S a1 a2 = (-1 : Int32) := by
  replace h0 := Eq.symm h0
  subst h0
  replace h1 := Eq.symm h1
  subst h1
  exact (Eq.trans (if_pos h2) rfl)
set_option maxHeartbeats 8000000 in
set_option maxRecDepth 100000 in
theorem c_d_plan (l : Launch) (g : Nat → ClassId) (D : va_G) (o : Nat) (S : dg_S) (a1 : Int32) (a2 : Int32) (Z1 : Z1X S) (Z2 : Z2X S) (Z3 : Z3X o S) (Z4 : Z4X S) (Z6 : Z6X S) (I : CX o S) (sz : Nat) : Met l yX11_plan (bw yX11_plan cX11_plan 3 (some .int)) ({ frames := 2, cells := 0, slots := 0, locals := 53 } : Room) (dk_Pc g D (dg_w g shX o rfX S) sz [.ref (o + 0), .int a1, .int a2]) (va_Qi (fun (r : Int32) S' => S' = S ∧ (r = F_d_plan o S a1 a2) ∧ True) (dg_B g D shX o rfX) (dg_A o shX.length sz)) 0 0 (dg_A o shX.length sz) := by
  refine dg_met (cc := cX11_plan) (maxL := 3) (ret := (some .int)) (dk_dq rfl) rfl (Nat.le_of_ble_eq_true rfl) ?_
  intro p e s m args below meth c A hAe harg hx hb hr hml hts hown hlocks hin hP K hS hA1 hA ST hsz ls hl
  rw [← hAe]
  have F : CallFix p m c cX11_plan 3 s args (bw yX11_plan cX11_plan 3 (some .int)) RX11 := ⟨hx, hb, hml, hown, hts⟩
  have hl : lv_has ls 3 [(0, .ref (o + 0)), (1, .int a1), (2, .int a2)] := hl
  have M_0 : dg_sm shX [] [] S S := dg_sm.rf
  refine lv_aload_n hx hb dX11_plan_0 rfl (lv_at hl 0 rfl) ?_
  obtain ⟨d_1, hk_d_1, f_d_1⟩ := dg_I.one (i := 0) (k := 6) (d := 0) I sX_0 (by decide +kernel)
  have hk_d_1 : rX d_1 := hk_d_1
  refine dg_get (C := RX11) (T := TX11) (N := 13) hx hb hts (fun w h => bw_mem (wU_X11 w h)) hown K hP sX_0 rfl 6 (dk_dq rfl) (hts _ (bw_mem wB_286)) (fun _ h9 => h9) (v := .ref (o + d_1)) f_d_1 dX11_plan_1 ?_
  refine lv_iload_n hx hb dX11_plan_4 rfl (lv_at hl 1 rfl) ?_
  obtain ⟨x_2, f_x_2, b_x_2⟩ := dg_I.int (i := d_1) (k := 8) (lo := 0) (hi := 16) I (rX_0 d_1 hk_d_1) (by decide +kernel)
  refine dg_calli hS hA1 hA (va_runV (As := [.int a1]) (rest := []) F (c_g_hasPlanRow l g D o S d_1 hk_d_1 a1 x_2 f_x_2 (by omega) I s.heap.size) (cwV 1 hts (bw_V wB_967 wB_968 wB_969 wB_9 wB_966) rfl rfl rfl (by decide +kernel) ⟨Nat.le_of_ble_eq_true rfl, Nat.le_of_ble_eq_true rfl⟩) (dg_preV (rX_0 d_1 hk_d_1) rfl K ST hP hS hA1 hA) rfl rfl hl.1 rfl (lv_room (Nat.le_of_ble_eq_true rfl)) dX11_plan_5 ⟨Nat.le_of_ble_eq_true rfl, Nat.le_of_ble_eq_true rfl⟩) (fun x_3 S_4 hw_4 H locs hP hS => ?_)
  rw [hw_4.1] at hP
  obtain ⟨hq_4, w_4_0, w_4_1, w_4_2, -⟩ := hw_4
  have w_4_0 : 0 ≤ (x_3).toInt ∧ (x_3).toInt ≤ 1 := w_4_0
  have w_4_1 : (x_3).toInt = 1 ↔ (0 ≤ (a1).toInt ∧ (a1).toInt < (x_2).toInt) := w_4_1
  refine lv_if_ne (tgt := 13) hx hb dX11_plan_8 (dk_dq rfl) (fun c_5 => ?_) (fun c_5 => ?_)
  · as_aux_lemma =>
      have jc_5 := dk_neqc (k := 0) (by decide +kernel) c_5
      refine lv_iload_n hx hb dX11_plan_13 rfl (lv_at hl 2 rfl) ?_
      rcases (show ((a2).toInt < 0 ∨ 2 < (a2).toInt) ∨ (a2).toInt = 0 ∨ (a2).toInt = 1 ∨ (a2).toInt = 2 by omega) with jc_6 | jc_6 | jc_6 | jc_6
      · refine lv_tableOut (tgt := 76) hx hb dX11_plan_14 jc_6 (dk_dq rfl) ?_
        refine lv_iconst (v := (-1)) hx hb dX11_plan_76 (by decide +kernel) ?_
        refine W.widen (k := 0) (n := 0) (Nat.le_of_ble_eq_true rfl) (Nat.le_of_ble_eq_true rfl) ?_
        exact dg_iret hx hb hr hlocks rfl hP hS ⟨rfl, (Eq.symm (F_d_plan_p0 (zR_eq f_d_1) w_4_2 c_5 (dk_neO jc_6 (k := 0) (b := 0) (by decide +kernel) (dk_dq rfl)) (dk_neO jc_6 (k := 1) (b := 1) (by decide +kernel) (dk_dq rfl)) (dk_neO jc_6 (k := 2) (b := 2) (by decide +kernel) (dk_dq rfl)))), trivial⟩ dX11_plan_77
      · refine lv_tableIn (off := 26) (tgt := 40) hx hb dX11_plan_14 (by rw [jc_6]; decide) (by rw [jc_6]; decide) (by rw [jc_6]; decide +kernel) (dk_dq rfl) ?_
        refine lv_aload_n hx hb dX11_plan_40 rfl (lv_at hl 0 rfl) ?_
        refine dg_get (C := RX11) (T := TX11) (N := 13) hx hb hts (fun w h => bw_mem (wU_X11 w h)) hown K hP sX_0 rfl 1 (dk_dq rfl) (hts _ (bw_mem wB_287)) (fun _ h9 => h9) (v := .ref (o + 3)) (show S.1 0 1 = .ref (o + 3) from dg_I.rel (d := 3) I sX_0 (by decide +kernel)) dX11_plan_41 ?_
        refine dg_get (C := RX5) (T := TX5) (N := 8) hx hb hts (fun w h => bw_mem (wU_X5 w h)) hown K hP (pX_0 3 (dk_dq rfl)) rfl 4 (dk_dq rfl) (hts _ (bw_mem wB_970)) (fun _ h9 => h9) (v := .ref (o + 6)) (show S.1 3 4 = .ref (o + 6) from dg_I.rel (d := 3) I (pX_0 3 (dk_dq rfl)) (by decide +kernel)) dX11_plan_44 ?_
        refine lv_iload_n hx hb dX11_plan_47 rfl (lv_at hl 1 rfl) ?_
        have hin_7 : vp_in a1 16 := (dk_inv2 (by omega))
        refine dg_iald hx hb K hP (pX_3 3 (dk_dq rfl)) hin_7 dX11_plan_48 (fun x_8 ex_8 => ?_)
        have b_x_8 := dk_all_at (dg_I.row (lo := 0) (hi := 5) I (pX_3 3 (dk_dq rfl)) (by decide +kernel)) hin_7 ex_8
        refine W.widen (k := 0) (n := 0) (Nat.le_of_ble_eq_true rfl) (Nat.le_of_ble_eq_true rfl) ?_
        exact dg_iret hx hb hr hlocks rfl hP hS ⟨rfl, (Eq.symm (F_d_plan_p1 (zR_eq f_d_1) w_4_2 c_5 (dk_eqT jc_6 (k := 0) (by decide +kernel)) (Eq.symm ex_8.symm))), trivial⟩ dX11_plan_49
      · refine lv_tableIn (off := 36) (tgt := 50) hx hb dX11_plan_14 (by rw [jc_6]; decide) (by rw [jc_6]; decide) (by rw [jc_6]; decide +kernel) (dk_dq rfl) ?_
        refine lv_aload_n hx hb dX11_plan_50 rfl (lv_at hl 0 rfl) ?_
        refine dg_get (C := RX11) (T := TX11) (N := 13) hx hb hts (fun w h => bw_mem (wU_X11 w h)) hown K hP sX_0 rfl 1 (dk_dq rfl) (hts _ (bw_mem wB_287)) (fun _ h9 => h9) (v := .ref (o + 3)) (show S.1 0 1 = .ref (o + 3) from dg_I.rel (d := 3) I sX_0 (by decide +kernel)) dX11_plan_51 ?_
        refine dg_get (C := RX5) (T := TX5) (N := 8) hx hb hts (fun w h => bw_mem (wU_X5 w h)) hown K hP (pX_0 3 (dk_dq rfl)) rfl 5 (dk_dq rfl) (hts _ (bw_mem wB_971)) (fun _ h9 => h9) (v := .ref (o + 7)) (show S.1 3 5 = .ref (o + 7) from dg_I.rel (d := 4) I (pX_0 3 (dk_dq rfl)) (by decide +kernel)) dX11_plan_54 ?_
        refine lv_iload_n hx hb dX11_plan_57 rfl (lv_at hl 1 rfl) ?_
        have hin_9 : vp_in a1 16 := (dk_inv2 (by omega))
        refine dg_iald hx hb K hP (pX_4 3 (dk_dq rfl)) hin_9 dX11_plan_58 (fun x_10 ex_10 => ?_)
        have b_x_10 := dk_all_at (dg_I.row (lo := 0) (hi := 63) I (pX_4 3 (dk_dq rfl)) (by decide +kernel)) hin_9 ex_10
        refine dg_calli hS hA1 hA (va_runS (As := [.int x_10]) (rest := []) F (c_columnOf l g D o S x_10 I H.size) (va_cwS 1 hts (bw_S wB_972 wB_800 wB_610 wB_799) rfl rfl rfl (by decide +kernel) ⟨Nat.le_of_ble_eq_true rfl, Nat.le_of_ble_eq_true rfl⟩) (dg_preS K ST hP hS hA1 hA) rfl rfl hl.1 rfl (lv_room (Nat.le_of_ble_eq_true rfl)) dX11_plan_59 ⟨Nat.le_of_ble_eq_true rfl, Nat.le_of_ble_eq_true rfl⟩) (fun x_11 S_12 hw_12 H locs hP hS => ?_)
        rw [hw_12.1] at hP
        obtain ⟨hq_12, w_12_0, w_12_1, -⟩ := hw_12
        have w_12_0 : 0 ≤ (x_11).toInt ∧ (x_11).toInt ≤ 7 := w_12_0
        refine W.widen (k := 0) (n := 0) (Nat.le_of_ble_eq_true rfl) (Nat.le_of_ble_eq_true rfl) ?_
        exact dg_iret hx hb hr hlocks rfl hP hS ⟨rfl, (Eq.symm (F_d_plan_p2 (zR_eq f_d_1) w_4_2 c_5 (dk_neT jc_6 (k := 0) (b := 0) (by decide +kernel) (dk_dq rfl)) (dk_eqT jc_6 (k := 1) (by decide +kernel)) (Eq.symm ex_10.symm) w_12_1)), trivial⟩ dX11_plan_62
      · refine lv_tableIn (off := 49) (tgt := 63) hx hb dX11_plan_14 (by rw [jc_6]; decide) (by rw [jc_6]; decide) (by rw [jc_6]; decide +kernel) (dk_dq rfl) ?_
        refine lv_aload_n hx hb dX11_plan_63 rfl (lv_at hl 0 rfl) ?_
        refine dg_get (C := RX11) (T := TX11) (N := 13) hx hb hts (fun w h => bw_mem (wU_X11 w h)) hown K hP sX_0 rfl 1 (dk_dq rfl) (hts _ (bw_mem wB_287)) (fun _ h9 => h9) (v := .ref (o + 3)) (show S.1 0 1 = .ref (o + 3) from dg_I.rel (d := 3) I sX_0 (by decide +kernel)) dX11_plan_64 ?_
        refine dg_get (C := RX5) (T := TX5) (N := 8) hx hb hts (fun w h => bw_mem (wU_X5 w h)) hown K hP (pX_0 3 (dk_dq rfl)) rfl 5 (dk_dq rfl) (hts _ (bw_mem wB_971)) (fun _ h9 => h9) (v := .ref (o + 7)) (show S.1 3 5 = .ref (o + 7) from dg_I.rel (d := 4) I (pX_0 3 (dk_dq rfl)) (by decide +kernel)) dX11_plan_67 ?_
        refine lv_iload_n hx hb dX11_plan_70 rfl (lv_at hl 1 rfl) ?_
        have hin_13 : vp_in a1 16 := (dk_inv2 (by omega))
        refine dg_iald hx hb K hP (pX_4 3 (dk_dq rfl)) hin_13 dX11_plan_71 (fun x_14 ex_14 => ?_)
        have b_x_14 := dk_all_at (dg_I.row (lo := 0) (hi := 63) I (pX_4 3 (dk_dq rfl)) (by decide +kernel)) hin_13 ex_14
        refine dg_calli hS hA1 hA (va_runS (As := [.int x_14]) (rest := []) F (c_rowOf l g D o S x_14 I H.size) (va_cwS 1 hts (bw_S wB_973 wB_611 wB_610 wB_609) rfl rfl rfl (by decide +kernel) ⟨Nat.le_of_ble_eq_true rfl, Nat.le_of_ble_eq_true rfl⟩) (dg_preS K ST hP hS hA1 hA) rfl rfl hl.1 rfl (lv_room (Nat.le_of_ble_eq_true rfl)) dX11_plan_72 ⟨Nat.le_of_ble_eq_true rfl, Nat.le_of_ble_eq_true rfl⟩) (fun x_15 S_16 hw_16 H locs hP hS => ?_)
        rw [hw_16.1] at hP
        obtain ⟨hq_16, w_16_0, -⟩ := hw_16
        refine W.widen (k := 0) (n := 0) (Nat.le_of_ble_eq_true rfl) (Nat.le_of_ble_eq_true rfl) ?_
        exact dg_iret hx hb hr hlocks rfl hP hS ⟨rfl, (Eq.symm (F_d_plan_p3 (zR_eq f_d_1) w_4_2 c_5 (dk_neT jc_6 (k := 0) (b := 0) (by decide +kernel) (dk_dq rfl)) (dk_neT jc_6 (k := 1) (b := 1) (by decide +kernel) (dk_dq rfl)) (dk_eqT jc_6 (k := 2) (by decide +kernel)) (Eq.symm ex_14.symm) w_16_0)), trivial⟩ dX11_plan_75
  · have jc_5 := dk_eqc (k := 0) (by decide +kernel) c_5
    refine lv_iconst (v := (-1)) hx hb dX11_plan_11 (by decide +kernel) ?_
    refine W.widen (k := 0) (n := 0) (Nat.le_of_ble_eq_true rfl) (Nat.le_of_ble_eq_true rfl) ?_
    exact dg_iret hx hb hr hlocks rfl hP hS ⟨rfl, (Eq.symm (F_d_plan_p4 (zR_eq f_d_1) w_4_2 c_5)), trivial⟩ dX11_plan_12
noncomputable def F_d_order (o : Nat) (S : dg_S) (a1 : Int32) (a2 : Int32) : Int32 := let d_1 : Nat := zR o S 0 6; let x_2 : Int32 := zI S d_1 11; let x_3 : Int32 := F_g_hasOrder o S d_1 a1; (if x_3 = (0 : Int32) then (-1 : Int32) else (if a2 = (0 : Int32) then let x_8 : Int32 := S.2.1 (d_1 + 6) (a1 : Int32).toNatClampNeg; x_8 else (if a2 = (1 : Int32) then let x_10 : Int32 := S.2.1 (d_1 + 7) (a1 : Int32).toNatClampNeg; x_10 else (if a2 = (2 : Int32) then let x_12 : Int32 := S.2.1 (d_1 + 8) (a1 : Int32).toNatClampNeg; x_12 else (if a2 = (3 : Int32) then let x_14 : Int32 := S.2.1 8 (a1 : Int32).toNatClampNeg; x_14 else (if a2 = (4 : Int32) then let x_15 : Int32 := F_d_canBeSold o S a1; let x_17 : Int32 := F_flag o S x_15; x_17 else (-1 : Int32)))))))
theorem F_d_order_p0 {o : Nat} {S : dg_S} {a1 : Int32} {a2 : Int32} {d_1 : Nat} {x_3 : Int32} (h0 : d_1 = zR o S 0 6) (h1 : x_3 = F_g_hasOrder o S d_1 a1) (h2 : ¬ (x_3 = (0 : Int32))) (h3 : ¬ (a2 = (0 : Int32))) (h4 : ¬ (a2 = (1 : Int32))) (h5 : ¬ (a2 = (2 : Int32))) (h6 : ¬ (a2 = (3 : Int32))) (h7 : ¬ (a2 = (4 : Int32))) : F_d_order o S a1 a2 = (-1 : Int32) := by
  replace h0 := Eq.symm h0
  subst h0
  replace h1 := Eq.symm h1
  subst h1
  exact (Eq.trans (if_neg h2) (Eq.trans (if_neg h3) (Eq.trans (if_neg h4) (Eq.trans (if_neg h5) (Eq.trans (if_neg h6) (Eq.trans (if_neg h7) rfl))))))
theorem F_d_order_p1 {o : Nat} {S : dg_S} {a1 : Int32} {a2 : Int32} {x_8 : Int32} {d_1 : Nat} {x_3 : Int32} (h0 : d_1 = zR o S 0 6) (h1 : x_3 = F_g_hasOrder o S d_1 a1) (h2 : ¬ (x_3 = (0 : Int32))) (h3 : a2 = (0 : Int32)) (h4 : x_8 = S.2.1 (d_1 + 6) (a1 : Int32).toNatClampNeg) : F_d_order o S a1 a2 = x_8 := by
  replace h0 := Eq.symm h0
  subst h0
  replace h1 := Eq.symm h1
  subst h1
  replace h4 := Eq.symm h4
  subst h4
  exact (Eq.trans (if_neg h2) (Eq.trans (if_pos h3) rfl))
theorem F_d_order_p2 {o : Nat} {S : dg_S} {a1 : Int32} {a2 : Int32} {x_10 : Int32} {d_1 : Nat} {x_3 : Int32} (h0 : d_1 = zR o S 0 6) (h1 : x_3 = F_g_hasOrder o S d_1 a1) (h2 : ¬ (x_3 = (0 : Int32))) (h3 : ¬ (a2 = (0 : Int32))) (h4 : a2 = (1 : Int32)) (h5 : x_10 = S.2.1 (d_1 + 7) (a1 : Int32).toNatClampNeg) : F_d_order o S a1 a2 = x_10 := by
  replace h0 := Eq.symm h0
  subst h0
  replace h1 := Eq.symm h1
  subst h1
  replace h5 := Eq.symm h5
  subst h5
  exact (Eq.trans (if_neg h2) (Eq.trans (if_neg h3) (Eq.trans (if_pos h4) rfl)))
theorem F_d_order_p3 {o : Nat} {S : dg_S} {a1 : Int32} {a2 : Int32} {x_12 : Int32} {d_1 : Nat} {x_3 : Int32} (h0 : d_1 = zR o S 0 6) (h1 : x_3 = F_g_hasOrder o S d_1 a1) (h2 : ¬ (x_3 = (0 : Int32))) (h3 : ¬ (a2 = (0 : Int32))) (h4 : ¬ (a2 = (1 : Int32))) (h5 : a2 = (2 : Int32)) (h6 : x_12 = S.2.1 (d_1 + 8) (a1 : Int32).toNatClampNeg) : F_d_order o S a1 a2 = x_12 := by
  replace h0 := Eq.symm h0
  subst h0
  replace h1 := Eq.symm h1
  subst h1
  replace h6 := Eq.symm h6
  subst h6
  exact (Eq.trans (if_neg h2) (Eq.trans (if_neg h3) (Eq.trans (if_neg h4) (Eq.trans (if_pos h5) rfl))))
theorem F_d_order_p4 {o : Nat} {S : dg_S} {a1 : Int32} {a2 : Int32} {x_14 : Int32} {d_1 : Nat} {x_3 : Int32} (h0 : d_1 = zR o S 0 6) (h1 : x_3 = F_g_hasOrder o S d_1 a1) (h2 : ¬ (x_3 = (0 : Int32))) (h3 : ¬ (a2 = (0 : Int32))) (h4 : ¬ (a2 = (1 : Int32))) (h5 : ¬ (a2 = (2 : Int32))) (h6 : a2 = (3 : Int32)) (h7 : x_14 = S.2.1 8 (a1 : Int32).toNatClampNeg) : F_d_order o S a1 a2 = x_14 := by
  replace h0 := Eq.symm h0
  subst h0
  replace h1 := Eq.symm h1
  subst h1
  replace h7 := Eq.symm h7
  subst h7
  exact (Eq.trans (if_neg h2) (Eq.trans (if_neg h3) (Eq.trans (if_neg h4) (Eq.trans (if_neg h5) (Eq.trans (if_pos h6) rfl)))))
theorem F_d_order_p5 {o : Nat} {S : dg_S} {a1 : Int32} {a2 : Int32} {x_17 : Int32} {d_1 : Nat} {x_3 : Int32} {x_15 : Int32} (h0 : d_1 = zR o S 0 6) (h1 : x_3 = F_g_hasOrder o S d_1 a1) (h2 : ¬ (x_3 = (0 : Int32))) (h3 : ¬ (a2 = (0 : Int32))) (h4 : ¬ (a2 = (1 : Int32))) (h5 : ¬ (a2 = (2 : Int32))) (h6 : ¬ (a2 = (3 : Int32))) (h7 : a2 = (4 : Int32)) (h8 : x_15 = F_d_canBeSold o S a1) (h9 : x_17 = F_flag o S x_15) : F_d_order o S a1 a2 = x_17 := by
  replace h0 := Eq.symm h0
  subst h0
  replace h1 := Eq.symm h1
  subst h1
  replace h8 := Eq.symm h8
  subst h8
  replace h9 := Eq.symm h9
  subst h9
  exact (Eq.trans (if_neg h2) (Eq.trans (if_neg h3) (Eq.trans (if_neg h4) (Eq.trans (if_neg h5) (Eq.trans (if_neg h6) (Eq.trans (if_pos h7) rfl))))))
theorem F_d_order_p6 {o : Nat} {S : dg_S} {a1 : Int32} {a2 : Int32} {d_1 : Nat} {x_3 : Int32} (h0 : d_1 = zR o S 0 6) (h1 : x_3 = F_g_hasOrder o S d_1 a1) (h2 : x_3 = (0 : Int32)) : F_d_order o S a1 a2 = (-1 : Int32) := by
  replace h0 := Eq.symm h0
  subst h0
  replace h1 := Eq.symm h1
  subst h1
  exact (Eq.trans (if_pos h2) rfl)
set_option maxHeartbeats 8000000 in
set_option maxRecDepth 100000 in
theorem c_d_order (l : Launch) (g : Nat → ClassId) (D : va_G) (o : Nat) (S : dg_S) (a1 : Int32) (a2 : Int32) (Z1 : Z1X S) (Z2 : Z2X S) (Z3 : Z3X o S) (Z4 : Z4X S) (Z6 : Z6X S) (I : CX o S) (sz : Nat) : Met l yX11_order (bw yX11_order cX11_order 3 (some .int)) ({ frames := 3, cells := 0, slots := 0, locals := 76 } : Room) (dk_Pc g D (dg_w g shX o rfX S) sz [.ref (o + 0), .int a1, .int a2]) (va_Qi (fun (r : Int32) S' => S' = S ∧ (r = F_d_order o S a1 a2) ∧ True) (dg_B g D shX o rfX) (dg_A o shX.length sz)) 0 0 (dg_A o shX.length sz) := by
  refine dg_met (cc := cX11_order) (maxL := 3) (ret := (some .int)) (dk_dq rfl) rfl (Nat.le_of_ble_eq_true rfl) ?_
  intro p e s m args below meth c A hAe harg hx hb hr hml hts hown hlocks hin hP K hS hA1 hA ST hsz ls hl
  rw [← hAe]
  have F : CallFix p m c cX11_order 3 s args (bw yX11_order cX11_order 3 (some .int)) RX11 := ⟨hx, hb, hml, hown, hts⟩
  have hl : lv_has ls 3 [(0, .ref (o + 0)), (1, .int a1), (2, .int a2)] := hl
  have M_0 : dg_sm shX [] [] S S := dg_sm.rf
  refine lv_aload_n hx hb dX11_order_0 rfl (lv_at hl 0 rfl) ?_
  obtain ⟨d_1, hk_d_1, f_d_1⟩ := dg_I.one (i := 0) (k := 6) (d := 0) I sX_0 (by decide +kernel)
  have hk_d_1 : rX d_1 := hk_d_1
  refine dg_get (C := RX11) (T := TX11) (N := 13) hx hb hts (fun w h => bw_mem (wU_X11 w h)) hown K hP sX_0 rfl 6 (dk_dq rfl) (hts _ (bw_mem wB_286)) (fun _ h9 => h9) (v := .ref (o + d_1)) f_d_1 dX11_order_1 ?_
  refine lv_iload_n hx hb dX11_order_4 rfl (lv_at hl 1 rfl) ?_
  obtain ⟨x_2, f_x_2, b_x_2⟩ := dg_I.int (i := d_1) (k := 11) (lo := 0) (hi := 5) I (rX_0 d_1 hk_d_1) (by decide +kernel)
  refine dg_calli hS hA1 hA (va_runV (As := [.int a1]) (rest := []) F (c_g_hasOrder l g D o S d_1 hk_d_1 a1 x_2 f_x_2 (by omega) I s.heap.size) (cwV 1 hts (bw_V wB_975 wB_976 wB_977 wB_9 wB_974) rfl rfl rfl (by decide +kernel) ⟨Nat.le_of_ble_eq_true rfl, Nat.le_of_ble_eq_true rfl⟩) (dg_preV (rX_0 d_1 hk_d_1) rfl K ST hP hS hA1 hA) rfl rfl hl.1 rfl (lv_room (Nat.le_of_ble_eq_true rfl)) dX11_order_5 ⟨Nat.le_of_ble_eq_true rfl, Nat.le_of_ble_eq_true rfl⟩) (fun x_3 S_4 hw_4 H locs hP hS => ?_)
  rw [hw_4.1] at hP
  obtain ⟨hq_4, w_4_0, w_4_1, w_4_2, -⟩ := hw_4
  have w_4_0 : 0 ≤ (x_3).toInt ∧ (x_3).toInt ≤ 1 := w_4_0
  have w_4_1 : (x_3).toInt = 1 ↔ (0 ≤ (a1).toInt ∧ (a1).toInt < (x_2).toInt) := w_4_1
  refine lv_if_ne (tgt := 13) hx hb dX11_order_8 (dk_dq rfl) (fun c_5 => ?_) (fun c_5 => ?_)
  · as_aux_lemma =>
      have jc_5 := dk_neqc (k := 0) (by decide +kernel) c_5
      refine lv_iload_n hx hb dX11_order_13 rfl (lv_at hl 2 rfl) ?_
      rcases (show ((a2).toInt < 0 ∨ 4 < (a2).toInt) ∨ (a2).toInt = 0 ∨ (a2).toInt = 1 ∨ (a2).toInt = 2 ∨ (a2).toInt = 3 ∨ (a2).toInt = 4 by omega) with jc_6 | jc_6 | jc_6 | jc_6 | jc_6 | jc_6
      · refine lv_tableOut (tgt := 97) hx hb dX11_order_14 jc_6 (dk_dq rfl) ?_
        refine lv_iconst (v := (-1)) hx hb dX11_order_97 (by decide +kernel) ?_
        refine W.widen (k := 0) (n := 0) (Nat.le_of_ble_eq_true rfl) (Nat.le_of_ble_eq_true rfl) ?_
        exact dg_iret hx hb hr hlocks rfl hP hS ⟨rfl, (Eq.symm (F_d_order_p0 (zR_eq f_d_1) w_4_2 c_5 (dk_neO jc_6 (k := 0) (b := 0) (by decide +kernel) (dk_dq rfl)) (dk_neO jc_6 (k := 1) (b := 1) (by decide +kernel) (dk_dq rfl)) (dk_neO jc_6 (k := 2) (b := 2) (by decide +kernel) (dk_dq rfl)) (dk_neO jc_6 (k := 3) (b := 3) (by decide +kernel) (dk_dq rfl)) (dk_neO jc_6 (k := 4) (b := 4) (by decide +kernel) (dk_dq rfl)))), trivial⟩ dX11_order_98
      · refine lv_tableIn (off := 34) (tgt := 48) hx hb dX11_order_14 (by rw [jc_6]; decide) (by rw [jc_6]; decide) (by rw [jc_6]; decide +kernel) (dk_dq rfl) ?_
        refine lv_aload_n hx hb dX11_order_48 rfl (lv_at hl 0 rfl) ?_
        refine dg_get (C := RX11) (T := TX11) (N := 13) hx hb hts (fun w h => bw_mem (wU_X11 w h)) hown K hP sX_0 rfl 6 (dk_dq rfl) (hts _ (bw_mem wB_286)) (fun _ h9 => h9) (v := .ref (o + d_1)) f_d_1 dX11_order_49 ?_
        refine dg_get (C := RX2) (T := TX2) (N := 19) hx hb hts (fun w h => bw_mem (wU_X2 w h)) hown K hP (rX_0 d_1 hk_d_1) rfl 13 (dk_dq rfl) (hts _ (bw_mem wB_894)) (fun _ h9 => h9) (v := .ref (o + (d_1 + 6))) (show S.1 d_1 13 = .ref (o + (d_1 + 6)) from dg_I.rel (d := 6) I (rX_0 d_1 hk_d_1) (by decide +kernel)) dX11_order_52 ?_
        refine lv_iload_n hx hb dX11_order_55 rfl (lv_at hl 1 rfl) ?_
        have hin_7 : vp_in a1 5 := (dk_inv2 (by omega))
        refine dg_iald hx hb K hP (rX_6 d_1 hk_d_1) hin_7 dX11_order_56 (fun x_8 ex_8 => ?_)
        have b_x_8 := dk_all_at (dg_I.row (lo := 0) (hi := 9) I (rX_6 d_1 hk_d_1) (by decide +kernel)) hin_7 ex_8
        refine W.widen (k := 0) (n := 0) (Nat.le_of_ble_eq_true rfl) (Nat.le_of_ble_eq_true rfl) ?_
        exact dg_iret hx hb hr hlocks rfl hP hS ⟨rfl, (Eq.symm (F_d_order_p1 (zR_eq f_d_1) w_4_2 c_5 (dk_eqT jc_6 (k := 0) (by decide +kernel)) (Eq.symm ex_8.symm))), trivial⟩ dX11_order_57
      · refine lv_tableIn (off := 44) (tgt := 58) hx hb dX11_order_14 (by rw [jc_6]; decide) (by rw [jc_6]; decide) (by rw [jc_6]; decide +kernel) (dk_dq rfl) ?_
        refine lv_aload_n hx hb dX11_order_58 rfl (lv_at hl 0 rfl) ?_
        refine dg_get (C := RX11) (T := TX11) (N := 13) hx hb hts (fun w h => bw_mem (wU_X11 w h)) hown K hP sX_0 rfl 6 (dk_dq rfl) (hts _ (bw_mem wB_286)) (fun _ h9 => h9) (v := .ref (o + d_1)) f_d_1 dX11_order_59 ?_
        refine dg_get (C := RX2) (T := TX2) (N := 19) hx hb hts (fun w h => bw_mem (wU_X2 w h)) hown K hP (rX_0 d_1 hk_d_1) rfl 14 (dk_dq rfl) (hts _ (bw_mem wB_899)) (fun _ h9 => h9) (v := .ref (o + (d_1 + 7))) (show S.1 d_1 14 = .ref (o + (d_1 + 7)) from dg_I.rel (d := 7) I (rX_0 d_1 hk_d_1) (by decide +kernel)) dX11_order_62 ?_
        refine lv_iload_n hx hb dX11_order_65 rfl (lv_at hl 1 rfl) ?_
        have hin_9 : vp_in a1 5 := (dk_inv2 (by omega))
        refine dg_iald hx hb K hP (rX_7 d_1 hk_d_1) hin_9 dX11_order_66 (fun x_10 ex_10 => ?_)
        refine W.widen (k := 0) (n := 0) (Nat.le_of_ble_eq_true rfl) (Nat.le_of_ble_eq_true rfl) ?_
        exact dg_iret hx hb hr hlocks rfl hP hS ⟨rfl, (Eq.symm (F_d_order_p2 (zR_eq f_d_1) w_4_2 c_5 (dk_neT jc_6 (k := 0) (b := 0) (by decide +kernel) (dk_dq rfl)) (dk_eqT jc_6 (k := 1) (by decide +kernel)) (Eq.symm ex_10.symm))), trivial⟩ dX11_order_67
      · refine lv_tableIn (off := 54) (tgt := 68) hx hb dX11_order_14 (by rw [jc_6]; decide) (by rw [jc_6]; decide) (by rw [jc_6]; decide +kernel) (dk_dq rfl) ?_
        refine lv_aload_n hx hb dX11_order_68 rfl (lv_at hl 0 rfl) ?_
        refine dg_get (C := RX11) (T := TX11) (N := 13) hx hb hts (fun w h => bw_mem (wU_X11 w h)) hown K hP sX_0 rfl 6 (dk_dq rfl) (hts _ (bw_mem wB_286)) (fun _ h9 => h9) (v := .ref (o + d_1)) f_d_1 dX11_order_69 ?_
        refine dg_get (C := RX2) (T := TX2) (N := 19) hx hb hts (fun w h => bw_mem (wU_X2 w h)) hown K hP (rX_0 d_1 hk_d_1) rfl 15 (dk_dq rfl) (hts _ (bw_mem wB_901)) (fun _ h9 => h9) (v := .ref (o + (d_1 + 8))) (show S.1 d_1 15 = .ref (o + (d_1 + 8)) from dg_I.rel (d := 8) I (rX_0 d_1 hk_d_1) (by decide +kernel)) dX11_order_72 ?_
        refine lv_iload_n hx hb dX11_order_75 rfl (lv_at hl 1 rfl) ?_
        have hin_11 : vp_in a1 5 := (dk_inv2 (by omega))
        refine dg_iald hx hb K hP (rX_8 d_1 hk_d_1) hin_11 dX11_order_76 (fun x_12 ex_12 => ?_)
        refine W.widen (k := 0) (n := 0) (Nat.le_of_ble_eq_true rfl) (Nat.le_of_ble_eq_true rfl) ?_
        exact dg_iret hx hb hr hlocks rfl hP hS ⟨rfl, (Eq.symm (F_d_order_p3 (zR_eq f_d_1) w_4_2 c_5 (dk_neT jc_6 (k := 0) (b := 0) (by decide +kernel) (dk_dq rfl)) (dk_neT jc_6 (k := 1) (b := 1) (by decide +kernel) (dk_dq rfl)) (dk_eqT jc_6 (k := 2) (by decide +kernel)) (Eq.symm ex_12.symm))), trivial⟩ dX11_order_77
      · refine lv_tableIn (off := 64) (tgt := 78) hx hb dX11_order_14 (by rw [jc_6]; decide) (by rw [jc_6]; decide) (by rw [jc_6]; decide +kernel) (dk_dq rfl) ?_
        refine lv_aload_n hx hb dX11_order_78 rfl (lv_at hl 0 rfl) ?_
        refine dg_get (C := RX11) (T := TX11) (N := 13) hx hb hts (fun w h => bw_mem (wU_X11 w h)) hown K hP sX_0 rfl 1 (dk_dq rfl) (hts _ (bw_mem wB_287)) (fun _ h9 => h9) (v := .ref (o + 3)) (show S.1 0 1 = .ref (o + 3) from dg_I.rel (d := 3) I sX_0 (by decide +kernel)) dX11_order_79 ?_
        refine dg_get (C := RX5) (T := TX5) (N := 8) hx hb hts (fun w h => bw_mem (wU_X5 w h)) hown K hP (pX_0 3 (dk_dq rfl)) rfl 6 (dk_dq rfl) (hts _ (bw_mem wB_893)) (fun _ h9 => h9) (v := .ref (o + 8)) (show S.1 3 6 = .ref (o + 8) from dg_I.rel (d := 5) I (pX_0 3 (dk_dq rfl)) (by decide +kernel)) dX11_order_82 ?_
        refine lv_iload_n hx hb dX11_order_85 rfl (lv_at hl 1 rfl) ?_
        have hin_13 : vp_in a1 5 := (dk_inv2 (by omega))
        refine dg_iald hx hb K hP (pX_5 3 (dk_dq rfl)) hin_13 dX11_order_86 (fun x_14 ex_14 => ?_)
        refine W.widen (k := 0) (n := 0) (Nat.le_of_ble_eq_true rfl) (Nat.le_of_ble_eq_true rfl) ?_
        exact dg_iret hx hb hr hlocks rfl hP hS ⟨rfl, (Eq.symm (F_d_order_p4 (zR_eq f_d_1) w_4_2 c_5 (dk_neT jc_6 (k := 0) (b := 0) (by decide +kernel) (dk_dq rfl)) (dk_neT jc_6 (k := 1) (b := 1) (by decide +kernel) (dk_dq rfl)) (dk_neT jc_6 (k := 2) (b := 2) (by decide +kernel) (dk_dq rfl)) (dk_eqT jc_6 (k := 3) (by decide +kernel)) (Eq.symm ex_14.symm))), trivial⟩ dX11_order_87
      · refine lv_tableIn (off := 74) (tgt := 88) hx hb dX11_order_14 (by rw [jc_6]; decide) (by rw [jc_6]; decide) (by rw [jc_6]; decide +kernel) (dk_dq rfl) ?_
        refine lv_aload_n hx hb dX11_order_88 rfl (lv_at hl 0 rfl) ?_
        refine lv_iload_n hx hb dX11_order_89 rfl (lv_at hl 1 rfl) ?_
        refine dg_calli hS hA1 hA (va_runV (As := [.int a1]) (rest := []) F (c_d_canBeSold l g D o S a1 (by omega) Z1 Z2 Z3 Z4 Z6 I H.size) (cwV 1 hts (bw_V wB_979 wB_980 wB_981 wB_610 wB_978) rfl rfl rfl (by decide +kernel) ⟨Nat.le_of_ble_eq_true rfl, Nat.le_of_ble_eq_true rfl⟩) (dg_preV sX_0 rfl K ST hP hS hA1 hA) rfl rfl hl.1 rfl (lv_room (Nat.le_of_ble_eq_true rfl)) dX11_order_90 ⟨Nat.le_of_ble_eq_true rfl, Nat.le_of_ble_eq_true rfl⟩) (fun x_15 S_16 hw_16 H locs hP hS => ?_)
        rw [hw_16.1] at hP
        obtain ⟨hq_16, w_16_0, w_16_1, -⟩ := hw_16
        have w_16_0 : 0 ≤ (x_15).toInt ∧ (x_15).toInt ≤ 1 := w_16_0
        refine dg_calli hS hA1 hA (va_runS (As := [.int x_15]) (rest := []) F (c_flag l g D o S x_15 (by omega) I H.size) (va_cwS 1 hts (bw_S wB_884 wB_885 wB_610 wB_883) rfl rfl rfl (by decide +kernel) ⟨Nat.le_of_ble_eq_true rfl, Nat.le_of_ble_eq_true rfl⟩) (dg_preS K ST hP hS hA1 hA) rfl rfl hl.1 rfl (lv_room (Nat.le_of_ble_eq_true rfl)) dX11_order_93 ⟨Nat.le_of_ble_eq_true rfl, Nat.le_of_ble_eq_true rfl⟩) (fun x_17 S_18 hw_18 H locs hP hS => ?_)
        rw [hw_18.1] at hP
        obtain ⟨hq_18, w_18_0, w_18_1, -⟩ := hw_18
        have w_18_0 : 0 ≤ (x_17).toInt ∧ (x_17).toInt ≤ 1 := w_18_0
        refine W.widen (k := 0) (n := 0) (Nat.le_of_ble_eq_true rfl) (Nat.le_of_ble_eq_true rfl) ?_
        exact dg_iret hx hb hr hlocks rfl hP hS ⟨rfl, (Eq.symm (F_d_order_p5 (zR_eq f_d_1) w_4_2 c_5 (dk_neT jc_6 (k := 0) (b := 0) (by decide +kernel) (dk_dq rfl)) (dk_neT jc_6 (k := 1) (b := 1) (by decide +kernel) (dk_dq rfl)) (dk_neT jc_6 (k := 2) (b := 2) (by decide +kernel) (dk_dq rfl)) (dk_neT jc_6 (k := 3) (b := 3) (by decide +kernel) (dk_dq rfl)) (dk_eqT jc_6 (k := 4) (by decide +kernel)) w_16_1 w_18_1)), trivial⟩ dX11_order_96
  · have jc_5 := dk_eqc (k := 0) (by decide +kernel) c_5
    refine lv_iconst (v := (-1)) hx hb dX11_order_11 (by decide +kernel) ?_
    refine W.widen (k := 0) (n := 0) (Nat.le_of_ble_eq_true rfl) (Nat.le_of_ble_eq_true rfl) ?_
    exact dg_iret hx hb hr hlocks rfl hP hS ⟨rfl, (Eq.symm (F_d_order_p6 (zR_eq f_d_1) w_4_2 c_5)), trivial⟩ dX11_order_12
noncomputable def F_d_tubs (o : Nat) (S : dg_S) (a1 : Int32) : Int32 := (if a1 < (0 : Int32) then (-1 : Int32) else (if (9 : Int32) < a1 then (-1 : Int32) else let x_4 : Int32 := S.2.1 9 (a1 : Int32).toNatClampNeg; x_4))
theorem F_d_tubs_p0 {o : Nat} {S : dg_S} {a1 : Int32} (h0 : a1 < (0 : Int32)) : F_d_tubs o S a1 = (-1 : Int32) := (Eq.trans (if_pos h0) rfl)
theorem F_d_tubs_p1 {o : Nat} {S : dg_S} {a1 : Int32} (h0 : ¬ (a1 < (0 : Int32))) (h1 : (9 : Int32) < a1) : F_d_tubs o S a1 = (-1 : Int32) := (Eq.trans (if_neg h0) (Eq.trans (if_pos h1) rfl))
theorem F_d_tubs_p2 {o : Nat} {S : dg_S} {a1 : Int32} {x_4 : Int32} (h0 : ¬ (a1 < (0 : Int32))) (h1 : ¬ ((9 : Int32) < a1)) (h2 : x_4 = S.2.1 9 (a1 : Int32).toNatClampNeg) : F_d_tubs o S a1 = x_4 := by
  replace h2 := Eq.symm h2
  subst h2
  exact (Eq.trans (if_neg h0) (Eq.trans (if_neg h1) rfl))
set_option maxHeartbeats 8000000 in
set_option maxRecDepth 100000 in
theorem c_d_tubs (l : Launch) (g : Nat → ClassId) (D : va_G) (o : Nat) (S : dg_S) (a1 : Int32) (Z1 : Z1X S) (Z2 : Z2X S) (Z3 : Z3X o S) (Z4 : Z4X S) (Z6 : Z6X S) (I : CX o S) (sz : Nat) : Met l yX11_tubs (bw yX11_tubs cX11_tubs 2 (some .int)) ({ frames := 1, cells := 0, slots := 0, locals := 32 } : Room) (dk_Pc g D (dg_w g shX o rfX S) sz [.ref (o + 0), .int a1]) (va_Qi (fun (r : Int32) S' => S' = S ∧ (r = F_d_tubs o S a1) ∧ True) (dg_B g D shX o rfX) (dg_A o shX.length sz)) 0 0 (dg_A o shX.length sz) := by
  refine dg_met (cc := cX11_tubs) (maxL := 2) (ret := (some .int)) (dk_dq rfl) rfl (Nat.le_of_ble_eq_true rfl) ?_
  intro p e s m args below meth c A hAe harg hx hb hr hml hts hown hlocks hin hP K hS hA1 hA ST hsz ls hl
  rw [← hAe]
  have F : CallFix p m c cX11_tubs 2 s args (bw yX11_tubs cX11_tubs 2 (some .int)) RX11 := ⟨hx, hb, hml, hown, hts⟩
  have hl : lv_has ls 2 [(0, .ref (o + 0)), (1, .int a1)] := hl
  have M_0 : dg_sm shX [] [] S S := dg_sm.rf
  refine lv_iload_n hx hb dX11_tubs_0 rfl (lv_at hl 1 rfl) ?_
  refine lv_if_lt (tgt := 22) hx hb dX11_tubs_1 (dk_dq rfl) (fun c_1 => ?_) (fun c_1 => ?_)
  · have jc_1 := dk_ltc (k := 0) (by decide +kernel) c_1
    refine lv_iconst (v := (-1)) hx hb dX11_tubs_22 (by decide +kernel) ?_
    refine W.widen (k := 0) (n := 0) (Nat.le_of_ble_eq_true rfl) (Nat.le_of_ble_eq_true rfl) ?_
    exact dg_iret hx hb hr hlocks rfl hP hS ⟨rfl, (Eq.symm (F_d_tubs_p0 c_1)), trivial⟩ dX11_tubs_23
  · have jc_1 := dk_nltc (k := 0) (by decide +kernel) c_1
    refine lv_iload_n hx hb dX11_tubs_4 rfl (lv_at hl 1 rfl) ?_
    refine lv_bipush (v := 9) hx hb dX11_tubs_5 (by decide +kernel) ?_
    refine lv_icmp_gt (tgt := 22) hx hb dX11_tubs_7 (dk_dq rfl) (fun c_2 => ?_) (fun c_2 => ?_)
    · have jc_2 := dk_gtc (k := 9) (by decide +kernel) c_2
      refine lv_iconst (v := (-1)) hx hb dX11_tubs_22 (by decide +kernel) ?_
      refine W.widen (k := 0) (n := 0) (Nat.le_of_ble_eq_true rfl) (Nat.le_of_ble_eq_true rfl) ?_
      exact dg_iret hx hb hr hlocks rfl hP hS ⟨rfl, (Eq.symm (F_d_tubs_p1 c_1 c_2)), trivial⟩ dX11_tubs_23
    · have jc_2 := dk_ngtc (k := 9) (by decide +kernel) c_2
      refine lv_aload_n hx hb dX11_tubs_10 rfl (lv_at hl 0 rfl) ?_
      refine dg_get (C := RX11) (T := TX11) (N := 13) hx hb hts (fun w h => bw_mem (wU_X11 w h)) hown K hP sX_0 rfl 1 (dk_dq rfl) (hts _ (bw_mem wB_287)) (fun _ h9 => h9) (v := .ref (o + 3)) (show S.1 0 1 = .ref (o + 3) from dg_I.rel (d := 3) I sX_0 (by decide +kernel)) dX11_tubs_11 ?_
      refine dg_get (C := RX5) (T := TX5) (N := 8) hx hb hts (fun w h => bw_mem (wU_X5 w h)) hown K hP (pX_0 3 (dk_dq rfl)) rfl 7 (dk_dq rfl) (hts _ (bw_mem wB_982)) (fun _ h9 => h9) (v := .ref (o + 9)) (show S.1 3 7 = .ref (o + 9) from dg_I.rel (d := 6) I (pX_0 3 (dk_dq rfl)) (by decide +kernel)) dX11_tubs_14 ?_
      refine lv_iload_n hx hb dX11_tubs_17 rfl (lv_at hl 1 rfl) ?_
      have hin_3 : vp_in a1 10 := (dk_inv2 (by omega))
      refine dg_iald hx hb K hP (pX_6 3 (dk_dq rfl)) hin_3 dX11_tubs_18 (fun x_4 ex_4 => ?_)
      refine lv_goto (tgt := 23) hx hb dX11_tubs_19 (dk_dq rfl) ?_
      refine W.widen (k := 0) (n := 0) (Nat.le_of_ble_eq_true rfl) (Nat.le_of_ble_eq_true rfl) ?_
      exact dg_iret hx hb hr hlocks rfl hP hS ⟨rfl, (Eq.symm (F_d_tubs_p2 c_1 c_2 (Eq.symm ex_4.symm))), trivial⟩ dX11_tubs_23
