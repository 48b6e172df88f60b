/-! 23.read1.lean.txt -/
theorem dX6_comparingStep_0 : decode cX6_comparingStep 0 = .ok (.aload_n 0, 1) := dk_o42 (by decide +kernel)
theorem dX6_comparingStep_1 : decode cX6_comparingStep 1 = .ok (.bipush 60, 2) := dk_o16 (by decide +kernel)
theorem dX6_comparingStep_3 : decode cX6_comparingStep 3 = .ok (.invokevirtual 198, 3) := dk_o182 (by decide +kernel)
theorem dX6_comparingStep_6 : decode cX6_comparingStep 6 = .ok (.ifCond .eq 6, 3) := dk_o153 (by decide +kernel)
theorem dX6_comparingStep_9 : decode cX6_comparingStep 9 = .ok (.bipush (-17), 2) := dk_o16 (by decide +kernel)
theorem dX6_comparingStep_11 : decode cX6_comparingStep 11 = .ok (.ireturn, 1) := dk_o172 (by decide +kernel)
theorem dX6_comparingStep_12 : decode cX6_comparingStep 12 = .ok (.aload_n 0, 1) := dk_o42 (by decide +kernel)
theorem dX6_comparingStep_13 : decode cX6_comparingStep 13 = .ok (.bipush 62, 2) := dk_o16 (by decide +kernel)
theorem dX6_comparingStep_15 : decode cX6_comparingStep 15 = .ok (.invokevirtual 198, 3) := dk_o182 (by decide +kernel)
theorem dX6_comparingStep_18 : decode cX6_comparingStep 18 = .ok (.ifCond .eq 6, 3) := dk_o153 (by decide +kernel)
theorem dX6_comparingStep_21 : decode cX6_comparingStep 21 = .ok (.bipush (-18), 2) := dk_o16 (by decide +kernel)
theorem dX6_comparingStep_23 : decode cX6_comparingStep 23 = .ok (.ireturn, 1) := dk_o172 (by decide +kernel)
theorem dX6_comparingStep_24 : decode cX6_comparingStep 24 = .ok (.aload_n 0, 1) := dk_o42 (by decide +kernel)
theorem dX6_comparingStep_25 : decode cX6_comparingStep 25 = .ok (.bipush 61, 2) := dk_o16 (by decide +kernel)
theorem dX6_comparingStep_27 : decode cX6_comparingStep 27 = .ok (.invokevirtual 198, 3) := dk_o182 (by decide +kernel)
theorem dX6_comparingStep_30 : decode cX6_comparingStep 30 = .ok (.ifCond .eq 8, 3) := dk_o153 (by decide +kernel)
theorem dX6_comparingStep_33 : decode cX6_comparingStep 33 = .ok (.bipush (-19), 2) := dk_o16 (by decide +kernel)
theorem dX6_comparingStep_35 : decode cX6_comparingStep 35 = .ok (.goto 4, 3) := dk_o167 (by decide +kernel)
theorem dX6_comparingStep_38 : decode cX6_comparingStep 38 = .ok (.iconst 0, 1) := dk_o3 (by decide +kernel)
theorem dX6_comparingStep_39 : decode cX6_comparingStep 39 = .ok (.ireturn, 1) := dk_o172 (by decide +kernel)
theorem dX6_sumStep_0 : decode cX6_sumStep 0 = .ok (.aload_n 0, 1) := dk_o42 (by decide +kernel)
theorem dX6_sumStep_1 : decode cX6_sumStep 1 = .ok (.bipush 43, 2) := dk_o16 (by decide +kernel)
theorem dX6_sumStep_3 : decode cX6_sumStep 3 = .ok (.invokevirtual 198, 3) := dk_o182 (by decide +kernel)
theorem dX6_sumStep_6 : decode cX6_sumStep 6 = .ok (.ifCond .eq 6, 3) := dk_o153 (by decide +kernel)
theorem dX6_sumStep_9 : decode cX6_sumStep 9 = .ok (.bipush (-10), 2) := dk_o16 (by decide +kernel)
theorem dX6_sumStep_11 : decode cX6_sumStep 11 = .ok (.ireturn, 1) := dk_o172 (by decide +kernel)
theorem dX6_sumStep_12 : decode cX6_sumStep 12 = .ok (.aload_n 0, 1) := dk_o42 (by decide +kernel)
theorem dX6_sumStep_13 : decode cX6_sumStep 13 = .ok (.bipush 45, 2) := dk_o16 (by decide +kernel)
theorem dX6_sumStep_15 : decode cX6_sumStep 15 = .ok (.invokevirtual 198, 3) := dk_o182 (by decide +kernel)
theorem dX6_sumStep_18 : decode cX6_sumStep 18 = .ok (.ifCond .eq 8, 3) := dk_o153 (by decide +kernel)
theorem dX6_sumStep_21 : decode cX6_sumStep 21 = .ok (.bipush (-11), 2) := dk_o16 (by decide +kernel)
theorem dX6_sumStep_23 : decode cX6_sumStep 23 = .ok (.goto 4, 3) := dk_o167 (by decide +kernel)
theorem dX6_sumStep_26 : decode cX6_sumStep 26 = .ok (.iconst 0, 1) := dk_o3 (by decide +kernel)
theorem dX6_sumStep_27 : decode cX6_sumStep 27 = .ok (.ireturn, 1) := dk_o172 (by decide +kernel)
theorem dX6_productStep_0 : decode cX6_productStep 0 = .ok (.aload_n 0, 1) := dk_o42 (by decide +kernel)
theorem dX6_productStep_1 : decode cX6_productStep 1 = .ok (.bipush 42, 2) := dk_o16 (by decide +kernel)
theorem dX6_productStep_3 : decode cX6_productStep 3 = .ok (.invokevirtual 198, 3) := dk_o182 (by decide +kernel)
theorem dX6_productStep_6 : decode cX6_productStep 6 = .ok (.ifCond .eq 6, 3) := dk_o153 (by decide +kernel)
theorem dX6_productStep_9 : decode cX6_productStep 9 = .ok (.bipush (-12), 2) := dk_o16 (by decide +kernel)
theorem dX6_productStep_11 : decode cX6_productStep 11 = .ok (.ireturn, 1) := dk_o172 (by decide +kernel)
theorem dX6_productStep_12 : decode cX6_productStep 12 = .ok (.aload_n 0, 1) := dk_o42 (by decide +kernel)
theorem dX6_productStep_13 : decode cX6_productStep 13 = .ok (.bipush 47, 2) := dk_o16 (by decide +kernel)
theorem dX6_productStep_15 : decode cX6_productStep 15 = .ok (.invokevirtual 198, 3) := dk_o182 (by decide +kernel)
theorem dX6_productStep_18 : decode cX6_productStep 18 = .ok (.ifCond .eq 6, 3) := dk_o153 (by decide +kernel)
theorem dX6_productStep_21 : decode cX6_productStep 21 = .ok (.bipush (-13), 2) := dk_o16 (by decide +kernel)
theorem dX6_productStep_23 : decode cX6_productStep 23 = .ok (.ireturn, 1) := dk_o172 (by decide +kernel)
theorem dX6_productStep_24 : decode cX6_productStep 24 = .ok (.aload_n 0, 1) := dk_o42 (by decide +kernel)
theorem dX6_productStep_25 : decode cX6_productStep 25 = .ok (.bipush 37, 2) := dk_o16 (by decide +kernel)
theorem dX6_productStep_27 : decode cX6_productStep 27 = .ok (.invokevirtual 198, 3) := dk_o182 (by decide +kernel)
theorem dX6_productStep_30 : decode cX6_productStep 30 = .ok (.ifCond .eq 8, 3) := dk_o153 (by decide +kernel)
theorem dX6_productStep_33 : decode cX6_productStep 33 = .ok (.bipush (-14), 2) := dk_o16 (by decide +kernel)
theorem dX6_productStep_35 : decode cX6_productStep 35 = .ok (.goto 4, 3) := dk_o167 (by decide +kernel)
theorem dX6_productStep_38 : decode cX6_productStep 38 = .ok (.iconst 0, 1) := dk_o3 (by decide +kernel)
theorem dX6_productStep_39 : decode cX6_productStep 39 = .ok (.ireturn, 1) := dk_o172 (by decide +kernel)
theorem dX6_factStep_0 : decode cX6_factStep 0 = .ok (.aload_n 0, 1) := dk_o42 (by decide +kernel)
theorem dX6_factStep_1 : decode cX6_factStep 1 = .ok (.getfield 18, 3) := dk_o180 (by decide +kernel)
theorem dX6_factStep_4 : decode cX6_factStep 4 = .ok (.getfield 44, 3) := dk_o180 (by decide +kernel)
theorem dX6_factStep_7 : decode cX6_factStep 7 = .ok (.aload_n 0, 1) := dk_o42 (by decide +kernel)
theorem dX6_factStep_8 : decode cX6_factStep 8 = .ok (.getfield 34, 3) := dk_o180 (by decide +kernel)
theorem dX6_factStep_11 : decode cX6_factStep 11 = .ok (.iaload, 1) := dk_o46 (by decide +kernel)
theorem dX6_factStep_12 : decode cX6_factStep 12 = .ok (.iconst 1, 1) := dk_o4 (by decide +kernel)
theorem dX6_factStep_13 : decode cX6_factStep 13 = .ok (.if_icmp .eq 5, 3) := dk_o159 (by decide +kernel)
theorem dX6_factStep_16 : decode cX6_factStep 16 = .ok (.iconst 0, 1) := dk_o3 (by decide +kernel)
theorem dX6_factStep_17 : decode cX6_factStep 17 = .ok (.ireturn, 1) := dk_o172 (by decide +kernel)
theorem dX6_factStep_18 : decode cX6_factStep 18 = .ok (.aload_n 0, 1) := dk_o42 (by decide +kernel)
theorem dX6_factStep_19 : decode cX6_factStep 19 = .ok (.getfield 18, 3) := dk_o180 (by decide +kernel)
theorem dX6_factStep_22 : decode cX6_factStep 22 = .ok (.getfield 61, 3) := dk_o180 (by decide +kernel)
theorem dX6_factStep_25 : decode cX6_factStep 25 = .ok (.aload_n 0, 1) := dk_o42 (by decide +kernel)
theorem dX6_factStep_26 : decode cX6_factStep 26 = .ok (.getfield 34, 3) := dk_o180 (by decide +kernel)
theorem dX6_factStep_29 : decode cX6_factStep 29 = .ok (.iaload, 1) := dk_o46 (by decide +kernel)
theorem dX6_factStep_30 : decode cX6_factStep 30 = .ok (.tableswitch 124 5 19 #[74, 124, 124, 124, 124, 124, 124, 124, 124, 124, 76, 79, 82, 96, 110], 74) := by decide +kernel
theorem dX6_factStep_104 : decode cX6_factStep 104 = .ok (.iconst (-1), 1) := dk_o2 (by decide +kernel)
theorem dX6_factStep_105 : decode cX6_factStep 105 = .ok (.ireturn, 1) := dk_o172 (by decide +kernel)
theorem dX6_factStep_106 : decode cX6_factStep 106 = .ok (.bipush (-2), 2) := dk_o16 (by decide +kernel)
theorem dX6_factStep_108 : decode cX6_factStep 108 = .ok (.ireturn, 1) := dk_o172 (by decide +kernel)
theorem dX6_factStep_109 : decode cX6_factStep 109 = .ok (.bipush (-3), 2) := dk_o16 (by decide +kernel)
theorem dX6_factStep_111 : decode cX6_factStep 111 = .ok (.ireturn, 1) := dk_o172 (by decide +kernel)
theorem dX6_factStep_112 : decode cX6_factStep 112 = .ok (.aload_n 0, 1) := dk_o42 (by decide +kernel)
theorem dX6_factStep_113 : decode cX6_factStep 113 = .ok (.getfield 170, 3) := dk_o180 (by decide +kernel)
theorem dX6_factStep_116 : decode cX6_factStep 116 = .ok (.ifCond .ne 8, 3) := dk_o154 (by decide +kernel)
theorem dX6_factStep_119 : decode cX6_factStep 119 = .ok (.bipush (-4), 2) := dk_o16 (by decide +kernel)
theorem dX6_factStep_121 : decode cX6_factStep 121 = .ok (.goto 4, 3) := dk_o167 (by decide +kernel)
theorem dX6_factStep_124 : decode cX6_factStep 124 = .ok (.iconst 0, 1) := dk_o3 (by decide +kernel)
theorem dX6_factStep_125 : decode cX6_factStep 125 = .ok (.ireturn, 1) := dk_o172 (by decide +kernel)
theorem dX6_factStep_126 : decode cX6_factStep 126 = .ok (.aload_n 0, 1) := dk_o42 (by decide +kernel)
theorem dX6_factStep_127 : decode cX6_factStep 127 = .ok (.getfield 170, 3) := dk_o180 (by decide +kernel)
theorem dX6_factStep_130 : decode cX6_factStep 130 = .ok (.ifCond .ne 7, 3) := dk_o154 (by decide +kernel)
theorem dX6_factStep_133 : decode cX6_factStep 133 = .ok (.iconst 0, 1) := dk_o3 (by decide +kernel)
theorem dX6_factStep_134 : decode cX6_factStep 134 = .ok (.goto 5, 3) := dk_o167 (by decide +kernel)
theorem dX6_factStep_137 : decode cX6_factStep 137 = .ok (.bipush (-5), 2) := dk_o16 (by decide +kernel)
theorem dX6_factStep_139 : decode cX6_factStep 139 = .ok (.ireturn, 1) := dk_o172 (by decide +kernel)
theorem dX6_factStep_140 : decode cX6_factStep 140 = .ok (.aload_n 0, 1) := dk_o42 (by decide +kernel)
theorem dX6_factStep_141 : decode cX6_factStep 141 = .ok (.getfield 170, 3) := dk_o180 (by decide +kernel)
theorem dX6_factStep_144 : decode cX6_factStep 144 = .ok (.ifCond .ne 7, 3) := dk_o154 (by decide +kernel)
theorem dX6_factStep_147 : decode cX6_factStep 147 = .ok (.iconst 0, 1) := dk_o3 (by decide +kernel)
theorem dX6_factStep_148 : decode cX6_factStep 148 = .ok (.goto 5, 3) := dk_o167 (by decide +kernel)
theorem dX6_factStep_151 : decode cX6_factStep 151 = .ok (.bipush (-6), 2) := dk_o16 (by decide +kernel)
theorem dX6_factStep_153 : decode cX6_factStep 153 = .ok (.ireturn, 1) := dk_o172 (by decide +kernel)
theorem dX6_factStep_154 : decode cX6_factStep 154 = .ok (.iconst 0, 1) := dk_o3 (by decide +kernel)
theorem dX6_factStep_155 : decode cX6_factStep 155 = .ok (.ireturn, 1) := dk_o172 (by decide +kernel)
theorem dX6_put_0 : decode cX6_put 0 = .ok (.aload_n 0, 1) := dk_o42 (by decide +kernel)
theorem dX6_put_1 : decode cX6_put 1 = .ok (.getfield 37, 3) := dk_o180 (by decide +kernel)
theorem dX6_put_4 : decode cX6_put 4 = .ok (.sipush 1600, 3) := dk_o17 (by decide +kernel)
theorem dX6_put_7 : decode cX6_put 7 = .ok (.if_icmp .ge 26, 3) := dk_o162 (by decide +kernel)
theorem dX6_put_10 : decode cX6_put 10 = .ok (.aload_n 0, 1) := dk_o42 (by decide +kernel)
theorem dX6_put_11 : decode cX6_put 11 = .ok (.getfield 22, 3) := dk_o180 (by decide +kernel)
theorem dX6_put_14 : decode cX6_put 14 = .ok (.getfield 231, 3) := dk_o180 (by decide +kernel)
theorem dX6_put_17 : decode cX6_put 17 = .ok (.aload_n 0, 1) := dk_o42 (by decide +kernel)
theorem dX6_put_18 : decode cX6_put 18 = .ok (.getfield 37, 3) := dk_o180 (by decide +kernel)
theorem dX6_put_21 : decode cX6_put 21 = .ok (.iload_n 1, 1) := dk_o27 (by decide +kernel)
theorem dX6_put_22 : decode cX6_put 22 = .ok (.iastore, 1) := dk_o79 (by decide +kernel)
theorem dX6_put_23 : decode cX6_put 23 = .ok (.aload_n 0, 1) := dk_o42 (by decide +kernel)
theorem dX6_put_24 : decode cX6_put 24 = .ok (.dup, 1) := dk_o89 (by decide +kernel)
theorem dX6_put_25 : decode cX6_put 25 = .ok (.getfield 37, 3) := dk_o180 (by decide +kernel)
theorem dX6_put_28 : decode cX6_put 28 = .ok (.iconst 1, 1) := dk_o4 (by decide +kernel)
theorem dX6_put_29 : decode cX6_put 29 = .ok (.iadd, 1) := dk_o96 (by decide +kernel)
theorem dX6_put_30 : decode cX6_put 30 = .ok (.putfield 37, 3) := dk_o181 (by decide +kernel)
theorem dX6_put_33 : decode cX6_put 33 = .ok (.return_, 1) := dk_o177 (by decide +kernel)
theorem dX6_takeOwn_0 : decode cX6_takeOwn 0 = .ok (.aload_n 0, 1) := dk_o42 (by decide +kernel)
theorem dX6_takeOwn_1 : decode cX6_takeOwn 1 = .ok (.iload_n 1, 1) := dk_o27 (by decide +kernel)
theorem dX6_takeOwn_2 : decode cX6_takeOwn 2 = .ok (.invokevirtual 58, 3) := dk_o182 (by decide +kernel)
theorem dX6_takeOwn_5 : decode cX6_takeOwn 5 = .ok (.ifCond .ne 9, 3) := dk_o154 (by decide +kernel)
theorem dX6_takeOwn_8 : decode cX6_takeOwn 8 = .ok (.aload_n 0, 1) := dk_o42 (by decide +kernel)
theorem dX6_takeOwn_9 : decode cX6_takeOwn 9 = .ok (.iconst 1, 1) := dk_o4 (by decide +kernel)
theorem dX6_takeOwn_10 : decode cX6_takeOwn 10 = .ok (.invokevirtual 55, 3) := dk_o182 (by decide +kernel)
theorem dX6_takeOwn_13 : decode cX6_takeOwn 13 = .ok (.ireturn, 1) := dk_o172 (by decide +kernel)
theorem dX6_takeOwn_14 : decode cX6_takeOwn 14 = .ok (.aload_n 0, 1) := dk_o42 (by decide +kernel)
theorem dX6_takeOwn_15 : decode cX6_takeOwn 15 = .ok (.invokevirtual 92, 3) := dk_o182 (by decide +kernel)
theorem dX6_takeOwn_18 : decode cX6_takeOwn 18 = .ok (.iconst 1, 1) := dk_o4 (by decide +kernel)
theorem dX6_takeOwn_19 : decode cX6_takeOwn 19 = .ok (.ireturn, 1) := dk_o172 (by decide +kernel)
theorem dX6_takeSign_0 : decode cX6_takeSign 0 = .ok (.aload_n 0, 1) := dk_o42 (by decide +kernel)
theorem dX6_takeSign_1 : decode cX6_takeSign 1 = .ok (.iload_n 1, 1) := dk_o27 (by decide +kernel)
theorem dX6_takeSign_2 : decode cX6_takeSign 2 = .ok (.invokevirtual 198, 3) := dk_o182 (by decide +kernel)
theorem dX6_takeSign_5 : decode cX6_takeSign 5 = .ok (.ifCond .ne 9, 3) := dk_o154 (by decide +kernel)
theorem dX6_takeSign_8 : decode cX6_takeSign 8 = .ok (.aload_n 0, 1) := dk_o42 (by decide +kernel)
theorem dX6_takeSign_9 : decode cX6_takeSign 9 = .ok (.iconst 1, 1) := dk_o4 (by decide +kernel)
theorem dX6_takeSign_10 : decode cX6_takeSign 10 = .ok (.invokevirtual 55, 3) := dk_o182 (by decide +kernel)
theorem dX6_takeSign_13 : decode cX6_takeSign 13 = .ok (.ireturn, 1) := dk_o172 (by decide +kernel)
theorem dX6_takeSign_14 : decode cX6_takeSign 14 = .ok (.aload_n 0, 1) := dk_o42 (by decide +kernel)
theorem dX6_takeSign_15 : decode cX6_takeSign 15 = .ok (.invokevirtual 92, 3) := dk_o182 (by decide +kernel)
theorem dX6_takeSign_18 : decode cX6_takeSign 18 = .ok (.iconst 1, 1) := dk_o4 (by decide +kernel)
theorem dX6_takeSign_19 : decode cX6_takeSign 19 = .ok (.ireturn, 1) := dk_o172 (by decide +kernel)
theorem dX6_isOwn_0 : decode cX6_isOwn 0 = .ok (.aload_n 0, 1) := dk_o42 (by decide +kernel)
theorem dX6_isOwn_1 : decode cX6_isOwn 1 = .ok (.getfield 18, 3) := dk_o180 (by decide +kernel)
theorem dX6_isOwn_4 : decode cX6_isOwn 4 = .ok (.getfield 44, 3) := dk_o180 (by decide +kernel)
theorem dX6_isOwn_7 : decode cX6_isOwn 7 = .ok (.aload_n 0, 1) := dk_o42 (by decide +kernel)
theorem dX6_isOwn_8 : decode cX6_isOwn 8 = .ok (.getfield 34, 3) := dk_o180 (by decide +kernel)
theorem dX6_isOwn_11 : decode cX6_isOwn 11 = .ok (.iaload, 1) := dk_o46 (by decide +kernel)
theorem dX6_isOwn_12 : decode cX6_isOwn 12 = .ok (.iconst 1, 1) := dk_o4 (by decide +kernel)
theorem dX6_isOwn_13 : decode cX6_isOwn 13 = .ok (.if_icmp .ne 23, 3) := dk_o160 (by decide +kernel)
theorem dX6_isOwn_16 : decode cX6_isOwn 16 = .ok (.aload_n 0, 1) := dk_o42 (by decide +kernel)
theorem dX6_isOwn_17 : decode cX6_isOwn 17 = .ok (.getfield 18, 3) := dk_o180 (by decide +kernel)
theorem dX6_isOwn_20 : decode cX6_isOwn 20 = .ok (.getfield 61, 3) := dk_o180 (by decide +kernel)
theorem dX6_isOwn_23 : decode cX6_isOwn 23 = .ok (.aload_n 0, 1) := dk_o42 (by decide +kernel)
theorem dX6_isOwn_24 : decode cX6_isOwn 24 = .ok (.getfield 34, 3) := dk_o180 (by decide +kernel)
theorem dX6_isOwn_27 : decode cX6_isOwn 27 = .ok (.iaload, 1) := dk_o46 (by decide +kernel)
theorem dX6_isOwn_28 : decode cX6_isOwn 28 = .ok (.iload_n 1, 1) := dk_o27 (by decide +kernel)
theorem dX6_isOwn_29 : decode cX6_isOwn 29 = .ok (.if_icmp .ne 7, 3) := dk_o160 (by decide +kernel)
theorem dX6_isOwn_32 : decode cX6_isOwn 32 = .ok (.iconst 1, 1) := dk_o4 (by decide +kernel)
theorem dX6_isOwn_33 : decode cX6_isOwn 33 = .ok (.goto 4, 3) := dk_o167 (by decide +kernel)
theorem dX6_isOwn_36 : decode cX6_isOwn 36 = .ok (.iconst 0, 1) := dk_o3 (by decide +kernel)
theorem dX6_isOwn_37 : decode cX6_isOwn 37 = .ok (.ireturn, 1) := dk_o172 (by decide +kernel)
theorem dX6_isSign_0 : decode cX6_isSign 0 = .ok (.aload_n 0, 1) := dk_o42 (by decide +kernel)
theorem dX6_isSign_1 : decode cX6_isSign 1 = .ok (.getfield 18, 3) := dk_o180 (by decide +kernel)
theorem dX6_isSign_4 : decode cX6_isSign 4 = .ok (.getfield 44, 3) := dk_o180 (by decide +kernel)
theorem dX6_isSign_7 : decode cX6_isSign 7 = .ok (.aload_n 0, 1) := dk_o42 (by decide +kernel)
theorem dX6_isSign_8 : decode cX6_isSign 8 = .ok (.getfield 34, 3) := dk_o180 (by decide +kernel)
theorem dX6_isSign_11 : decode cX6_isSign 11 = .ok (.iaload, 1) := dk_o46 (by decide +kernel)
theorem dX6_isSign_12 : decode cX6_isSign 12 = .ok (.iconst 4, 1) := dk_o7 (by decide +kernel)
theorem dX6_isSign_13 : decode cX6_isSign 13 = .ok (.if_icmp .ne 23, 3) := dk_o160 (by decide +kernel)
theorem dX6_isSign_16 : decode cX6_isSign 16 = .ok (.aload_n 0, 1) := dk_o42 (by decide +kernel)
theorem dX6_isSign_17 : decode cX6_isSign 17 = .ok (.getfield 18, 3) := dk_o180 (by decide +kernel)
theorem dX6_isSign_20 : decode cX6_isSign 20 = .ok (.getfield 61, 3) := dk_o180 (by decide +kernel)
theorem dX6_isSign_23 : decode cX6_isSign 23 = .ok (.aload_n 0, 1) := dk_o42 (by decide +kernel)
theorem dX6_isSign_24 : decode cX6_isSign 24 = .ok (.getfield 34, 3) := dk_o180 (by decide +kernel)
theorem dX6_isSign_27 : decode cX6_isSign 27 = .ok (.iaload, 1) := dk_o46 (by decide +kernel)
theorem dX6_isSign_28 : decode cX6_isSign 28 = .ok (.iload_n 1, 1) := dk_o27 (by decide +kernel)
theorem dX6_isSign_29 : decode cX6_isSign 29 = .ok (.if_icmp .ne 7, 3) := dk_o160 (by decide +kernel)
theorem dX6_isSign_32 : decode cX6_isSign 32 = .ok (.iconst 1, 1) := dk_o4 (by decide +kernel)
theorem dX6_isSign_33 : decode cX6_isSign 33 = .ok (.goto 4, 3) := dk_o167 (by decide +kernel)
theorem dX6_isSign_36 : decode cX6_isSign 36 = .ok (.iconst 0, 1) := dk_o3 (by decide +kernel)
theorem dX6_isSign_37 : decode cX6_isSign 37 = .ok (.ireturn, 1) := dk_o172 (by decide +kernel)
theorem dX6_pass_0 : decode cX6_pass 0 = .ok (.aload_n 0, 1) := dk_o42 (by decide +kernel)
theorem dX6_pass_1 : decode cX6_pass 1 = .ok (.getfield 18, 3) := dk_o180 (by decide +kernel)
theorem dX6_pass_4 : decode cX6_pass 4 = .ok (.getfield 44, 3) := dk_o180 (by decide +kernel)
theorem dX6_pass_7 : decode cX6_pass 7 = .ok (.aload_n 0, 1) := dk_o42 (by decide +kernel)
theorem dX6_pass_8 : decode cX6_pass 8 = .ok (.getfield 34, 3) := dk_o180 (by decide +kernel)
theorem dX6_pass_11 : decode cX6_pass 11 = .ok (.iaload, 1) := dk_o46 (by decide +kernel)
theorem dX6_pass_12 : decode cX6_pass 12 = .ok (.ifCond .eq 13, 3) := dk_o153 (by decide +kernel)
theorem dX6_pass_15 : decode cX6_pass 15 = .ok (.aload_n 0, 1) := dk_o42 (by decide +kernel)
theorem dX6_pass_16 : decode cX6_pass 16 = .ok (.dup, 1) := dk_o89 (by decide +kernel)
theorem dX6_pass_17 : decode cX6_pass 17 = .ok (.getfield 34, 3) := dk_o180 (by decide +kernel)
theorem dX6_pass_20 : decode cX6_pass 20 = .ok (.iconst 1, 1) := dk_o4 (by decide +kernel)
theorem dX6_pass_21 : decode cX6_pass 21 = .ok (.iadd, 1) := dk_o96 (by decide +kernel)
theorem dX6_pass_22 : decode cX6_pass 22 = .ok (.putfield 34, 3) := dk_o181 (by decide +kernel)
theorem dX6_pass_25 : decode cX6_pass 25 = .ok (.return_, 1) := dk_o177 (by decide +kernel)
theorem dX6_fail_0 : decode cX6_fail 0 = .ok (.iload_n 1, 1) := dk_o27 (by decide +kernel)
theorem dX6_fail_1 : decode cX6_fail 1 = .ok (.iconst 1, 1) := dk_o4 (by decide +kernel)
theorem dX6_fail_2 : decode cX6_fail 2 = .ok (.if_icmp .ne 23, 3) := dk_o160 (by decide +kernel)
theorem dX6_fail_5 : decode cX6_fail 5 = .ok (.aload_n 0, 1) := dk_o42 (by decide +kernel)
theorem dX6_fail_6 : decode cX6_fail 6 = .ok (.getfield 18, 3) := dk_o180 (by decide +kernel)
theorem dX6_fail_9 : decode cX6_fail 9 = .ok (.getfield 44, 3) := dk_o180 (by decide +kernel)
theorem dX6_fail_12 : decode cX6_fail 12 = .ok (.aload_n 0, 1) := dk_o42 (by decide +kernel)
theorem dX6_fail_13 : decode cX6_fail 13 = .ok (.getfield 34, 3) := dk_o180 (by decide +kernel)
theorem dX6_fail_16 : decode cX6_fail 16 = .ok (.iaload, 1) := dk_o46 (by decide +kernel)
theorem dX6_fail_17 : decode cX6_fail 17 = .ok (.iconst 5, 1) := dk_o8 (by decide +kernel)
theorem dX6_fail_18 : decode cX6_fail 18 = .ok (.if_icmp .ne 7, 3) := dk_o160 (by decide +kernel)
theorem dX6_fail_21 : decode cX6_fail 21 = .ok (.iconst 1, 1) := dk_o4 (by decide +kernel)
theorem dX6_fail_22 : decode cX6_fail 22 = .ok (.goto 4, 3) := dk_o167 (by decide +kernel)
theorem dX6_fail_25 : decode cX6_fail 25 = .ok (.iconst 0, 1) := dk_o3 (by decide +kernel)
theorem dX6_fail_26 : decode cX6_fail 26 = .ok (.istore_n 2, 1) := dk_o61 (by decide +kernel)
theorem dX6_fail_27 : decode cX6_fail 27 = .ok (.aload_n 0, 1) := dk_o42 (by decide +kernel)
theorem dX6_fail_28 : decode cX6_fail 28 = .ok (.iload_n 1, 1) := dk_o27 (by decide +kernel)
theorem dX6_fail_29 : decode cX6_fail 29 = .ok (.putfield 31, 3) := dk_o181 (by decide +kernel)
theorem dX6_fail_32 : decode cX6_fail 32 = .ok (.aload_n 0, 1) := dk_o42 (by decide +kernel)
theorem dX6_fail_33 : decode cX6_fail 33 = .ok (.iload_n 2, 1) := dk_o28 (by decide +kernel)
theorem dX6_fail_34 : decode cX6_fail 34 = .ok (.ifCond .eq 18, 3) := dk_o153 (by decide +kernel)
theorem dX6_fail_37 : decode cX6_fail 37 = .ok (.aload_n 0, 1) := dk_o42 (by decide +kernel)
theorem dX6_fail_38 : decode cX6_fail 38 = .ok (.getfield 18, 3) := dk_o180 (by decide +kernel)
theorem dX6_fail_41 : decode cX6_fail 41 = .ok (.getfield 61, 3) := dk_o180 (by decide +kernel)
theorem dX6_fail_44 : decode cX6_fail 44 = .ok (.aload_n 0, 1) := dk_o42 (by decide +kernel)
theorem dX6_fail_45 : decode cX6_fail 45 = .ok (.getfield 34, 3) := dk_o180 (by decide +kernel)
theorem dX6_fail_48 : decode cX6_fail 48 = .ok (.iaload, 1) := dk_o46 (by decide +kernel)
theorem dX6_fail_49 : decode cX6_fail 49 = .ok (.goto 15, 3) := dk_o167 (by decide +kernel)
theorem dX6_fail_52 : decode cX6_fail 52 = .ok (.aload_n 0, 1) := dk_o42 (by decide +kernel)
theorem dX6_fail_53 : decode cX6_fail 53 = .ok (.getfield 18, 3) := dk_o180 (by decide +kernel)
theorem dX6_fail_56 : decode cX6_fail 56 = .ok (.getfield 241, 3) := dk_o180 (by decide +kernel)
theorem dX6_fail_59 : decode cX6_fail 59 = .ok (.aload_n 0, 1) := dk_o42 (by decide +kernel)
theorem dX6_fail_60 : decode cX6_fail 60 = .ok (.getfield 34, 3) := dk_o180 (by decide +kernel)
theorem dX6_fail_63 : decode cX6_fail 63 = .ok (.iaload, 1) := dk_o46 (by decide +kernel)
theorem dX6_fail_64 : decode cX6_fail 64 = .ok (.putfield 9, 3) := dk_o181 (by decide +kernel)
theorem dX6_fail_67 : decode cX6_fail 67 = .ok (.iconst 0, 1) := dk_o3 (by decide +kernel)
theorem dX6_fail_68 : decode cX6_fail 68 = .ok (.ireturn, 1) := dk_o172 (by decide +kernel)
theorem wB_13 : Cond.fieldLink RX6 18 "DarkMine$Reader" "words" "LDarkMine$Words;" ∈ dgB := List.mem_filter.mpr ⟨tbl_2 _ (List.mem_of_getElem? (i := 83) (by decide +kernel)), by decide +kernel⟩
theorem wB_14 : Cond.fieldLink RX6 44 "DarkMine$Words" "kinds" "[I" ∈ dgB := List.mem_filter.mpr ⟨tbl_2 _ (List.mem_of_getElem? (i := 61) (by decide +kernel)), by decide +kernel⟩
theorem wB_15 : Cond.fieldLink RX6 34 "DarkMine$Reader" "next" "I" ∈ dgB := List.mem_filter.mpr ⟨tbl_2 _ (List.mem_of_getElem? (i := 85) (by decide +kernel)), by decide +kernel⟩
theorem wB_16 : Cond.fieldLink RX6 61 "DarkMine$Words" "values" "[I" ∈ dgB := List.mem_filter.mpr ⟨tbl_2 _ (List.mem_of_getElem? (i := 65) (by decide +kernel)), by decide +kernel⟩
theorem wB_17 : Cond.fieldLink RX6 31 "DarkMine$Reader" "fault" "I" ∈ dgB := List.mem_filter.mpr ⟨tbl_2 _ (List.mem_of_getElem? (i := 79) (by decide +kernel)), by decide +kernel⟩
theorem wB_18 : Cond.fieldLink RX6 241 "DarkMine$Words" "starts" "[I" ∈ dgB := List.mem_filter.mpr ⟨tbl_2 _ (List.mem_of_getElem? (i := 63) (by decide +kernel)), by decide +kernel⟩
theorem wB_19 : Cond.fieldLink RX6 9 "DarkMine$Reader" "faultAt" "I" ∈ dgB := List.mem_filter.mpr ⟨tbl_2 _ (List.mem_of_getElem? (i := 81) (by decide +kernel)), by decide +kernel⟩
theorem wB_20 : Cond.code yX6_isOwn cX6_isOwn 2 (some .boolean) ∈ dgB := List.mem_filter.mpr ⟨tbl_3 _ (List.mem_of_getElem? (i := 205) rfl), rfl⟩
theorem wB_21 : Cond.methodLink RX6 58 yX6_isOwn ∈ dgB := List.mem_filter.mpr ⟨tbl_3 _ (List.mem_of_getElem? (i := 202) (by decide +kernel)), by decide +kernel⟩
theorem wB_22 : Cond.instanceMethod yX6_isOwn ∈ dgB := List.mem_filter.mpr ⟨tbl_3 _ (List.mem_of_getElem? (i := 204) (by decide +kernel)), by decide +kernel⟩
theorem wB_23 : Cond.selects RX6 yX6_isOwn yX6_isOwn ∈ dgB := List.mem_filter.mpr ⟨List.mem_of_getElem? (i := 8) (by decide +kernel), by decide +kernel⟩
theorem wB_24 : Cond.initialized RX6 ∈ dgB := List.mem_filter.mpr ⟨tbl_1 _ (List.mem_of_getElem? (i := 7) (by decide +kernel)), by decide +kernel⟩
theorem wB_25 : Cond.code yX6_pass cX6_pass 1 none ∈ dgB := List.mem_filter.mpr ⟨tbl_3 _ (List.mem_of_getElem? (i := 213) rfl), rfl⟩
theorem wB_26 : Cond.methodLink RX6 92 yX6_pass ∈ dgB := List.mem_filter.mpr ⟨tbl_3 _ (List.mem_of_getElem? (i := 210) (by decide +kernel)), by decide +kernel⟩
theorem wB_27 : Cond.instanceMethod yX6_pass ∈ dgB := List.mem_filter.mpr ⟨tbl_3 _ (List.mem_of_getElem? (i := 212) (by decide +kernel)), by decide +kernel⟩
theorem wB_28 : Cond.selects RX6 yX6_pass yX6_pass ∈ dgB := List.mem_filter.mpr ⟨List.mem_of_getElem? (i := 10) (by decide +kernel), by decide +kernel⟩
theorem wB_29 : Cond.code yX6_fail cX6_fail 3 (some .boolean) ∈ dgB := List.mem_filter.mpr ⟨tbl_3 _ (List.mem_of_getElem? (i := 201) rfl), rfl⟩
theorem wB_30 : Cond.methodLink RX6 55 yX6_fail ∈ dgB := List.mem_filter.mpr ⟨tbl_3 _ (List.mem_of_getElem? (i := 198) (by decide +kernel)), by decide +kernel⟩
theorem wB_31 : Cond.instanceMethod yX6_fail ∈ dgB := List.mem_filter.mpr ⟨tbl_3 _ (List.mem_of_getElem? (i := 200) (by decide +kernel)), by decide +kernel⟩
theorem wB_32 : Cond.selects RX6 yX6_fail yX6_fail ∈ dgB := List.mem_filter.mpr ⟨List.mem_of_getElem? (i := 7) (by decide +kernel), by decide +kernel⟩
theorem wB_33 : Cond.code yX6_isSign cX6_isSign 2 (some .boolean) ∈ dgB := List.mem_filter.mpr ⟨tbl_4 _ (List.mem_of_getElem? (i := 66) rfl), rfl⟩
theorem wB_34 : Cond.methodLink RX6 198 yX6_isSign ∈ dgB := List.mem_filter.mpr ⟨tbl_4 _ (List.mem_of_getElem? (i := 63) (by decide +kernel)), by decide +kernel⟩
theorem wB_35 : Cond.instanceMethod yX6_isSign ∈ dgB := List.mem_filter.mpr ⟨tbl_4 _ (List.mem_of_getElem? (i := 65) (by decide +kernel)), by decide +kernel⟩
theorem wB_36 : Cond.selects RX6 yX6_isSign yX6_isSign ∈ dgB := List.mem_filter.mpr ⟨List.mem_of_getElem? (i := 29) (by decide +kernel), by decide +kernel⟩
theorem wB_37 : Cond.fieldLink RX6 37 "DarkMine$Reader" "stepCount" "I" ∈ dgB := List.mem_filter.mpr ⟨tbl_2 _ (List.mem_of_getElem? (i := 88) (by decide +kernel)), by decide +kernel⟩
theorem wB_38 : Cond.fieldLink RX6 22 "DarkMine$Reader" "ground" "LDarkMine$Ground;" ∈ dgB := List.mem_filter.mpr ⟨tbl_2 _ (List.mem_of_getElem? (i := 84) (by decide +kernel)), by decide +kernel⟩
theorem wB_39 : Cond.fieldLink RX6 231 "DarkMine$Ground" "steps" "[I" ∈ dgB := List.mem_filter.mpr ⟨tbl_2 _ (List.mem_of_getElem? (i := 2) (by decide +kernel)), by decide +kernel⟩
theorem wB_40 : Cond.fieldLink RX6 170 "DarkMine$Reader" "rule" "I" ∈ dgB := List.mem_filter.mpr ⟨tbl_2 _ (List.mem_of_getElem? (i := 87) (by decide +kernel)), by decide +kernel⟩
set_option maxHeartbeats 8000000 in
set_option maxRecDepth 100000 in
theorem c_rd_isOwn (l : Launch) (g : Nat → ClassId) (D : va_G) (o : Nat) (S : dg_S) (a1 : Int32) (en : Int32) (kd : Nat → Int32) (vl : Nat → Int32) (n0 : Int32) (f_n0 : S.1 209 4 = .int n0) (b_n0 : 0 ≤ (n0).toInt ∧ (n0).toInt ≤ 1600) (ke : Int32) (f_ke : S.2.1 211 (en : Int32).toNatClampNeg = ke) (b_ke : 0 ≤ (ke).toInt ∧ (ke).toInt ≤ 0) (hne : (n0).toInt ≤ (en).toInt ∧ (en).toInt ≤ 1600 ∧ 0 ≤ (en).toInt) (hkd : ∀ k9 : Nat, k9 ≤ (en : Int32).toNatClampNeg → S.2.1 211 k9 = kd k9) (hvl : ∀ k9 : Nat, k9 ≤ (en : Int32).toNatClampNeg → S.2.1 213 k9 = vl k9) (I : CX o S) (sz : Nat) : Met l yX6_isOwn (bw yX6_isOwn cX6_isOwn 2 (some .boolean)) ({ frames := 1, cells := 0, slots := 0, locals := 32 } : Room) (dk_Pc g D (dg_w g shX o rfX S) sz [.ref (o + 209), .int a1]) (va_Qi (fun (r : Int32) S' => S' = S ∧ (0 ≤ (r).toInt ∧ (r).toInt ≤ 1) ∧ ((r).toInt = 1 ↔ g_o kd vl (a1).toInt (n0 : Int32).toNatClampNeg = true) ∧ True) (dg_B g D shX o rfX) (dg_A o shX.length sz)) 0 0 (dg_A o shX.length sz) := by
  refine dg_met (cc := cX6_isOwn) (maxL := 2) (ret := (some .boolean)) (dk_dq rfl) rfl (Nat.le_of_ble_eq_true rfl) ?_
  intro p e s m args below meth c A hAe harg hx hb hr hml hts hown hlocks hin hP K hS hA1 hA ST hsz ls hl
  rw [← hAe]
  have F : CallFix p m c cX6_isOwn 2 s args (bw yX6_isOwn cX6_isOwn 2 (some .boolean)) RX6 := ⟨hx, hb, hml, hown, hts⟩
  have hl : lv_has ls 2 [(0, .ref (o + 209)), (1, .int a1)] := hl
  have M_0 : dg_sm shX [] [] S S := dg_sm.rf
  refine lv_aload_n hx hb dX6_isOwn_0 rfl (lv_at hl 0 rfl) ?_
  refine dg_get (C := RX6) (T := TX6) (N := 8) hx hb hts (fun w h => bw_mem (wU_X6 w h)) hown K hP sX_209 rfl 2 (dk_dq rfl) (hts _ (bw_mem wB_13)) (fun _ h9 => h9) (v := .ref (o + 210)) (show S.1 209 2 = .ref (o + 210) from dg_I.rel (d := 1) I sX_209 (by decide +kernel)) dX6_isOwn_1 ?_
  refine dg_get (C := RX9) (T := TX9) (N := 5) hx hb hts (fun w h => bw_mem (wU_X9 w h)) hown K hP sX_210 rfl 0 (dk_dq rfl) (hts _ (bw_mem wB_14)) (fun _ h9 => h9) (v := .ref (o + 211)) (show S.1 210 0 = .ref (o + 211) from dg_I.rel (d := 1) I sX_210 (by decide +kernel)) dX6_isOwn_4 ?_
  refine lv_aload_n hx hb dX6_isOwn_7 rfl (lv_at hl 0 rfl) ?_
  refine dg_get (C := RX6) (T := TX6) (N := 8) hx hb hts (fun w h => bw_mem (wU_X6 w h)) hown K hP sX_209 rfl 4 (dk_dq rfl) (hts _ (bw_mem wB_15)) (fun _ h9 => h9) (v := .int n0) f_n0 dX6_isOwn_8 ?_
  have hin_1 : vp_in n0 1601 := (dk_inv2 (by omega))
  refine dg_iald hx hb K hP sX_211 hin_1 dX6_isOwn_11 (fun x_2 ex_2 => ?_)
  have hs_x_2 : (n0 : Int32).toInt = (en).toInt → (x_2).toInt = (ke).toInt := fun h => by have h9 := Int32.toInt_inj.mp h; rw [ex_2, h9]; exact congrArg Int32.toInt f_ke
  have kx_2 : (kd (n0 : Int32).toNatClampNeg).toInt = (x_2).toInt := by rw [ex_2, hkd _ (by unfold Int32.toNatClampNeg; omega)]
  refine lv_iconst (v := 1) hx hb dX6_isOwn_12 (by decide +kernel) ?_
  refine lv_icmp_ne (tgt := 36) hx hb dX6_isOwn_13 (dk_dq rfl) (fun c_3 => ?_) (fun c_3 => ?_)
  · have jc_3 := dk_neqc (k := 1) (by decide +kernel) c_3
    refine lv_iconst (v := 0) hx hb dX6_isOwn_36 (by decide +kernel) ?_
    have hz_4 : (0 : Int32).toInt = 0 := by decide +kernel
    have hz_5 : (0 : Int32).toInt = 0 := by decide +kernel
    refine W.widen (k := 0) (n := 0) (Nat.le_of_ble_eq_true rfl) (Nat.le_of_ble_eq_true rfl) ?_
    exact dg_iret hx hb hr hlocks (by decide +kernel) hP hS ⟨rfl, (by decide +kernel), (by rw [g_o_iff]; omega), trivial⟩ dX6_isOwn_37
  · as_aux_lemma =>
      have jc_3 := dk_eqc (k := 1) (by decide +kernel) c_3
      refine lv_aload_n hx hb dX6_isOwn_16 rfl (lv_at hl 0 rfl) ?_
      refine dg_get (C := RX6) (T := TX6) (N := 8) hx hb hts (fun w h => bw_mem (wU_X6 w h)) hown K hP sX_209 rfl 2 (dk_dq rfl) (hts _ (bw_mem wB_13)) (fun _ h9 => h9) (v := .ref (o + 210)) (show S.1 209 2 = .ref (o + 210) from dg_I.rel (d := 1) I sX_209 (by decide +kernel)) dX6_isOwn_17 ?_
      refine dg_get (C := RX9) (T := TX9) (N := 5) hx hb hts (fun w h => bw_mem (wU_X9 w h)) hown K hP sX_210 rfl 2 (dk_dq rfl) (hts _ (bw_mem wB_16)) (fun _ h9 => h9) (v := .ref (o + 213)) (show S.1 210 2 = .ref (o + 213) from dg_I.rel (d := 3) I sX_210 (by decide +kernel)) dX6_isOwn_20 ?_
      refine lv_aload_n hx hb dX6_isOwn_23 rfl (lv_at hl 0 rfl) ?_
      refine dg_get (C := RX6) (T := TX6) (N := 8) hx hb hts (fun w h => bw_mem (wU_X6 w h)) hown K hP sX_209 rfl 4 (dk_dq rfl) (hts _ (bw_mem wB_15)) (fun _ h9 => h9) (v := .int n0) f_n0 dX6_isOwn_24 ?_
      have hin_6 : vp_in n0 1601 := (dk_inv2 (by omega))
      refine dg_iald hx hb K hP sX_213 hin_6 dX6_isOwn_27 (fun x_7 ex_7 => ?_)
      have kx_7 : (vl (n0 : Int32).toNatClampNeg).toInt = (x_7).toInt := by rw [ex_7, hvl _ (by unfold Int32.toNatClampNeg; omega)]
      refine lv_iload_n hx hb dX6_isOwn_28 rfl (lv_at hl 1 rfl) ?_
      refine lv_icmp_ne (tgt := 36) hx hb dX6_isOwn_29 (dk_dq rfl) (fun c_8 => ?_) (fun c_8 => ?_)
      · have hf_8 := dk_full x_7
        have hf_9 := dk_full a1
        have jc_8 := dk_neqc (k := (a1).toInt) rfl c_8
        refine lv_iconst (v := 0) hx hb dX6_isOwn_36 (by decide +kernel) ?_
        have hz_11 : (0 : Int32).toInt = 0 := by decide +kernel
        have hz_12 : (0 : Int32).toInt = 0 := by decide +kernel
        refine W.widen (k := 0) (n := 0) (Nat.le_of_ble_eq_true rfl) (Nat.le_of_ble_eq_true rfl) ?_
        exact dg_iret hx hb hr hlocks (by decide +kernel) hP hS ⟨rfl, (by decide +kernel), (by rw [g_o_iff]; omega), trivial⟩ dX6_isOwn_37
      · have hf_12 := dk_full x_7
        have hf_13 := dk_full a1
        have jc_8 := dk_eqc (k := (a1).toInt) rfl c_8
        refine lv_iconst (v := 1) hx hb dX6_isOwn_32 (by decide +kernel) ?_
        refine lv_goto (tgt := 37) hx hb dX6_isOwn_33 (dk_dq rfl) ?_
        have hz_15 : (1 : Int32).toInt = 1 := by decide +kernel
        have hz_16 : (1 : Int32).toInt = 1 := by decide +kernel
        refine W.widen (k := 0) (n := 0) (Nat.le_of_ble_eq_true rfl) (Nat.le_of_ble_eq_true rfl) ?_
        exact dg_iret hx hb hr hlocks (by decide +kernel) hP hS ⟨rfl, (by decide +kernel), (by rw [g_o_iff]; omega), trivial⟩ dX6_isOwn_37
set_option maxHeartbeats 8000000 in
set_option maxRecDepth 100000 in
theorem c_rd_isSign (l : Launch) (g : Nat → ClassId) (D : va_G) (o : Nat) (S : dg_S) (a1 : Int32) (en : Int32) (kd : Nat → Int32) (vl : Nat → Int32) (n0 : Int32) (f_n0 : S.1 209 4 = .int n0) (b_n0 : 0 ≤ (n0).toInt ∧ (n0).toInt ≤ 1600) (ke : Int32) (f_ke : S.2.1 211 (en : Int32).toNatClampNeg = ke) (b_ke : 0 ≤ (ke).toInt ∧ (ke).toInt ≤ 0) (hne : (n0).toInt ≤ (en).toInt ∧ (en).toInt ≤ 1600 ∧ 0 ≤ (en).toInt) (hkd : ∀ k9 : Nat, k9 ≤ (en : Int32).toNatClampNeg → S.2.1 211 k9 = kd k9) (hvl : ∀ k9 : Nat, k9 ≤ (en : Int32).toNatClampNeg → S.2.1 213 k9 = vl k9) (I : CX o S) (sz : Nat) : Met l yX6_isSign (bw yX6_isSign cX6_isSign 2 (some .boolean)) ({ frames := 1, cells := 0, slots := 0, locals := 32 } : Room) (dk_Pc g D (dg_w g shX o rfX S) sz [.ref (o + 209), .int a1]) (va_Qi (fun (r : Int32) S' => S' = S ∧ (0 ≤ (r).toInt ∧ (r).toInt ≤ 1) ∧ ((r).toInt = 1 ↔ g_s kd vl (a1).toInt (n0 : Int32).toNatClampNeg = true) ∧ True) (dg_B g D shX o rfX) (dg_A o shX.length sz)) 0 0 (dg_A o shX.length sz) := by
  refine dg_met (cc := cX6_isSign) (maxL := 2) (ret := (some .boolean)) (dk_dq rfl) rfl (Nat.le_of_ble_eq_true rfl) ?_
  intro p e s m args below meth c A hAe harg hx hb hr hml hts hown hlocks hin hP K hS hA1 hA ST hsz ls hl
  rw [← hAe]
  have F : CallFix p m c cX6_isSign 2 s args (bw yX6_isSign cX6_isSign 2 (some .boolean)) RX6 := ⟨hx, hb, hml, hown, hts⟩
  have hl : lv_has ls 2 [(0, .ref (o + 209)), (1, .int a1)] := hl
  have M_0 : dg_sm shX [] [] S S := dg_sm.rf
  refine lv_aload_n hx hb dX6_isSign_0 rfl (lv_at hl 0 rfl) ?_
  refine dg_get (C := RX6) (T := TX6) (N := 8) hx hb hts (fun w h => bw_mem (wU_X6 w h)) hown K hP sX_209 rfl 2 (dk_dq rfl) (hts _ (bw_mem wB_13)) (fun _ h9 => h9) (v := .ref (o + 210)) (show S.1 209 2 = .ref (o + 210) from dg_I.rel (d := 1) I sX_209 (by decide +kernel)) dX6_isSign_1 ?_
  refine dg_get (C := RX9) (T := TX9) (N := 5) hx hb hts (fun w h => bw_mem (wU_X9 w h)) hown K hP sX_210 rfl 0 (dk_dq rfl) (hts _ (bw_mem wB_14)) (fun _ h9 => h9) (v := .ref (o + 211)) (show S.1 210 0 = .ref (o + 211) from dg_I.rel (d := 1) I sX_210 (by decide +kernel)) dX6_isSign_4 ?_
  refine lv_aload_n hx hb dX6_isSign_7 rfl (lv_at hl 0 rfl) ?_
  refine dg_get (C := RX6) (T := TX6) (N := 8) hx hb hts (fun w h => bw_mem (wU_X6 w h)) hown K hP sX_209 rfl 4 (dk_dq rfl) (hts _ (bw_mem wB_15)) (fun _ h9 => h9) (v := .int n0) f_n0 dX6_isSign_8 ?_
  have hin_1 : vp_in n0 1601 := (dk_inv2 (by omega))
  refine dg_iald hx hb K hP sX_211 hin_1 dX6_isSign_11 (fun x_2 ex_2 => ?_)
  have hs_x_2 : (n0 : Int32).toInt = (en).toInt → (x_2).toInt = (ke).toInt := fun h => by have h9 := Int32.toInt_inj.mp h; rw [ex_2, h9]; exact congrArg Int32.toInt f_ke
  have kx_2 : (kd (n0 : Int32).toNatClampNeg).toInt = (x_2).toInt := by rw [ex_2, hkd _ (by unfold Int32.toNatClampNeg; omega)]
  refine lv_iconst (v := 4) hx hb dX6_isSign_12 (by decide +kernel) ?_
  refine lv_icmp_ne (tgt := 36) hx hb dX6_isSign_13 (dk_dq rfl) (fun c_3 => ?_) (fun c_3 => ?_)
  · have jc_3 := dk_neqc (k := 4) (by decide +kernel) c_3
    refine lv_iconst (v := 0) hx hb dX6_isSign_36 (by decide +kernel) ?_
    have hz_4 : (0 : Int32).toInt = 0 := by decide +kernel
    have hz_5 : (0 : Int32).toInt = 0 := by decide +kernel
    refine W.widen (k := 0) (n := 0) (Nat.le_of_ble_eq_true rfl) (Nat.le_of_ble_eq_true rfl) ?_
    exact dg_iret hx hb hr hlocks (by decide +kernel) hP hS ⟨rfl, (by decide +kernel), (by rw [g_s_iff]; omega), trivial⟩ dX6_isSign_37
  · as_aux_lemma =>
      have jc_3 := dk_eqc (k := 4) (by decide +kernel) c_3
      refine lv_aload_n hx hb dX6_isSign_16 rfl (lv_at hl 0 rfl) ?_
      refine dg_get (C := RX6) (T := TX6) (N := 8) hx hb hts (fun w h => bw_mem (wU_X6 w h)) hown K hP sX_209 rfl 2 (dk_dq rfl) (hts _ (bw_mem wB_13)) (fun _ h9 => h9) (v := .ref (o + 210)) (show S.1 209 2 = .ref (o + 210) from dg_I.rel (d := 1) I sX_209 (by decide +kernel)) dX6_isSign_17 ?_
      refine dg_get (C := RX9) (T := TX9) (N := 5) hx hb hts (fun w h => bw_mem (wU_X9 w h)) hown K hP sX_210 rfl 2 (dk_dq rfl) (hts _ (bw_mem wB_16)) (fun _ h9 => h9) (v := .ref (o + 213)) (show S.1 210 2 = .ref (o + 213) from dg_I.rel (d := 3) I sX_210 (by decide +kernel)) dX6_isSign_20 ?_
      refine lv_aload_n hx hb dX6_isSign_23 rfl (lv_at hl 0 rfl) ?_
      refine dg_get (C := RX6) (T := TX6) (N := 8) hx hb hts (fun w h => bw_mem (wU_X6 w h)) hown K hP sX_209 rfl 4 (dk_dq rfl) (hts _ (bw_mem wB_15)) (fun _ h9 => h9) (v := .int n0) f_n0 dX6_isSign_24 ?_
      have hin_6 : vp_in n0 1601 := (dk_inv2 (by omega))
      refine dg_iald hx hb K hP sX_213 hin_6 dX6_isSign_27 (fun x_7 ex_7 => ?_)
      have kx_7 : (vl (n0 : Int32).toNatClampNeg).toInt = (x_7).toInt := by rw [ex_7, hvl _ (by unfold Int32.toNatClampNeg; omega)]
      refine lv_iload_n hx hb dX6_isSign_28 rfl (lv_at hl 1 rfl) ?_
      refine lv_icmp_ne (tgt := 36) hx hb dX6_isSign_29 (dk_dq rfl) (fun c_8 => ?_) (fun c_8 => ?_)
      · have hf_8 := dk_full x_7
        have hf_9 := dk_full a1
        have jc_8 := dk_neqc (k := (a1).toInt) rfl c_8
        refine lv_iconst (v := 0) hx hb dX6_isSign_36 (by decide +kernel) ?_
        have hz_11 : (0 : Int32).toInt = 0 := by decide +kernel
        have hz_12 : (0 : Int32).toInt = 0 := by decide +kernel
        refine W.widen (k := 0) (n := 0) (Nat.le_of_ble_eq_true rfl) (Nat.le_of_ble_eq_true rfl) ?_
        exact dg_iret hx hb hr hlocks (by decide +kernel) hP hS ⟨rfl, (by decide +kernel), (by rw [g_s_iff]; omega), trivial⟩ dX6_isSign_37
      · have hf_12 := dk_full x_7
        have hf_13 := dk_full a1
        have jc_8 := dk_eqc (k := (a1).toInt) rfl c_8
        refine lv_iconst (v := 1) hx hb dX6_isSign_32 (by decide +kernel) ?_
        refine lv_goto (tgt := 37) hx hb dX6_isSign_33 (dk_dq rfl) ?_
        have hz_15 : (1 : Int32).toInt = 1 := by decide +kernel
        have hz_16 : (1 : Int32).toInt = 1 := by decide +kernel
        refine W.widen (k := 0) (n := 0) (Nat.le_of_ble_eq_true rfl) (Nat.le_of_ble_eq_true rfl) ?_
        exact dg_iret hx hb hr hlocks (by decide +kernel) hP hS ⟨rfl, (by decide +kernel), (by rw [g_s_iff]; omega), trivial⟩ dX6_isSign_37
set_option maxHeartbeats 8000000 in
set_option maxRecDepth 100000 in
theorem c_rd_pass (l : Launch) (g : Nat → ClassId) (D : va_G) (o : Nat) (S : dg_S) (en : Int32) (kd : Nat → Int32) (vl : Nat → Int32) (n0 : Int32) (f_n0 : S.1 209 4 = .int n0) (b_n0 : 0 ≤ (n0).toInt ∧ (n0).toInt ≤ 1600) (ke : Int32) (f_ke : S.2.1 211 (en : Int32).toNatClampNeg = ke) (b_ke : 0 ≤ (ke).toInt ∧ (ke).toInt ≤ 0) (hne : (n0).toInt ≤ (en).toInt ∧ (en).toInt ≤ 1600 ∧ 0 ≤ (en).toInt) (hkd : ∀ k9 : Nat, k9 ≤ (en : Int32).toNatClampNeg → S.2.1 211 k9 = kd k9) (hvl : ∀ k9 : Nat, k9 ≤ (en : Int32).toNatClampNeg → S.2.1 213 k9 = vl k9) (I : CX o S) (sz : Nat) : Met l yX6_pass (bw yX6_pass cX6_pass 1 none) ({ frames := 1, cells := 0, slots := 0, locals := 32 } : Room) (dk_Pc g D (dg_w g shX o rfX S) sz [.ref (o + 209)]) (va_Qv (fun S' => CX o S' ∧ dg_sm shX [(31, 4)] [] S S' ∧ (∃ y9 : Int32, S'.1 209 4 = .int y9 ∧ ((y9).toInt ≤ (en).toInt ∧ ((kd (n0 : Int32).toNatClampNeg).toInt ≠ 0 → (y9 : Int32).toNatClampNeg = (n0 : Int32).toNatClampNeg + 1))) ∧ True) (dg_B g D shX o rfX) (dg_A o shX.length sz)) 0 0 (dg_A o shX.length sz) := by
  refine dg_met (cc := cX6_pass) (maxL := 1) (ret := none) (dk_dq rfl) rfl (Nat.le_of_ble_eq_true rfl) ?_
  intro p e s m args below meth c A hAe harg hx hb hr hml hts hown hlocks hin hP K hS hA1 hA ST hsz ls hl
  rw [← hAe]
  have F : CallFix p m c cX6_pass 1 s args (bw yX6_pass cX6_pass 1 none) RX6 := ⟨hx, hb, hml, hown, hts⟩
  have hl : lv_has ls 1 [(0, .ref (o + 209))] := hl
  have M_0 : dg_sm shX [(31, 4)] [] S S := dg_sm.rf
  refine lv_aload_n hx hb dX6_pass_0 rfl (lv_at hl 0 rfl) ?_
  refine dg_get (C := RX6) (T := TX6) (N := 8) hx hb hts (fun w h => bw_mem (wU_X6 w h)) hown K hP sX_209 rfl 2 (dk_dq rfl) (hts _ (bw_mem wB_13)) (fun _ h9 => h9) (v := .ref (o + 210)) (show S.1 209 2 = .ref (o + 210) from dg_I.rel (d := 1) I sX_209 (by decide +kernel)) dX6_pass_1 ?_
  refine dg_get (C := RX9) (T := TX9) (N := 5) hx hb hts (fun w h => bw_mem (wU_X9 w h)) hown K hP sX_210 rfl 0 (dk_dq rfl) (hts _ (bw_mem wB_14)) (fun _ h9 => h9) (v := .ref (o + 211)) (show S.1 210 0 = .ref (o + 211) from dg_I.rel (d := 1) I sX_210 (by decide +kernel)) dX6_pass_4 ?_
  refine lv_aload_n hx hb dX6_pass_7 rfl (lv_at hl 0 rfl) ?_
  refine dg_get (C := RX6) (T := TX6) (N := 8) hx hb hts (fun w h => bw_mem (wU_X6 w h)) hown K hP sX_209 rfl 4 (dk_dq rfl) (hts _ (bw_mem wB_15)) (fun _ h9 => h9) (v := .int n0) f_n0 dX6_pass_8 ?_
  have hin_1 : vp_in n0 1601 := (dk_inv2 (by omega))
  refine dg_iald hx hb K hP sX_211 hin_1 dX6_pass_11 (fun x_2 ex_2 => ?_)
  have hs_x_2 : (n0 : Int32).toInt = (en).toInt → (x_2).toInt = (ke).toInt := fun h => by have h9 := Int32.toInt_inj.mp h; rw [ex_2, h9]; exact congrArg Int32.toInt f_ke
  have kx_2 : (kd (n0 : Int32).toNatClampNeg).toInt = (x_2).toInt := by rw [ex_2, hkd _ (by unfold Int32.toNatClampNeg; omega)]
  refine lv_if_eq (tgt := 25) hx hb dX6_pass_12 (dk_dq rfl) (fun c_3 => ?_) (fun c_3 => ?_)
  · have jc_3 := dk_eqc (k := 0) (by decide +kernel) c_3
    refine W.widen (k := 0) (n := 0) (Nat.le_of_ble_eq_true rfl) (Nat.le_of_ble_eq_true rfl) ?_
    exact dg_vret hx hb hr hlocks hP hS ⟨I, M_0, ⟨n0, f_n0, ⟨by omega, fun q9 => by first | exact absurd q9 (by omega) | omega | (unfold Int32.toNatClampNeg; omega)⟩⟩, trivial⟩ dX6_pass_25
  · have jc_3 := dk_neqc (k := 0) (by decide +kernel) c_3
    refine lv_aload_n hx hb dX6_pass_15 rfl (lv_at hl 0 rfl) ?_
    refine lv_dup hx hb dX6_pass_16 rfl ?_
    refine dg_get (C := RX6) (T := TX6) (N := 8) hx hb hts (fun w h => bw_mem (wU_X6 w h)) hown K hP sX_209 rfl 4 (dk_dq rfl) (hts _ (bw_mem wB_15)) (fun _ h9 => h9) (v := .int n0) f_n0 dX6_pass_17 ?_
    refine lv_iconst (v := 1) hx hb dX6_pass_20 (by decide +kernel) ?_
    refine lv_iadd hx hb dX6_pass_21 ?_
    refine lv_topi (fun x_4 ex_4 => ?_)
    have jx_4 : (x_4).toInt = (n0).toInt + 1 := by rw [ex_4]; exact dk_addT2 rfl (by decide +kernel) (by omega)
    refine dg_put (ci := 6) (v := .int x_4) (ty := tyX6 4) (C := RX6) (T := TX6) (N := 8) hx hb hts (fun w h => bw_mem (wU_X6 w h)) tyX6 tyX6_ok nmX6 hown K hP hS hA1 sX_209 rfl 4 (dk_dq rfl) (hts _ (bw_mem wB_15)) (fun _ h9 => h9) rfl (by decide +kernel) rfl rfl dX6_pass_22 (fun S_5 e_5 H locs hP hS => ?_)
    have I_5 := dg_I.uFi (lo := 0) (hi := 1600) I e_5 sX_209 (by decide +kernel) (show 0 ≤ (x_4).toInt ∧ (x_4).toInt ≤ 1600 from (by omega))
    have M_5 := dg_sm.uF M_0 e_5 sX_209 (dk_dq rfl)
    refine W.widen (k := 0) (n := 0) (Nat.le_of_ble_eq_true rfl) (Nat.le_of_ble_eq_true rfl) ?_
    exact dg_vret hx hb hr hlocks hP hS ⟨I_5, M_5, ⟨x_4, (dg_uF_at e_5), ⟨by omega, fun q9 => by first | exact absurd q9 (by omega) | omega | (unfold Int32.toNatClampNeg; omega)⟩⟩, trivial⟩ dX6_pass_25
set_option maxHeartbeats 8000000 in
set_option maxRecDepth 100000 in
theorem c_rd_fail (l : Launch) (g : Nat → ClassId) (D : va_G) (o : Nat) (S : dg_S) (a1 : Int32) (en : Int32) (n0 : Int32) (f_n0 : S.1 209 4 = .int n0) (b_n0 : 0 ≤ (n0).toInt ∧ (n0).toInt ≤ 1600) (ke : Int32) (f_ke : S.2.1 211 (en : Int32).toNatClampNeg = ke) (b_ke : 0 ≤ (ke).toInt ∧ (ke).toInt ≤ 0) (hne : (n0).toInt ≤ (en).toInt ∧ (en).toInt ≤ 1600 ∧ 0 ≤ (en).toInt) (I : CX o S) (sz : Nat) : Met l yX6_fail (bw yX6_fail cX6_fail 3 (some .boolean)) ({ frames := 1, cells := 0, slots := 0, locals := 32 } : Room) (dk_Pc g D (dg_w g shX o rfX S) sz [.ref (o + 209), .int a1]) (va_Qi (fun (r : Int32) S' => CX o S' ∧ dg_sm shX [(31, 0), (31, 1)] [] S S' ∧ (0 ≤ (r).toInt ∧ (r).toInt ≤ 0) ∧ True) (dg_B g D shX o rfX) (dg_A o shX.length sz)) 0 0 (dg_A o shX.length sz) := by
  refine dg_met (cc := cX6_fail) (maxL := 3) (ret := (some .boolean)) (dk_dq rfl) rfl (Nat.le_of_ble_eq_true rfl) ?_
  intro p e s m args below meth c A hAe harg hx hb hr hml hts hown hlocks hin hP K hS hA1 hA ST hsz ls hl
  rw [← hAe]
  have F : CallFix p m c cX6_fail 3 s args (bw yX6_fail cX6_fail 3 (some .boolean)) RX6 := ⟨hx, hb, hml, hown, hts⟩
  have hl : lv_has ls 3 [(0, .ref (o + 209)), (1, .int a1)] := hl
  have M_0 : dg_sm shX [(31, 0), (31, 1)] [] S S := dg_sm.rf
  refine lv_iload_n hx hb dX6_fail_0 rfl (lv_at hl 1 rfl) ?_
  refine lv_iconst (v := 1) hx hb dX6_fail_1 (by decide +kernel) ?_
  have J_16 : ∀ (x_5 : Int32), (0 ≤ (x_5).toInt ∧ (x_5).toInt ≤ 1) → ∀ (H : Heap) (locs : List Loc), va_P D vwCl (dg_w g shX o rfX S) H → va_S A s.heap H locs → ∀ ls : Array Slot, lv_has ls 3 [(0, .ref (o + 209)), (1, .int a1)] → W p l e ({ frames := 1, cells := 0, slots := 0, locals := 32 } : Room) s m args below meth c H locs 0 0 (MQ below (va_Qi (fun (r : Int32) S' => CX o S' ∧ dg_sm shX [(31, 0), (31, 1)] [] S S' ∧ (0 ≤ (r).toInt ∧ (r).toInt ≤ 0) ∧ True) (dg_B g D shX o rfX) A) args s 0 0 A) (F0 m 26 ls [.int x_5]) := by
    as_aux_lemma =>
      intro x_5 b_x_5 H locs hP hS ls hl
      refine lv_istore_n (lv' := [(2, .int x_5), (0, .ref (o + 209)), (1, .int a1)]) hx hb dX6_fail_26 rfl hl (dk_dq rfl) rfl (fun ls hl => ?_)
      refine lv_aload_n hx hb dX6_fail_27 rfl (lv_at hl 1 rfl) ?_
      refine lv_iload_n hx hb dX6_fail_28 rfl (lv_at hl 2 rfl) ?_
      refine dg_put (ci := 6) (v := .int a1) (ty := tyX6 0) (C := RX6) (T := TX6) (N := 8) hx hb hts (fun w h => bw_mem (wU_X6 w h)) tyX6 tyX6_ok nmX6 hown K hP hS hA1 sX_209 rfl 0 (dk_dq rfl) (hts _ (bw_mem wB_17)) (fun _ h9 => h9) rfl (by decide +kernel) rfl rfl dX6_fail_29 (fun S_17 e_17 H locs hP hS => ?_)
      have I_17 := dg_I.uFi (lo := (-2147483648)) (hi := 2147483647) I e_17 sX_209 (by decide +kernel) (show (-2147483648) ≤ (a1).toInt ∧ (a1).toInt ≤ 2147483647 from (dk_full _))
      have M_17 := dg_sm.uF M_0 e_17 sX_209 (dk_dq rfl)
      refine lv_aload_n hx hb dX6_fail_32 rfl (lv_at hl 1 rfl) ?_
      refine lv_iload_n hx hb dX6_fail_33 rfl (lv_at hl 0 rfl) ?_
      refine lv_if_eq (tgt := 52) hx hb dX6_fail_34 (dk_dq rfl) (fun c_18 => ?_) (fun c_18 => ?_)
      · have jc_18 := dk_eqc (k := 0) (by decide +kernel) c_18
        refine lv_aload_n hx hb dX6_fail_52 rfl (lv_at hl 1 rfl) ?_
        refine dg_get (C := RX6) (T := TX6) (N := 8) hx hb hts (fun w h => bw_mem (wU_X6 w h)) hown K hP sX_209 rfl 2 (dk_dq rfl) (hts _ (bw_mem wB_13)) (fun _ h9 => h9) (v := .ref (o + 210)) (show S_17.1 209 2 = .ref (o + 210) from dg_I.rel (d := 1) I_17 sX_209 (by decide +kernel)) dX6_fail_53 ?_
        refine dg_get (C := RX9) (T := TX9) (N := 5) hx hb hts (fun w h => bw_mem (wU_X9 w h)) hown K hP sX_210 rfl 1 (dk_dq rfl) (hts _ (bw_mem wB_18)) (fun _ h9 => h9) (v := .ref (o + 212)) (show S_17.1 210 1 = .ref (o + 212) from dg_I.rel (d := 2) I_17 sX_210 (by decide +kernel)) dX6_fail_56 ?_
        refine lv_aload_n hx hb dX6_fail_59 rfl (lv_at hl 1 rfl) ?_
        refine dg_get (C := RX6) (T := TX6) (N := 8) hx hb hts (fun w h => bw_mem (wU_X6 w h)) hown K hP sX_209 rfl 4 (dk_dq rfl) (hts _ (bw_mem wB_15)) (fun _ h9 => h9) (v := .int n0) ((dg_uF_ne e_17 (fun z => absurd z.2 (dk_dq rfl))).trans f_n0) dX6_fail_60 ?_
        have hin_19 : vp_in n0 1601 := (dk_inv2 (by omega))
        refine dg_iald hx hb K hP sX_212 hin_19 dX6_fail_63 (fun x_20 ex_20 => ?_)
        refine dg_put (ci := 6) (v := .int x_20) (ty := tyX6 1) (C := RX6) (T := TX6) (N := 8) hx hb hts (fun w h => bw_mem (wU_X6 w h)) tyX6 tyX6_ok nmX6 hown K hP hS hA1 sX_209 rfl 1 (dk_dq rfl) (hts _ (bw_mem wB_19)) (fun _ h9 => h9) rfl (by decide +kernel) rfl rfl dX6_fail_64 (fun S_21 e_21 H locs hP hS => ?_)
        have I_21 := dg_I.uFi (lo := (-2147483648)) (hi := 2147483647) I_17 e_21 sX_209 (by decide +kernel) (show (-2147483648) ≤ (x_20).toInt ∧ (x_20).toInt ≤ 2147483647 from (dk_full _))
        have M_21 := dg_sm.uF M_17 e_21 sX_209 (dk_dq rfl)
        refine lv_iconst (v := 0) hx hb dX6_fail_67 (by decide +kernel) ?_
        have hz_22 : (0 : Int32).toInt = 0 := by decide +kernel
        refine W.widen (k := 0) (n := 0) (Nat.le_of_ble_eq_true rfl) (Nat.le_of_ble_eq_true rfl) ?_
        exact dg_iret hx hb hr hlocks (by decide +kernel) hP hS ⟨I_21, M_21, (by decide +kernel), trivial⟩ dX6_fail_68
      · as_aux_lemma =>
          have jc_18 := dk_neqc (k := 0) (by decide +kernel) c_18
          refine lv_aload_n hx hb dX6_fail_37 rfl (lv_at hl 1 rfl) ?_
          refine dg_get (C := RX6) (T := TX6) (N := 8) hx hb hts (fun w h => bw_mem (wU_X6 w h)) hown K hP sX_209 rfl 2 (dk_dq rfl) (hts _ (bw_mem wB_13)) (fun _ h9 => h9) (v := .ref (o + 210)) (show S_17.1 209 2 = .ref (o + 210) from dg_I.rel (d := 1) I_17 sX_209 (by decide +kernel)) dX6_fail_38 ?_
          refine dg_get (C := RX9) (T := TX9) (N := 5) hx hb hts (fun w h => bw_mem (wU_X9 w h)) hown K hP sX_210 rfl 2 (dk_dq rfl) (hts _ (bw_mem wB_16)) (fun _ h9 => h9) (v := .ref (o + 213)) (show S_17.1 210 2 = .ref (o + 213) from dg_I.rel (d := 3) I_17 sX_210 (by decide +kernel)) dX6_fail_41 ?_
          refine lv_aload_n hx hb dX6_fail_44 rfl (lv_at hl 1 rfl) ?_
          refine dg_get (C := RX6) (T := TX6) (N := 8) hx hb hts (fun w h => bw_mem (wU_X6 w h)) hown K hP sX_209 rfl 4 (dk_dq rfl) (hts _ (bw_mem wB_15)) (fun _ h9 => h9) (v := .int n0) ((dg_uF_ne e_17 (fun z => absurd z.2 (dk_dq rfl))).trans f_n0) dX6_fail_45 ?_
          have hin_23 : vp_in n0 1601 := (dk_inv2 (by omega))
          refine dg_iald hx hb K hP sX_213 hin_23 dX6_fail_48 (fun x_24 ex_24 => ?_)
          refine lv_goto (tgt := 64) hx hb dX6_fail_49 (dk_dq rfl) ?_
          refine dg_put (ci := 6) (v := .int x_24) (ty := tyX6 1) (C := RX6) (T := TX6) (N := 8) hx hb hts (fun w h => bw_mem (wU_X6 w h)) tyX6 tyX6_ok nmX6 hown K hP hS hA1 sX_209 rfl 1 (dk_dq rfl) (hts _ (bw_mem wB_19)) (fun _ h9 => h9) rfl (by decide +kernel) rfl rfl dX6_fail_64 (fun S_25 e_25 H locs hP hS => ?_)
          have I_25 := dg_I.uFi (lo := (-2147483648)) (hi := 2147483647) I_17 e_25 sX_209 (by decide +kernel) (show (-2147483648) ≤ (x_24).toInt ∧ (x_24).toInt ≤ 2147483647 from (dk_full _))
          have M_25 := dg_sm.uF M_17 e_25 sX_209 (dk_dq rfl)
          refine lv_iconst (v := 0) hx hb dX6_fail_67 (by decide +kernel) ?_
          have hz_26 : (0 : Int32).toInt = 0 := by decide +kernel
          refine W.widen (k := 0) (n := 0) (Nat.le_of_ble_eq_true rfl) (Nat.le_of_ble_eq_true rfl) ?_
          exact dg_iret hx hb hr hlocks (by decide +kernel) hP hS ⟨I_25, M_25, (by decide +kernel), trivial⟩ dX6_fail_68
  have J_27 : ∀ (H : Heap) (locs : List Loc), va_P D vwCl (dg_w g shX o rfX S) H → va_S A s.heap H locs → ∀ ls : Array Slot, lv_has ls 3 [(0, .ref (o + 209)), (1, .int a1)] → W p l e ({ frames := 1, cells := 0, slots := 0, locals := 32 } : Room) s m args below meth c H locs 0 0 (MQ below (va_Qi (fun (r : Int32) S' => CX o S' ∧ dg_sm shX [(31, 0), (31, 1)] [] S S' ∧ (0 ≤ (r).toInt ∧ (r).toInt ≤ 0) ∧ True) (dg_B g D shX o rfX) A) args s 0 0 A) (F0 m 25 ls []) := by
    intro H locs hP hS ls hl
    refine lv_iconst (v := 0) hx hb dX6_fail_25 (by decide +kernel) ?_
    have hz_28 : (0 : Int32).toInt = 0 := by decide +kernel
    exact J_16 0 (by decide +kernel) _ _ hP hS _ (lv_sub hl [0, 1] rfl)
  refine lv_icmp_ne (tgt := 25) hx hb dX6_fail_2 (dk_dq rfl) (fun c_29 => ?_) (fun c_29 => ?_)
  · have jc_29 := dk_neqc (k := 1) (by decide +kernel) c_29
    exact J_27   _ _ hP hS _ (lv_sub hl [0, 1] rfl)
  · as_aux_lemma =>
      have jc_29 := dk_eqc (k := 1) (by decide +kernel) c_29
      refine lv_aload_n hx hb dX6_fail_5 rfl (lv_at hl 0 rfl) ?_
      refine dg_get (C := RX6) (T := TX6) (N := 8) hx hb hts (fun w h => bw_mem (wU_X6 w h)) hown K hP sX_209 rfl 2 (dk_dq rfl) (hts _ (bw_mem wB_13)) (fun _ h9 => h9) (v := .ref (o + 210)) (show S.1 209 2 = .ref (o + 210) from dg_I.rel (d := 1) I sX_209 (by decide +kernel)) dX6_fail_6 ?_
      refine dg_get (C := RX9) (T := TX9) (N := 5) hx hb hts (fun w h => bw_mem (wU_X9 w h)) hown K hP sX_210 rfl 0 (dk_dq rfl) (hts _ (bw_mem wB_14)) (fun _ h9 => h9) (v := .ref (o + 211)) (show S.1 210 0 = .ref (o + 211) from dg_I.rel (d := 1) I sX_210 (by decide +kernel)) dX6_fail_9 ?_
      refine lv_aload_n hx hb dX6_fail_12 rfl (lv_at hl 0 rfl) ?_
      refine dg_get (C := RX6) (T := TX6) (N := 8) hx hb hts (fun w h => bw_mem (wU_X6 w h)) hown K hP sX_209 rfl 4 (dk_dq rfl) (hts _ (bw_mem wB_15)) (fun _ h9 => h9) (v := .int n0) f_n0 dX6_fail_13 ?_
      have hin_30 : vp_in n0 1601 := (dk_inv2 (by omega))
      refine dg_iald hx hb K hP sX_211 hin_30 dX6_fail_16 (fun x_31 ex_31 => ?_)
      have hs_x_31 : (n0 : Int32).toInt = (en).toInt → (x_31).toInt = (ke).toInt := fun h => by have h9 := Int32.toInt_inj.mp h; rw [ex_31, h9]; exact congrArg Int32.toInt f_ke
      refine lv_iconst (v := 5) hx hb dX6_fail_17 (by decide +kernel) ?_
      refine lv_icmp_ne (tgt := 25) hx hb dX6_fail_18 (dk_dq rfl) (fun c_32 => ?_) (fun c_32 => ?_)
      · have jc_32 := dk_neqc (k := 5) (by decide +kernel) c_32
        exact J_27   _ _ hP hS _ (lv_sub hl [0, 1] rfl)
      · have jc_32 := dk_eqc (k := 5) (by decide +kernel) c_32
        refine lv_iconst (v := 1) hx hb dX6_fail_21 (by decide +kernel) ?_
        refine lv_goto (tgt := 26) hx hb dX6_fail_22 (dk_dq rfl) ?_
        have hz_33 : (1 : Int32).toInt = 1 := by decide +kernel
        exact J_16 1 (by decide +kernel) _ _ hP hS _ (lv_sub hl [0, 1] rfl)
set_option maxHeartbeats 8000000 in
set_option maxRecDepth 100000 in
theorem c_rd_takeOwn (l : Launch) (g : Nat → ClassId) (D : va_G) (o : Nat) (S : dg_S) (a1 : Int32) (en : Int32) (kd : Nat → Int32) (vl : Nat → Int32) (n0 : Int32) (f_n0 : S.1 209 4 = .int n0) (b_n0 : 0 ≤ (n0).toInt ∧ (n0).toInt ≤ 1600) (ke : Int32) (f_ke : S.2.1 211 (en : Int32).toNatClampNeg = ke) (b_ke : 0 ≤ (ke).toInt ∧ (ke).toInt ≤ 0) (hne : (n0).toInt ≤ (en).toInt ∧ (en).toInt ≤ 1600 ∧ 0 ≤ (en).toInt) (hkd : ∀ k9 : Nat, k9 ≤ (en : Int32).toNatClampNeg → S.2.1 211 k9 = kd k9) (hvl : ∀ k9 : Nat, k9 ≤ (en : Int32).toNatClampNeg → S.2.1 213 k9 = vl k9) (I : CX o S) (sz : Nat) : Met l yX6_takeOwn (bw yX6_takeOwn cX6_takeOwn 2 (some .boolean)) ({ frames := 2, cells := 0, slots := 0, locals := 54 } : Room) (dk_Pc g D (dg_w g shX o rfX S) sz [.ref (o + 209), .int a1]) (va_Qi (fun (r : Int32) S' => CX o S' ∧ dg_sm shX [(31, 0), (31, 1), (31, 4)] [] S S' ∧ (0 ≤ (r).toInt ∧ (r).toInt ≤ 1) ∧ (∃ y9 : Int32, S'.1 209 4 = .int y9 ∧ ((y9).toInt ≤ (en).toInt ∧ g_ans r (y_own kd vl (a1).toInt (n0 : Int32).toNatClampNeg) (y9 : Int32).toNatClampNeg)) ∧ True) (dg_B g D shX o rfX) (dg_A o shX.length sz)) 0 0 (dg_A o shX.length sz) := by
  refine dg_met (cc := cX6_takeOwn) (maxL := 2) (ret := (some .boolean)) (dk_dq rfl) rfl (Nat.le_of_ble_eq_true rfl) ?_
  intro p e s m args below meth c A hAe harg hx hb hr hml hts hown hlocks hin hP K hS hA1 hA ST hsz ls hl
  rw [← hAe]
  have F : CallFix p m c cX6_takeOwn 2 s args (bw yX6_takeOwn cX6_takeOwn 2 (some .boolean)) RX6 := ⟨hx, hb, hml, hown, hts⟩
  have hl : lv_has ls 2 [(0, .ref (o + 209)), (1, .int a1)] := hl
  have M_0 : dg_sm shX [(31, 0), (31, 1), (31, 4)] [] S S := dg_sm.rf
  refine lv_aload_n hx hb dX6_takeOwn_0 rfl (lv_at hl 0 rfl) ?_
  refine lv_iload_n hx hb dX6_takeOwn_1 rfl (lv_at hl 1 rfl) ?_
  refine dg_calli hS hA1 hA (va_runV (As := [.int a1]) (rest := []) F (c_rd_isOwn l g D o S a1 en kd vl n0 f_n0 (by omega) ke f_ke (by omega) (by omega) hkd hvl I s.heap.size) (cwV 1 hts (bw_V wB_21 wB_22 wB_23 wB_24 wB_20) rfl rfl rfl (by decide +kernel) ⟨Nat.le_of_ble_eq_true rfl, Nat.le_of_ble_eq_true rfl⟩) (dg_preV sX_209 rfl K ST hP hS hA1 hA) rfl rfl hl.1 rfl (lv_room (Nat.le_of_ble_eq_true rfl)) dX6_takeOwn_2 ⟨Nat.le_of_ble_eq_true rfl, Nat.le_of_ble_eq_true rfl⟩) (fun x_1 S_2 hw_2 H locs hP hS => ?_)
  rw [hw_2.1] at hP
  obtain ⟨hq_2, w_2_0, w_2_1, -⟩ := hw_2
  have w_2_0 : 0 ≤ (x_1).toInt ∧ (x_1).toInt ≤ 1 := w_2_0
  have w_2_1 : (x_1).toInt = 1 ↔ g_o kd vl (a1).toInt (n0 : Int32).toNatClampNeg = true := w_2_1
  refine lv_if_ne (tgt := 14) hx hb dX6_takeOwn_5 (dk_dq rfl) (fun c_3 => ?_) (fun c_3 => ?_)
  · have jc_3 := dk_neqc (k := 0) (by decide +kernel) c_3
    have qw_2_1 : g_o kd vl (a1).toInt (n0 : Int32).toNatClampNeg = true := by have h9 := w_2_1.mp (by omega); exact h9
    refine lv_aload_n hx hb dX6_takeOwn_14 rfl (lv_at hl 0 rfl) ?_
    refine dg_callv hS hA1 hA (va_runV (As := []) (rest := []) F (c_rd_pass l g D o S en kd vl n0 f_n0 (by omega) ke f_ke (by omega) (by omega) hkd hvl I H.size) (cwV 0 hts (bw_V wB_26 wB_27 wB_28 wB_24 wB_25) rfl rfl rfl (by decide +kernel) ⟨Nat.le_of_ble_eq_true rfl, Nat.le_of_ble_eq_true rfl⟩) (dg_preV sX_209 rfl K ST hP hS hA1 hA) rfl rfl hl.1 rfl (lv_room (Nat.le_of_ble_eq_true rfl)) dX6_takeOwn_15 ⟨Nat.le_of_ble_eq_true rfl, Nat.le_of_ble_eq_true rfl⟩) (fun S_4 hw_4 H locs hP hS => ?_)
    obtain ⟨I_4, m_4, w_4_0, -⟩ := hw_4
    have M_4 := dg_sm.tr M_0 m_4 (dk_dq rfl) (dk_dq rfl)
    obtain ⟨y_5, f_y_5, w_4_0⟩ := w_4_0
    have w_4_0 : (y_5).toInt ≤ (en).toInt ∧ ((kd (n0 : Int32).toNatClampNeg).toInt ≠ 0 → (y_5 : Int32).toNatClampNeg = (n0 : Int32).toNatClampNeg + 1) := w_4_0
    have b_y_5 : 0 ≤ (y_5).toInt ∧ (y_5).toInt ≤ 1600 := dg_I.intb (lo := 0) (hi := 1600) I_4 sX_209 (by decide +kernel) f_y_5
    have nq_y_5 : (y_5 : Int32).toNatClampNeg = (n0 : Int32).toNatClampNeg + 1 := by have h9 := w_4_0.2 (g_o_ne qw_2_1); omega
    refine lv_iconst (v := 1) hx hb dX6_takeOwn_18 (by decide +kernel) ?_
    have hz_6 : (1 : Int32).toInt = 1 := by decide +kernel
    have hz_7 : (1 : Int32).toInt = 1 := by decide +kernel
    refine W.widen (k := 0) (n := 0) (Nat.le_of_ble_eq_true rfl) (Nat.le_of_ble_eq_true rfl) ?_
    exact dg_iret hx hb hr hlocks (by decide +kernel) hP hS ⟨I_4, M_4, (by decide +kernel), ⟨y_5, f_y_5, ⟨by omega, g_ans.y (by omega) (by simp [y_own, qw_2_1, nq_y_5])⟩⟩, trivial⟩ dX6_takeOwn_19
  · have jc_3 := dk_eqc (k := 0) (by decide +kernel) c_3
    have qw_2_1 : g_o kd vl (a1).toInt (n0 : Int32).toNatClampNeg = false := by have h9 := g_iff_f w_2_1 (by omega); exact h9
    refine lv_aload_n hx hb dX6_takeOwn_8 rfl (lv_at hl 0 rfl) ?_
    refine lv_iconst (v := 1) hx hb dX6_takeOwn_9 (by decide +kernel) ?_
    refine dg_calli hS hA1 hA (va_runV (As := [.int 1]) (rest := []) F (c_rd_fail l g D o S 1 en n0 f_n0 (by omega) ke f_ke (by omega) (by omega) I H.size) (cwV 1 hts (bw_V wB_30 wB_31 wB_32 wB_24 wB_29) rfl rfl rfl (by decide +kernel) ⟨Nat.le_of_ble_eq_true rfl, Nat.le_of_ble_eq_true rfl⟩) (dg_preV sX_209 rfl K ST hP hS hA1 hA) rfl rfl hl.1 rfl (lv_room (Nat.le_of_ble_eq_true rfl)) dX6_takeOwn_10 ⟨Nat.le_of_ble_eq_true rfl, Nat.le_of_ble_eq_true rfl⟩) (fun x_8 S_9 hw_9 H locs hP hS => ?_)
    obtain ⟨I_9, m_9, w_9_0, -⟩ := hw_9
    have M_9 := dg_sm.tr M_0 m_9 (dk_dq rfl) (dk_dq rfl)
    have w_9_0 : 0 ≤ (x_8).toInt ∧ (x_8).toInt ≤ 0 := w_9_0
    refine W.widen (k := 0) (n := 0) (Nat.le_of_ble_eq_true rfl) (Nat.le_of_ble_eq_true rfl) ?_
    exact dg_iret hx hb hr hlocks (dk_znar2 (by omega)) hP hS ⟨I_9, M_9, (by omega), ⟨n0, ((m_9.1 209 4 _ sX_209 (dk_dq rfl)).trans f_n0), ⟨by omega, g_ans.n (by omega) (by simp [y_own, qw_2_1])⟩⟩, trivial⟩ dX6_takeOwn_13
set_option maxHeartbeats 8000000 in
set_option maxRecDepth 100000 in
theorem c_rd_takeSign (l : Launch) (g : Nat → ClassId) (D : va_G) (o : Nat) (S : dg_S) (a1 : Int32) (en : Int32) (kd : Nat → Int32) (vl : Nat → Int32) (n0 : Int32) (f_n0 : S.1 209 4 = .int n0) (b_n0 : 0 ≤ (n0).toInt ∧ (n0).toInt ≤ 1600) (ke : Int32) (f_ke : S.2.1 211 (en : Int32).toNatClampNeg = ke) (b_ke : 0 ≤ (ke).toInt ∧ (ke).toInt ≤ 0) (hne : (n0).toInt ≤ (en).toInt ∧ (en).toInt ≤ 1600 ∧ 0 ≤ (en).toInt) (hkd : ∀ k9 : Nat, k9 ≤ (en : Int32).toNatClampNeg → S.2.1 211 k9 = kd k9) (hvl : ∀ k9 : Nat, k9 ≤ (en : Int32).toNatClampNeg → S.2.1 213 k9 = vl k9) (I : CX o S) (sz : Nat) : Met l yX6_takeSign (bw yX6_takeSign cX6_takeSign 2 (some .boolean)) ({ frames := 2, cells := 0, slots := 0, locals := 54 } : Room) (dk_Pc g D (dg_w g shX o rfX S) sz [.ref (o + 209), .int a1]) (va_Qi (fun (r : Int32) S' => CX o S' ∧ dg_sm shX [(31, 0), (31, 1), (31, 4)] [] S S' ∧ (0 ≤ (r).toInt ∧ (r).toInt ≤ 1) ∧ (∃ y9 : Int32, S'.1 209 4 = .int y9 ∧ ((y9).toInt ≤ (en).toInt ∧ g_ans r (g_tk kd vl (a1).toInt (n0 : Int32).toNatClampNeg) (y9 : Int32).toNatClampNeg)) ∧ True) (dg_B g D shX o rfX) (dg_A o shX.length sz)) 0 0 (dg_A o shX.length sz) := by
  refine dg_met (cc := cX6_takeSign) (maxL := 2) (ret := (some .boolean)) (dk_dq rfl) rfl (Nat.le_of_ble_eq_true rfl) ?_
  intro p e s m args below meth c A hAe harg hx hb hr hml hts hown hlocks hin hP K hS hA1 hA ST hsz ls hl
  rw [← hAe]
  have F : CallFix p m c cX6_takeSign 2 s args (bw yX6_takeSign cX6_takeSign 2 (some .boolean)) RX6 := ⟨hx, hb, hml, hown, hts⟩
  have hl : lv_has ls 2 [(0, .ref (o + 209)), (1, .int a1)] := hl
  have M_0 : dg_sm shX [(31, 0), (31, 1), (31, 4)] [] S S := dg_sm.rf
  refine lv_aload_n hx hb dX6_takeSign_0 rfl (lv_at hl 0 rfl) ?_
  refine lv_iload_n hx hb dX6_takeSign_1 rfl (lv_at hl 1 rfl) ?_
  refine dg_calli hS hA1 hA (va_runV (As := [.int a1]) (rest := []) F (c_rd_isSign l g D o S a1 en kd vl n0 f_n0 (by omega) ke f_ke (by omega) (by omega) hkd hvl I s.heap.size) (cwV 1 hts (bw_V wB_34 wB_35 wB_36 wB_24 wB_33) rfl rfl rfl (by decide +kernel) ⟨Nat.le_of_ble_eq_true rfl, Nat.le_of_ble_eq_true rfl⟩) (dg_preV sX_209 rfl K ST hP hS hA1 hA) rfl rfl hl.1 rfl (lv_room (Nat.le_of_ble_eq_true rfl)) dX6_takeSign_2 ⟨Nat.le_of_ble_eq_true rfl, Nat.le_of_ble_eq_true rfl⟩) (fun x_1 S_2 hw_2 H locs hP hS => ?_)
  rw [hw_2.1] at hP
  obtain ⟨hq_2, w_2_0, w_2_1, -⟩ := hw_2
  have w_2_0 : 0 ≤ (x_1).toInt ∧ (x_1).toInt ≤ 1 := w_2_0
  have w_2_1 : (x_1).toInt = 1 ↔ g_s kd vl (a1).toInt (n0 : Int32).toNatClampNeg = true := w_2_1
  refine lv_if_ne (tgt := 14) hx hb dX6_takeSign_5 (dk_dq rfl) (fun c_3 => ?_) (fun c_3 => ?_)
  · have jc_3 := dk_neqc (k := 0) (by decide +kernel) c_3
    have qw_2_1 : g_s kd vl (a1).toInt (n0 : Int32).toNatClampNeg = true := by have h9 := w_2_1.mp (by omega); exact h9
    refine lv_aload_n hx hb dX6_takeSign_14 rfl (lv_at hl 0 rfl) ?_
    refine dg_callv hS hA1 hA (va_runV (As := []) (rest := []) F (c_rd_pass l g D o S en kd vl n0 f_n0 (by omega) ke f_ke (by omega) (by omega) hkd hvl I H.size) (cwV 0 hts (bw_V wB_26 wB_27 wB_28 wB_24 wB_25) rfl rfl rfl (by decide +kernel) ⟨Nat.le_of_ble_eq_true rfl, Nat.le_of_ble_eq_true rfl⟩) (dg_preV sX_209 rfl K ST hP hS hA1 hA) rfl rfl hl.1 rfl (lv_room (Nat.le_of_ble_eq_true rfl)) dX6_takeSign_15 ⟨Nat.le_of_ble_eq_true rfl, Nat.le_of_ble_eq_true rfl⟩) (fun S_4 hw_4 H locs hP hS => ?_)
    obtain ⟨I_4, m_4, w_4_0, -⟩ := hw_4
    have M_4 := dg_sm.tr M_0 m_4 (dk_dq rfl) (dk_dq rfl)
    obtain ⟨y_5, f_y_5, w_4_0⟩ := w_4_0
    have w_4_0 : (y_5).toInt ≤ (en).toInt ∧ ((kd (n0 : Int32).toNatClampNeg).toInt ≠ 0 → (y_5 : Int32).toNatClampNeg = (n0 : Int32).toNatClampNeg + 1) := w_4_0
    have b_y_5 : 0 ≤ (y_5).toInt ∧ (y_5).toInt ≤ 1600 := dg_I.intb (lo := 0) (hi := 1600) I_4 sX_209 (by decide +kernel) f_y_5
    have nq_y_5 : (y_5 : Int32).toNatClampNeg = (n0 : Int32).toNatClampNeg + 1 := by have h9 := w_4_0.2 (g_s_ne qw_2_1); omega
    refine lv_iconst (v := 1) hx hb dX6_takeSign_18 (by decide +kernel) ?_
    have hz_6 : (1 : Int32).toInt = 1 := by decide +kernel
    have hz_7 : (1 : Int32).toInt = 1 := by decide +kernel
    refine W.widen (k := 0) (n := 0) (Nat.le_of_ble_eq_true rfl) (Nat.le_of_ble_eq_true rfl) ?_
    exact dg_iret hx hb hr hlocks (by decide +kernel) hP hS ⟨I_4, M_4, (by decide +kernel), ⟨y_5, f_y_5, ⟨by omega, g_ans.y (by omega) (by simp [g_tk, qw_2_1, nq_y_5])⟩⟩, trivial⟩ dX6_takeSign_19
  · have jc_3 := dk_eqc (k := 0) (by decide +kernel) c_3
    have qw_2_1 : g_s kd vl (a1).toInt (n0 : Int32).toNatClampNeg = false := by have h9 := g_iff_f w_2_1 (by omega); exact h9
    refine lv_aload_n hx hb dX6_takeSign_8 rfl (lv_at hl 0 rfl) ?_
    refine lv_iconst (v := 1) hx hb dX6_takeSign_9 (by decide +kernel) ?_
    refine dg_calli hS hA1 hA (va_runV (As := [.int 1]) (rest := []) F (c_rd_fail l g D o S 1 en n0 f_n0 (by omega) ke f_ke (by omega) (by omega) I H.size) (cwV 1 hts (bw_V wB_30 wB_31 wB_32 wB_24 wB_29) rfl rfl rfl (by decide +kernel) ⟨Nat.le_of_ble_eq_true rfl, Nat.le_of_ble_eq_true rfl⟩) (dg_preV sX_209 rfl K ST hP hS hA1 hA) rfl rfl hl.1 rfl (lv_room (Nat.le_of_ble_eq_true rfl)) dX6_takeSign_10 ⟨Nat.le_of_ble_eq_true rfl, Nat.le_of_ble_eq_true rfl⟩) (fun x_8 S_9 hw_9 H locs hP hS => ?_)
    obtain ⟨I_9, m_9, w_9_0, -⟩ := hw_9
    have M_9 := dg_sm.tr M_0 m_9 (dk_dq rfl) (dk_dq rfl)
    have w_9_0 : 0 ≤ (x_8).toInt ∧ (x_8).toInt ≤ 0 := w_9_0
    refine W.widen (k := 0) (n := 0) (Nat.le_of_ble_eq_true rfl) (Nat.le_of_ble_eq_true rfl) ?_
    exact dg_iret hx hb hr hlocks (dk_znar2 (by omega)) hP hS ⟨I_9, M_9, (by omega), ⟨n0, ((m_9.1 209 4 _ sX_209 (dk_dq rfl)).trans f_n0), ⟨by omega, g_ans.n (by omega) (by simp [g_tk, qw_2_1])⟩⟩, trivial⟩ dX6_takeSign_13
set_option maxHeartbeats 8000000 in
set_option maxRecDepth 100000 in
theorem c_rd_put (l : Launch) (g : Nat → ClassId) (D : va_G) (o : Nat) (S : dg_S) (a1 : Int32) (en : Int32) (S0 : dg_S) (d0 : Nat) (gd : Nat) (hk_gd : rX gd) (f_gd : S.1 209 3 = .ref (o + gd)) (n0 : Int32) (f_n0 : S.1 209 4 = .int n0) (b_n0 : 0 ≤ (n0).toInt ∧ (n0).toInt ≤ 1600) (sc : Int32) (f_sc : S.1 209 7 = .int sc) (b_sc : 0 ≤ (sc).toInt ∧ (sc).toInt ≤ 1600) (ke : Int32) (f_ke : S.2.1 211 (en : Int32).toNatClampNeg = ke) (b_ke : 0 ≤ (ke).toInt ∧ (ke).toInt ≤ 0) (hne : (n0).toInt ≤ (en).toInt ∧ (en).toInt ≤ 1600 ∧ 0 ≤ (en).toInt) (hd0 : d0 ≠ gd) (G9 : G9X S0 d0 S) (I : CX o S) (sz : Nat) : Met l yX6_put (bw yX6_put cX6_put 2 none) ({ frames := 1, cells := 0, slots := 0, locals := 32 } : Room) (dk_Pc g D (dg_w g shX o rfX S) sz [.ref (o + 209), .int a1]) (va_Qv (fun S' => CX o S' ∧ dg_sm shX [(31, 7)] [28] S S' ∧ (m_hid ((sc).toInt < 1600 → q_as gd S S' sc [(a1).toInt])) ∧ (∃ y9 : Int32, S'.1 209 7 = .int y9 ∧ ((sc).toInt < 1600 → (y9).toInt = (sc).toInt + 1)) ∧ G9X S0 d0 S' ∧ True) (dg_B g D shX o rfX) (dg_A o shX.length sz)) 0 0 (dg_A o shX.length sz) := by
  refine dg_met (cc := cX6_put) (maxL := 2) (ret := none) (dk_dq rfl) rfl (Nat.le_of_ble_eq_true rfl) ?_
  intro p e s m args below meth c A hAe harg hx hb hr hml hts hown hlocks hin hP K hS hA1 hA ST hsz ls hl
  rw [← hAe]
  have F : CallFix p m c cX6_put 2 s args (bw yX6_put cX6_put 2 none) RX6 := ⟨hx, hb, hml, hown, hts⟩
  have hl : lv_has ls 2 [(0, .ref (o + 209)), (1, .int a1)] := hl
  have M_0 : dg_sm shX [(31, 7)] [28] S S := dg_sm.rf
  refine lv_aload_n hx hb dX6_put_0 rfl (lv_at hl 0 rfl) ?_
  refine dg_get (C := RX6) (T := TX6) (N := 8) hx hb hts (fun w h => bw_mem (wU_X6 w h)) hown K hP sX_209 rfl 7 (dk_dq rfl) (hts _ (bw_mem wB_37)) (fun _ h9 => h9) (v := .int sc) f_sc dX6_put_1 ?_
  refine lv_sipush (v := 1600) hx hb dX6_put_4 (by decide +kernel) ?_
  refine lv_icmp_ge (tgt := 33) hx hb dX6_put_7 (dk_dq rfl) (fun c_1 => ?_) (fun c_1 => ?_)
  · have jc_1 := dk_gec (k := 1600) (by decide +kernel) c_1
    refine W.widen (k := 0) (n := 0) (Nat.le_of_ble_eq_true rfl) (Nat.le_of_ble_eq_true rfl) ?_
    exact dg_vret hx hb hr hlocks hP hS ⟨I, M_0, (m_hid.mk (fun q9 => absurd q9 (by omega))), ⟨sc, f_sc, (by omega)⟩, G9, trivial⟩ dX6_put_33
  · have jc_1 := dk_ngec (k := 1600) (by decide +kernel) c_1
    refine lv_aload_n hx hb dX6_put_10 rfl (lv_at hl 0 rfl) ?_
    refine dg_get (C := RX6) (T := TX6) (N := 8) hx hb hts (fun w h => bw_mem (wU_X6 w h)) hown K hP sX_209 rfl 3 (dk_dq rfl) (hts _ (bw_mem wB_38)) (fun _ h9 => h9) (v := .ref (o + gd)) f_gd dX6_put_11 ?_
    refine dg_get (C := RX2) (T := TX2) (N := 19) hx hb hts (fun w h => bw_mem (wU_X2 w h)) hown K hP (rX_0 gd hk_gd) rfl 16 (dk_dq rfl) (hts _ (bw_mem wB_39)) (fun _ h9 => h9) (v := .ref (o + (gd + 9))) (show S.1 gd 16 = .ref (o + (gd + 9)) from dg_I.rel (d := 9) I (rX_0 gd hk_gd) (by decide +kernel)) dX6_put_14 ?_
    refine lv_aload_n hx hb dX6_put_17 rfl (lv_at hl 0 rfl) ?_
    refine dg_get (C := RX6) (T := TX6) (N := 8) hx hb hts (fun w h => bw_mem (wU_X6 w h)) hown K hP sX_209 rfl 7 (dk_dq rfl) (hts _ (bw_mem wB_37)) (fun _ h9 => h9) (v := .int sc) f_sc dX6_put_18 ?_
    refine lv_iload_n hx hb dX6_put_21 rfl (lv_at hl 1 rfl) ?_
    have hin_2 : vp_in sc 1600 := (dk_inv2 (by omega))
    refine dg_iast hx hb K hP hS hA1 (rX_9 gd hk_gd) hin_2 dX6_put_22 (fun S_3 e_3 H locs hP hS => ?_)
    have I_3 := dg_I.uf0 I e_3 (rX_9 gd hk_gd) (by decide +kernel)
    have M_3 := dg_sm.uf M_0 e_3 (rX_9 gd hk_gd) (dk_dq rfl)
    have G9_3 := G9X.uf G9 hk_gd hd0 e_3
    refine lv_aload_n hx hb dX6_put_23 rfl (lv_at hl 0 rfl) ?_
    refine lv_dup hx hb dX6_put_24 rfl ?_
    refine dg_get (C := RX6) (T := TX6) (N := 8) hx hb hts (fun w h => bw_mem (wU_X6 w h)) hown K hP sX_209 rfl 7 (dk_dq rfl) (hts _ (bw_mem wB_37)) (fun _ h9 => h9) (v := .int sc) ((dg_uf_F e_3 209 7).trans f_sc) dX6_put_25 ?_
    refine lv_iconst (v := 1) hx hb dX6_put_28 (by decide +kernel) ?_
    refine lv_iadd hx hb dX6_put_29 ?_
    refine lv_topi (fun x_4 ex_4 => ?_)
    have jx_4 : (x_4).toInt = (sc).toInt + 1 := by rw [ex_4]; exact dk_addT2 rfl (by decide +kernel) (by omega)
    refine dg_put (ci := 6) (v := .int x_4) (ty := tyX6 7) (C := RX6) (T := TX6) (N := 8) hx hb hts (fun w h => bw_mem (wU_X6 w h)) tyX6 tyX6_ok nmX6 hown K hP hS hA1 sX_209 rfl 7 (dk_dq rfl) (hts _ (bw_mem wB_37)) (fun _ h9 => h9) rfl (by decide +kernel) rfl rfl dX6_put_30 (fun S_5 e_5 H locs hP hS => ?_)
    have I_5 := dg_I.uFi (lo := 0) (hi := 1600) I_3 e_5 sX_209 (by decide +kernel) (show 0 ≤ (x_4).toInt ∧ (x_4).toInt ≤ 1600 from (by omega))
    have M_5 := dg_sm.uF M_3 e_5 sX_209 (dk_dq rfl)
    refine W.widen (k := 0) (n := 0) (Nat.le_of_ble_eq_true rfl) (Nat.le_of_ble_eq_true rfl) ?_
    exact dg_vret hx hb hr hlocks hP hS ⟨I_5, M_5, (m_hid.mk (fun _ => q_as.put (v := a1) (dg_uF_at e_5) (by omega) (by omega) (by rw [(dg_uF_f e_5 (gd + 9)), dg_uf_at e_3]))), ⟨x_4, (dg_uF_at e_5), (by omega)⟩, (G9X.keep G9_3 (dg_sm.uF (WF := [(31, 7)]) (WA := []) dg_sm.rf e_5 sX_209 (dk_dq rfl)) (dk_dq rfl)), trivial⟩ dX6_put_33
set_option maxHeartbeats 8000000 in
set_option maxRecDepth 100000 in
theorem c_rd_comparingStep (l : Launch) (g : Nat → ClassId) (D : va_G) (o : Nat) (S : dg_S) (en : Int32) (kd : Nat → Int32) (vl : Nat → Int32) (n0 : Int32) (f_n0 : S.1 209 4 = .int n0) (b_n0 : 0 ≤ (n0).toInt ∧ (n0).toInt ≤ 1600) (ke : Int32) (f_ke : S.2.1 211 (en : Int32).toNatClampNeg = ke) (b_ke : 0 ≤ (ke).toInt ∧ (ke).toInt ≤ 0) (hne : (n0).toInt ≤ (en).toInt ∧ (en).toInt ≤ 1600 ∧ 0 ≤ (en).toInt) (hkd : ∀ k9 : Nat, k9 ≤ (en : Int32).toNatClampNeg → S.2.1 211 k9 = kd k9) (hvl : ∀ k9 : Nat, k9 ≤ (en : Int32).toNatClampNeg → S.2.1 213 k9 = vl k9) (I : CX o S) (sz : Nat) : Met l yX6_comparingStep (bw yX6_comparingStep cX6_comparingStep 1 (some .int)) ({ frames := 2, cells := 0, slots := 0, locals := 53 } : Room) (dk_Pc g D (dg_w g shX o rfX S) sz [.ref (o + 209)]) (va_Qi (fun (r : Int32) S' => S' = S ∧ ((-19) ≤ (r).toInt ∧ (r).toInt ≤ 0) ∧ (m_hid ((r).toInt ≠ 0 → (r).toInt = d_co kd vl ((n0 : Int32).toNatClampNeg))) ∧ ((r).toInt ≠ 0 ↔ g_co kd vl (n0 : Int32).toNatClampNeg = true) ∧ True) (dg_B g D shX o rfX) (dg_A o shX.length sz)) 0 0 (dg_A o shX.length sz) := by
  refine dg_met (cc := cX6_comparingStep) (maxL := 1) (ret := (some .int)) (dk_dq rfl) rfl (Nat.le_of_ble_eq_true rfl) ?_
  intro p e s m args below meth c A hAe harg hx hb hr hml hts hown hlocks hin hP K hS hA1 hA ST hsz ls hl
  rw [← hAe]
  have F : CallFix p m c cX6_comparingStep 1 s args (bw yX6_comparingStep cX6_comparingStep 1 (some .int)) RX6 := ⟨hx, hb, hml, hown, hts⟩
  have hl : lv_has ls 1 [(0, .ref (o + 209))] := hl
  have M_0 : dg_sm shX [] [] S S := dg_sm.rf
  refine lv_aload_n hx hb dX6_comparingStep_0 rfl (lv_at hl 0 rfl) ?_
  refine lv_bipush (v := 60) hx hb dX6_comparingStep_1 (by decide +kernel) ?_
  refine dg_calli hS hA1 hA (va_runV (As := [.int 60]) (rest := []) F (c_rd_isSign l g D o S 60 en kd vl n0 f_n0 (by omega) ke f_ke (by omega) (by omega) hkd hvl I s.heap.size) (cwV 1 hts (bw_V wB_34 wB_35 wB_36 wB_24 wB_33) rfl rfl rfl (by decide +kernel) ⟨Nat.le_of_ble_eq_true rfl, Nat.le_of_ble_eq_true rfl⟩) (dg_preV sX_209 rfl K ST hP hS hA1 hA) rfl rfl hl.1 rfl (lv_room (Nat.le_of_ble_eq_true rfl)) dX6_comparingStep_3 ⟨Nat.le_of_ble_eq_true rfl, Nat.le_of_ble_eq_true rfl⟩) (fun x_1 S_2 hw_2 H locs hP hS => ?_)
  rw [hw_2.1] at hP
  obtain ⟨hq_2, w_2_0, w_2_1, -⟩ := hw_2
  have hz_3 : (60 : Int32).toInt = 60 := by decide +kernel
  have w_2_0 : 0 ≤ (x_1).toInt ∧ (x_1).toInt ≤ 1 := w_2_0
  have w_2_1 : (x_1).toInt = 1 ↔ g_s kd vl ((60 : Int32)).toInt (n0 : Int32).toNatClampNeg = true := w_2_1
  refine lv_if_eq (tgt := 12) hx hb dX6_comparingStep_6 (dk_dq rfl) (fun c_4 => ?_) (fun c_4 => ?_)
  · as_aux_lemma =>
      have jc_4 := dk_eqc (k := 0) (by decide +kernel) c_4
      have qw_2_1 : g_s kd vl 60 (n0 : Int32).toNatClampNeg = false := by have h9 := g_iff_f w_2_1 (by omega); rw [show (60 : Int32).toInt = 60 from by decide +kernel] at h9; exact h9
      refine lv_aload_n hx hb dX6_comparingStep_12 rfl (lv_at hl 0 rfl) ?_
      refine lv_bipush (v := 62) hx hb dX6_comparingStep_13 (by decide +kernel) ?_
      refine dg_calli hS hA1 hA (va_runV (As := [.int 62]) (rest := []) F (c_rd_isSign l g D o S 62 en kd vl n0 f_n0 (by omega) ke f_ke (by omega) (by omega) hkd hvl I H.size) (cwV 1 hts (bw_V wB_34 wB_35 wB_36 wB_24 wB_33) rfl rfl rfl (by decide +kernel) ⟨Nat.le_of_ble_eq_true rfl, Nat.le_of_ble_eq_true rfl⟩) (dg_preV sX_209 rfl K ST hP hS hA1 hA) rfl rfl hl.1 rfl (lv_room (Nat.le_of_ble_eq_true rfl)) dX6_comparingStep_15 ⟨Nat.le_of_ble_eq_true rfl, Nat.le_of_ble_eq_true rfl⟩) (fun x_5 S_6 hw_6 H locs hP hS => ?_)
      rw [hw_6.1] at hP
      obtain ⟨hq_6, w_6_0, w_6_1, -⟩ := hw_6
      have hz_7 : (62 : Int32).toInt = 62 := by decide +kernel
      have w_6_0 : 0 ≤ (x_5).toInt ∧ (x_5).toInt ≤ 1 := w_6_0
      have w_6_1 : (x_5).toInt = 1 ↔ g_s kd vl ((62 : Int32)).toInt (n0 : Int32).toNatClampNeg = true := w_6_1
      refine lv_if_eq (tgt := 24) hx hb dX6_comparingStep_18 (dk_dq rfl) (fun c_8 => ?_) (fun c_8 => ?_)
      · as_aux_lemma =>
          have jc_8 := dk_eqc (k := 0) (by decide +kernel) c_8
          have qw_6_1 : g_s kd vl 62 (n0 : Int32).toNatClampNeg = false := by have h9 := g_iff_f w_6_1 (by omega); rw [show (62 : Int32).toInt = 62 from by decide +kernel] at h9; exact h9
          refine lv_aload_n hx hb dX6_comparingStep_24 rfl (lv_at hl 0 rfl) ?_
          refine lv_bipush (v := 61) hx hb dX6_comparingStep_25 (by decide +kernel) ?_
          refine dg_calli hS hA1 hA (va_runV (As := [.int 61]) (rest := []) F (c_rd_isSign l g D o S 61 en kd vl n0 f_n0 (by omega) ke f_ke (by omega) (by omega) hkd hvl I H.size) (cwV 1 hts (bw_V wB_34 wB_35 wB_36 wB_24 wB_33) rfl rfl rfl (by decide +kernel) ⟨Nat.le_of_ble_eq_true rfl, Nat.le_of_ble_eq_true rfl⟩) (dg_preV sX_209 rfl K ST hP hS hA1 hA) rfl rfl hl.1 rfl (lv_room (Nat.le_of_ble_eq_true rfl)) dX6_comparingStep_27 ⟨Nat.le_of_ble_eq_true rfl, Nat.le_of_ble_eq_true rfl⟩) (fun x_9 S_10 hw_10 H locs hP hS => ?_)
          rw [hw_10.1] at hP
          obtain ⟨hq_10, w_10_0, w_10_1, -⟩ := hw_10
          have hz_11 : (61 : Int32).toInt = 61 := by decide +kernel
          have w_10_0 : 0 ≤ (x_9).toInt ∧ (x_9).toInt ≤ 1 := w_10_0
          have w_10_1 : (x_9).toInt = 1 ↔ g_s kd vl ((61 : Int32)).toInt (n0 : Int32).toNatClampNeg = true := w_10_1
          refine lv_if_eq (tgt := 38) hx hb dX6_comparingStep_30 (dk_dq rfl) (fun c_12 => ?_) (fun c_12 => ?_)
          · have jc_12 := dk_eqc (k := 0) (by decide +kernel) c_12
            have qw_10_1 : g_s kd vl 61 (n0 : Int32).toNatClampNeg = false := by have h9 := g_iff_f w_10_1 (by omega); rw [show (61 : Int32).toInt = 61 from by decide +kernel] at h9; exact h9
            refine lv_iconst (v := 0) hx hb dX6_comparingStep_38 (by decide +kernel) ?_
            have hz_13 : (0 : Int32).toInt = 0 := by decide +kernel
            have hz_14 : (0 : Int32).toInt = 0 := by decide +kernel
            have hz_15 : (0 : Int32).toInt = 0 := by decide +kernel
            refine W.widen (k := 0) (n := 0) (Nat.le_of_ble_eq_true rfl) (Nat.le_of_ble_eq_true rfl) ?_
            exact dg_iret hx hb hr hlocks rfl hP hS ⟨rfl, (by decide +kernel), (m_hid.mk (fun q9 => absurd (by decide +kernel) q9)), ⟨fun q9 => absurd (by decide +kernel) q9, fun q9 => absurd q9 (by simp [g_co, qw_2_1, qw_6_1, qw_10_1])⟩, trivial⟩ dX6_comparingStep_39
          · have jc_12 := dk_neqc (k := 0) (by decide +kernel) c_12
            have qw_10_1 : g_s kd vl 61 (n0 : Int32).toNatClampNeg = true := by have h9 := w_10_1.mp (by omega); rw [show (61 : Int32).toInt = 61 from by decide +kernel] at h9; exact h9
            refine lv_bipush (v := (-19)) hx hb dX6_comparingStep_33 (by decide +kernel) ?_
            refine lv_goto (tgt := 39) hx hb dX6_comparingStep_35 (dk_dq rfl) ?_
            have hz_16 : (-19 : Int32).toInt = (-19) := by decide +kernel
            have hz_17 : (-19 : Int32).toInt = (-19) := by decide +kernel
            have hz_18 : (-19 : Int32).toInt = (-19) := by decide +kernel
            refine W.widen (k := 0) (n := 0) (Nat.le_of_ble_eq_true rfl) (Nat.le_of_ble_eq_true rfl) ?_
            exact dg_iret hx hb hr hlocks rfl hP hS ⟨rfl, (by decide +kernel), (m_hid.mk (fun _ => by rw [show (-19 : Int32).toInt = -19 from by decide +kernel]; simp [d_co, qw_2_1, qw_6_1, qw_10_1])), ⟨fun _ => by simp [g_co, qw_2_1, qw_6_1, qw_10_1], fun _ => by decide +kernel⟩, trivial⟩ dX6_comparingStep_39
      · have jc_8 := dk_neqc (k := 0) (by decide +kernel) c_8
        have qw_6_1 : g_s kd vl 62 (n0 : Int32).toNatClampNeg = true := by have h9 := w_6_1.mp (by omega); rw [show (62 : Int32).toInt = 62 from by decide +kernel] at h9; exact h9
        refine lv_bipush (v := (-18)) hx hb dX6_comparingStep_21 (by decide +kernel) ?_
        have hz_19 : (-18 : Int32).toInt = (-18) := by decide +kernel
        have hz_20 : (-18 : Int32).toInt = (-18) := by decide +kernel
        have hz_21 : (-18 : Int32).toInt = (-18) := by decide +kernel
        refine W.widen (k := 0) (n := 0) (Nat.le_of_ble_eq_true rfl) (Nat.le_of_ble_eq_true rfl) ?_
        exact dg_iret hx hb hr hlocks rfl hP hS ⟨rfl, (by decide +kernel), (m_hid.mk (fun _ => by rw [show (-18 : Int32).toInt = -18 from by decide +kernel]; simp [d_co, qw_2_1, qw_6_1])), ⟨fun _ => by simp [g_co, qw_2_1, qw_6_1], fun _ => by decide +kernel⟩, trivial⟩ dX6_comparingStep_23
  · have jc_4 := dk_neqc (k := 0) (by decide +kernel) c_4
    have qw_2_1 : g_s kd vl 60 (n0 : Int32).toNatClampNeg = true := by have h9 := w_2_1.mp (by omega); rw [show (60 : Int32).toInt = 60 from by decide +kernel] at h9; exact h9
    refine lv_bipush (v := (-17)) hx hb dX6_comparingStep_9 (by decide +kernel) ?_
    have hz_22 : (-17 : Int32).toInt = (-17) := by decide +kernel
    have hz_23 : (-17 : Int32).toInt = (-17) := by decide +kernel
    have hz_24 : (-17 : Int32).toInt = (-17) := by decide +kernel
    refine W.widen (k := 0) (n := 0) (Nat.le_of_ble_eq_true rfl) (Nat.le_of_ble_eq_true rfl) ?_
    exact dg_iret hx hb hr hlocks rfl hP hS ⟨rfl, (by decide +kernel), (m_hid.mk (fun _ => by rw [show (-17 : Int32).toInt = -17 from by decide +kernel]; simp [d_co, qw_2_1])), ⟨fun _ => by simp [g_co, qw_2_1], fun _ => by decide +kernel⟩, trivial⟩ dX6_comparingStep_11
set_option maxHeartbeats 8000000 in
set_option maxRecDepth 100000 in
theorem c_rd_sumStep (l : Launch) (g : Nat → ClassId) (D : va_G) (o : Nat) (S : dg_S) (en : Int32) (kd : Nat → Int32) (vl : Nat → Int32) (n0 : Int32) (f_n0 : S.1 209 4 = .int n0) (b_n0 : 0 ≤ (n0).toInt ∧ (n0).toInt ≤ 1600) (ke : Int32) (f_ke : S.2.1 211 (en : Int32).toNatClampNeg = ke) (b_ke : 0 ≤ (ke).toInt ∧ (ke).toInt ≤ 0) (hne : (n0).toInt ≤ (en).toInt ∧ (en).toInt ≤ 1600 ∧ 0 ≤ (en).toInt) (hkd : ∀ k9 : Nat, k9 ≤ (en : Int32).toNatClampNeg → S.2.1 211 k9 = kd k9) (hvl : ∀ k9 : Nat, k9 ≤ (en : Int32).toNatClampNeg → S.2.1 213 k9 = vl k9) (I : CX o S) (sz : Nat) : Met l yX6_sumStep (bw yX6_sumStep cX6_sumStep 1 (some .int)) ({ frames := 2, cells := 0, slots := 0, locals := 53 } : Room) (dk_Pc g D (dg_w g shX o rfX S) sz [.ref (o + 209)]) (va_Qi (fun (r : Int32) S' => S' = S ∧ ((-11) ≤ (r).toInt ∧ (r).toInt ≤ 0) ∧ (m_hid ((r).toInt ≠ 0 → (r).toInt = d_so kd vl ((n0 : Int32).toNatClampNeg))) ∧ ((r).toInt ≠ 0 ↔ g_so kd vl (n0 : Int32).toNatClampNeg = true) ∧ True) (dg_B g D shX o rfX) (dg_A o shX.length sz)) 0 0 (dg_A o shX.length sz) := by
  refine dg_met (cc := cX6_sumStep) (maxL := 1) (ret := (some .int)) (dk_dq rfl) rfl (Nat.le_of_ble_eq_true rfl) ?_
  intro p e s m args below meth c A hAe harg hx hb hr hml hts hown hlocks hin hP K hS hA1 hA ST hsz ls hl
  rw [← hAe]
  have F : CallFix p m c cX6_sumStep 1 s args (bw yX6_sumStep cX6_sumStep 1 (some .int)) RX6 := ⟨hx, hb, hml, hown, hts⟩
  have hl : lv_has ls 1 [(0, .ref (o + 209))] := hl
  have M_0 : dg_sm shX [] [] S S := dg_sm.rf
  refine lv_aload_n hx hb dX6_sumStep_0 rfl (lv_at hl 0 rfl) ?_
  refine lv_bipush (v := 43) hx hb dX6_sumStep_1 (by decide +kernel) ?_
  refine dg_calli hS hA1 hA (va_runV (As := [.int 43]) (rest := []) F (c_rd_isSign l g D o S 43 en kd vl n0 f_n0 (by omega) ke f_ke (by omega) (by omega) hkd hvl I s.heap.size) (cwV 1 hts (bw_V wB_34 wB_35 wB_36 wB_24 wB_33) rfl rfl rfl (by decide +kernel) ⟨Nat.le_of_ble_eq_true rfl, Nat.le_of_ble_eq_true rfl⟩) (dg_preV sX_209 rfl K ST hP hS hA1 hA) rfl rfl hl.1 rfl (lv_room (Nat.le_of_ble_eq_true rfl)) dX6_sumStep_3 ⟨Nat.le_of_ble_eq_true rfl, Nat.le_of_ble_eq_true rfl⟩) (fun x_1 S_2 hw_2 H locs hP hS => ?_)
  rw [hw_2.1] at hP
  obtain ⟨hq_2, w_2_0, w_2_1, -⟩ := hw_2
  have hz_3 : (43 : Int32).toInt = 43 := by decide +kernel
  have w_2_0 : 0 ≤ (x_1).toInt ∧ (x_1).toInt ≤ 1 := w_2_0
  have w_2_1 : (x_1).toInt = 1 ↔ g_s kd vl ((43 : Int32)).toInt (n0 : Int32).toNatClampNeg = true := w_2_1
  refine lv_if_eq (tgt := 12) hx hb dX6_sumStep_6 (dk_dq rfl) (fun c_4 => ?_) (fun c_4 => ?_)
  · as_aux_lemma =>
      have jc_4 := dk_eqc (k := 0) (by decide +kernel) c_4
      have qw_2_1 : g_s kd vl 43 (n0 : Int32).toNatClampNeg = false := by have h9 := g_iff_f w_2_1 (by omega); rw [show (43 : Int32).toInt = 43 from by decide +kernel] at h9; exact h9
      refine lv_aload_n hx hb dX6_sumStep_12 rfl (lv_at hl 0 rfl) ?_
      refine lv_bipush (v := 45) hx hb dX6_sumStep_13 (by decide +kernel) ?_
      refine dg_calli hS hA1 hA (va_runV (As := [.int 45]) (rest := []) F (c_rd_isSign l g D o S 45 en kd vl n0 f_n0 (by omega) ke f_ke (by omega) (by omega) hkd hvl I H.size) (cwV 1 hts (bw_V wB_34 wB_35 wB_36 wB_24 wB_33) rfl rfl rfl (by decide +kernel) ⟨Nat.le_of_ble_eq_true rfl, Nat.le_of_ble_eq_true rfl⟩) (dg_preV sX_209 rfl K ST hP hS hA1 hA) rfl rfl hl.1 rfl (lv_room (Nat.le_of_ble_eq_true rfl)) dX6_sumStep_15 ⟨Nat.le_of_ble_eq_true rfl, Nat.le_of_ble_eq_true rfl⟩) (fun x_5 S_6 hw_6 H locs hP hS => ?_)
      rw [hw_6.1] at hP
      obtain ⟨hq_6, w_6_0, w_6_1, -⟩ := hw_6
      have hz_7 : (45 : Int32).toInt = 45 := by decide +kernel
      have w_6_0 : 0 ≤ (x_5).toInt ∧ (x_5).toInt ≤ 1 := w_6_0
      have w_6_1 : (x_5).toInt = 1 ↔ g_s kd vl ((45 : Int32)).toInt (n0 : Int32).toNatClampNeg = true := w_6_1
      refine lv_if_eq (tgt := 26) hx hb dX6_sumStep_18 (dk_dq rfl) (fun c_8 => ?_) (fun c_8 => ?_)
      · have jc_8 := dk_eqc (k := 0) (by decide +kernel) c_8
        have qw_6_1 : g_s kd vl 45 (n0 : Int32).toNatClampNeg = false := by have h9 := g_iff_f w_6_1 (by omega); rw [show (45 : Int32).toInt = 45 from by decide +kernel] at h9; exact h9
        refine lv_iconst (v := 0) hx hb dX6_sumStep_26 (by decide +kernel) ?_
        have hz_9 : (0 : Int32).toInt = 0 := by decide +kernel
        have hz_10 : (0 : Int32).toInt = 0 := by decide +kernel
        have hz_11 : (0 : Int32).toInt = 0 := by decide +kernel
        refine W.widen (k := 0) (n := 0) (Nat.le_of_ble_eq_true rfl) (Nat.le_of_ble_eq_true rfl) ?_
        exact dg_iret hx hb hr hlocks rfl hP hS ⟨rfl, (by decide +kernel), (m_hid.mk (fun q9 => absurd (by decide +kernel) q9)), ⟨fun q9 => absurd (by decide +kernel) q9, fun q9 => absurd q9 (by simp [g_so, qw_2_1, qw_6_1])⟩, trivial⟩ dX6_sumStep_27
      · have jc_8 := dk_neqc (k := 0) (by decide +kernel) c_8
        have qw_6_1 : g_s kd vl 45 (n0 : Int32).toNatClampNeg = true := by have h9 := w_6_1.mp (by omega); rw [show (45 : Int32).toInt = 45 from by decide +kernel] at h9; exact h9
        refine lv_bipush (v := (-11)) hx hb dX6_sumStep_21 (by decide +kernel) ?_
        refine lv_goto (tgt := 27) hx hb dX6_sumStep_23 (dk_dq rfl) ?_
        have hz_12 : (-11 : Int32).toInt = (-11) := by decide +kernel
        have hz_13 : (-11 : Int32).toInt = (-11) := by decide +kernel
        have hz_14 : (-11 : Int32).toInt = (-11) := by decide +kernel
        refine W.widen (k := 0) (n := 0) (Nat.le_of_ble_eq_true rfl) (Nat.le_of_ble_eq_true rfl) ?_
        exact dg_iret hx hb hr hlocks rfl hP hS ⟨rfl, (by decide +kernel), (m_hid.mk (fun _ => by rw [show (-11 : Int32).toInt = -11 from by decide +kernel]; simp [d_so, qw_2_1, qw_6_1])), ⟨fun _ => by simp [g_so, qw_2_1, qw_6_1], fun _ => by decide +kernel⟩, trivial⟩ dX6_sumStep_27
  · have jc_4 := dk_neqc (k := 0) (by decide +kernel) c_4
    have qw_2_1 : g_s kd vl 43 (n0 : Int32).toNatClampNeg = true := by have h9 := w_2_1.mp (by omega); rw [show (43 : Int32).toInt = 43 from by decide +kernel] at h9; exact h9
    refine lv_bipush (v := (-10)) hx hb dX6_sumStep_9 (by decide +kernel) ?_
    have hz_15 : (-10 : Int32).toInt = (-10) := by decide +kernel
    have hz_16 : (-10 : Int32).toInt = (-10) := by decide +kernel
    have hz_17 : (-10 : Int32).toInt = (-10) := by decide +kernel
    refine W.widen (k := 0) (n := 0) (Nat.le_of_ble_eq_true rfl) (Nat.le_of_ble_eq_true rfl) ?_
    exact dg_iret hx hb hr hlocks rfl hP hS ⟨rfl, (by decide +kernel), (m_hid.mk (fun _ => by rw [show (-10 : Int32).toInt = -10 from by decide +kernel]; simp [d_so, qw_2_1])), ⟨fun _ => by simp [g_so, qw_2_1], fun _ => by decide +kernel⟩, trivial⟩ dX6_sumStep_11
set_option maxHeartbeats 8000000 in
set_option maxRecDepth 100000 in
theorem c_rd_productStep (l : Launch) (g : Nat → ClassId) (D : va_G) (o : Nat) (S : dg_S) (en : Int32) (kd : Nat → Int32) (vl : Nat → Int32) (n0 : Int32) (f_n0 : S.1 209 4 = .int n0) (b_n0 : 0 ≤ (n0).toInt ∧ (n0).toInt ≤ 1600) (ke : Int32) (f_ke : S.2.1 211 (en : Int32).toNatClampNeg = ke) (b_ke : 0 ≤ (ke).toInt ∧ (ke).toInt ≤ 0) (hne : (n0).toInt ≤ (en).toInt ∧ (en).toInt ≤ 1600 ∧ 0 ≤ (en).toInt) (hkd : ∀ k9 : Nat, k9 ≤ (en : Int32).toNatClampNeg → S.2.1 211 k9 = kd k9) (hvl : ∀ k9 : Nat, k9 ≤ (en : Int32).toNatClampNeg → S.2.1 213 k9 = vl k9) (I : CX o S) (sz : Nat) : Met l yX6_productStep (bw yX6_productStep cX6_productStep 1 (some .int)) ({ frames := 2, cells := 0, slots := 0, locals := 53 } : Room) (dk_Pc g D (dg_w g shX o rfX S) sz [.ref (o + 209)]) (va_Qi (fun (r : Int32) S' => S' = S ∧ ((-14) ≤ (r).toInt ∧ (r).toInt ≤ 0) ∧ (m_hid ((r).toInt ≠ 0 → (r).toInt = d_po kd vl ((n0 : Int32).toNatClampNeg))) ∧ ((r).toInt ≠ 0 ↔ g_po kd vl (n0 : Int32).toNatClampNeg = true) ∧ True) (dg_B g D shX o rfX) (dg_A o shX.length sz)) 0 0 (dg_A o shX.length sz) := by
  refine dg_met (cc := cX6_productStep) (maxL := 1) (ret := (some .int)) (dk_dq rfl) rfl (Nat.le_of_ble_eq_true rfl) ?_
  intro p e s m args below meth c A hAe harg hx hb hr hml hts hown hlocks hin hP K hS hA1 hA ST hsz ls hl
  rw [← hAe]
  have F : CallFix p m c cX6_productStep 1 s args (bw yX6_productStep cX6_productStep 1 (some .int)) RX6 := ⟨hx, hb, hml, hown, hts⟩
  have hl : lv_has ls 1 [(0, .ref (o + 209))] := hl
  have M_0 : dg_sm shX [] [] S S := dg_sm.rf
  refine lv_aload_n hx hb dX6_productStep_0 rfl (lv_at hl 0 rfl) ?_
  refine lv_bipush (v := 42) hx hb dX6_productStep_1 (by decide +kernel) ?_
  refine dg_calli hS hA1 hA (va_runV (As := [.int 42]) (rest := []) F (c_rd_isSign l g D o S 42 en kd vl n0 f_n0 (by omega) ke f_ke (by omega) (by omega) hkd hvl I s.heap.size) (cwV 1 hts (bw_V wB_34 wB_35 wB_36 wB_24 wB_33) rfl rfl rfl (by decide +kernel) ⟨Nat.le_of_ble_eq_true rfl, Nat.le_of_ble_eq_true rfl⟩) (dg_preV sX_209 rfl K ST hP hS hA1 hA) rfl rfl hl.1 rfl (lv_room (Nat.le_of_ble_eq_true rfl)) dX6_productStep_3 ⟨Nat.le_of_ble_eq_true rfl, Nat.le_of_ble_eq_true rfl⟩) (fun x_1 S_2 hw_2 H locs hP hS => ?_)
  rw [hw_2.1] at hP
  obtain ⟨hq_2, w_2_0, w_2_1, -⟩ := hw_2
  have hz_3 : (42 : Int32).toInt = 42 := by decide +kernel
  have w_2_0 : 0 ≤ (x_1).toInt ∧ (x_1).toInt ≤ 1 := w_2_0
  have w_2_1 : (x_1).toInt = 1 ↔ g_s kd vl ((42 : Int32)).toInt (n0 : Int32).toNatClampNeg = true := w_2_1
  refine lv_if_eq (tgt := 12) hx hb dX6_productStep_6 (dk_dq rfl) (fun c_4 => ?_) (fun c_4 => ?_)
  · as_aux_lemma =>
      have jc_4 := dk_eqc (k := 0) (by decide +kernel) c_4
      have qw_2_1 : g_s kd vl 42 (n0 : Int32).toNatClampNeg = false := by have h9 := g_iff_f w_2_1 (by omega); rw [show (42 : Int32).toInt = 42 from by decide +kernel] at h9; exact h9
      refine lv_aload_n hx hb dX6_productStep_12 rfl (lv_at hl 0 rfl) ?_
      refine lv_bipush (v := 47) hx hb dX6_productStep_13 (by decide +kernel) ?_
      refine dg_calli hS hA1 hA (va_runV (As := [.int 47]) (rest := []) F (c_rd_isSign l g D o S 47 en kd vl n0 f_n0 (by omega) ke f_ke (by omega) (by omega) hkd hvl I H.size) (cwV 1 hts (bw_V wB_34 wB_35 wB_36 wB_24 wB_33) rfl rfl rfl (by decide +kernel) ⟨Nat.le_of_ble_eq_true rfl, Nat.le_of_ble_eq_true rfl⟩) (dg_preV sX_209 rfl K ST hP hS hA1 hA) rfl rfl hl.1 rfl (lv_room (Nat.le_of_ble_eq_true rfl)) dX6_productStep_15 ⟨Nat.le_of_ble_eq_true rfl, Nat.le_of_ble_eq_true rfl⟩) (fun x_5 S_6 hw_6 H locs hP hS => ?_)
      rw [hw_6.1] at hP
      obtain ⟨hq_6, w_6_0, w_6_1, -⟩ := hw_6
      have hz_7 : (47 : Int32).toInt = 47 := by decide +kernel
      have w_6_0 : 0 ≤ (x_5).toInt ∧ (x_5).toInt ≤ 1 := w_6_0
      have w_6_1 : (x_5).toInt = 1 ↔ g_s kd vl ((47 : Int32)).toInt (n0 : Int32).toNatClampNeg = true := w_6_1
      refine lv_if_eq (tgt := 24) hx hb dX6_productStep_18 (dk_dq rfl) (fun c_8 => ?_) (fun c_8 => ?_)
      · as_aux_lemma =>
          have jc_8 := dk_eqc (k := 0) (by decide +kernel) c_8
          have qw_6_1 : g_s kd vl 47 (n0 : Int32).toNatClampNeg = false := by have h9 := g_iff_f w_6_1 (by omega); rw [show (47 : Int32).toInt = 47 from by decide +kernel] at h9; exact h9
          refine lv_aload_n hx hb dX6_productStep_24 rfl (lv_at hl 0 rfl) ?_
          refine lv_bipush (v := 37) hx hb dX6_productStep_25 (by decide +kernel) ?_
          refine dg_calli hS hA1 hA (va_runV (As := [.int 37]) (rest := []) F (c_rd_isSign l g D o S 37 en kd vl n0 f_n0 (by omega) ke f_ke (by omega) (by omega) hkd hvl I H.size) (cwV 1 hts (bw_V wB_34 wB_35 wB_36 wB_24 wB_33) rfl rfl rfl (by decide +kernel) ⟨Nat.le_of_ble_eq_true rfl, Nat.le_of_ble_eq_true rfl⟩) (dg_preV sX_209 rfl K ST hP hS hA1 hA) rfl rfl hl.1 rfl (lv_room (Nat.le_of_ble_eq_true rfl)) dX6_productStep_27 ⟨Nat.le_of_ble_eq_true rfl, Nat.le_of_ble_eq_true rfl⟩) (fun x_9 S_10 hw_10 H locs hP hS => ?_)
          rw [hw_10.1] at hP
          obtain ⟨hq_10, w_10_0, w_10_1, -⟩ := hw_10
          have hz_11 : (37 : Int32).toInt = 37 := by decide +kernel
          have w_10_0 : 0 ≤ (x_9).toInt ∧ (x_9).toInt ≤ 1 := w_10_0
          have w_10_1 : (x_9).toInt = 1 ↔ g_s kd vl ((37 : Int32)).toInt (n0 : Int32).toNatClampNeg = true := w_10_1
          refine lv_if_eq (tgt := 38) hx hb dX6_productStep_30 (dk_dq rfl) (fun c_12 => ?_) (fun c_12 => ?_)
          · have jc_12 := dk_eqc (k := 0) (by decide +kernel) c_12
            have qw_10_1 : g_s kd vl 37 (n0 : Int32).toNatClampNeg = false := by have h9 := g_iff_f w_10_1 (by omega); rw [show (37 : Int32).toInt = 37 from by decide +kernel] at h9; exact h9
            refine lv_iconst (v := 0) hx hb dX6_productStep_38 (by decide +kernel) ?_
            have hz_13 : (0 : Int32).toInt = 0 := by decide +kernel
            have hz_14 : (0 : Int32).toInt = 0 := by decide +kernel
            have hz_15 : (0 : Int32).toInt = 0 := by decide +kernel
            refine W.widen (k := 0) (n := 0) (Nat.le_of_ble_eq_true rfl) (Nat.le_of_ble_eq_true rfl) ?_
            exact dg_iret hx hb hr hlocks rfl hP hS ⟨rfl, (by decide +kernel), (m_hid.mk (fun q9 => absurd (by decide +kernel) q9)), ⟨fun q9 => absurd (by decide +kernel) q9, fun q9 => absurd q9 (by simp [g_po, qw_2_1, qw_6_1, qw_10_1])⟩, trivial⟩ dX6_productStep_39
          · have jc_12 := dk_neqc (k := 0) (by decide +kernel) c_12
            have qw_10_1 : g_s kd vl 37 (n0 : Int32).toNatClampNeg = true := by have h9 := w_10_1.mp (by omega); rw [show (37 : Int32).toInt = 37 from by decide +kernel] at h9; exact h9
            refine lv_bipush (v := (-14)) hx hb dX6_productStep_33 (by decide +kernel) ?_
            refine lv_goto (tgt := 39) hx hb dX6_productStep_35 (dk_dq rfl) ?_
            have hz_16 : (-14 : Int32).toInt = (-14) := by decide +kernel
            have hz_17 : (-14 : Int32).toInt = (-14) := by decide +kernel
            have hz_18 : (-14 : Int32).toInt = (-14) := by decide +kernel
            refine W.widen (k := 0) (n := 0) (Nat.le_of_ble_eq_true rfl) (Nat.le_of_ble_eq_true rfl) ?_
            exact dg_iret hx hb hr hlocks rfl hP hS ⟨rfl, (by decide +kernel), (m_hid.mk (fun _ => by rw [show (-14 : Int32).toInt = -14 from by decide +kernel]; simp [d_po, qw_2_1, qw_6_1, qw_10_1])), ⟨fun _ => by simp [g_po, qw_2_1, qw_6_1, qw_10_1], fun _ => by decide +kernel⟩, trivial⟩ dX6_productStep_39
      · have jc_8 := dk_neqc (k := 0) (by decide +kernel) c_8
        have qw_6_1 : g_s kd vl 47 (n0 : Int32).toNatClampNeg = true := by have h9 := w_6_1.mp (by omega); rw [show (47 : Int32).toInt = 47 from by decide +kernel] at h9; exact h9
        refine lv_bipush (v := (-13)) hx hb dX6_productStep_21 (by decide +kernel) ?_
        have hz_19 : (-13 : Int32).toInt = (-13) := by decide +kernel
        have hz_20 : (-13 : Int32).toInt = (-13) := by decide +kernel
        have hz_21 : (-13 : Int32).toInt = (-13) := by decide +kernel
        refine W.widen (k := 0) (n := 0) (Nat.le_of_ble_eq_true rfl) (Nat.le_of_ble_eq_true rfl) ?_
        exact dg_iret hx hb hr hlocks rfl hP hS ⟨rfl, (by decide +kernel), (m_hid.mk (fun _ => by rw [show (-13 : Int32).toInt = -13 from by decide +kernel]; simp [d_po, qw_2_1, qw_6_1])), ⟨fun _ => by simp [g_po, qw_2_1, qw_6_1], fun _ => by decide +kernel⟩, trivial⟩ dX6_productStep_23
  · have jc_4 := dk_neqc (k := 0) (by decide +kernel) c_4
    have qw_2_1 : g_s kd vl 42 (n0 : Int32).toNatClampNeg = true := by have h9 := w_2_1.mp (by omega); rw [show (42 : Int32).toInt = 42 from by decide +kernel] at h9; exact h9
    refine lv_bipush (v := (-12)) hx hb dX6_productStep_9 (by decide +kernel) ?_
    have hz_22 : (-12 : Int32).toInt = (-12) := by decide +kernel
    have hz_23 : (-12 : Int32).toInt = (-12) := by decide +kernel
    have hz_24 : (-12 : Int32).toInt = (-12) := by decide +kernel
    refine W.widen (k := 0) (n := 0) (Nat.le_of_ble_eq_true rfl) (Nat.le_of_ble_eq_true rfl) ?_
    exact dg_iret hx hb hr hlocks rfl hP hS ⟨rfl, (by decide +kernel), (m_hid.mk (fun _ => by rw [show (-12 : Int32).toInt = -12 from by decide +kernel]; simp [d_po, qw_2_1])), ⟨fun _ => by simp [g_po, qw_2_1], fun _ => by decide +kernel⟩, trivial⟩ dX6_productStep_11
set_option maxHeartbeats 8000000 in
set_option maxRecDepth 100000 in
theorem c_rd_factStep (l : Launch) (g : Nat → ClassId) (D : va_G) (o : Nat) (S : dg_S) (en : Int32) (kd : Nat → Int32) (vl : Nat → Int32) (n0 : Int32) (f_n0 : S.1 209 4 = .int n0) (b_n0 : 0 ≤ (n0).toInt ∧ (n0).toInt ≤ 1600) (ru : Int32) (f_ru : S.1 209 6 = .int ru) (b_ru : 0 ≤ (ru).toInt ∧ (ru).toInt ≤ 2) (ke : Int32) (f_ke : S.2.1 211 (en : Int32).toNatClampNeg = ke) (b_ke : 0 ≤ (ke).toInt ∧ (ke).toInt ≤ 0) (hne : (n0).toInt ≤ (en).toInt ∧ (en).toInt ≤ 1600 ∧ 0 ≤ (en).toInt) (hkd : ∀ k9 : Nat, k9 ≤ (en : Int32).toNatClampNeg → S.2.1 211 k9 = kd k9) (hvl : ∀ k9 : Nat, k9 ≤ (en : Int32).toNatClampNeg → S.2.1 213 k9 = vl k9) (I : CX o S) (sz : Nat) : Met l yX6_factStep (bw yX6_factStep cX6_factStep 1 (some .int)) ({ frames := 1, cells := 0, slots := 0, locals := 32 } : Room) (dk_Pc g D (dg_w g shX o rfX S) sz [.ref (o + 209)]) (va_Qi (fun (r : Int32) S' => S' = S ∧ ((-6) ≤ (r).toInt ∧ (r).toInt ≤ 0) ∧ (m_hid ((r).toInt ≠ 0 → (r).toInt = d_fw kd vl ((n0 : Int32).toNatClampNeg))) ∧ ((r).toInt ≠ 0 ↔ g_fw kd vl (ru).toInt (n0 : Int32).toNatClampNeg = true) ∧ True) (dg_B g D shX o rfX) (dg_A o shX.length sz)) 0 0 (dg_A o shX.length sz) := by
  refine dg_met (cc := cX6_factStep) (maxL := 1) (ret := (some .int)) (dk_dq rfl) rfl (Nat.le_of_ble_eq_true rfl) ?_
  intro p e s m args below meth c A hAe harg hx hb hr hml hts hown hlocks hin hP K hS hA1 hA ST hsz ls hl
  rw [← hAe]
  have F : CallFix p m c cX6_factStep 1 s args (bw yX6_factStep cX6_factStep 1 (some .int)) RX6 := ⟨hx, hb, hml, hown, hts⟩
  have hl : lv_has ls 1 [(0, .ref (o + 209))] := hl
  have M_0 : dg_sm shX [] [] S S := dg_sm.rf
  refine lv_aload_n hx hb dX6_factStep_0 rfl (lv_at hl 0 rfl) ?_
  refine dg_get (C := RX6) (T := TX6) (N := 8) hx hb hts (fun w h => bw_mem (wU_X6 w h)) hown K hP sX_209 rfl 2 (dk_dq rfl) (hts _ (bw_mem wB_13)) (fun _ h9 => h9) (v := .ref (o + 210)) (show S.1 209 2 = .ref (o + 210) from dg_I.rel (d := 1) I sX_209 (by decide +kernel)) dX6_factStep_1 ?_
  refine dg_get (C := RX9) (T := TX9) (N := 5) hx hb hts (fun w h => bw_mem (wU_X9 w h)) hown K hP sX_210 rfl 0 (dk_dq rfl) (hts _ (bw_mem wB_14)) (fun _ h9 => h9) (v := .ref (o + 211)) (show S.1 210 0 = .ref (o + 211) from dg_I.rel (d := 1) I sX_210 (by decide +kernel)) dX6_factStep_4 ?_
  refine lv_aload_n hx hb dX6_factStep_7 rfl (lv_at hl 0 rfl) ?_
  refine dg_get (C := RX6) (T := TX6) (N := 8) hx hb hts (fun w h => bw_mem (wU_X6 w h)) hown K hP sX_209 rfl 4 (dk_dq rfl) (hts _ (bw_mem wB_15)) (fun _ h9 => h9) (v := .int n0) f_n0 dX6_factStep_8 ?_
  have hin_1 : vp_in n0 1601 := (dk_inv2 (by omega))
  refine dg_iald hx hb K hP sX_211 hin_1 dX6_factStep_11 (fun x_2 ex_2 => ?_)
  have hs_x_2 : (n0 : Int32).toInt = (en).toInt → (x_2).toInt = (ke).toInt := fun h => by have h9 := Int32.toInt_inj.mp h; rw [ex_2, h9]; exact congrArg Int32.toInt f_ke
  have kx_2 : (kd (n0 : Int32).toNatClampNeg).toInt = (x_2).toInt := by rw [ex_2, hkd _ (by unfold Int32.toNatClampNeg; omega)]
  refine lv_iconst (v := 1) hx hb dX6_factStep_12 (by decide +kernel) ?_
  refine lv_icmp_eq (tgt := 18) hx hb dX6_factStep_13 (dk_dq rfl) (fun c_3 => ?_) (fun c_3 => ?_)
  · as_aux_lemma =>
      have jc_3 := dk_eqc (k := 1) (by decide +kernel) c_3
      refine lv_aload_n hx hb dX6_factStep_18 rfl (lv_at hl 0 rfl) ?_
      refine dg_get (C := RX6) (T := TX6) (N := 8) hx hb hts (fun w h => bw_mem (wU_X6 w h)) hown K hP sX_209 rfl 2 (dk_dq rfl) (hts _ (bw_mem wB_13)) (fun _ h9 => h9) (v := .ref (o + 210)) (show S.1 209 2 = .ref (o + 210) from dg_I.rel (d := 1) I sX_209 (by decide +kernel)) dX6_factStep_19 ?_
      refine dg_get (C := RX9) (T := TX9) (N := 5) hx hb hts (fun w h => bw_mem (wU_X9 w h)) hown K hP sX_210 rfl 2 (dk_dq rfl) (hts _ (bw_mem wB_16)) (fun _ h9 => h9) (v := .ref (o + 213)) (show S.1 210 2 = .ref (o + 213) from dg_I.rel (d := 3) I sX_210 (by decide +kernel)) dX6_factStep_22 ?_
      refine lv_aload_n hx hb dX6_factStep_25 rfl (lv_at hl 0 rfl) ?_
      refine dg_get (C := RX6) (T := TX6) (N := 8) hx hb hts (fun w h => bw_mem (wU_X6 w h)) hown K hP sX_209 rfl 4 (dk_dq rfl) (hts _ (bw_mem wB_15)) (fun _ h9 => h9) (v := .int n0) f_n0 dX6_factStep_26 ?_
      have hin_4 : vp_in n0 1601 := (dk_inv2 (by omega))
      refine dg_iald hx hb K hP sX_213 hin_4 dX6_factStep_29 (fun x_5 ex_5 => ?_)
      have kx_5 : (vl (n0 : Int32).toNatClampNeg).toInt = (x_5).toInt := by rw [ex_5, hvl _ (by unfold Int32.toNatClampNeg; omega)]
      rcases (show ((x_5).toInt < 5 ∨ 19 < (x_5).toInt) ∨ (x_5).toInt = 5 ∨ (x_5).toInt = 6 ∨ (x_5).toInt = 7 ∨ (x_5).toInt = 8 ∨ (x_5).toInt = 9 ∨ (x_5).toInt = 10 ∨ (x_5).toInt = 11 ∨ (x_5).toInt = 12 ∨ (x_5).toInt = 13 ∨ (x_5).toInt = 14 ∨ (x_5).toInt = 15 ∨ (x_5).toInt = 16 ∨ (x_5).toInt = 17 ∨ (x_5).toInt = 18 ∨ (x_5).toInt = 19 by omega) with jc_6 | jc_6 | jc_6 | jc_6 | jc_6 | jc_6 | jc_6 | jc_6 | jc_6 | jc_6 | jc_6 | jc_6 | jc_6 | jc_6 | jc_6 | jc_6
      · refine lv_tableOut (tgt := 154) hx hb dX6_factStep_30 jc_6 (dk_dq rfl) ?_
        refine lv_iconst (v := 0) hx hb dX6_factStep_154 (by decide +kernel) ?_
        have hz_7 : (0 : Int32).toInt = 0 := by decide +kernel
        have hz_8 : (0 : Int32).toInt = 0 := by decide +kernel
        have hz_9 : (0 : Int32).toInt = 0 := by decide +kernel
        refine W.widen (k := 0) (n := 0) (Nat.le_of_ble_eq_true rfl) (Nat.le_of_ble_eq_true rfl) ?_
        exact dg_iret hx hb hr hlocks rfl hP hS ⟨rfl, (by decide +kernel), (m_hid.mk (fun q9 => absurd (by decide +kernel) q9)), (by rw [g_fw_iff]; omega), trivial⟩ dX6_factStep_155
      · refine lv_tableIn (off := 74) (tgt := 104) hx hb dX6_factStep_30 (by rw [jc_6]; decide) (by rw [jc_6]; decide) (by rw [jc_6]; decide +kernel) (dk_dq rfl) ?_
        refine lv_iconst (v := (-1)) hx hb dX6_factStep_104 (by decide +kernel) ?_
        have hz_10 : (-1 : Int32).toInt = (-1) := by decide +kernel
        have hz_11 : (-1 : Int32).toInt = (-1) := by decide +kernel
        have hz_12 : (-1 : Int32).toInt = (-1) := by decide +kernel
        refine W.widen (k := 0) (n := 0) (Nat.le_of_ble_eq_true rfl) (Nat.le_of_ble_eq_true rfl) ?_
        exact dg_iret hx hb hr hlocks rfl hP hS ⟨rfl, (by decide +kernel), (m_hid.mk (fun _ => by rw [show (-1 : Int32).toInt = -1 from by decide +kernel, d_fw_1 (by omega) (by omega)])), (by rw [g_fw_iff]; omega), trivial⟩ dX6_factStep_105
      · refine lv_tableIn (off := 124) (tgt := 154) hx hb dX6_factStep_30 (by rw [jc_6]; decide) (by rw [jc_6]; decide) (by rw [jc_6]; decide +kernel) (dk_dq rfl) ?_
        refine lv_iconst (v := 0) hx hb dX6_factStep_154 (by decide +kernel) ?_
        have hz_13 : (0 : Int32).toInt = 0 := by decide +kernel
        have hz_14 : (0 : Int32).toInt = 0 := by decide +kernel
        have hz_15 : (0 : Int32).toInt = 0 := by decide +kernel
        refine W.widen (k := 0) (n := 0) (Nat.le_of_ble_eq_true rfl) (Nat.le_of_ble_eq_true rfl) ?_
        exact dg_iret hx hb hr hlocks rfl hP hS ⟨rfl, (by decide +kernel), (m_hid.mk (fun q9 => absurd (by decide +kernel) q9)), (by rw [g_fw_iff]; omega), trivial⟩ dX6_factStep_155
      · refine lv_tableIn (off := 124) (tgt := 154) hx hb dX6_factStep_30 (by rw [jc_6]; decide) (by rw [jc_6]; decide) (by rw [jc_6]; decide +kernel) (dk_dq rfl) ?_
        refine lv_iconst (v := 0) hx hb dX6_factStep_154 (by decide +kernel) ?_
        have hz_16 : (0 : Int32).toInt = 0 := by decide +kernel
        have hz_17 : (0 : Int32).toInt = 0 := by decide +kernel
        have hz_18 : (0 : Int32).toInt = 0 := by decide +kernel
        refine W.widen (k := 0) (n := 0) (Nat.le_of_ble_eq_true rfl) (Nat.le_of_ble_eq_true rfl) ?_
        exact dg_iret hx hb hr hlocks rfl hP hS ⟨rfl, (by decide +kernel), (m_hid.mk (fun q9 => absurd (by decide +kernel) q9)), (by rw [g_fw_iff]; omega), trivial⟩ dX6_factStep_155
      · refine lv_tableIn (off := 124) (tgt := 154) hx hb dX6_factStep_30 (by rw [jc_6]; decide) (by rw [jc_6]; decide) (by rw [jc_6]; decide +kernel) (dk_dq rfl) ?_
        refine lv_iconst (v := 0) hx hb dX6_factStep_154 (by decide +kernel) ?_
        have hz_19 : (0 : Int32).toInt = 0 := by decide +kernel
        have hz_20 : (0 : Int32).toInt = 0 := by decide +kernel
        have hz_21 : (0 : Int32).toInt = 0 := by decide +kernel
        refine W.widen (k := 0) (n := 0) (Nat.le_of_ble_eq_true rfl) (Nat.le_of_ble_eq_true rfl) ?_
        exact dg_iret hx hb hr hlocks rfl hP hS ⟨rfl, (by decide +kernel), (m_hid.mk (fun q9 => absurd (by decide +kernel) q9)), (by rw [g_fw_iff]; omega), trivial⟩ dX6_factStep_155
      · refine lv_tableIn (off := 124) (tgt := 154) hx hb dX6_factStep_30 (by rw [jc_6]; decide) (by rw [jc_6]; decide) (by rw [jc_6]; decide +kernel) (dk_dq rfl) ?_
        refine lv_iconst (v := 0) hx hb dX6_factStep_154 (by decide +kernel) ?_
        have hz_22 : (0 : Int32).toInt = 0 := by decide +kernel
        have hz_23 : (0 : Int32).toInt = 0 := by decide +kernel
        have hz_24 : (0 : Int32).toInt = 0 := by decide +kernel
        refine W.widen (k := 0) (n := 0) (Nat.le_of_ble_eq_true rfl) (Nat.le_of_ble_eq_true rfl) ?_
        exact dg_iret hx hb hr hlocks rfl hP hS ⟨rfl, (by decide +kernel), (m_hid.mk (fun q9 => absurd (by decide +kernel) q9)), (by rw [g_fw_iff]; omega), trivial⟩ dX6_factStep_155
      · refine lv_tableIn (off := 124) (tgt := 154) hx hb dX6_factStep_30 (by rw [jc_6]; decide) (by rw [jc_6]; decide) (by rw [jc_6]; decide +kernel) (dk_dq rfl) ?_
        refine lv_iconst (v := 0) hx hb dX6_factStep_154 (by decide +kernel) ?_
        have hz_25 : (0 : Int32).toInt = 0 := by decide +kernel
        have hz_26 : (0 : Int32).toInt = 0 := by decide +kernel
        have hz_27 : (0 : Int32).toInt = 0 := by decide +kernel
        refine W.widen (k := 0) (n := 0) (Nat.le_of_ble_eq_true rfl) (Nat.le_of_ble_eq_true rfl) ?_
        exact dg_iret hx hb hr hlocks rfl hP hS ⟨rfl, (by decide +kernel), (m_hid.mk (fun q9 => absurd (by decide +kernel) q9)), (by rw [g_fw_iff]; omega), trivial⟩ dX6_factStep_155
      · refine lv_tableIn (off := 124) (tgt := 154) hx hb dX6_factStep_30 (by rw [jc_6]; decide) (by rw [jc_6]; decide) (by rw [jc_6]; decide +kernel) (dk_dq rfl) ?_
        refine lv_iconst (v := 0) hx hb dX6_factStep_154 (by decide +kernel) ?_
        have hz_28 : (0 : Int32).toInt = 0 := by decide +kernel
        have hz_29 : (0 : Int32).toInt = 0 := by decide +kernel
        have hz_30 : (0 : Int32).toInt = 0 := by decide +kernel
        refine W.widen (k := 0) (n := 0) (Nat.le_of_ble_eq_true rfl) (Nat.le_of_ble_eq_true rfl) ?_
        exact dg_iret hx hb hr hlocks rfl hP hS ⟨rfl, (by decide +kernel), (m_hid.mk (fun q9 => absurd (by decide +kernel) q9)), (by rw [g_fw_iff]; omega), trivial⟩ dX6_factStep_155
      · refine lv_tableIn (off := 124) (tgt := 154) hx hb dX6_factStep_30 (by rw [jc_6]; decide) (by rw [jc_6]; decide) (by rw [jc_6]; decide +kernel) (dk_dq rfl) ?_
        refine lv_iconst (v := 0) hx hb dX6_factStep_154 (by decide +kernel) ?_
        have hz_31 : (0 : Int32).toInt = 0 := by decide +kernel
        have hz_32 : (0 : Int32).toInt = 0 := by decide +kernel
        have hz_33 : (0 : Int32).toInt = 0 := by decide +kernel
        refine W.widen (k := 0) (n := 0) (Nat.le_of_ble_eq_true rfl) (Nat.le_of_ble_eq_true rfl) ?_
        exact dg_iret hx hb hr hlocks rfl hP hS ⟨rfl, (by decide +kernel), (m_hid.mk (fun q9 => absurd (by decide +kernel) q9)), (by rw [g_fw_iff]; omega), trivial⟩ dX6_factStep_155
      · refine lv_tableIn (off := 124) (tgt := 154) hx hb dX6_factStep_30 (by rw [jc_6]; decide) (by rw [jc_6]; decide) (by rw [jc_6]; decide +kernel) (dk_dq rfl) ?_
        refine lv_iconst (v := 0) hx hb dX6_factStep_154 (by decide +kernel) ?_
        have hz_34 : (0 : Int32).toInt = 0 := by decide +kernel
        have hz_35 : (0 : Int32).toInt = 0 := by decide +kernel
        have hz_36 : (0 : Int32).toInt = 0 := by decide +kernel
        refine W.widen (k := 0) (n := 0) (Nat.le_of_ble_eq_true rfl) (Nat.le_of_ble_eq_true rfl) ?_
        exact dg_iret hx hb hr hlocks rfl hP hS ⟨rfl, (by decide +kernel), (m_hid.mk (fun q9 => absurd (by decide +kernel) q9)), (by rw [g_fw_iff]; omega), trivial⟩ dX6_factStep_155
      · refine lv_tableIn (off := 124) (tgt := 154) hx hb dX6_factStep_30 (by rw [jc_6]; decide) (by rw [jc_6]; decide) (by rw [jc_6]; decide +kernel) (dk_dq rfl) ?_
        refine lv_iconst (v := 0) hx hb dX6_factStep_154 (by decide +kernel) ?_
        have hz_37 : (0 : Int32).toInt = 0 := by decide +kernel
        have hz_38 : (0 : Int32).toInt = 0 := by decide +kernel
        have hz_39 : (0 : Int32).toInt = 0 := by decide +kernel
        refine W.widen (k := 0) (n := 0) (Nat.le_of_ble_eq_true rfl) (Nat.le_of_ble_eq_true rfl) ?_
        exact dg_iret hx hb hr hlocks rfl hP hS ⟨rfl, (by decide +kernel), (m_hid.mk (fun q9 => absurd (by decide +kernel) q9)), (by rw [g_fw_iff]; omega), trivial⟩ dX6_factStep_155
      · refine lv_tableIn (off := 76) (tgt := 106) hx hb dX6_factStep_30 (by rw [jc_6]; decide) (by rw [jc_6]; decide) (by rw [jc_6]; decide +kernel) (dk_dq rfl) ?_
        refine lv_bipush (v := (-2)) hx hb dX6_factStep_106 (by decide +kernel) ?_
        have hz_40 : (-2 : Int32).toInt = (-2) := by decide +kernel
        have hz_41 : (-2 : Int32).toInt = (-2) := by decide +kernel
        have hz_42 : (-2 : Int32).toInt = (-2) := by decide +kernel
        refine W.widen (k := 0) (n := 0) (Nat.le_of_ble_eq_true rfl) (Nat.le_of_ble_eq_true rfl) ?_
        exact dg_iret hx hb hr hlocks rfl hP hS ⟨rfl, (by decide +kernel), (m_hid.mk (fun _ => by rw [show (-2 : Int32).toInt = -2 from by decide +kernel, d_fw_2 (by omega) (by omega)])), (by rw [g_fw_iff]; omega), trivial⟩ dX6_factStep_108
      · refine lv_tableIn (off := 79) (tgt := 109) hx hb dX6_factStep_30 (by rw [jc_6]; decide) (by rw [jc_6]; decide) (by rw [jc_6]; decide +kernel) (dk_dq rfl) ?_
        refine lv_bipush (v := (-3)) hx hb dX6_factStep_109 (by decide +kernel) ?_
        have hz_43 : (-3 : Int32).toInt = (-3) := by decide +kernel
        have hz_44 : (-3 : Int32).toInt = (-3) := by decide +kernel
        have hz_45 : (-3 : Int32).toInt = (-3) := by decide +kernel
        refine W.widen (k := 0) (n := 0) (Nat.le_of_ble_eq_true rfl) (Nat.le_of_ble_eq_true rfl) ?_
        exact dg_iret hx hb hr hlocks rfl hP hS ⟨rfl, (by decide +kernel), (m_hid.mk (fun _ => by rw [show (-3 : Int32).toInt = -3 from by decide +kernel, d_fw_3 (by omega) (by omega)])), (by rw [g_fw_iff]; omega), trivial⟩ dX6_factStep_111
      · as_aux_lemma =>
          refine lv_tableIn (off := 82) (tgt := 112) hx hb dX6_factStep_30 (by rw [jc_6]; decide) (by rw [jc_6]; decide) (by rw [jc_6]; decide +kernel) (dk_dq rfl) ?_
          refine lv_aload_n hx hb dX6_factStep_112 rfl (lv_at hl 0 rfl) ?_
          refine dg_get (C := RX6) (T := TX6) (N := 8) hx hb hts (fun w h => bw_mem (wU_X6 w h)) hown K hP sX_209 rfl 6 (dk_dq rfl) (hts _ (bw_mem wB_40)) (fun _ h9 => h9) (v := .int ru) f_ru dX6_factStep_113 ?_
          refine lv_if_ne (tgt := 124) hx hb dX6_factStep_116 (dk_dq rfl) (fun c_46 => ?_) (fun c_46 => ?_)
          · have jc_46 := dk_neqc (k := 0) (by decide +kernel) c_46
            refine lv_iconst (v := 0) hx hb dX6_factStep_124 (by decide +kernel) ?_
            have hz_47 : (0 : Int32).toInt = 0 := by decide +kernel
            have hz_48 : (0 : Int32).toInt = 0 := by decide +kernel
            have hz_49 : (0 : Int32).toInt = 0 := by decide +kernel
            refine W.widen (k := 0) (n := 0) (Nat.le_of_ble_eq_true rfl) (Nat.le_of_ble_eq_true rfl) ?_
            exact dg_iret hx hb hr hlocks rfl hP hS ⟨rfl, (by decide +kernel), (m_hid.mk (fun q9 => absurd (by decide +kernel) q9)), (by rw [g_fw_iff]; omega), trivial⟩ dX6_factStep_125
          · have jc_46 := dk_eqc (k := 0) (by decide +kernel) c_46
            refine lv_bipush (v := (-4)) hx hb dX6_factStep_119 (by decide +kernel) ?_
            refine lv_goto (tgt := 125) hx hb dX6_factStep_121 (dk_dq rfl) ?_
            have hz_50 : (-4 : Int32).toInt = (-4) := by decide +kernel
            have hz_51 : (-4 : Int32).toInt = (-4) := by decide +kernel
            have hz_52 : (-4 : Int32).toInt = (-4) := by decide +kernel
            refine W.widen (k := 0) (n := 0) (Nat.le_of_ble_eq_true rfl) (Nat.le_of_ble_eq_true rfl) ?_
            exact dg_iret hx hb hr hlocks rfl hP hS ⟨rfl, (by decide +kernel), (m_hid.mk (fun _ => by rw [show (-4 : Int32).toInt = -4 from by decide +kernel, d_fw_4 (by omega) (by omega)])), (by rw [g_fw_iff]; omega), trivial⟩ dX6_factStep_125
      · as_aux_lemma =>
          refine lv_tableIn (off := 96) (tgt := 126) hx hb dX6_factStep_30 (by rw [jc_6]; decide) (by rw [jc_6]; decide) (by rw [jc_6]; decide +kernel) (dk_dq rfl) ?_
          refine lv_aload_n hx hb dX6_factStep_126 rfl (lv_at hl 0 rfl) ?_
          refine dg_get (C := RX6) (T := TX6) (N := 8) hx hb hts (fun w h => bw_mem (wU_X6 w h)) hown K hP sX_209 rfl 6 (dk_dq rfl) (hts _ (bw_mem wB_40)) (fun _ h9 => h9) (v := .int ru) f_ru dX6_factStep_127 ?_
          refine lv_if_ne (tgt := 137) hx hb dX6_factStep_130 (dk_dq rfl) (fun c_53 => ?_) (fun c_53 => ?_)
          · have jc_53 := dk_neqc (k := 0) (by decide +kernel) c_53
            refine lv_bipush (v := (-5)) hx hb dX6_factStep_137 (by decide +kernel) ?_
            have hz_54 : (-5 : Int32).toInt = (-5) := by decide +kernel
            have hz_55 : (-5 : Int32).toInt = (-5) := by decide +kernel
            have hz_56 : (-5 : Int32).toInt = (-5) := by decide +kernel
            refine W.widen (k := 0) (n := 0) (Nat.le_of_ble_eq_true rfl) (Nat.le_of_ble_eq_true rfl) ?_
            exact dg_iret hx hb hr hlocks rfl hP hS ⟨rfl, (by decide +kernel), (m_hid.mk (fun _ => by rw [show (-5 : Int32).toInt = -5 from by decide +kernel, d_fw_5 (by omega) (by omega)])), (by rw [g_fw_iff]; omega), trivial⟩ dX6_factStep_139
          · have jc_53 := dk_eqc (k := 0) (by decide +kernel) c_53
            refine lv_iconst (v := 0) hx hb dX6_factStep_133 (by decide +kernel) ?_
            refine lv_goto (tgt := 139) hx hb dX6_factStep_134 (dk_dq rfl) ?_
            have hz_57 : (0 : Int32).toInt = 0 := by decide +kernel
            have hz_58 : (0 : Int32).toInt = 0 := by decide +kernel
            have hz_59 : (0 : Int32).toInt = 0 := by decide +kernel
            refine W.widen (k := 0) (n := 0) (Nat.le_of_ble_eq_true rfl) (Nat.le_of_ble_eq_true rfl) ?_
            exact dg_iret hx hb hr hlocks rfl hP hS ⟨rfl, (by decide +kernel), (m_hid.mk (fun q9 => absurd (by decide +kernel) q9)), (by rw [g_fw_iff]; omega), trivial⟩ dX6_factStep_139
      · as_aux_lemma =>
          refine lv_tableIn (off := 110) (tgt := 140) hx hb dX6_factStep_30 (by rw [jc_6]; decide) (by rw [jc_6]; decide) (by rw [jc_6]; decide +kernel) (dk_dq rfl) ?_
          refine lv_aload_n hx hb dX6_factStep_140 rfl (lv_at hl 0 rfl) ?_
          refine dg_get (C := RX6) (T := TX6) (N := 8) hx hb hts (fun w h => bw_mem (wU_X6 w h)) hown K hP sX_209 rfl 6 (dk_dq rfl) (hts _ (bw_mem wB_40)) (fun _ h9 => h9) (v := .int ru) f_ru dX6_factStep_141 ?_
          refine lv_if_ne (tgt := 151) hx hb dX6_factStep_144 (dk_dq rfl) (fun c_60 => ?_) (fun c_60 => ?_)
          · have jc_60 := dk_neqc (k := 0) (by decide +kernel) c_60
            refine lv_bipush (v := (-6)) hx hb dX6_factStep_151 (by decide +kernel) ?_
            have hz_61 : (-6 : Int32).toInt = (-6) := by decide +kernel
            have hz_62 : (-6 : Int32).toInt = (-6) := by decide +kernel
            have hz_63 : (-6 : Int32).toInt = (-6) := by decide +kernel
            refine W.widen (k := 0) (n := 0) (Nat.le_of_ble_eq_true rfl) (Nat.le_of_ble_eq_true rfl) ?_
            exact dg_iret hx hb hr hlocks rfl hP hS ⟨rfl, (by decide +kernel), (m_hid.mk (fun _ => by rw [show (-6 : Int32).toInt = -6 from by decide +kernel, d_fw_6 (by omega)])), (by rw [g_fw_iff]; omega), trivial⟩ dX6_factStep_153
          · have jc_60 := dk_eqc (k := 0) (by decide +kernel) c_60
            refine lv_iconst (v := 0) hx hb dX6_factStep_147 (by decide +kernel) ?_
            refine lv_goto (tgt := 153) hx hb dX6_factStep_148 (dk_dq rfl) ?_
            have hz_64 : (0 : Int32).toInt = 0 := by decide +kernel
            have hz_65 : (0 : Int32).toInt = 0 := by decide +kernel
            have hz_66 : (0 : Int32).toInt = 0 := by decide +kernel
            refine W.widen (k := 0) (n := 0) (Nat.le_of_ble_eq_true rfl) (Nat.le_of_ble_eq_true rfl) ?_
            exact dg_iret hx hb hr hlocks rfl hP hS ⟨rfl, (by decide +kernel), (m_hid.mk (fun q9 => absurd (by decide +kernel) q9)), (by rw [g_fw_iff]; omega), trivial⟩ dX6_factStep_153
  · have jc_3 := dk_neqc (k := 1) (by decide +kernel) c_3
    refine lv_iconst (v := 0) hx hb dX6_factStep_16 (by decide +kernel) ?_
    have hz_67 : (0 : Int32).toInt = 0 := by decide +kernel
    have hz_68 : (0 : Int32).toInt = 0 := by decide +kernel
    have hz_69 : (0 : Int32).toInt = 0 := by decide +kernel
    refine W.widen (k := 0) (n := 0) (Nat.le_of_ble_eq_true rfl) (Nat.le_of_ble_eq_true rfl) ?_
    exact dg_iret hx hb hr hlocks rfl hP hS ⟨rfl, (by decide +kernel), (m_hid.mk (fun q9 => absurd (by decide +kernel) q9)), (by rw [g_fw_iff]; omega), trivial⟩ dX6_factStep_17
