/-! 11.rules.lean.txt -/
theorem dX7_valueOf_0 : decode cX7_valueOf 0 = .ok (.aload_n 1, 1) := dk_o43 (by decide +kernel)
theorem dX7_valueOf_1 : decode cX7_valueOf 1 = .ok (.iload_n 2, 1) := dk_o28 (by decide +kernel)
theorem dX7_valueOf_2 : decode cX7_valueOf 2 = .ok (.invokevirtual 15, 3) := dk_o182 (by decide +kernel)
theorem dX7_valueOf_5 : decode cX7_valueOf 5 = .ok (.ifCond .ne 5, 3) := dk_o154 (by decide +kernel)
theorem dX7_valueOf_8 : decode cX7_valueOf 8 = .ok (.iload_n 3, 1) := dk_o29 (by decide +kernel)
theorem dX7_valueOf_9 : decode cX7_valueOf 9 = .ok (.ireturn, 1) := dk_o172 (by decide +kernel)
theorem dX7_valueOf_10 : decode cX7_valueOf 10 = .ok (.aload_n 0, 1) := dk_o42 (by decide +kernel)
theorem dX7_valueOf_11 : decode cX7_valueOf 11 = .ok (.iconst 0, 1) := dk_o3 (by decide +kernel)
theorem dX7_valueOf_12 : decode cX7_valueOf 12 = .ok (.putfield 21, 3) := dk_o181 (by decide +kernel)
theorem dX7_valueOf_15 : decode cX7_valueOf 15 = .ok (.aload_n 1, 1) := dk_o43 (by decide +kernel)
theorem dX7_valueOf_16 : decode cX7_valueOf 16 = .ok (.getfield 25, 3) := dk_o180 (by decide +kernel)
theorem dX7_valueOf_19 : decode cX7_valueOf 19 = .ok (.iload_n 2, 1) := dk_o28 (by decide +kernel)
theorem dX7_valueOf_20 : decode cX7_valueOf 20 = .ok (.iaload, 1) := dk_o46 (by decide +kernel)
theorem dX7_valueOf_21 : decode cX7_valueOf 21 = .ok (.istore 4, 2) := dk_o54 (by decide +kernel)
theorem dX7_valueOf_23 : decode cX7_valueOf 23 = .ok (.iload 4, 2) := dk_o21 (by decide +kernel)
theorem dX7_valueOf_25 : decode cX7_valueOf 25 = .ok (.aload_n 1, 1) := dk_o43 (by decide +kernel)
theorem dX7_valueOf_26 : decode cX7_valueOf 26 = .ok (.getfield 28, 3) := dk_o180 (by decide +kernel)
theorem dX7_valueOf_29 : decode cX7_valueOf 29 = .ok (.iload_n 2, 1) := dk_o28 (by decide +kernel)
theorem dX7_valueOf_30 : decode cX7_valueOf 30 = .ok (.iaload, 1) := dk_o46 (by decide +kernel)
theorem dX7_valueOf_31 : decode cX7_valueOf 31 = .ok (.if_icmp .ge 114, 3) := dk_o162 (by decide +kernel)
theorem dX7_valueOf_34 : decode cX7_valueOf 34 = .ok (.aload_n 1, 1) := dk_o43 (by decide +kernel)
theorem dX7_valueOf_35 : decode cX7_valueOf 35 = .ok (.getfield 31, 3) := dk_o180 (by decide +kernel)
theorem dX7_valueOf_38 : decode cX7_valueOf 38 = .ok (.iload 4, 2) := dk_o21 (by decide +kernel)
theorem dX7_valueOf_40 : decode cX7_valueOf 40 = .ok (.iaload, 1) := dk_o46 (by decide +kernel)
theorem dX7_valueOf_41 : decode cX7_valueOf 41 = .ok (.istore 5, 2) := dk_o54 (by decide +kernel)
theorem dX7_valueOf_43 : decode cX7_valueOf 43 = .ok (.iload 5, 2) := dk_o21 (by decide +kernel)
theorem dX7_valueOf_45 : decode cX7_valueOf 45 = .ok (.bipush (-7), 2) := dk_o16 (by decide +kernel)
theorem dX7_valueOf_47 : decode cX7_valueOf 47 = .ok (.if_icmp .lt 26, 3) := dk_o161 (by decide +kernel)
theorem dX7_valueOf_50 : decode cX7_valueOf 50 = .ok (.aload_n 0, 1) := dk_o42 (by decide +kernel)
theorem dX7_valueOf_51 : decode cX7_valueOf 51 = .ok (.iload 5, 2) := dk_o21 (by decide +kernel)
theorem dX7_valueOf_53 : decode cX7_valueOf 53 = .ok (.ifCond .lt 8, 3) := dk_o155 (by decide +kernel)
theorem dX7_valueOf_56 : decode cX7_valueOf 56 = .ok (.iload 5, 2) := dk_o21 (by decide +kernel)
theorem dX7_valueOf_58 : decode cX7_valueOf 58 = .ok (.goto 9, 3) := dk_o167 (by decide +kernel)
theorem dX7_valueOf_61 : decode cX7_valueOf 61 = .ok (.aload_n 0, 1) := dk_o42 (by decide +kernel)
theorem dX7_valueOf_62 : decode cX7_valueOf 62 = .ok (.iload 5, 2) := dk_o21 (by decide +kernel)
theorem dX7_valueOf_64 : decode cX7_valueOf 64 = .ok (.invokevirtual 34, 3) := dk_o182 (by decide +kernel)
theorem dX7_valueOf_67 : decode cX7_valueOf 67 = .ok (.invokevirtual 38, 3) := dk_o182 (by decide +kernel)
theorem dX7_valueOf_70 : decode cX7_valueOf 70 = .ok (.goto 69, 3) := dk_o167 (by decide +kernel)
theorem dX7_valueOf_73 : decode cX7_valueOf 73 = .ok (.iload 5, 2) := dk_o21 (by decide +kernel)
theorem dX7_valueOf_75 : decode cX7_valueOf 75 = .ok (.bipush (-8), 2) := dk_o16 (by decide +kernel)
theorem dX7_valueOf_77 : decode cX7_valueOf 77 = .ok (.if_icmp .ne 16, 3) := dk_o160 (by decide +kernel)
theorem dX7_valueOf_80 : decode cX7_valueOf 80 = .ok (.aload_n 0, 1) := dk_o42 (by decide +kernel)
theorem dX7_valueOf_81 : decode cX7_valueOf 81 = .ok (.iconst 1, 1) := dk_o4 (by decide +kernel)
theorem dX7_valueOf_82 : decode cX7_valueOf 82 = .ok (.aload_n 0, 1) := dk_o42 (by decide +kernel)
theorem dX7_valueOf_83 : decode cX7_valueOf 83 = .ok (.invokevirtual 42, 3) := dk_o182 (by decide +kernel)
theorem dX7_valueOf_86 : decode cX7_valueOf 86 = .ok (.isub, 1) := dk_o100 (by decide +kernel)
theorem dX7_valueOf_87 : decode cX7_valueOf 87 = .ok (.invokevirtual 38, 3) := dk_o182 (by decide +kernel)
theorem dX7_valueOf_90 : decode cX7_valueOf 90 = .ok (.goto 49, 3) := dk_o167 (by decide +kernel)
theorem dX7_valueOf_93 : decode cX7_valueOf 93 = .ok (.aload_n 0, 1) := dk_o42 (by decide +kernel)
theorem dX7_valueOf_94 : decode cX7_valueOf 94 = .ok (.invokevirtual 42, 3) := dk_o182 (by decide +kernel)
theorem dX7_valueOf_97 : decode cX7_valueOf 97 = .ok (.istore 6, 2) := dk_o54 (by decide +kernel)
theorem dX7_valueOf_99 : decode cX7_valueOf 99 = .ok (.aload_n 0, 1) := dk_o42 (by decide +kernel)
theorem dX7_valueOf_100 : decode cX7_valueOf 100 = .ok (.invokevirtual 42, 3) := dk_o182 (by decide +kernel)
theorem dX7_valueOf_103 : decode cX7_valueOf 103 = .ok (.istore 7, 2) := dk_o54 (by decide +kernel)
theorem dX7_valueOf_105 : decode cX7_valueOf 105 = .ok (.aload_n 0, 1) := dk_o42 (by decide +kernel)
theorem dX7_valueOf_106 : decode cX7_valueOf 106 = .ok (.iload 5, 2) := dk_o21 (by decide +kernel)
theorem dX7_valueOf_108 : decode cX7_valueOf 108 = .ok (.bipush (-9), 2) := dk_o16 (by decide +kernel)
theorem dX7_valueOf_110 : decode cX7_valueOf 110 = .ok (.if_icmp .ne 17, 3) := dk_o160 (by decide +kernel)
theorem dX7_valueOf_113 : decode cX7_valueOf 113 = .ok (.aload_n 0, 1) := dk_o42 (by decide +kernel)
theorem dX7_valueOf_114 : decode cX7_valueOf 114 = .ok (.invokevirtual 42, 3) := dk_o182 (by decide +kernel)
theorem dX7_valueOf_117 : decode cX7_valueOf 117 = .ok (.iload 7, 2) := dk_o21 (by decide +kernel)
theorem dX7_valueOf_119 : decode cX7_valueOf 119 = .ok (.iload 6, 2) := dk_o21 (by decide +kernel)
theorem dX7_valueOf_121 : decode cX7_valueOf 121 = .ok (.invokestatic 46, 3) := dk_o184 (by decide +kernel)
theorem dX7_valueOf_124 : decode cX7_valueOf 124 = .ok (.goto 12, 3) := dk_o167 (by decide +kernel)
theorem dX7_valueOf_127 : decode cX7_valueOf 127 = .ok (.iload 5, 2) := dk_o21 (by decide +kernel)
theorem dX7_valueOf_129 : decode cX7_valueOf 129 = .ok (.iload 7, 2) := dk_o21 (by decide +kernel)
theorem dX7_valueOf_131 : decode cX7_valueOf 131 = .ok (.iload 6, 2) := dk_o21 (by decide +kernel)
theorem dX7_valueOf_133 : decode cX7_valueOf 133 = .ok (.invokestatic 50, 3) := dk_o184 (by decide +kernel)
theorem dX7_valueOf_136 : decode cX7_valueOf 136 = .ok (.invokevirtual 38, 3) := dk_o182 (by decide +kernel)
theorem dX7_valueOf_139 : decode cX7_valueOf 139 = .ok (.iinc 4 1, 3) := dk_o132 (by decide +kernel)
theorem dX7_valueOf_142 : decode cX7_valueOf 142 = .ok (.goto (-119), 3) := dk_o167 (by decide +kernel)
theorem dX7_valueOf_145 : decode cX7_valueOf 145 = .ok (.aload_n 0, 1) := dk_o42 (by decide +kernel)
theorem dX7_valueOf_146 : decode cX7_valueOf 146 = .ok (.invokevirtual 42, 3) := dk_o182 (by decide +kernel)
theorem dX7_valueOf_149 : decode cX7_valueOf 149 = .ok (.ireturn, 1) := dk_o172 (by decide +kernel)
theorem dX7_push_0 : decode cX7_push 0 = .ok (.aload_n 0, 1) := dk_o42 (by decide +kernel)
theorem dX7_push_1 : decode cX7_push 1 = .ok (.getfield 21, 3) := dk_o180 (by decide +kernel)
theorem dX7_push_4 : decode cX7_push 4 = .ok (.bipush 64, 2) := dk_o16 (by decide +kernel)
theorem dX7_push_6 : decode cX7_push 6 = .ok (.if_icmp .ge 23, 3) := dk_o162 (by decide +kernel)
theorem dX7_push_9 : decode cX7_push 9 = .ok (.aload_n 0, 1) := dk_o42 (by decide +kernel)
theorem dX7_push_10 : decode cX7_push 10 = .ok (.getfield 11, 3) := dk_o180 (by decide +kernel)
theorem dX7_push_13 : decode cX7_push 13 = .ok (.aload_n 0, 1) := dk_o42 (by decide +kernel)
theorem dX7_push_14 : decode cX7_push 14 = .ok (.getfield 21, 3) := dk_o180 (by decide +kernel)
theorem dX7_push_17 : decode cX7_push 17 = .ok (.iload_n 1, 1) := dk_o27 (by decide +kernel)
theorem dX7_push_18 : decode cX7_push 18 = .ok (.iastore, 1) := dk_o79 (by decide +kernel)
theorem dX7_push_19 : decode cX7_push 19 = .ok (.aload_n 0, 1) := dk_o42 (by decide +kernel)
theorem dX7_push_20 : decode cX7_push 20 = .ok (.dup, 1) := dk_o89 (by decide +kernel)
theorem dX7_push_21 : decode cX7_push 21 = .ok (.getfield 21, 3) := dk_o180 (by decide +kernel)
theorem dX7_push_24 : decode cX7_push 24 = .ok (.iconst 1, 1) := dk_o4 (by decide +kernel)
theorem dX7_push_25 : decode cX7_push 25 = .ok (.iadd, 1) := dk_o96 (by decide +kernel)
theorem dX7_push_26 : decode cX7_push 26 = .ok (.putfield 21, 3) := dk_o181 (by decide +kernel)
theorem dX7_push_29 : decode cX7_push 29 = .ok (.return_, 1) := dk_o177 (by decide +kernel)
theorem dX7_pop_0 : decode cX7_pop 0 = .ok (.aload_n 0, 1) := dk_o42 (by decide +kernel)
theorem dX7_pop_1 : decode cX7_pop 1 = .ok (.getfield 21, 3) := dk_o180 (by decide +kernel)
theorem dX7_pop_4 : decode cX7_pop 4 = .ok (.ifCond .ne 5, 3) := dk_o154 (by decide +kernel)
theorem dX7_pop_7 : decode cX7_pop 7 = .ok (.iconst 0, 1) := dk_o3 (by decide +kernel)
theorem dX7_pop_8 : decode cX7_pop 8 = .ok (.ireturn, 1) := dk_o172 (by decide +kernel)
theorem dX7_pop_9 : decode cX7_pop 9 = .ok (.aload_n 0, 1) := dk_o42 (by decide +kernel)
theorem dX7_pop_10 : decode cX7_pop 10 = .ok (.dup, 1) := dk_o89 (by decide +kernel)
theorem dX7_pop_11 : decode cX7_pop 11 = .ok (.getfield 21, 3) := dk_o180 (by decide +kernel)
theorem dX7_pop_14 : decode cX7_pop 14 = .ok (.iconst 1, 1) := dk_o4 (by decide +kernel)
theorem dX7_pop_15 : decode cX7_pop 15 = .ok (.isub, 1) := dk_o100 (by decide +kernel)
theorem dX7_pop_16 : decode cX7_pop 16 = .ok (.putfield 21, 3) := dk_o181 (by decide +kernel)
theorem dX7_pop_19 : decode cX7_pop 19 = .ok (.aload_n 0, 1) := dk_o42 (by decide +kernel)
theorem dX7_pop_20 : decode cX7_pop 20 = .ok (.getfield 11, 3) := dk_o180 (by decide +kernel)
theorem dX7_pop_23 : decode cX7_pop 23 = .ok (.aload_n 0, 1) := dk_o42 (by decide +kernel)
theorem dX7_pop_24 : decode cX7_pop 24 = .ok (.getfield 21, 3) := dk_o180 (by decide +kernel)
theorem dX7_pop_27 : decode cX7_pop 27 = .ok (.iaload, 1) := dk_o46 (by decide +kernel)
theorem dX7_pop_28 : decode cX7_pop 28 = .ok (.ireturn, 1) := dk_o172 (by decide +kernel)
theorem dX7_fact_0 : decode cX7_fact 0 = .ok (.iload_n 1, 1) := dk_o27 (by decide +kernel)
theorem dX7_fact_1 : decode cX7_fact 1 = .ok (.tableswitch 69 (-6) (-1) #[64, 59, 54, 49, 44, 39], 39) := by decide +kernel
theorem dX7_fact_40 : decode cX7_fact 40 = .ok (.aload_n 0, 1) := dk_o42 (by decide +kernel)
theorem dX7_fact_41 : decode cX7_fact 41 = .ok (.getfield 53, 3) := dk_o180 (by decide +kernel)
theorem dX7_fact_44 : decode cX7_fact 44 = .ok (.ireturn, 1) := dk_o172 (by decide +kernel)
theorem dX7_fact_45 : decode cX7_fact 45 = .ok (.aload_n 0, 1) := dk_o42 (by decide +kernel)
theorem dX7_fact_46 : decode cX7_fact 46 = .ok (.getfield 56, 3) := dk_o180 (by decide +kernel)
theorem dX7_fact_49 : decode cX7_fact 49 = .ok (.ireturn, 1) := dk_o172 (by decide +kernel)
theorem dX7_fact_50 : decode cX7_fact 50 = .ok (.aload_n 0, 1) := dk_o42 (by decide +kernel)
theorem dX7_fact_51 : decode cX7_fact 51 = .ok (.getfield 59, 3) := dk_o180 (by decide +kernel)
theorem dX7_fact_54 : decode cX7_fact 54 = .ok (.ireturn, 1) := dk_o172 (by decide +kernel)
theorem dX7_fact_55 : decode cX7_fact 55 = .ok (.aload_n 0, 1) := dk_o42 (by decide +kernel)
theorem dX7_fact_56 : decode cX7_fact 56 = .ok (.getfield 62, 3) := dk_o180 (by decide +kernel)
theorem dX7_fact_59 : decode cX7_fact 59 = .ok (.ireturn, 1) := dk_o172 (by decide +kernel)
theorem dX7_fact_60 : decode cX7_fact 60 = .ok (.aload_n 0, 1) := dk_o42 (by decide +kernel)
theorem dX7_fact_61 : decode cX7_fact 61 = .ok (.getfield 65, 3) := dk_o180 (by decide +kernel)
theorem dX7_fact_64 : decode cX7_fact 64 = .ok (.ireturn, 1) := dk_o172 (by decide +kernel)
theorem dX7_fact_65 : decode cX7_fact 65 = .ok (.aload_n 0, 1) := dk_o42 (by decide +kernel)
theorem dX7_fact_66 : decode cX7_fact 66 = .ok (.getfield 68, 3) := dk_o180 (by decide +kernel)
theorem dX7_fact_69 : decode cX7_fact 69 = .ok (.ireturn, 1) := dk_o172 (by decide +kernel)
theorem dX7_fact_70 : decode cX7_fact 70 = .ok (.iconst 1, 1) := dk_o4 (by decide +kernel)
theorem dX7_fact_71 : decode cX7_fact 71 = .ok (.ireturn, 1) := dk_o172 (by decide +kernel)
theorem dX7_chosen_0 : decode cX7_chosen 0 = .ok (.iload_n 0, 1) := dk_o26 (by decide +kernel)
theorem dX7_chosen_1 : decode cX7_chosen 1 = .ok (.iconst 1, 1) := dk_o4 (by decide +kernel)
theorem dX7_chosen_2 : decode cX7_chosen 2 = .ok (.if_icmp .ne 7, 3) := dk_o160 (by decide +kernel)
theorem dX7_chosen_5 : decode cX7_chosen 5 = .ok (.iload_n 1, 1) := dk_o27 (by decide +kernel)
theorem dX7_chosen_6 : decode cX7_chosen 6 = .ok (.goto 4, 3) := dk_o167 (by decide +kernel)
theorem dX7_chosen_9 : decode cX7_chosen 9 = .ok (.iload_n 2, 1) := dk_o28 (by decide +kernel)
theorem dX7_chosen_10 : decode cX7_chosen 10 = .ok (.ireturn, 1) := dk_o172 (by decide +kernel)
theorem dX7_result_0 : decode cX7_result 0 = .ok (.iload_n 0, 1) := dk_o26 (by decide +kernel)
theorem dX7_result_1 : decode cX7_result 1 = .ok (.tableswitch 177 (-20) (-10) #[173, 162, 151, 140, 129, 118, 104, 86, 77, 68, 59], 59) := by decide +kernel
theorem dX7_result_60 : decode cX7_result 60 = .ok (.iload_n 1, 1) := dk_o27 (by decide +kernel)
theorem dX7_result_61 : decode cX7_result 61 = .ok (.i2l, 1) := dk_o133 (by decide +kernel)
theorem dX7_result_62 : decode cX7_result 62 = .ok (.iload_n 2, 1) := dk_o28 (by decide +kernel)
theorem dX7_result_63 : decode cX7_result 63 = .ok (.i2l, 1) := dk_o133 (by decide +kernel)
theorem dX7_result_64 : decode cX7_result 64 = .ok (.ladd, 1) := dk_o97 (by decide +kernel)
theorem dX7_result_65 : decode cX7_result 65 = .ok (.invokestatic 71, 3) := dk_o184 (by decide +kernel)
theorem dX7_result_68 : decode cX7_result 68 = .ok (.ireturn, 1) := dk_o172 (by decide +kernel)
theorem dX7_result_69 : decode cX7_result 69 = .ok (.iload_n 1, 1) := dk_o27 (by decide +kernel)
theorem dX7_result_70 : decode cX7_result 70 = .ok (.i2l, 1) := dk_o133 (by decide +kernel)
theorem dX7_result_71 : decode cX7_result 71 = .ok (.iload_n 2, 1) := dk_o28 (by decide +kernel)
theorem dX7_result_72 : decode cX7_result 72 = .ok (.i2l, 1) := dk_o133 (by decide +kernel)
theorem dX7_result_73 : decode cX7_result 73 = .ok (.lsub, 1) := dk_o101 (by decide +kernel)
theorem dX7_result_74 : decode cX7_result 74 = .ok (.invokestatic 71, 3) := dk_o184 (by decide +kernel)
theorem dX7_result_77 : decode cX7_result 77 = .ok (.ireturn, 1) := dk_o172 (by decide +kernel)
theorem dX7_result_78 : decode cX7_result 78 = .ok (.iload_n 1, 1) := dk_o27 (by decide +kernel)
theorem dX7_result_79 : decode cX7_result 79 = .ok (.i2l, 1) := dk_o133 (by decide +kernel)
theorem dX7_result_80 : decode cX7_result 80 = .ok (.iload_n 2, 1) := dk_o28 (by decide +kernel)
theorem dX7_result_81 : decode cX7_result 81 = .ok (.i2l, 1) := dk_o133 (by decide +kernel)
theorem dX7_result_82 : decode cX7_result 82 = .ok (.lmul, 1) := dk_o105 (by decide +kernel)
theorem dX7_result_83 : decode cX7_result 83 = .ok (.invokestatic 71, 3) := dk_o184 (by decide +kernel)
theorem dX7_result_86 : decode cX7_result 86 = .ok (.ireturn, 1) := dk_o172 (by decide +kernel)
theorem dX7_result_87 : decode cX7_result 87 = .ok (.iload_n 2, 1) := dk_o28 (by decide +kernel)
theorem dX7_result_88 : decode cX7_result 88 = .ok (.ifCond .ne 7, 3) := dk_o154 (by decide +kernel)
theorem dX7_result_91 : decode cX7_result 91 = .ok (.iconst 0, 1) := dk_o3 (by decide +kernel)
theorem dX7_result_92 : decode cX7_result 92 = .ok (.goto 12, 3) := dk_o167 (by decide +kernel)
theorem dX7_result_95 : decode cX7_result 95 = .ok (.iload_n 1, 1) := dk_o27 (by decide +kernel)
theorem dX7_result_96 : decode cX7_result 96 = .ok (.iload_n 2, 1) := dk_o28 (by decide +kernel)
theorem dX7_result_97 : decode cX7_result 97 = .ok (.invokestatic 75, 3) := dk_o184 (by decide +kernel)
theorem dX7_result_100 : decode cX7_result 100 = .ok (.i2l, 1) := dk_o133 (by decide +kernel)
theorem dX7_result_101 : decode cX7_result 101 = .ok (.invokestatic 71, 3) := dk_o184 (by decide +kernel)
theorem dX7_result_104 : decode cX7_result 104 = .ok (.ireturn, 1) := dk_o172 (by decide +kernel)
theorem dX7_result_105 : decode cX7_result 105 = .ok (.iload_n 2, 1) := dk_o28 (by decide +kernel)
theorem dX7_result_106 : decode cX7_result 106 = .ok (.ifCond .ne 7, 3) := dk_o154 (by decide +kernel)
theorem dX7_result_109 : decode cX7_result 109 = .ok (.iconst 0, 1) := dk_o3 (by decide +kernel)
theorem dX7_result_110 : decode cX7_result 110 = .ok (.goto 8, 3) := dk_o167 (by decide +kernel)
theorem dX7_result_113 : decode cX7_result 113 = .ok (.iload_n 1, 1) := dk_o27 (by decide +kernel)
theorem dX7_result_114 : decode cX7_result 114 = .ok (.iload_n 2, 1) := dk_o28 (by decide +kernel)
theorem dX7_result_115 : decode cX7_result 115 = .ok (.invokestatic 81, 3) := dk_o184 (by decide +kernel)
theorem dX7_result_118 : decode cX7_result 118 = .ok (.ireturn, 1) := dk_o172 (by decide +kernel)
theorem dX7_result_119 : decode cX7_result 119 = .ok (.iload_n 1, 1) := dk_o27 (by decide +kernel)
theorem dX7_result_120 : decode cX7_result 120 = .ok (.iload_n 2, 1) := dk_o28 (by decide +kernel)
theorem dX7_result_121 : decode cX7_result 121 = .ok (.if_icmp .ge 7, 3) := dk_o162 (by decide +kernel)
theorem dX7_result_124 : decode cX7_result 124 = .ok (.iload_n 1, 1) := dk_o27 (by decide +kernel)
theorem dX7_result_125 : decode cX7_result 125 = .ok (.goto 4, 3) := dk_o167 (by decide +kernel)
theorem dX7_result_128 : decode cX7_result 128 = .ok (.iload_n 2, 1) := dk_o28 (by decide +kernel)
theorem dX7_result_129 : decode cX7_result 129 = .ok (.ireturn, 1) := dk_o172 (by decide +kernel)
theorem dX7_result_130 : decode cX7_result 130 = .ok (.iload_n 1, 1) := dk_o27 (by decide +kernel)
theorem dX7_result_131 : decode cX7_result 131 = .ok (.iload_n 2, 1) := dk_o28 (by decide +kernel)
theorem dX7_result_132 : decode cX7_result 132 = .ok (.if_icmp .le 7, 3) := dk_o164 (by decide +kernel)
theorem dX7_result_135 : decode cX7_result 135 = .ok (.iload_n 1, 1) := dk_o27 (by decide +kernel)
theorem dX7_result_136 : decode cX7_result 136 = .ok (.goto 4, 3) := dk_o167 (by decide +kernel)
theorem dX7_result_139 : decode cX7_result 139 = .ok (.iload_n 2, 1) := dk_o28 (by decide +kernel)
theorem dX7_result_140 : decode cX7_result 140 = .ok (.ireturn, 1) := dk_o172 (by decide +kernel)
theorem dX7_result_141 : decode cX7_result 141 = .ok (.iload_n 1, 1) := dk_o27 (by decide +kernel)
theorem dX7_result_142 : decode cX7_result 142 = .ok (.iload_n 2, 1) := dk_o28 (by decide +kernel)
theorem dX7_result_143 : decode cX7_result 143 = .ok (.if_icmp .ge 7, 3) := dk_o162 (by decide +kernel)
theorem dX7_result_146 : decode cX7_result 146 = .ok (.iconst 1, 1) := dk_o4 (by decide +kernel)
theorem dX7_result_147 : decode cX7_result 147 = .ok (.goto 4, 3) := dk_o167 (by decide +kernel)
theorem dX7_result_150 : decode cX7_result 150 = .ok (.iconst 0, 1) := dk_o3 (by decide +kernel)
theorem dX7_result_151 : decode cX7_result 151 = .ok (.ireturn, 1) := dk_o172 (by decide +kernel)
theorem dX7_result_152 : decode cX7_result 152 = .ok (.iload_n 1, 1) := dk_o27 (by decide +kernel)
theorem dX7_result_153 : decode cX7_result 153 = .ok (.iload_n 2, 1) := dk_o28 (by decide +kernel)
theorem dX7_result_154 : decode cX7_result 154 = .ok (.if_icmp .le 7, 3) := dk_o164 (by decide +kernel)
theorem dX7_result_157 : decode cX7_result 157 = .ok (.iconst 1, 1) := dk_o4 (by decide +kernel)
theorem dX7_result_158 : decode cX7_result 158 = .ok (.goto 4, 3) := dk_o167 (by decide +kernel)
theorem dX7_result_161 : decode cX7_result 161 = .ok (.iconst 0, 1) := dk_o3 (by decide +kernel)
theorem dX7_result_162 : decode cX7_result 162 = .ok (.ireturn, 1) := dk_o172 (by decide +kernel)
theorem dX7_result_163 : decode cX7_result 163 = .ok (.iload_n 1, 1) := dk_o27 (by decide +kernel)
theorem dX7_result_164 : decode cX7_result 164 = .ok (.iload_n 2, 1) := dk_o28 (by decide +kernel)
theorem dX7_result_165 : decode cX7_result 165 = .ok (.if_icmp .ne 7, 3) := dk_o160 (by decide +kernel)
theorem dX7_result_168 : decode cX7_result 168 = .ok (.iconst 1, 1) := dk_o4 (by decide +kernel)
theorem dX7_result_169 : decode cX7_result 169 = .ok (.goto 4, 3) := dk_o167 (by decide +kernel)
theorem dX7_result_172 : decode cX7_result 172 = .ok (.iconst 0, 1) := dk_o3 (by decide +kernel)
theorem dX7_result_173 : decode cX7_result 173 = .ok (.ireturn, 1) := dk_o172 (by decide +kernel)
theorem dX7_result_174 : decode cX7_result 174 = .ok (.iload_n 1, 1) := dk_o27 (by decide +kernel)
theorem dX7_result_175 : decode cX7_result 175 = .ok (.iload_n 2, 1) := dk_o28 (by decide +kernel)
theorem dX7_result_176 : decode cX7_result 176 = .ok (.iand, 1) := dk_o126 (by decide +kernel)
theorem dX7_result_177 : decode cX7_result 177 = .ok (.ireturn, 1) := dk_o172 (by decide +kernel)
theorem dX7_result_178 : decode cX7_result 178 = .ok (.iload_n 1, 1) := dk_o27 (by decide +kernel)
theorem dX7_result_179 : decode cX7_result 179 = .ok (.iload_n 2, 1) := dk_o28 (by decide +kernel)
theorem dX7_result_180 : decode cX7_result 180 = .ok (.ior, 1) := dk_o128 (by decide +kernel)
theorem dX7_result_181 : decode cX7_result 181 = .ok (.ireturn, 1) := dk_o172 (by decide +kernel)
theorem dX7_bounded_0 : decode cX7_bounded 0 = .ok (.lload_n 0, 1) := dk_o30 (by decide +kernel)
theorem dX7_bounded_1 : decode cX7_bounded 1 = .ok (.ldc2_w 84, 3) := dk_o20 (by decide +kernel)
theorem dX7_bounded_4 : decode cX7_bounded 4 = .ok (.lcmp, 1) := dk_o148 (by decide +kernel)
theorem dX7_bounded_5 : decode cX7_bounded 5 = .ok (.ifCond .le 6, 3) := dk_o158 (by decide +kernel)
theorem dX7_bounded_8 : decode cX7_bounded 8 = .ok (.ldc 86, 2) := dk_o18 (by decide +kernel)
theorem dX7_bounded_10 : decode cX7_bounded 10 = .ok (.ireturn, 1) := dk_o172 (by decide +kernel)
theorem dX7_bounded_11 : decode cX7_bounded 11 = .ok (.lload_n 0, 1) := dk_o30 (by decide +kernel)
theorem dX7_bounded_12 : decode cX7_bounded 12 = .ok (.ldc2_w 87, 3) := dk_o20 (by decide +kernel)
theorem dX7_bounded_15 : decode cX7_bounded 15 = .ok (.lcmp, 1) := dk_o148 (by decide +kernel)
theorem dX7_bounded_16 : decode cX7_bounded 16 = .ok (.ifCond .ge 8, 3) := dk_o156 (by decide +kernel)
theorem dX7_bounded_19 : decode cX7_bounded 19 = .ok (.ldc 89, 2) := dk_o18 (by decide +kernel)
theorem dX7_bounded_21 : decode cX7_bounded 21 = .ok (.goto 5, 3) := dk_o167 (by decide +kernel)
theorem dX7_bounded_24 : decode cX7_bounded 24 = .ok (.lload_n 0, 1) := dk_o30 (by decide +kernel)
theorem dX7_bounded_25 : decode cX7_bounded 25 = .ok (.l2i, 1) := dk_o136 (by decide +kernel)
theorem dX7_bounded_26 : decode cX7_bounded 26 = .ok (.ireturn, 1) := dk_o172 (by decide +kernel)
theorem wB_532 : Cond.fieldLink RX7 21 "DarkMine$Rules" "top" "I" ∈ dgB := List.mem_filter.mpr ⟨tbl_2 _ (List.mem_of_getElem? (i := 131) (by decide +kernel)), by decide +kernel⟩
theorem wB_533 : Cond.fieldLink RX7 11 "DarkMine$Rules" "stack" "[I" ∈ dgB := List.mem_filter.mpr ⟨tbl_2 _ (List.mem_of_getElem? (i := 130) (by decide +kernel)), by decide +kernel⟩
theorem wB_534 : Cond.fieldLink RX7 68 "DarkMine$Rules" "lit" "I" ∈ dgB := List.mem_filter.mpr ⟨tbl_2 _ (List.mem_of_getElem? (i := 128) (by decide +kernel)), by decide +kernel⟩
theorem wB_535 : Cond.fieldLink RX7 65 "DarkMine$Rules" "open" "I" ∈ dgB := List.mem_filter.mpr ⟨tbl_2 _ (List.mem_of_getElem? (i := 126) (by decide +kernel)), by decide +kernel⟩
theorem wB_536 : Cond.fieldLink RX7 62 "DarkMine$Rules" "far" "I" ∈ dgB := List.mem_filter.mpr ⟨tbl_2 _ (List.mem_of_getElem? (i := 124) (by decide +kernel)), by decide +kernel⟩
theorem wB_537 : Cond.fieldLink RX7 59 "DarkMine$Rules" "shift" "I" ∈ dgB := List.mem_filter.mpr ⟨tbl_2 _ (List.mem_of_getElem? (i := 122) (by decide +kernel)), by decide +kernel⟩
theorem wB_538 : Cond.fieldLink RX7 56 "DarkMine$Rules" "depth" "I" ∈ dgB := List.mem_filter.mpr ⟨tbl_2 _ (List.mem_of_getElem? (i := 120) (by decide +kernel)), by decide +kernel⟩
theorem wB_539 : Cond.fieldLink RX7 53 "DarkMine$Rules" "grade" "I" ∈ dgB := List.mem_filter.mpr ⟨tbl_2 _ (List.mem_of_getElem? (i := 118) (by decide +kernel)), by decide +kernel⟩
theorem wB_540 : Cond.constantLong RX7 84 (1000000) ∈ dgB := List.mem_filter.mpr ⟨tbl_5 _ (List.mem_of_getElem? (i := 34) (by decide +kernel)), by decide +kernel⟩
theorem wB_541 : Cond.constantLong RX7 87 (-1000000) ∈ dgB := List.mem_filter.mpr ⟨tbl_5 _ (List.mem_of_getElem? (i := 36) (by decide +kernel)), by decide +kernel⟩
theorem wB_542 : Cond.constant RX7 89 (-1000000) ∈ dgB := List.mem_filter.mpr ⟨tbl_5 _ (List.mem_of_getElem? (i := 37) (by decide +kernel)), by decide +kernel⟩
theorem wB_543 : Cond.constant RX7 86 (1000000) ∈ dgB := List.mem_filter.mpr ⟨tbl_5 _ (List.mem_of_getElem? (i := 35) (by decide +kernel)), by decide +kernel⟩
theorem wB_544 : Cond.code yJ9_floorMod_7cf53 cJ9_floorMod_7cf53 3 (some .int) ∈ dgB := List.mem_filter.mpr ⟨tbl_5 _ (List.mem_of_getElem? (i := 43) rfl), rfl⟩
theorem wB_545 : Cond.methodLink RX7 81 yJ9_floorMod_7cf53 ∈ dgB := List.mem_filter.mpr ⟨tbl_5 _ (List.mem_of_getElem? (i := 41) (by decide +kernel)), by decide +kernel⟩
theorem wB_546 : Cond.static yJ9_floorMod_7cf53 ∈ dgB := List.mem_filter.mpr ⟨tbl_5 _ (List.mem_of_getElem? (i := 42) (by decide +kernel)), by decide +kernel⟩
theorem wB_547 : Cond.code yJ9_floorDiv_7cf53 cJ9_floorDiv_7cf53 3 (some .int) ∈ dgB := List.mem_filter.mpr ⟨tbl_5 _ (List.mem_of_getElem? (i := 40) rfl), rfl⟩
theorem wB_548 : Cond.methodLink RX7 75 yJ9_floorDiv_7cf53 ∈ dgB := List.mem_filter.mpr ⟨tbl_5 _ (List.mem_of_getElem? (i := 38) (by decide +kernel)), by decide +kernel⟩
theorem wB_549 : Cond.static yJ9_floorDiv_7cf53 ∈ dgB := List.mem_filter.mpr ⟨tbl_5 _ (List.mem_of_getElem? (i := 39) (by decide +kernel)), by decide +kernel⟩
theorem wB_550 : Cond.code yX7_bounded cX7_bounded 2 (some .int) ∈ dgB := List.mem_filter.mpr ⟨tbl_5 _ (List.mem_of_getElem? (i := 33) rfl), rfl⟩
theorem wB_551 : Cond.methodLink RX7 71 yX7_bounded ∈ dgB := List.mem_filter.mpr ⟨tbl_5 _ (List.mem_of_getElem? (i := 31) (by decide +kernel)), by decide +kernel⟩
theorem wB_552 : Cond.static yX7_bounded ∈ dgB := List.mem_filter.mpr ⟨tbl_5 _ (List.mem_of_getElem? (i := 32) (by decide +kernel)), by decide +kernel⟩
theorem wB_553 : Cond.initialized RX7 ∈ dgB := List.mem_filter.mpr ⟨tbl_1 _ (List.mem_of_getElem? (i := 10) (by decide +kernel)), by decide +kernel⟩
theorem wB_554 : Cond.methodLink RX7 15 yX2_hasRule ∈ dgB := List.mem_filter.mpr ⟨tbl_5 _ (List.mem_of_getElem? (i := 12) (by decide +kernel)), by decide +kernel⟩
theorem wB_555 : Cond.fieldLink RX7 25 "DarkMine$Ground" "ruleFrom" "[I" ∈ dgB := List.mem_filter.mpr ⟨tbl_2 _ (List.mem_of_getElem? (i := 4) (by decide +kernel)), by decide +kernel⟩
theorem wB_556 : Cond.fieldLink RX7 28 "DarkMine$Ground" "ruleEnd" "[I" ∈ dgB := List.mem_filter.mpr ⟨tbl_2 _ (List.mem_of_getElem? (i := 7) (by decide +kernel)), by decide +kernel⟩
theorem wB_557 : Cond.code yX7_pop cX7_pop 1 (some .int) ∈ dgB := List.mem_filter.mpr ⟨tbl_5 _ (List.mem_of_getElem? (i := 24) rfl), rfl⟩
theorem wB_558 : Cond.methodLink RX7 42 yX7_pop ∈ dgB := List.mem_filter.mpr ⟨tbl_5 _ (List.mem_of_getElem? (i := 21) (by decide +kernel)), by decide +kernel⟩
theorem wB_559 : Cond.instanceMethod yX7_pop ∈ dgB := List.mem_filter.mpr ⟨tbl_5 _ (List.mem_of_getElem? (i := 23) (by decide +kernel)), by decide +kernel⟩
theorem wB_560 : Cond.selects RX7 yX7_pop yX7_pop ∈ dgB := List.mem_filter.mpr ⟨List.mem_of_getElem? (i := 53) (by decide +kernel), by decide +kernel⟩
theorem wB_561 : Cond.fieldLink RX7 31 "DarkMine$Ground" "steps" "[I" ∈ dgB := List.mem_filter.mpr ⟨tbl_2 _ (List.mem_of_getElem? (i := 1) (by decide +kernel)), by decide +kernel⟩
theorem wB_562 : Cond.code yX7_result cX7_result 3 (some .int) ∈ dgB := List.mem_filter.mpr ⟨tbl_5 _ (List.mem_of_getElem? (i := 30) rfl), rfl⟩
theorem wB_563 : Cond.methodLink RX7 50 yX7_result ∈ dgB := List.mem_filter.mpr ⟨tbl_5 _ (List.mem_of_getElem? (i := 28) (by decide +kernel)), by decide +kernel⟩
theorem wB_564 : Cond.static yX7_result ∈ dgB := List.mem_filter.mpr ⟨tbl_5 _ (List.mem_of_getElem? (i := 29) (by decide +kernel)), by decide +kernel⟩
theorem wB_565 : Cond.code yX7_chosen cX7_chosen 3 (some .int) ∈ dgB := List.mem_filter.mpr ⟨tbl_5 _ (List.mem_of_getElem? (i := 27) rfl), rfl⟩
theorem wB_566 : Cond.methodLink RX7 46 yX7_chosen ∈ dgB := List.mem_filter.mpr ⟨tbl_5 _ (List.mem_of_getElem? (i := 25) (by decide +kernel)), by decide +kernel⟩
theorem wB_567 : Cond.static yX7_chosen ∈ dgB := List.mem_filter.mpr ⟨tbl_5 _ (List.mem_of_getElem? (i := 26) (by decide +kernel)), by decide +kernel⟩
theorem wB_568 : Cond.code yX7_push cX7_push 2 none ∈ dgB := List.mem_filter.mpr ⟨tbl_5 _ (List.mem_of_getElem? (i := 20) rfl), rfl⟩
theorem wB_569 : Cond.methodLink RX7 38 yX7_push ∈ dgB := List.mem_filter.mpr ⟨tbl_5 _ (List.mem_of_getElem? (i := 17) (by decide +kernel)), by decide +kernel⟩
theorem wB_570 : Cond.instanceMethod yX7_push ∈ dgB := List.mem_filter.mpr ⟨tbl_5 _ (List.mem_of_getElem? (i := 19) (by decide +kernel)), by decide +kernel⟩
theorem wB_571 : Cond.selects RX7 yX7_push yX7_push ∈ dgB := List.mem_filter.mpr ⟨List.mem_of_getElem? (i := 52) (by decide +kernel), by decide +kernel⟩
theorem wB_572 : Cond.code yX7_fact cX7_fact 2 (some .int) ∈ dgB := List.mem_filter.mpr ⟨tbl_5 _ (List.mem_of_getElem? (i := 16) rfl), rfl⟩
theorem wB_573 : Cond.methodLink RX7 34 yX7_fact ∈ dgB := List.mem_filter.mpr ⟨tbl_5 _ (List.mem_of_getElem? (i := 13) (by decide +kernel)), by decide +kernel⟩
theorem wB_574 : Cond.instanceMethod yX7_fact ∈ dgB := List.mem_filter.mpr ⟨tbl_5 _ (List.mem_of_getElem? (i := 15) (by decide +kernel)), by decide +kernel⟩
theorem wB_575 : Cond.selects RX7 yX7_fact yX7_fact ∈ dgB := List.mem_filter.mpr ⟨List.mem_of_getElem? (i := 51) (by decide +kernel), by decide +kernel⟩
noncomputable def F_r_push (o : Nat) (S : dg_S) (a1 : Int32) : dg_S := let x_1 : Int32 := zI S 215 7; (if (64 : Int32) ≤ x_1 then (S) else let S_4 : dg_S := dg_uf S 216 (upd (S.2.1 216) (x_1 : Int32).toNatClampNeg a1); let x_5 : Int32 := x_1 + (1 : Int32); let S_6 : dg_S := dg_uF S_4 215 7 (.int x_5); (S_6))
theorem F_r_push_p0 {o : Nat} {S : dg_S} {a1 : Int32} {x_1 : Int32} (h0 : x_1 = zI S 215 7) (h1 : (64 : Int32) ≤ x_1) : F_r_push o S a1 = S := by
  replace h0 := Eq.symm h0
  subst h0
  exact (Eq.trans (if_pos h1) rfl)
theorem F_r_push_p1 {o : Nat} {S : dg_S} {a1 : Int32} {S_6 : dg_S} {x_1 : Int32} {S_4 : dg_S} {x_5 : Int32} (h0 : x_1 = zI S 215 7) (h1 : ¬ ((64 : Int32) ≤ x_1)) (h2 : S_4 = dg_uf S 216 (upd (S.2.1 216) (x_1 : Int32).toNatClampNeg a1)) (h3 : x_5 = x_1 + (1 : Int32)) (h4 : S_6 = dg_uF S_4 215 7 (.int x_5)) : F_r_push o S a1 = S_6 := by
  replace h0 := Eq.symm h0
  subst h0
  replace h2 := Eq.symm h2
  subst h2
  replace h3 := Eq.symm h3
  subst h3
  replace h4 := Eq.symm h4
  subst h4
  exact (Eq.trans (if_neg h1) rfl)
set_option maxHeartbeats 8000000 in
set_option maxRecDepth 100000 in
theorem c_r_push (l : Launch) (g : Nat → ClassId) (D : va_G) (o : Nat) (S : dg_S) (a1 : Int32) (I : CX o S) (sz : Nat) : Met l yX7_push (bw yX7_push cX7_push 2 none) ({ frames := 1, cells := 0, slots := 0, locals := 32 } : Room) (dk_Pc g D (dg_w g shX o rfX S) sz [.ref (o + 215), .int a1]) (va_Qv (fun S' => CX o S' ∧ dg_sm shX [(37, 7)] [38] S S' ∧ (S' = F_r_push o S a1) ∧ True) (dg_B g D shX o rfX) (dg_A o shX.length sz)) 0 0 (dg_A o shX.length sz) := by
  refine dg_met (cc := cX7_push) (maxL := 2) (ret := none) (dk_dq rfl) rfl (Nat.le_of_ble_eq_true rfl) ?_
  intro p e s m args below meth c A hAe harg hx hb hr hml hts hown hlocks hin hP K hS hA1 hA ST hsz ls hl
  rw [← hAe]
  have F : CallFix p m c cX7_push 2 s args (bw yX7_push cX7_push 2 none) RX7 := ⟨hx, hb, hml, hown, hts⟩
  have hl : lv_has ls 2 [(0, .ref (o + 215)), (1, .int a1)] := hl
  have M_0 : dg_sm shX [(37, 7)] [38] S S := dg_sm.rf
  refine lv_aload_n hx hb dX7_push_0 rfl (lv_at hl 0 rfl) ?_
  obtain ⟨x_1, f_x_1, b_x_1⟩ := dg_I.int (i := 215) (k := 7) (lo := 0) (hi := 64) I sX_215 (by decide +kernel)
  refine dg_get (C := RX7) (T := TX7) (N := 8) hx hb hts (fun w h => bw_mem (wU_X7 w h)) hown K hP sX_215 rfl 7 (dk_dq rfl) (hts _ (bw_mem wB_532)) (fun _ h9 => h9) (v := .int x_1) f_x_1 dX7_push_1 ?_
  refine lv_bipush (v := 64) hx hb dX7_push_4 (by decide +kernel) ?_
  refine lv_icmp_ge (tgt := 29) hx hb dX7_push_6 (dk_dq rfl) (fun c_2 => ?_) (fun c_2 => ?_)
  · have jc_2 := dk_gec (k := 64) (by decide +kernel) c_2
    refine W.widen (k := 0) (n := 0) (Nat.le_of_ble_eq_true rfl) (Nat.le_of_ble_eq_true rfl) ?_
    exact dg_vret hx hb hr hlocks hP hS ⟨I, M_0, (Eq.symm (F_r_push_p0 (zI_eq f_x_1) c_2)), trivial⟩ dX7_push_29
  · have jc_2 := dk_ngec (k := 64) (by decide +kernel) c_2
    refine lv_aload_n hx hb dX7_push_9 rfl (lv_at hl 0 rfl) ?_
    refine dg_get (C := RX7) (T := TX7) (N := 8) hx hb hts (fun w h => bw_mem (wU_X7 w h)) hown K hP sX_215 rfl 6 (dk_dq rfl) (hts _ (bw_mem wB_533)) (fun _ h9 => h9) (v := .ref (o + 216)) (show S.1 215 6 = .ref (o + 216) from dg_I.rel (d := 1) I sX_215 (by decide +kernel)) dX7_push_10 ?_
    refine lv_aload_n hx hb dX7_push_13 rfl (lv_at hl 0 rfl) ?_
    refine dg_get (C := RX7) (T := TX7) (N := 8) hx hb hts (fun w h => bw_mem (wU_X7 w h)) hown K hP sX_215 rfl 7 (dk_dq rfl) (hts _ (bw_mem wB_532)) (fun _ h9 => h9) (v := .int x_1) f_x_1 dX7_push_14 ?_
    refine lv_iload_n hx hb dX7_push_17 rfl (lv_at hl 1 rfl) ?_
    have hin_3 : vp_in x_1 64 := (dk_inv2 (by omega))
    refine dg_iast hx hb K hP hS hA1 sX_216 hin_3 dX7_push_18 (fun S_4 e_4 H locs hP hS => ?_)
    have I_4 := dg_I.uf0 I e_4 sX_216 (by decide +kernel)
    have M_4 := dg_sm.uf M_0 e_4 sX_216 (dk_dq rfl)
    refine lv_aload_n hx hb dX7_push_19 rfl (lv_at hl 0 rfl) ?_
    refine lv_dup hx hb dX7_push_20 rfl ?_
    refine dg_get (C := RX7) (T := TX7) (N := 8) hx hb hts (fun w h => bw_mem (wU_X7 w h)) hown K hP sX_215 rfl 7 (dk_dq rfl) (hts _ (bw_mem wB_532)) (fun _ h9 => h9) (v := .int x_1) ((dg_uf_F e_4 215 7).trans f_x_1) dX7_push_21 ?_
    refine lv_iconst (v := 1) hx hb dX7_push_24 (by decide +kernel) ?_
    refine lv_iadd hx hb dX7_push_25 ?_
    refine lv_topi (fun x_5 ex_5 => ?_)
    have jx_5 : (x_5).toInt = (x_1).toInt + 1 := by rw [ex_5]; exact dk_addT2 rfl (by decide +kernel) (by omega)
    refine dg_put (ci := 7) (v := .int x_5) (ty := tyX7 7) (C := RX7) (T := TX7) (N := 8) hx hb hts (fun w h => bw_mem (wU_X7 w h)) tyX7 tyX7_ok nmX7 hown K hP hS hA1 sX_215 rfl 7 (dk_dq rfl) (hts _ (bw_mem wB_532)) (fun _ h9 => h9) rfl (by decide +kernel) rfl rfl dX7_push_26 (fun S_6 e_6 H locs hP hS => ?_)
    have I_6 := dg_I.uFi (lo := 0) (hi := 64) I_4 e_6 sX_215 (by decide +kernel) (show 0 ≤ (x_5).toInt ∧ (x_5).toInt ≤ 64 from (by omega))
    have M_6 := dg_sm.uF M_4 e_6 sX_215 (dk_dq rfl)
    refine W.widen (k := 0) (n := 0) (Nat.le_of_ble_eq_true rfl) (Nat.le_of_ble_eq_true rfl) ?_
    exact dg_vret hx hb hr hlocks hP hS ⟨I_6, M_6, (Eq.symm (F_r_push_p1 (zI_eq f_x_1) c_2 e_4 ex_5 e_6)), trivial⟩ dX7_push_29
noncomputable def F_r_pop (o : Nat) (S : dg_S) : dg_S × Int32 := let x_1 : Int32 := zI S 215 7; (if x_1 = (0 : Int32) then (S, (0 : Int32)) else let x_3 : Int32 := x_1 - (1 : Int32); let S_4 : dg_S := dg_uF S 215 7 (.int x_3); let x_6 : Int32 := S_4.2.1 216 (x_3 : Int32).toNatClampNeg; (S_4, x_6))
theorem F_r_pop_p0 {o : Nat} {S : dg_S} {S_4 : dg_S} {x_6 : Int32} {x_1 : Int32} {x_3 : Int32} (h0 : x_1 = zI S 215 7) (h1 : ¬ (x_1 = (0 : Int32))) (h2 : x_3 = x_1 - (1 : Int32)) (h3 : S_4 = dg_uF S 215 7 (.int x_3)) (h4 : x_6 = S_4.2.1 216 (x_3 : Int32).toNatClampNeg) : F_r_pop o S = (S_4, x_6) := by
  replace h0 := Eq.symm h0
  subst h0
  replace h2 := Eq.symm h2
  subst h2
  replace h3 := Eq.symm h3
  subst h3
  replace h4 := Eq.symm h4
  subst h4
  exact (Eq.trans (if_neg h1) rfl)
theorem F_r_pop_p1 {o : Nat} {S : dg_S} {x_1 : Int32} (h0 : x_1 = zI S 215 7) (h1 : x_1 = (0 : Int32)) : F_r_pop o S = (S, (0 : Int32)) := by
  replace h0 := Eq.symm h0
  subst h0
  exact (Eq.trans (if_pos h1) rfl)
set_option maxHeartbeats 8000000 in
set_option maxRecDepth 100000 in
theorem c_r_pop (l : Launch) (g : Nat → ClassId) (D : va_G) (o : Nat) (S : dg_S) (I : CX o S) (sz : Nat) : Met l yX7_pop (bw yX7_pop cX7_pop 1 (some .int)) ({ frames := 1, cells := 0, slots := 0, locals := 32 } : Room) (dk_Pc g D (dg_w g shX o rfX S) sz [.ref (o + 215)]) (va_Qi (fun (r : Int32) S' => CX o S' ∧ dg_sm shX [(37, 7)] [] S S' ∧ (S' = (F_r_pop o S).1 ∧ r = (F_r_pop o S).2) ∧ True) (dg_B g D shX o rfX) (dg_A o shX.length sz)) 0 0 (dg_A o shX.length sz) := by
  refine dg_met (cc := cX7_pop) (maxL := 1) (ret := (some .int)) (dk_dq rfl) rfl (Nat.le_of_ble_eq_true rfl) ?_
  intro p e s m args below meth c A hAe harg hx hb hr hml hts hown hlocks hin hP K hS hA1 hA ST hsz ls hl
  rw [← hAe]
  have F : CallFix p m c cX7_pop 1 s args (bw yX7_pop cX7_pop 1 (some .int)) RX7 := ⟨hx, hb, hml, hown, hts⟩
  have hl : lv_has ls 1 [(0, .ref (o + 215))] := hl
  have M_0 : dg_sm shX [(37, 7)] [] S S := dg_sm.rf
  refine lv_aload_n hx hb dX7_pop_0 rfl (lv_at hl 0 rfl) ?_
  obtain ⟨x_1, f_x_1, b_x_1⟩ := dg_I.int (i := 215) (k := 7) (lo := 0) (hi := 64) I sX_215 (by decide +kernel)
  refine dg_get (C := RX7) (T := TX7) (N := 8) hx hb hts (fun w h => bw_mem (wU_X7 w h)) hown K hP sX_215 rfl 7 (dk_dq rfl) (hts _ (bw_mem wB_532)) (fun _ h9 => h9) (v := .int x_1) f_x_1 dX7_pop_1 ?_
  refine lv_if_ne (tgt := 9) hx hb dX7_pop_4 (dk_dq rfl) (fun c_2 => ?_) (fun c_2 => ?_)
  · have jc_2 := dk_neqc (k := 0) (by decide +kernel) c_2
    refine lv_aload_n hx hb dX7_pop_9 rfl (lv_at hl 0 rfl) ?_
    refine lv_dup hx hb dX7_pop_10 rfl ?_
    refine dg_get (C := RX7) (T := TX7) (N := 8) hx hb hts (fun w h => bw_mem (wU_X7 w h)) hown K hP sX_215 rfl 7 (dk_dq rfl) (hts _ (bw_mem wB_532)) (fun _ h9 => h9) (v := .int x_1) f_x_1 dX7_pop_11 ?_
    refine lv_iconst (v := 1) hx hb dX7_pop_14 (by decide +kernel) ?_
    refine lv_isub hx hb dX7_pop_15 ?_
    refine lv_topi (fun x_3 ex_3 => ?_)
    have jx_3 : (x_3).toInt = (x_1).toInt - 1 := by rw [ex_3]; exact dk_subT2 rfl (by decide +kernel) (by omega)
    refine dg_put (ci := 7) (v := .int x_3) (ty := tyX7 7) (C := RX7) (T := TX7) (N := 8) hx hb hts (fun w h => bw_mem (wU_X7 w h)) tyX7 tyX7_ok nmX7 hown K hP hS hA1 sX_215 rfl 7 (dk_dq rfl) (hts _ (bw_mem wB_532)) (fun _ h9 => h9) rfl (by decide +kernel) rfl rfl dX7_pop_16 (fun S_4 e_4 H locs hP hS => ?_)
    have I_4 := dg_I.uFi (lo := 0) (hi := 64) I e_4 sX_215 (by decide +kernel) (show 0 ≤ (x_3).toInt ∧ (x_3).toInt ≤ 64 from (by omega))
    have M_4 := dg_sm.uF M_0 e_4 sX_215 (dk_dq rfl)
    refine lv_aload_n hx hb dX7_pop_19 rfl (lv_at hl 0 rfl) ?_
    refine dg_get (C := RX7) (T := TX7) (N := 8) hx hb hts (fun w h => bw_mem (wU_X7 w h)) hown K hP sX_215 rfl 6 (dk_dq rfl) (hts _ (bw_mem wB_533)) (fun _ h9 => h9) (v := .ref (o + 216)) (show S_4.1 215 6 = .ref (o + 216) from dg_I.rel (d := 1) I_4 sX_215 (by decide +kernel)) dX7_pop_20 ?_
    refine lv_aload_n hx hb dX7_pop_23 rfl (lv_at hl 0 rfl) ?_
    refine dg_get (C := RX7) (T := TX7) (N := 8) hx hb hts (fun w h => bw_mem (wU_X7 w h)) hown K hP sX_215 rfl 7 (dk_dq rfl) (hts _ (bw_mem wB_532)) (fun _ h9 => h9) (v := .int x_3) (dg_uF_at e_4) dX7_pop_24 ?_
    have hin_5 : vp_in x_3 64 := (dk_inv2 (by omega))
    refine dg_iald hx hb K hP sX_216 hin_5 dX7_pop_27 (fun x_6 ex_6 => ?_)
    refine W.widen (k := 0) (n := 0) (Nat.le_of_ble_eq_true rfl) (Nat.le_of_ble_eq_true rfl) ?_
    exact dg_iret hx hb hr hlocks rfl hP hS ⟨I_4, M_4, ⟨congrArg Prod.fst (Eq.symm (F_r_pop_p0 (zI_eq f_x_1) c_2 ex_3 e_4 (Eq.symm ex_6.symm))), congrArg Prod.snd (Eq.symm (F_r_pop_p0 (zI_eq f_x_1) c_2 ex_3 e_4 (Eq.symm ex_6.symm)))⟩, trivial⟩ dX7_pop_28
  · have jc_2 := dk_eqc (k := 0) (by decide +kernel) c_2
    refine lv_iconst (v := 0) hx hb dX7_pop_7 (by decide +kernel) ?_
    refine W.widen (k := 0) (n := 0) (Nat.le_of_ble_eq_true rfl) (Nat.le_of_ble_eq_true rfl) ?_
    exact dg_iret hx hb hr hlocks rfl hP hS ⟨I, M_0, ⟨congrArg Prod.fst (Eq.symm (F_r_pop_p1 (zI_eq f_x_1) c_2)), congrArg Prod.snd (Eq.symm (F_r_pop_p1 (zI_eq f_x_1) c_2))⟩, trivial⟩ dX7_pop_8
noncomputable def F_r_fact (o : Nat) (S : dg_S) (a1 : Int32) : Int32 := (if a1 = (-6 : Int32) then let x_2 : Int32 := zI S 215 5; x_2 else (if a1 = (-5 : Int32) then let x_3 : Int32 := zI S 215 4; x_3 else (if a1 = (-4 : Int32) then let x_4 : Int32 := zI S 215 3; x_4 else (if a1 = (-3 : Int32) then let x_5 : Int32 := zI S 215 2; x_5 else (if a1 = (-2 : Int32) then let x_6 : Int32 := zI S 215 1; x_6 else (if a1 = (-1 : Int32) then let x_7 : Int32 := zI S 215 0; x_7 else (1 : Int32)))))))
theorem F_r_fact_p0 {o : Nat} {S : dg_S} {a1 : Int32} (h0 : ¬ (a1 = (-6 : Int32))) (h1 : ¬ (a1 = (-5 : Int32))) (h2 : ¬ (a1 = (-4 : Int32))) (h3 : ¬ (a1 = (-3 : Int32))) (h4 : ¬ (a1 = (-2 : Int32))) (h5 : ¬ (a1 = (-1 : Int32))) : F_r_fact o S a1 = (1 : Int32) := (Eq.trans (if_neg h0) (Eq.trans (if_neg h1) (Eq.trans (if_neg h2) (Eq.trans (if_neg h3) (Eq.trans (if_neg h4) (Eq.trans (if_neg h5) rfl))))))
theorem F_r_fact_p1 {o : Nat} {S : dg_S} {a1 : Int32} {x_2 : Int32} (h0 : a1 = (-6 : Int32)) (h1 : x_2 = zI S 215 5) : F_r_fact o S a1 = x_2 := by
  replace h1 := Eq.symm h1
  subst h1
  exact (Eq.trans (if_pos h0) rfl)
theorem F_r_fact_p2 {o : Nat} {S : dg_S} {a1 : Int32} {x_3 : Int32} (h0 : ¬ (a1 = (-6 : Int32))) (h1 : a1 = (-5 : Int32)) (h2 : x_3 = zI S 215 4) : F_r_fact o S a1 = x_3 := by
  replace h2 := Eq.symm h2
  subst h2
  exact (Eq.trans (if_neg h0) (Eq.trans (if_pos h1) rfl))
theorem F_r_fact_p3 {o : Nat} {S : dg_S} {a1 : Int32} {x_4 : Int32} (h0 : ¬ (a1 = (-6 : Int32))) (h1 : ¬ (a1 = (-5 : Int32))) (h2 : a1 = (-4 : Int32)) (h3 : x_4 = zI S 215 3) : F_r_fact o S a1 = x_4 := by
  replace h3 := Eq.symm h3
  subst h3
  exact (Eq.trans (if_neg h0) (Eq.trans (if_neg h1) (Eq.trans (if_pos h2) rfl)))
theorem F_r_fact_p4 {o : Nat} {S : dg_S} {a1 : Int32} {x_5 : Int32} (h0 : ¬ (a1 = (-6 : Int32))) (h1 : ¬ (a1 = (-5 : Int32))) (h2 : ¬ (a1 = (-4 : Int32))) (h3 : a1 = (-3 : Int32)) (h4 : x_5 = zI S 215 2) : F_r_fact o S a1 = x_5 := by
  replace h4 := Eq.symm h4
  subst h4
  exact (Eq.trans (if_neg h0) (Eq.trans (if_neg h1) (Eq.trans (if_neg h2) (Eq.trans (if_pos h3) rfl))))
theorem F_r_fact_p5 {o : Nat} {S : dg_S} {a1 : Int32} {x_6 : Int32} (h0 : ¬ (a1 = (-6 : Int32))) (h1 : ¬ (a1 = (-5 : Int32))) (h2 : ¬ (a1 = (-4 : Int32))) (h3 : ¬ (a1 = (-3 : Int32))) (h4 : a1 = (-2 : Int32)) (h5 : x_6 = zI S 215 1) : F_r_fact o S a1 = x_6 := by
  replace h5 := Eq.symm h5
  subst h5
  exact (Eq.trans (if_neg h0) (Eq.trans (if_neg h1) (Eq.trans (if_neg h2) (Eq.trans (if_neg h3) (Eq.trans (if_pos h4) rfl)))))
theorem F_r_fact_p6 {o : Nat} {S : dg_S} {a1 : Int32} {x_7 : Int32} (h0 : ¬ (a1 = (-6 : Int32))) (h1 : ¬ (a1 = (-5 : Int32))) (h2 : ¬ (a1 = (-4 : Int32))) (h3 : ¬ (a1 = (-3 : Int32))) (h4 : ¬ (a1 = (-2 : Int32))) (h5 : a1 = (-1 : Int32)) (h6 : x_7 = zI S 215 0) : F_r_fact o S a1 = x_7 := by
  replace h6 := Eq.symm h6
  subst h6
  exact (Eq.trans (if_neg h0) (Eq.trans (if_neg h1) (Eq.trans (if_neg h2) (Eq.trans (if_neg h3) (Eq.trans (if_neg h4) (Eq.trans (if_pos h5) rfl))))))
set_option maxHeartbeats 8000000 in
set_option maxRecDepth 100000 in
theorem c_r_fact (l : Launch) (g : Nat → ClassId) (D : va_G) (o : Nat) (S : dg_S) (a1 : Int32) (I : CX o S) (sz : Nat) : Met l yX7_fact (bw yX7_fact cX7_fact 2 (some .int)) ({ frames := 1, cells := 0, slots := 0, locals := 32 } : Room) (dk_Pc g D (dg_w g shX o rfX S) sz [.ref (o + 215), .int a1]) (va_Qi (fun (r : Int32) S' => S' = S ∧ (r = F_r_fact o S a1) ∧ True) (dg_B g D shX o rfX) (dg_A o shX.length sz)) 0 0 (dg_A o shX.length sz) := by
  refine dg_met (cc := cX7_fact) (maxL := 2) (ret := (some .int)) (dk_dq rfl) rfl (Nat.le_of_ble_eq_true rfl) ?_
  intro p e s m args below meth c A hAe harg hx hb hr hml hts hown hlocks hin hP K hS hA1 hA ST hsz ls hl
  rw [← hAe]
  have F : CallFix p m c cX7_fact 2 s args (bw yX7_fact cX7_fact 2 (some .int)) RX7 := ⟨hx, hb, hml, hown, hts⟩
  have hl : lv_has ls 2 [(0, .ref (o + 215)), (1, .int a1)] := hl
  have M_0 : dg_sm shX [] [] S S := dg_sm.rf
  refine lv_iload_n hx hb dX7_fact_0 rfl (lv_at hl 1 rfl) ?_
  rcases (show ((a1).toInt < -6 ∨ -1 < (a1).toInt) ∨ (a1).toInt = -6 ∨ (a1).toInt = -5 ∨ (a1).toInt = -4 ∨ (a1).toInt = -3 ∨ (a1).toInt = -2 ∨ (a1).toInt = -1 by omega) with jc_1 | jc_1 | jc_1 | jc_1 | jc_1 | jc_1 | jc_1
  · refine lv_tableOut (tgt := 70) hx hb dX7_fact_1 jc_1 (dk_dq rfl) ?_
    refine lv_iconst (v := 1) hx hb dX7_fact_70 (by decide +kernel) ?_
    refine W.widen (k := 0) (n := 0) (Nat.le_of_ble_eq_true rfl) (Nat.le_of_ble_eq_true rfl) ?_
    exact dg_iret hx hb hr hlocks rfl hP hS ⟨rfl, (Eq.symm (F_r_fact_p0 (dk_neO jc_1 (k := -6) (b := -6) (by decide +kernel) (dk_dq rfl)) (dk_neO jc_1 (k := -5) (b := -5) (by decide +kernel) (dk_dq rfl)) (dk_neO jc_1 (k := -4) (b := -4) (by decide +kernel) (dk_dq rfl)) (dk_neO jc_1 (k := -3) (b := -3) (by decide +kernel) (dk_dq rfl)) (dk_neO jc_1 (k := -2) (b := -2) (by decide +kernel) (dk_dq rfl)) (dk_neO jc_1 (k := -1) (b := -1) (by decide +kernel) (dk_dq rfl)))), trivial⟩ dX7_fact_71
  · refine lv_tableIn (off := 64) (tgt := 65) hx hb dX7_fact_1 (by rw [jc_1]; decide) (by rw [jc_1]; decide) (by rw [jc_1]; decide +kernel) (dk_dq rfl) ?_
    refine lv_aload_n hx hb dX7_fact_65 rfl (lv_at hl 0 rfl) ?_
    obtain ⟨x_2, f_x_2, b_x_2⟩ := dg_I.int (i := 215) (k := 5) (lo := (-2147483648)) (hi := 2147483647) I sX_215 (by decide +kernel)
    refine dg_get (C := RX7) (T := TX7) (N := 8) hx hb hts (fun w h => bw_mem (wU_X7 w h)) hown K hP sX_215 rfl 5 (dk_dq rfl) (hts _ (bw_mem wB_534)) (fun _ h9 => h9) (v := .int x_2) f_x_2 dX7_fact_66 ?_
    refine W.widen (k := 0) (n := 0) (Nat.le_of_ble_eq_true rfl) (Nat.le_of_ble_eq_true rfl) ?_
    exact dg_iret hx hb hr hlocks rfl hP hS ⟨rfl, (Eq.symm (F_r_fact_p1 (dk_eqT jc_1 (k := -6) (by decide +kernel)) (zI_eq f_x_2))), trivial⟩ dX7_fact_69
  · refine lv_tableIn (off := 59) (tgt := 60) hx hb dX7_fact_1 (by rw [jc_1]; decide) (by rw [jc_1]; decide) (by rw [jc_1]; decide +kernel) (dk_dq rfl) ?_
    refine lv_aload_n hx hb dX7_fact_60 rfl (lv_at hl 0 rfl) ?_
    obtain ⟨x_3, f_x_3, b_x_3⟩ := dg_I.int (i := 215) (k := 4) (lo := (-2147483648)) (hi := 2147483647) I sX_215 (by decide +kernel)
    refine dg_get (C := RX7) (T := TX7) (N := 8) hx hb hts (fun w h => bw_mem (wU_X7 w h)) hown K hP sX_215 rfl 4 (dk_dq rfl) (hts _ (bw_mem wB_535)) (fun _ h9 => h9) (v := .int x_3) f_x_3 dX7_fact_61 ?_
    refine W.widen (k := 0) (n := 0) (Nat.le_of_ble_eq_true rfl) (Nat.le_of_ble_eq_true rfl) ?_
    exact dg_iret hx hb hr hlocks rfl hP hS ⟨rfl, (Eq.symm (F_r_fact_p2 (dk_neT jc_1 (k := -6) (b := -6) (by decide +kernel) (dk_dq rfl)) (dk_eqT jc_1 (k := -5) (by decide +kernel)) (zI_eq f_x_3))), trivial⟩ dX7_fact_64
  · refine lv_tableIn (off := 54) (tgt := 55) hx hb dX7_fact_1 (by rw [jc_1]; decide) (by rw [jc_1]; decide) (by rw [jc_1]; decide +kernel) (dk_dq rfl) ?_
    refine lv_aload_n hx hb dX7_fact_55 rfl (lv_at hl 0 rfl) ?_
    obtain ⟨x_4, f_x_4, b_x_4⟩ := dg_I.int (i := 215) (k := 3) (lo := (-2147483648)) (hi := 2147483647) I sX_215 (by decide +kernel)
    refine dg_get (C := RX7) (T := TX7) (N := 8) hx hb hts (fun w h => bw_mem (wU_X7 w h)) hown K hP sX_215 rfl 3 (dk_dq rfl) (hts _ (bw_mem wB_536)) (fun _ h9 => h9) (v := .int x_4) f_x_4 dX7_fact_56 ?_
    refine W.widen (k := 0) (n := 0) (Nat.le_of_ble_eq_true rfl) (Nat.le_of_ble_eq_true rfl) ?_
    exact dg_iret hx hb hr hlocks rfl hP hS ⟨rfl, (Eq.symm (F_r_fact_p3 (dk_neT jc_1 (k := -6) (b := -6) (by decide +kernel) (dk_dq rfl)) (dk_neT jc_1 (k := -5) (b := -5) (by decide +kernel) (dk_dq rfl)) (dk_eqT jc_1 (k := -4) (by decide +kernel)) (zI_eq f_x_4))), trivial⟩ dX7_fact_59
  · refine lv_tableIn (off := 49) (tgt := 50) hx hb dX7_fact_1 (by rw [jc_1]; decide) (by rw [jc_1]; decide) (by rw [jc_1]; decide +kernel) (dk_dq rfl) ?_
    refine lv_aload_n hx hb dX7_fact_50 rfl (lv_at hl 0 rfl) ?_
    obtain ⟨x_5, f_x_5, b_x_5⟩ := dg_I.int (i := 215) (k := 2) (lo := (-2147483648)) (hi := 2147483647) I sX_215 (by decide +kernel)
    refine dg_get (C := RX7) (T := TX7) (N := 8) hx hb hts (fun w h => bw_mem (wU_X7 w h)) hown K hP sX_215 rfl 2 (dk_dq rfl) (hts _ (bw_mem wB_537)) (fun _ h9 => h9) (v := .int x_5) f_x_5 dX7_fact_51 ?_
    refine W.widen (k := 0) (n := 0) (Nat.le_of_ble_eq_true rfl) (Nat.le_of_ble_eq_true rfl) ?_
    exact dg_iret hx hb hr hlocks rfl hP hS ⟨rfl, (Eq.symm (F_r_fact_p4 (dk_neT jc_1 (k := -6) (b := -6) (by decide +kernel) (dk_dq rfl)) (dk_neT jc_1 (k := -5) (b := -5) (by decide +kernel) (dk_dq rfl)) (dk_neT jc_1 (k := -4) (b := -4) (by decide +kernel) (dk_dq rfl)) (dk_eqT jc_1 (k := -3) (by decide +kernel)) (zI_eq f_x_5))), trivial⟩ dX7_fact_54
  · refine lv_tableIn (off := 44) (tgt := 45) hx hb dX7_fact_1 (by rw [jc_1]; decide) (by rw [jc_1]; decide) (by rw [jc_1]; decide +kernel) (dk_dq rfl) ?_
    refine lv_aload_n hx hb dX7_fact_45 rfl (lv_at hl 0 rfl) ?_
    obtain ⟨x_6, f_x_6, b_x_6⟩ := dg_I.int (i := 215) (k := 1) (lo := (-2147483648)) (hi := 2147483647) I sX_215 (by decide +kernel)
    refine dg_get (C := RX7) (T := TX7) (N := 8) hx hb hts (fun w h => bw_mem (wU_X7 w h)) hown K hP sX_215 rfl 1 (dk_dq rfl) (hts _ (bw_mem wB_538)) (fun _ h9 => h9) (v := .int x_6) f_x_6 dX7_fact_46 ?_
    refine W.widen (k := 0) (n := 0) (Nat.le_of_ble_eq_true rfl) (Nat.le_of_ble_eq_true rfl) ?_
    exact dg_iret hx hb hr hlocks rfl hP hS ⟨rfl, (Eq.symm (F_r_fact_p5 (dk_neT jc_1 (k := -6) (b := -6) (by decide +kernel) (dk_dq rfl)) (dk_neT jc_1 (k := -5) (b := -5) (by decide +kernel) (dk_dq rfl)) (dk_neT jc_1 (k := -4) (b := -4) (by decide +kernel) (dk_dq rfl)) (dk_neT jc_1 (k := -3) (b := -3) (by decide +kernel) (dk_dq rfl)) (dk_eqT jc_1 (k := -2) (by decide +kernel)) (zI_eq f_x_6))), trivial⟩ dX7_fact_49
  · refine lv_tableIn (off := 39) (tgt := 40) hx hb dX7_fact_1 (by rw [jc_1]; decide) (by rw [jc_1]; decide) (by rw [jc_1]; decide +kernel) (dk_dq rfl) ?_
    refine lv_aload_n hx hb dX7_fact_40 rfl (lv_at hl 0 rfl) ?_
    obtain ⟨x_7, f_x_7, b_x_7⟩ := dg_I.int (i := 215) (k := 0) (lo := (-2147483648)) (hi := 2147483647) I sX_215 (by decide +kernel)
    refine dg_get (C := RX7) (T := TX7) (N := 8) hx hb hts (fun w h => bw_mem (wU_X7 w h)) hown K hP sX_215 rfl 0 (dk_dq rfl) (hts _ (bw_mem wB_539)) (fun _ h9 => h9) (v := .int x_7) f_x_7 dX7_fact_41 ?_
    refine W.widen (k := 0) (n := 0) (Nat.le_of_ble_eq_true rfl) (Nat.le_of_ble_eq_true rfl) ?_
    exact dg_iret hx hb hr hlocks rfl hP hS ⟨rfl, (Eq.symm (F_r_fact_p6 (dk_neT jc_1 (k := -6) (b := -6) (by decide +kernel) (dk_dq rfl)) (dk_neT jc_1 (k := -5) (b := -5) (by decide +kernel) (dk_dq rfl)) (dk_neT jc_1 (k := -4) (b := -4) (by decide +kernel) (dk_dq rfl)) (dk_neT jc_1 (k := -3) (b := -3) (by decide +kernel) (dk_dq rfl)) (dk_neT jc_1 (k := -2) (b := -2) (by decide +kernel) (dk_dq rfl)) (dk_eqT jc_1 (k := -1) (by decide +kernel)) (zI_eq f_x_7))), trivial⟩ dX7_fact_44
noncomputable def F_r_chosen (o : Nat) (S : dg_S) (a1 : Int32) (a2 : Int32) (a3 : Int32) : Int32 := (if a1 = (1 : Int32) then a2 else a3)
theorem F_r_chosen_p0 {o : Nat} {S : dg_S} {a1 : Int32} {a2 : Int32} {a3 : Int32} (h0 : ¬ (a1 = (1 : Int32))) : F_r_chosen o S a1 a2 a3 = a3 := (Eq.trans (if_neg h0) rfl)
theorem F_r_chosen_p1 {o : Nat} {S : dg_S} {a1 : Int32} {a2 : Int32} {a3 : Int32} (h0 : a1 = (1 : Int32)) : F_r_chosen o S a1 a2 a3 = a2 := (Eq.trans (if_pos h0) rfl)
set_option maxHeartbeats 8000000 in
set_option maxRecDepth 100000 in
theorem c_r_chosen (l : Launch) (g : Nat → ClassId) (D : va_G) (o : Nat) (S : dg_S) (a1 : Int32) (a2 : Int32) (a3 : Int32) (I : CX o S) (sz : Nat) : Met l yX7_chosen (bw yX7_chosen cX7_chosen 3 (some .int)) ({ frames := 1, cells := 0, slots := 0, locals := 32 } : Room) (dk_Pc g D (dg_w g shX o rfX S) sz [.int a1, .int a2, .int a3]) (va_Qi (fun (r : Int32) S' => S' = S ∧ (r = F_r_chosen o S a1 a2 a3) ∧ True) (dg_B g D shX o rfX) (dg_A o shX.length sz)) 0 0 (dg_A o shX.length sz) := by
  refine dg_met (cc := cX7_chosen) (maxL := 3) (ret := (some .int)) (dk_dq rfl) rfl (Nat.le_of_ble_eq_true rfl) ?_
  intro p e s m args below meth c A hAe harg hx hb hr hml hts hown hlocks hin hP K hS hA1 hA ST hsz ls hl
  rw [← hAe]
  have F : CallFix p m c cX7_chosen 3 s args (bw yX7_chosen cX7_chosen 3 (some .int)) RX7 := ⟨hx, hb, hml, hown, hts⟩
  have hl : lv_has ls 3 [(0, .int a1), (1, .int a2), (2, .int a3)] := hl
  have M_0 : dg_sm shX [] [] S S := dg_sm.rf
  refine lv_iload_n hx hb dX7_chosen_0 rfl (lv_at hl 0 rfl) ?_
  refine lv_iconst (v := 1) hx hb dX7_chosen_1 (by decide +kernel) ?_
  refine lv_icmp_ne (tgt := 9) hx hb dX7_chosen_2 (dk_dq rfl) (fun c_1 => ?_) (fun c_1 => ?_)
  · have jc_1 := dk_neqc (k := 1) (by decide +kernel) c_1
    refine lv_iload_n hx hb dX7_chosen_9 rfl (lv_at hl 2 rfl) ?_
    refine W.widen (k := 0) (n := 0) (Nat.le_of_ble_eq_true rfl) (Nat.le_of_ble_eq_true rfl) ?_
    exact dg_iret hx hb hr hlocks rfl hP hS ⟨rfl, (Eq.symm (F_r_chosen_p0 c_1)), trivial⟩ dX7_chosen_10
  · have jc_1 := dk_eqc (k := 1) (by decide +kernel) c_1
    refine lv_iload_n hx hb dX7_chosen_5 rfl (lv_at hl 1 rfl) ?_
    refine lv_goto (tgt := 10) hx hb dX7_chosen_6 (dk_dq rfl) ?_
    refine W.widen (k := 0) (n := 0) (Nat.le_of_ble_eq_true rfl) (Nat.le_of_ble_eq_true rfl) ?_
    exact dg_iret hx hb hr hlocks rfl hP hS ⟨rfl, (Eq.symm (F_r_chosen_p1 c_1)), trivial⟩ dX7_chosen_10
noncomputable def F_r_bounded (o : Nat) (S : dg_S) (b1 : Int64) : Int32 := let x_1 : Int32 := lg_cmp b1 (1000000 : Int64); (if x_1 ≤ (0 : Int32) then let x_3 : Int32 := lg_cmp b1 (-1000000 : Int64); (if (0 : Int32) ≤ x_3 then let x_5 : Int32 := Int64.toInt32 b1; x_5 else (-1000000 : Int32)) else (1000000 : Int32))
theorem F_r_bounded_p0 {o : Nat} {S : dg_S} {b1 : Int64} {x_5 : Int32} {x_1 : Int32} {x_3 : Int32} (h0 : x_1 = lg_cmp b1 (1000000 : Int64)) (h1 : x_1 ≤ (0 : Int32)) (h2 : x_3 = lg_cmp b1 (-1000000 : Int64)) (h3 : (0 : Int32) ≤ x_3) (h4 : x_5 = Int64.toInt32 b1) : F_r_bounded o S b1 = x_5 := by
  replace h0 := Eq.symm h0
  subst h0
  replace h2 := Eq.symm h2
  subst h2
  replace h4 := Eq.symm h4
  subst h4
  exact (Eq.trans (if_pos h1) (Eq.trans (if_pos h3) rfl))
theorem F_r_bounded_p1 {o : Nat} {S : dg_S} {b1 : Int64} {x_1 : Int32} {x_3 : Int32} (h0 : x_1 = lg_cmp b1 (1000000 : Int64)) (h1 : x_1 ≤ (0 : Int32)) (h2 : x_3 = lg_cmp b1 (-1000000 : Int64)) (h3 : ¬ ((0 : Int32) ≤ x_3)) : F_r_bounded o S b1 = (-1000000 : Int32) := by
  replace h0 := Eq.symm h0
  subst h0
  replace h2 := Eq.symm h2
  subst h2
  exact (Eq.trans (if_pos h1) (Eq.trans (if_neg h3) rfl))
theorem F_r_bounded_p2 {o : Nat} {S : dg_S} {b1 : Int64} {x_1 : Int32} (h0 : x_1 = lg_cmp b1 (1000000 : Int64)) (h1 : ¬ (x_1 ≤ (0 : Int32))) : F_r_bounded o S b1 = (1000000 : Int32) := by
  replace h0 := Eq.symm h0
  subst h0
  exact (Eq.trans (if_neg h1) rfl)
set_option maxHeartbeats 8000000 in
set_option maxRecDepth 100000 in
theorem c_r_bounded (l : Launch) (g : Nat → ClassId) (D : va_G) (o : Nat) (S : dg_S) (b1 : Int64) (I : CX o S) (sz : Nat) : Met l yX7_bounded (bw yX7_bounded cX7_bounded 2 (some .int)) ({ frames := 1, cells := 0, slots := 0, locals := 32 } : Room) (dk_Pc g D (dg_w g shX o rfX S) sz [.long b1]) (va_Qi (fun (r : Int32) S' => S' = S ∧ (r = F_r_bounded o S b1) ∧ True) (dg_B g D shX o rfX) (dg_A o shX.length sz)) 0 0 (dg_A o shX.length sz) := by
  refine dg_met (cc := cX7_bounded) (maxL := 2) (ret := (some .int)) (dk_dq rfl) rfl (Nat.le_of_ble_eq_true rfl) ?_
  intro p e s m args below meth c A hAe harg hx hb hr hml hts hown hlocks hin hP K hS hA1 hA ST hsz ls hl
  rw [← hAe]
  have F : CallFix p m c cX7_bounded 2 s args (bw yX7_bounded cX7_bounded 2 (some .int)) RX7 := ⟨hx, hb, hml, hown, hts⟩
  have hl : lv_has ls 2 [(0, .long b1)] := hl
  have M_0 : dg_sm shX [] [] S S := dg_sm.rf
  refine lv_lload_n hx hb dX7_bounded_0 rfl (lv_at hl 0 rfl) ?_
  refine lv_ldc2 hx hb hown (hts _ (bw_mem wB_540)) dX7_bounded_1 ?_
  refine W.lcmp hx hb dX7_bounded_4 ?_
  refine lv_topi (fun x_1 ex_1 => ?_)
  refine lv_if_le (tgt := 11) hx hb dX7_bounded_5 (dk_dq rfl) (fun c_2 => ?_) (fun c_2 => ?_)
  · have jc_2 := dk_lec (k := 0) (by decide +kernel) c_2
    refine lv_lload_n hx hb dX7_bounded_11 rfl (lv_at hl 0 rfl) ?_
    refine lv_ldc2 hx hb hown (hts _ (bw_mem wB_541)) dX7_bounded_12 ?_
    refine W.lcmp hx hb dX7_bounded_15 ?_
    refine lv_topi (fun x_3 ex_3 => ?_)
    refine lv_if_ge (tgt := 24) hx hb dX7_bounded_16 (dk_dq rfl) (fun c_4 => ?_) (fun c_4 => ?_)
    · have jc_4 := dk_gec (k := 0) (by decide +kernel) c_4
      refine lv_lload_n hx hb dX7_bounded_24 rfl (lv_at hl 0 rfl) ?_
      obtain ⟨x_5, ex_5⟩ : ∃ z, (b1 : Int64).toInt32 = z := ⟨_, rfl⟩
      refine lv_l2i (v := x_5) hx hb dX7_bounded_25 ex_5 ?_
      refine W.widen (k := 0) (n := 0) (Nat.le_of_ble_eq_true rfl) (Nat.le_of_ble_eq_true rfl) ?_
      exact dg_iret hx hb hr hlocks rfl hP hS ⟨rfl, (Eq.symm (F_r_bounded_p0 ex_1 c_2 ex_3 c_4 (Eq.symm ex_5))), trivial⟩ dX7_bounded_26
    · have jc_4 := dk_ngec (k := 0) (by decide +kernel) c_4
      refine lv_ldc hx hb hown (hts _ (bw_mem wB_542)) dX7_bounded_19 ?_
      refine lv_goto (tgt := 26) hx hb dX7_bounded_21 (dk_dq rfl) ?_
      refine W.widen (k := 0) (n := 0) (Nat.le_of_ble_eq_true rfl) (Nat.le_of_ble_eq_true rfl) ?_
      exact dg_iret hx hb hr hlocks rfl hP hS ⟨rfl, (Eq.symm (F_r_bounded_p1 ex_1 c_2 ex_3 c_4)), trivial⟩ dX7_bounded_26
  · have jc_2 := dk_nlec (k := 0) (by decide +kernel) c_2
    refine lv_ldc hx hb hown (hts _ (bw_mem wB_543)) dX7_bounded_8 ?_
    refine W.widen (k := 0) (n := 0) (Nat.le_of_ble_eq_true rfl) (Nat.le_of_ble_eq_true rfl) ?_
    exact dg_iret hx hb hr hlocks rfl hP hS ⟨rfl, (Eq.symm (F_r_bounded_p2 ex_1 c_2)), trivial⟩ dX7_bounded_10
noncomputable def F_r_result (o : Nat) (S : dg_S) (a1 : Int32) (a2 : Int32) (a3 : Int32) : Int32 := (if a1 = (-20 : Int32) then let x_3 : Int32 := a2 &&& a3; x_3 else (if a1 = (-19 : Int32) then (if a2 = a3 then (1 : Int32) else (0 : Int32)) else (if a1 = (-18 : Int32) then (if a2 ≤ a3 then (0 : Int32) else (1 : Int32)) else (if a1 = (-17 : Int32) then (if a3 ≤ a2 then (0 : Int32) else (1 : Int32)) else (if a1 = (-16 : Int32) then (if a2 ≤ a3 then a3 else a2) else (if a1 = (-15 : Int32) then (if a3 ≤ a2 then a3 else a2) else (if a1 = (-14 : Int32) then (if a3 = (0 : Int32) then (0 : Int32) else let x_30 : Int32 := F_floorMod o S a2 a3; x_30) else (if a1 = (-13 : Int32) then (if a3 = (0 : Int32) then (0 : Int32) else let x_33 : Int32 := F_floorDiv o S a2 a3; let x_35 : Int64 := Int32.toInt64 x_33; let x_36 : Int32 := F_r_bounded o S x_35; x_36) else (if a1 = (-12 : Int32) then let x_38 : Int64 := Int32.toInt64 a2; let x_39 : Int64 := Int32.toInt64 a3; let x_40 : Int64 := x_38 * x_39; let x_41 : Int32 := F_r_bounded o S x_40; x_41 else (if a1 = (-11 : Int32) then let x_43 : Int64 := Int32.toInt64 a2; let x_44 : Int64 := Int32.toInt64 a3; let x_45 : Int64 := x_43 - x_44; let x_46 : Int32 := F_r_bounded o S x_45; x_46 else (if a1 = (-10 : Int32) then let x_48 : Int64 := Int32.toInt64 a2; let x_49 : Int64 := Int32.toInt64 a3; let x_50 : Int64 := x_48 + x_49; let x_51 : Int32 := F_r_bounded o S x_50; x_51 else let x_2 : Int32 := a2 ||| a3; x_2)))))))))))
theorem F_r_result_p0 {o : Nat} {S : dg_S} {a1 : Int32} {a2 : Int32} {a3 : Int32} {x_2 : Int32} (h0 : ¬ (a1 = (-20 : Int32))) (h1 : ¬ (a1 = (-19 : Int32))) (h2 : ¬ (a1 = (-18 : Int32))) (h3 : ¬ (a1 = (-17 : Int32))) (h4 : ¬ (a1 = (-16 : Int32))) (h5 : ¬ (a1 = (-15 : Int32))) (h6 : ¬ (a1 = (-14 : Int32))) (h7 : ¬ (a1 = (-13 : Int32))) (h8 : ¬ (a1 = (-12 : Int32))) (h9 : ¬ (a1 = (-11 : Int32))) (h10 : ¬ (a1 = (-10 : Int32))) (h11 : x_2 = a2 ||| a3) : F_r_result o S a1 a2 a3 = x_2 := by
  replace h11 := Eq.symm h11
  subst h11
  exact (Eq.trans (if_neg h0) (Eq.trans (if_neg h1) (Eq.trans (if_neg h2) (Eq.trans (if_neg h3) (Eq.trans (if_neg h4) (Eq.trans (if_neg h5) (Eq.trans (if_neg h6) (Eq.trans (if_neg h7) (Eq.trans (if_neg h8) (Eq.trans (if_neg h9) (Eq.trans (if_neg h10) rfl)))))))))))
theorem F_r_result_p1 {o : Nat} {S : dg_S} {a1 : Int32} {a2 : Int32} {a3 : Int32} {x_3 : Int32} (h0 : a1 = (-20 : Int32)) (h1 : x_3 = a2 &&& a3) : F_r_result o S a1 a2 a3 = x_3 := by
  replace h1 := Eq.symm h1
  subst h1
  exact (Eq.trans (if_pos h0) rfl)
theorem F_r_result_p2 {o : Nat} {S : dg_S} {a1 : Int32} {a2 : Int32} {a3 : Int32} (h0 : ¬ (a1 = (-20 : Int32))) (h1 : a1 = (-19 : Int32)) (h2 : ¬ (a2 = a3)) : F_r_result o S a1 a2 a3 = (0 : Int32) := (Eq.trans (if_neg h0) (Eq.trans (if_pos h1) (Eq.trans (if_neg h2) rfl)))
theorem F_r_result_p3 {o : Nat} {S : dg_S} {a1 : Int32} {a2 : Int32} {a3 : Int32} (h0 : ¬ (a1 = (-20 : Int32))) (h1 : a1 = (-19 : Int32)) (h2 : a2 = a3) : F_r_result o S a1 a2 a3 = (1 : Int32) := (Eq.trans (if_neg h0) (Eq.trans (if_pos h1) (Eq.trans (if_pos h2) rfl)))
theorem F_r_result_p4 {o : Nat} {S : dg_S} {a1 : Int32} {a2 : Int32} {a3 : Int32} (h0 : ¬ (a1 = (-20 : Int32))) (h1 : ¬ (a1 = (-19 : Int32))) (h2 : a1 = (-18 : Int32)) (h3 : a2 ≤ a3) : F_r_result o S a1 a2 a3 = (0 : Int32) := (Eq.trans (if_neg h0) (Eq.trans (if_neg h1) (Eq.trans (if_pos h2) (Eq.trans (if_pos h3) rfl))))
theorem F_r_result_p5 {o : Nat} {S : dg_S} {a1 : Int32} {a2 : Int32} {a3 : Int32} (h0 : ¬ (a1 = (-20 : Int32))) (h1 : ¬ (a1 = (-19 : Int32))) (h2 : a1 = (-18 : Int32)) (h3 : ¬ (a2 ≤ a3)) : F_r_result o S a1 a2 a3 = (1 : Int32) := (Eq.trans (if_neg h0) (Eq.trans (if_neg h1) (Eq.trans (if_pos h2) (Eq.trans (if_neg h3) rfl))))
theorem F_r_result_p6 {o : Nat} {S : dg_S} {a1 : Int32} {a2 : Int32} {a3 : Int32} (h0 : ¬ (a1 = (-20 : Int32))) (h1 : ¬ (a1 = (-19 : Int32))) (h2 : ¬ (a1 = (-18 : Int32))) (h3 : a1 = (-17 : Int32)) (h4 : a3 ≤ a2) : F_r_result o S a1 a2 a3 = (0 : Int32) := (Eq.trans (if_neg h0) (Eq.trans (if_neg h1) (Eq.trans (if_neg h2) (Eq.trans (if_pos h3) (Eq.trans (if_pos h4) rfl)))))
theorem F_r_result_p7 {o : Nat} {S : dg_S} {a1 : Int32} {a2 : Int32} {a3 : Int32} (h0 : ¬ (a1 = (-20 : Int32))) (h1 : ¬ (a1 = (-19 : Int32))) (h2 : ¬ (a1 = (-18 : Int32))) (h3 : a1 = (-17 : Int32)) (h4 : ¬ (a3 ≤ a2)) : F_r_result o S a1 a2 a3 = (1 : Int32) := (Eq.trans (if_neg h0) (Eq.trans (if_neg h1) (Eq.trans (if_neg h2) (Eq.trans (if_pos h3) (Eq.trans (if_neg h4) rfl)))))
theorem F_r_result_p8 {o : Nat} {S : dg_S} {a1 : Int32} {a2 : Int32} {a3 : Int32} (h0 : ¬ (a1 = (-20 : Int32))) (h1 : ¬ (a1 = (-19 : Int32))) (h2 : ¬ (a1 = (-18 : Int32))) (h3 : ¬ (a1 = (-17 : Int32))) (h4 : a1 = (-16 : Int32)) (h5 : a2 ≤ a3) : F_r_result o S a1 a2 a3 = a3 := (Eq.trans (if_neg h0) (Eq.trans (if_neg h1) (Eq.trans (if_neg h2) (Eq.trans (if_neg h3) (Eq.trans (if_pos h4) (Eq.trans (if_pos h5) rfl))))))
theorem F_r_result_p9 {o : Nat} {S : dg_S} {a1 : Int32} {a2 : Int32} {a3 : Int32} (h0 : ¬ (a1 = (-20 : Int32))) (h1 : ¬ (a1 = (-19 : Int32))) (h2 : ¬ (a1 = (-18 : Int32))) (h3 : ¬ (a1 = (-17 : Int32))) (h4 : a1 = (-16 : Int32)) (h5 : ¬ (a2 ≤ a3)) : F_r_result o S a1 a2 a3 = a2 := (Eq.trans (if_neg h0) (Eq.trans (if_neg h1) (Eq.trans (if_neg h2) (Eq.trans (if_neg h3) (Eq.trans (if_pos h4) (Eq.trans (if_neg h5) rfl))))))
theorem F_r_result_p10 {o : Nat} {S : dg_S} {a1 : Int32} {a2 : Int32} {a3 : Int32} (h0 : ¬ (a1 = (-20 : Int32))) (h1 : ¬ (a1 = (-19 : Int32))) (h2 : ¬ (a1 = (-18 : Int32))) (h3 : ¬ (a1 = (-17 : Int32))) (h4 : ¬ (a1 = (-16 : Int32))) (h5 : a1 = (-15 : Int32)) (h6 : a3 ≤ a2) : F_r_result o S a1 a2 a3 = a3 := (Eq.trans (if_neg h0) (Eq.trans (if_neg h1) (Eq.trans (if_neg h2) (Eq.trans (if_neg h3) (Eq.trans (if_neg h4) (Eq.trans (if_pos h5) (Eq.trans (if_pos h6) rfl)))))))
theorem F_r_result_p11 {o : Nat} {S : dg_S} {a1 : Int32} {a2 : Int32} {a3 : Int32} (h0 : ¬ (a1 = (-20 : Int32))) (h1 : ¬ (a1 = (-19 : Int32))) (h2 : ¬ (a1 = (-18 : Int32))) (h3 : ¬ (a1 = (-17 : Int32))) (h4 : ¬ (a1 = (-16 : Int32))) (h5 : a1 = (-15 : Int32)) (h6 : ¬ (a3 ≤ a2)) : F_r_result o S a1 a2 a3 = a2 := (Eq.trans (if_neg h0) (Eq.trans (if_neg h1) (Eq.trans (if_neg h2) (Eq.trans (if_neg h3) (Eq.trans (if_neg h4) (Eq.trans (if_pos h5) (Eq.trans (if_neg h6) rfl)))))))
theorem F_r_result_p12 {o : Nat} {S : dg_S} {a1 : Int32} {a2 : Int32} {a3 : Int32} {x_30 : Int32} (h0 : ¬ (a1 = (-20 : Int32))) (h1 : ¬ (a1 = (-19 : Int32))) (h2 : ¬ (a1 = (-18 : Int32))) (h3 : ¬ (a1 = (-17 : Int32))) (h4 : ¬ (a1 = (-16 : Int32))) (h5 : ¬ (a1 = (-15 : Int32))) (h6 : a1 = (-14 : Int32)) (h7 : ¬ (a3 = (0 : Int32))) (h8 : x_30 = F_floorMod o S a2 a3) : F_r_result o S a1 a2 a3 = x_30 := by
  replace h8 := Eq.symm h8
  subst h8
  exact (Eq.trans (if_neg h0) (Eq.trans (if_neg h1) (Eq.trans (if_neg h2) (Eq.trans (if_neg h3) (Eq.trans (if_neg h4) (Eq.trans (if_neg h5) (Eq.trans (if_pos h6) (Eq.trans (if_neg h7) rfl))))))))
theorem F_r_result_p13 {o : Nat} {S : dg_S} {a1 : Int32} {a2 : Int32} {a3 : Int32} (h0 : ¬ (a1 = (-20 : Int32))) (h1 : ¬ (a1 = (-19 : Int32))) (h2 : ¬ (a1 = (-18 : Int32))) (h3 : ¬ (a1 = (-17 : Int32))) (h4 : ¬ (a1 = (-16 : Int32))) (h5 : ¬ (a1 = (-15 : Int32))) (h6 : a1 = (-14 : Int32)) (h7 : a3 = (0 : Int32)) : F_r_result o S a1 a2 a3 = (0 : Int32) := (Eq.trans (if_neg h0) (Eq.trans (if_neg h1) (Eq.trans (if_neg h2) (Eq.trans (if_neg h3) (Eq.trans (if_neg h4) (Eq.trans (if_neg h5) (Eq.trans (if_pos h6) (Eq.trans (if_pos h7) rfl))))))))
theorem F_r_result_p14 {o : Nat} {S : dg_S} {a1 : Int32} {a2 : Int32} {a3 : Int32} {x_36 : Int32} {x_33 : Int32} {x_35 : Int64} (h0 : ¬ (a1 = (-20 : Int32))) (h1 : ¬ (a1 = (-19 : Int32))) (h2 : ¬ (a1 = (-18 : Int32))) (h3 : ¬ (a1 = (-17 : Int32))) (h4 : ¬ (a1 = (-16 : Int32))) (h5 : ¬ (a1 = (-15 : Int32))) (h6 : ¬ (a1 = (-14 : Int32))) (h7 : a1 = (-13 : Int32)) (h8 : ¬ (a3 = (0 : Int32))) (h9 : x_33 = F_floorDiv o S a2 a3) (h10 : x_35 = Int32.toInt64 x_33) (h11 : x_36 = F_r_bounded o S x_35) : F_r_result o S a1 a2 a3 = x_36 := by
  replace h9 := Eq.symm h9
  subst h9
  replace h10 := Eq.symm h10
  subst h10
  replace h11 := Eq.symm h11
  subst h11
  exact (Eq.trans (if_neg h0) (Eq.trans (if_neg h1) (Eq.trans (if_neg h2) (Eq.trans (if_neg h3) (Eq.trans (if_neg h4) (Eq.trans (if_neg h5) (Eq.trans (if_neg h6) (Eq.trans (if_pos h7) (Eq.trans (if_neg h8) rfl)))))))))
theorem F_r_result_p15 {o : Nat} {S : dg_S} {a1 : Int32} {a2 : Int32} {a3 : Int32} (h0 : ¬ (a1 = (-20 : Int32))) (h1 : ¬ (a1 = (-19 : Int32))) (h2 : ¬ (a1 = (-18 : Int32))) (h3 : ¬ (a1 = (-17 : Int32))) (h4 : ¬ (a1 = (-16 : Int32))) (h5 : ¬ (a1 = (-15 : Int32))) (h6 : ¬ (a1 = (-14 : Int32))) (h7 : a1 = (-13 : Int32)) (h8 : a3 = (0 : Int32)) : F_r_result o S a1 a2 a3 = (0 : Int32) := (Eq.trans (if_neg h0) (Eq.trans (if_neg h1) (Eq.trans (if_neg h2) (Eq.trans (if_neg h3) (Eq.trans (if_neg h4) (Eq.trans (if_neg h5) (Eq.trans (if_neg h6) (Eq.trans (if_pos h7) (Eq.trans (if_pos h8) rfl)))))))))
theorem F_r_result_p16 {o : Nat} {S : dg_S} {a1 : Int32} {a2 : Int32} {a3 : Int32} {x_41 : Int32} {x_38 : Int64} {x_39 : Int64} {x_40 : Int64} (h0 : ¬ (a1 = (-20 : Int32))) (h1 : ¬ (a1 = (-19 : Int32))) (h2 : ¬ (a1 = (-18 : Int32))) (h3 : ¬ (a1 = (-17 : Int32))) (h4 : ¬ (a1 = (-16 : Int32))) (h5 : ¬ (a1 = (-15 : Int32))) (h6 : ¬ (a1 = (-14 : Int32))) (h7 : ¬ (a1 = (-13 : Int32))) (h8 : a1 = (-12 : Int32)) (h9 : x_38 = Int32.toInt64 a2) (h10 : x_39 = Int32.toInt64 a3) (h11 : x_40 = x_38 * x_39) (h12 : x_41 = F_r_bounded o S x_40) : F_r_result o S a1 a2 a3 = x_41 := by
  replace h9 := Eq.symm h9
  subst h9
  replace h10 := Eq.symm h10
  subst h10
  replace h11 := Eq.symm h11
  subst h11
  replace h12 := Eq.symm h12
  subst h12
  exact (Eq.trans (if_neg h0) (Eq.trans (if_neg h1) (Eq.trans (if_neg h2) (Eq.trans (if_neg h3) (Eq.trans (if_neg h4) (Eq.trans (if_neg h5) (Eq.trans (if_neg h6) (Eq.trans (if_neg h7) (Eq.trans (if_pos h8) rfl)))))))))
theorem F_r_result_p17 {o : Nat} {S : dg_S} {a1 : Int32} {a2 : Int32} {a3 : Int32} {x_46 : Int32} {x_43 : Int64} {x_44 : Int64} {x_45 : Int64} (h0 : ¬ (a1 = (-20 : Int32))) (h1 : ¬ (a1 = (-19 : Int32))) (h2 : ¬ (a1 = (-18 : Int32))) (h3 : ¬ (a1 = (-17 : Int32))) (h4 : ¬ (a1 = (-16 : Int32))) (h5 : ¬ (a1 = (-15 : Int32))) (h6 : ¬ (a1 = (-14 : Int32))) (h7 : ¬ (a1 = (-13 : Int32))) (h8 : ¬ (a1 = (-12 : Int32))) (h9 : a1 = (-11 : Int32)) (h10 : x_43 = Int32.toInt64 a2) (h11 : x_44 = Int32.toInt64 a3) (h12 : x_45 = x_43 - x_44) (h13 : x_46 = F_r_bounded o S x_45) : F_r_result o S a1 a2 a3 = x_46 := by
  replace h10 := Eq.symm h10
  subst h10
  replace h11 := Eq.symm h11
  subst h11
  replace h12 := Eq.symm h12
  subst h12
  replace h13 := Eq.symm h13
  subst h13
  exact (Eq.trans (if_neg h0) (Eq.trans (if_neg h1) (Eq.trans (if_neg h2) (Eq.trans (if_neg h3) (Eq.trans (if_neg h4) (Eq.trans (if_neg h5) (Eq.trans (if_neg h6) (Eq.trans (if_neg h7) (Eq.trans (if_neg h8) (Eq.trans (if_pos h9) rfl))))))))))
theorem F_r_result_p18 {o : Nat} {S : dg_S} {a1 : Int32} {a2 : Int32} {a3 : Int32} {x_51 : Int32} {x_48 : Int64} {x_49 : Int64} {x_50 : Int64} (h0 : ¬ (a1 = (-20 : Int32))) (h1 : ¬ (a1 = (-19 : Int32))) (h2 : ¬ (a1 = (-18 : Int32))) (h3 : ¬ (a1 = (-17 : Int32))) (h4 : ¬ (a1 = (-16 : Int32))) (h5 : ¬ (a1 = (-15 : Int32))) (h6 : ¬ (a1 = (-14 : Int32))) (h7 : ¬ (a1 = (-13 : Int32))) (h8 : ¬ (a1 = (-12 : Int32))) (h9 : ¬ (a1 = (-11 : Int32))) (h10 : a1 = (-10 : Int32)) (h11 : x_48 = Int32.toInt64 a2) (h12 : x_49 = Int32.toInt64 a3) (h13 : x_50 = x_48 + x_49) (h14 : x_51 = F_r_bounded o S x_50) : F_r_result o S a1 a2 a3 = x_51 := by
  replace h11 := Eq.symm h11
  subst h11
  replace h12 := Eq.symm h12
  subst h12
  replace h13 := Eq.symm h13
  subst h13
  replace h14 := Eq.symm h14
  subst h14
  exact (Eq.trans (if_neg h0) (Eq.trans (if_neg h1) (Eq.trans (if_neg h2) (Eq.trans (if_neg h3) (Eq.trans (if_neg h4) (Eq.trans (if_neg h5) (Eq.trans (if_neg h6) (Eq.trans (if_neg h7) (Eq.trans (if_neg h8) (Eq.trans (if_neg h9) (Eq.trans (if_pos h10) rfl)))))))))))
set_option maxHeartbeats 8000000 in
set_option maxRecDepth 100000 in
theorem c_r_result (l : Launch) (g : Nat → ClassId) (D : va_G) (o : Nat) (S : dg_S) (a1 : Int32) (a2 : Int32) (a3 : Int32) (I : CX o S) (sz : Nat) : Met l yX7_result (bw yX7_result cX7_result 3 (some .int)) ({ frames := 2, cells := 0, slots := 0, locals := 54 } : Room) (dk_Pc g D (dg_w g shX o rfX S) sz [.int a1, .int a2, .int a3]) (va_Qi (fun (r : Int32) S' => S' = S ∧ (r = F_r_result o S a1 a2 a3) ∧ True) (dg_B g D shX o rfX) (dg_A o shX.length sz)) 0 0 (dg_A o shX.length sz) := by
  refine dg_met (cc := cX7_result) (maxL := 3) (ret := (some .int)) (dk_dq rfl) rfl (Nat.le_of_ble_eq_true rfl) ?_
  intro p e s m args below meth c A hAe harg hx hb hr hml hts hown hlocks hin hP K hS hA1 hA ST hsz ls hl
  rw [← hAe]
  have F : CallFix p m c cX7_result 3 s args (bw yX7_result cX7_result 3 (some .int)) RX7 := ⟨hx, hb, hml, hown, hts⟩
  have hl : lv_has ls 3 [(0, .int a1), (1, .int a2), (2, .int a3)] := hl
  have M_0 : dg_sm shX [] [] S S := dg_sm.rf
  refine lv_iload_n hx hb dX7_result_0 rfl (lv_at hl 0 rfl) ?_
  rcases (show ((a1).toInt < -20 ∨ -10 < (a1).toInt) ∨ (a1).toInt = -20 ∨ (a1).toInt = -19 ∨ (a1).toInt = -18 ∨ (a1).toInt = -17 ∨ (a1).toInt = -16 ∨ (a1).toInt = -15 ∨ (a1).toInt = -14 ∨ (a1).toInt = -13 ∨ (a1).toInt = -12 ∨ (a1).toInt = -11 ∨ (a1).toInt = -10 by omega) with jc_1 | jc_1 | jc_1 | jc_1 | jc_1 | jc_1 | jc_1 | jc_1 | jc_1 | jc_1 | jc_1 | jc_1
  · refine lv_tableOut (tgt := 178) hx hb dX7_result_1 jc_1 (dk_dq rfl) ?_
    refine lv_iload_n hx hb dX7_result_178 rfl (lv_at hl 1 rfl) ?_
    refine lv_iload_n hx hb dX7_result_179 rfl (lv_at hl 2 rfl) ?_
    refine lv_ior hx hb dX7_result_180 ?_
    refine lv_topi (fun x_2 ex_2 => ?_)
    refine W.widen (k := 0) (n := 0) (Nat.le_of_ble_eq_true rfl) (Nat.le_of_ble_eq_true rfl) ?_
    exact dg_iret hx hb hr hlocks rfl hP hS ⟨rfl, (Eq.symm (F_r_result_p0 (dk_neO jc_1 (k := -20) (b := -20) (by decide +kernel) (dk_dq rfl)) (dk_neO jc_1 (k := -19) (b := -19) (by decide +kernel) (dk_dq rfl)) (dk_neO jc_1 (k := -18) (b := -18) (by decide +kernel) (dk_dq rfl)) (dk_neO jc_1 (k := -17) (b := -17) (by decide +kernel) (dk_dq rfl)) (dk_neO jc_1 (k := -16) (b := -16) (by decide +kernel) (dk_dq rfl)) (dk_neO jc_1 (k := -15) (b := -15) (by decide +kernel) (dk_dq rfl)) (dk_neO jc_1 (k := -14) (b := -14) (by decide +kernel) (dk_dq rfl)) (dk_neO jc_1 (k := -13) (b := -13) (by decide +kernel) (dk_dq rfl)) (dk_neO jc_1 (k := -12) (b := -12) (by decide +kernel) (dk_dq rfl)) (dk_neO jc_1 (k := -11) (b := -11) (by decide +kernel) (dk_dq rfl)) (dk_neO jc_1 (k := -10) (b := -10) (by decide +kernel) (dk_dq rfl)) ex_2)), trivial⟩ dX7_result_181
  · refine lv_tableIn (off := 173) (tgt := 174) hx hb dX7_result_1 (by rw [jc_1]; decide) (by rw [jc_1]; decide) (by rw [jc_1]; decide +kernel) (dk_dq rfl) ?_
    refine lv_iload_n hx hb dX7_result_174 rfl (lv_at hl 1 rfl) ?_
    refine lv_iload_n hx hb dX7_result_175 rfl (lv_at hl 2 rfl) ?_
    refine lv_iand hx hb dX7_result_176 ?_
    refine lv_topi (fun x_3 ex_3 => ?_)
    refine W.widen (k := 0) (n := 0) (Nat.le_of_ble_eq_true rfl) (Nat.le_of_ble_eq_true rfl) ?_
    exact dg_iret hx hb hr hlocks rfl hP hS ⟨rfl, (Eq.symm (F_r_result_p1 (dk_eqT jc_1 (k := -20) (by decide +kernel)) ex_3)), trivial⟩ dX7_result_177
  · as_aux_lemma =>
      refine lv_tableIn (off := 162) (tgt := 163) hx hb dX7_result_1 (by rw [jc_1]; decide) (by rw [jc_1]; decide) (by rw [jc_1]; decide +kernel) (dk_dq rfl) ?_
      refine lv_iload_n hx hb dX7_result_163 rfl (lv_at hl 1 rfl) ?_
      refine lv_iload_n hx hb dX7_result_164 rfl (lv_at hl 2 rfl) ?_
      refine lv_icmp_ne (tgt := 172) hx hb dX7_result_165 (dk_dq rfl) (fun c_4 => ?_) (fun c_4 => ?_)
      · have hf_4 := dk_full a2
        have hf_5 := dk_full a3
        have jc_4 := dk_neqc (k := (a3).toInt) rfl c_4
        refine lv_iconst (v := 0) hx hb dX7_result_172 (by decide +kernel) ?_
        refine W.widen (k := 0) (n := 0) (Nat.le_of_ble_eq_true rfl) (Nat.le_of_ble_eq_true rfl) ?_
        exact dg_iret hx hb hr hlocks rfl hP hS ⟨rfl, (Eq.symm (F_r_result_p2 (dk_neT jc_1 (k := -20) (b := -20) (by decide +kernel) (dk_dq rfl)) (dk_eqT jc_1 (k := -19) (by decide +kernel)) c_4)), trivial⟩ dX7_result_173
      · have hf_6 := dk_full a2
        have hf_7 := dk_full a3
        have jc_4 := dk_eqc (k := (a3).toInt) rfl c_4
        refine lv_iconst (v := 1) hx hb dX7_result_168 (by decide +kernel) ?_
        refine lv_goto (tgt := 173) hx hb dX7_result_169 (dk_dq rfl) ?_
        refine W.widen (k := 0) (n := 0) (Nat.le_of_ble_eq_true rfl) (Nat.le_of_ble_eq_true rfl) ?_
        exact dg_iret hx hb hr hlocks rfl hP hS ⟨rfl, (Eq.symm (F_r_result_p3 (dk_neT jc_1 (k := -20) (b := -20) (by decide +kernel) (dk_dq rfl)) (dk_eqT jc_1 (k := -19) (by decide +kernel)) c_4)), trivial⟩ dX7_result_173
  · as_aux_lemma =>
      refine lv_tableIn (off := 151) (tgt := 152) hx hb dX7_result_1 (by rw [jc_1]; decide) (by rw [jc_1]; decide) (by rw [jc_1]; decide +kernel) (dk_dq rfl) ?_
      refine lv_iload_n hx hb dX7_result_152 rfl (lv_at hl 1 rfl) ?_
      refine lv_iload_n hx hb dX7_result_153 rfl (lv_at hl 2 rfl) ?_
      refine lv_icmp_le (tgt := 161) hx hb dX7_result_154 (dk_dq rfl) (fun c_9 => ?_) (fun c_9 => ?_)
      · have hf_9 := dk_full a2
        have hf_10 := dk_full a3
        have jc_9 := dk_lec (k := (a3).toInt) rfl c_9
        refine lv_iconst (v := 0) hx hb dX7_result_161 (by decide +kernel) ?_
        refine W.widen (k := 0) (n := 0) (Nat.le_of_ble_eq_true rfl) (Nat.le_of_ble_eq_true rfl) ?_
        exact dg_iret hx hb hr hlocks rfl hP hS ⟨rfl, (Eq.symm (F_r_result_p4 (dk_neT jc_1 (k := -20) (b := -20) (by decide +kernel) (dk_dq rfl)) (dk_neT jc_1 (k := -19) (b := -19) (by decide +kernel) (dk_dq rfl)) (dk_eqT jc_1 (k := -18) (by decide +kernel)) c_9)), trivial⟩ dX7_result_162
      · have hf_11 := dk_full a2
        have hf_12 := dk_full a3
        have jc_9 := dk_nlec (k := (a3).toInt) rfl c_9
        refine lv_iconst (v := 1) hx hb dX7_result_157 (by decide +kernel) ?_
        refine lv_goto (tgt := 162) hx hb dX7_result_158 (dk_dq rfl) ?_
        refine W.widen (k := 0) (n := 0) (Nat.le_of_ble_eq_true rfl) (Nat.le_of_ble_eq_true rfl) ?_
        exact dg_iret hx hb hr hlocks rfl hP hS ⟨rfl, (Eq.symm (F_r_result_p5 (dk_neT jc_1 (k := -20) (b := -20) (by decide +kernel) (dk_dq rfl)) (dk_neT jc_1 (k := -19) (b := -19) (by decide +kernel) (dk_dq rfl)) (dk_eqT jc_1 (k := -18) (by decide +kernel)) c_9)), trivial⟩ dX7_result_162
  · as_aux_lemma =>
      refine lv_tableIn (off := 140) (tgt := 141) hx hb dX7_result_1 (by rw [jc_1]; decide) (by rw [jc_1]; decide) (by rw [jc_1]; decide +kernel) (dk_dq rfl) ?_
      refine lv_iload_n hx hb dX7_result_141 rfl (lv_at hl 1 rfl) ?_
      refine lv_iload_n hx hb dX7_result_142 rfl (lv_at hl 2 rfl) ?_
      refine lv_icmp_ge (tgt := 150) hx hb dX7_result_143 (dk_dq rfl) (fun c_14 => ?_) (fun c_14 => ?_)
      · have hf_14 := dk_full a2
        have hf_15 := dk_full a3
        have jc_14 := dk_gec (k := (a3).toInt) rfl c_14
        refine lv_iconst (v := 0) hx hb dX7_result_150 (by decide +kernel) ?_
        refine W.widen (k := 0) (n := 0) (Nat.le_of_ble_eq_true rfl) (Nat.le_of_ble_eq_true rfl) ?_
        exact dg_iret hx hb hr hlocks rfl hP hS ⟨rfl, (Eq.symm (F_r_result_p6 (dk_neT jc_1 (k := -20) (b := -20) (by decide +kernel) (dk_dq rfl)) (dk_neT jc_1 (k := -19) (b := -19) (by decide +kernel) (dk_dq rfl)) (dk_neT jc_1 (k := -18) (b := -18) (by decide +kernel) (dk_dq rfl)) (dk_eqT jc_1 (k := -17) (by decide +kernel)) c_14)), trivial⟩ dX7_result_151
      · have hf_16 := dk_full a2
        have hf_17 := dk_full a3
        have jc_14 := dk_ngec (k := (a3).toInt) rfl c_14
        refine lv_iconst (v := 1) hx hb dX7_result_146 (by decide +kernel) ?_
        refine lv_goto (tgt := 151) hx hb dX7_result_147 (dk_dq rfl) ?_
        refine W.widen (k := 0) (n := 0) (Nat.le_of_ble_eq_true rfl) (Nat.le_of_ble_eq_true rfl) ?_
        exact dg_iret hx hb hr hlocks rfl hP hS ⟨rfl, (Eq.symm (F_r_result_p7 (dk_neT jc_1 (k := -20) (b := -20) (by decide +kernel) (dk_dq rfl)) (dk_neT jc_1 (k := -19) (b := -19) (by decide +kernel) (dk_dq rfl)) (dk_neT jc_1 (k := -18) (b := -18) (by decide +kernel) (dk_dq rfl)) (dk_eqT jc_1 (k := -17) (by decide +kernel)) c_14)), trivial⟩ dX7_result_151
  · as_aux_lemma =>
      refine lv_tableIn (off := 129) (tgt := 130) hx hb dX7_result_1 (by rw [jc_1]; decide) (by rw [jc_1]; decide) (by rw [jc_1]; decide +kernel) (dk_dq rfl) ?_
      refine lv_iload_n hx hb dX7_result_130 rfl (lv_at hl 1 rfl) ?_
      refine lv_iload_n hx hb dX7_result_131 rfl (lv_at hl 2 rfl) ?_
      refine lv_icmp_le (tgt := 139) hx hb dX7_result_132 (dk_dq rfl) (fun c_19 => ?_) (fun c_19 => ?_)
      · have hf_19 := dk_full a2
        have hf_20 := dk_full a3
        have jc_19 := dk_lec (k := (a3).toInt) rfl c_19
        refine lv_iload_n hx hb dX7_result_139 rfl (lv_at hl 2 rfl) ?_
        refine W.widen (k := 0) (n := 0) (Nat.le_of_ble_eq_true rfl) (Nat.le_of_ble_eq_true rfl) ?_
        exact dg_iret hx hb hr hlocks rfl hP hS ⟨rfl, (Eq.symm (F_r_result_p8 (dk_neT jc_1 (k := -20) (b := -20) (by decide +kernel) (dk_dq rfl)) (dk_neT jc_1 (k := -19) (b := -19) (by decide +kernel) (dk_dq rfl)) (dk_neT jc_1 (k := -18) (b := -18) (by decide +kernel) (dk_dq rfl)) (dk_neT jc_1 (k := -17) (b := -17) (by decide +kernel) (dk_dq rfl)) (dk_eqT jc_1 (k := -16) (by decide +kernel)) c_19)), trivial⟩ dX7_result_140
      · have hf_21 := dk_full a2
        have hf_22 := dk_full a3
        have jc_19 := dk_nlec (k := (a3).toInt) rfl c_19
        refine lv_iload_n hx hb dX7_result_135 rfl (lv_at hl 1 rfl) ?_
        refine lv_goto (tgt := 140) hx hb dX7_result_136 (dk_dq rfl) ?_
        refine W.widen (k := 0) (n := 0) (Nat.le_of_ble_eq_true rfl) (Nat.le_of_ble_eq_true rfl) ?_
        exact dg_iret hx hb hr hlocks rfl hP hS ⟨rfl, (Eq.symm (F_r_result_p9 (dk_neT jc_1 (k := -20) (b := -20) (by decide +kernel) (dk_dq rfl)) (dk_neT jc_1 (k := -19) (b := -19) (by decide +kernel) (dk_dq rfl)) (dk_neT jc_1 (k := -18) (b := -18) (by decide +kernel) (dk_dq rfl)) (dk_neT jc_1 (k := -17) (b := -17) (by decide +kernel) (dk_dq rfl)) (dk_eqT jc_1 (k := -16) (by decide +kernel)) c_19)), trivial⟩ dX7_result_140
  · as_aux_lemma =>
      refine lv_tableIn (off := 118) (tgt := 119) hx hb dX7_result_1 (by rw [jc_1]; decide) (by rw [jc_1]; decide) (by rw [jc_1]; decide +kernel) (dk_dq rfl) ?_
      refine lv_iload_n hx hb dX7_result_119 rfl (lv_at hl 1 rfl) ?_
      refine lv_iload_n hx hb dX7_result_120 rfl (lv_at hl 2 rfl) ?_
      refine lv_icmp_ge (tgt := 128) hx hb dX7_result_121 (dk_dq rfl) (fun c_24 => ?_) (fun c_24 => ?_)
      · have hf_24 := dk_full a2
        have hf_25 := dk_full a3
        have jc_24 := dk_gec (k := (a3).toInt) rfl c_24
        refine lv_iload_n hx hb dX7_result_128 rfl (lv_at hl 2 rfl) ?_
        refine W.widen (k := 0) (n := 0) (Nat.le_of_ble_eq_true rfl) (Nat.le_of_ble_eq_true rfl) ?_
        exact dg_iret hx hb hr hlocks rfl hP hS ⟨rfl, (Eq.symm (F_r_result_p10 (dk_neT jc_1 (k := -20) (b := -20) (by decide +kernel) (dk_dq rfl)) (dk_neT jc_1 (k := -19) (b := -19) (by decide +kernel) (dk_dq rfl)) (dk_neT jc_1 (k := -18) (b := -18) (by decide +kernel) (dk_dq rfl)) (dk_neT jc_1 (k := -17) (b := -17) (by decide +kernel) (dk_dq rfl)) (dk_neT jc_1 (k := -16) (b := -16) (by decide +kernel) (dk_dq rfl)) (dk_eqT jc_1 (k := -15) (by decide +kernel)) c_24)), trivial⟩ dX7_result_129
      · have hf_26 := dk_full a2
        have hf_27 := dk_full a3
        have jc_24 := dk_ngec (k := (a3).toInt) rfl c_24
        refine lv_iload_n hx hb dX7_result_124 rfl (lv_at hl 1 rfl) ?_
        refine lv_goto (tgt := 129) hx hb dX7_result_125 (dk_dq rfl) ?_
        refine W.widen (k := 0) (n := 0) (Nat.le_of_ble_eq_true rfl) (Nat.le_of_ble_eq_true rfl) ?_
        exact dg_iret hx hb hr hlocks rfl hP hS ⟨rfl, (Eq.symm (F_r_result_p11 (dk_neT jc_1 (k := -20) (b := -20) (by decide +kernel) (dk_dq rfl)) (dk_neT jc_1 (k := -19) (b := -19) (by decide +kernel) (dk_dq rfl)) (dk_neT jc_1 (k := -18) (b := -18) (by decide +kernel) (dk_dq rfl)) (dk_neT jc_1 (k := -17) (b := -17) (by decide +kernel) (dk_dq rfl)) (dk_neT jc_1 (k := -16) (b := -16) (by decide +kernel) (dk_dq rfl)) (dk_eqT jc_1 (k := -15) (by decide +kernel)) c_24)), trivial⟩ dX7_result_129
  · as_aux_lemma =>
      refine lv_tableIn (off := 104) (tgt := 105) hx hb dX7_result_1 (by rw [jc_1]; decide) (by rw [jc_1]; decide) (by rw [jc_1]; decide +kernel) (dk_dq rfl) ?_
      refine lv_iload_n hx hb dX7_result_105 rfl (lv_at hl 2 rfl) ?_
      refine lv_if_ne (tgt := 113) hx hb dX7_result_106 (dk_dq rfl) (fun c_29 => ?_) (fun c_29 => ?_)
      · have jc_29 := dk_neqc (k := 0) (by decide +kernel) c_29
        refine lv_iload_n hx hb dX7_result_113 rfl (lv_at hl 1 rfl) ?_
        refine lv_iload_n hx hb dX7_result_114 rfl (lv_at hl 2 rfl) ?_
        refine dg_calli hS hA1 hA (va_runS (As := [.int a2, .int a3]) (rest := []) F (c_floorMod l g D o S a2 a3 (by omega) I s.heap.size) (va_cwS 2 hts (bw_S wB_545 wB_546 wB_505 wB_544) rfl rfl rfl (by decide +kernel) ⟨Nat.le_of_ble_eq_true rfl, Nat.le_of_ble_eq_true rfl⟩) (dg_preS K ST hP hS hA1 hA) rfl rfl hl.1 rfl (lv_room (Nat.le_of_ble_eq_true rfl)) dX7_result_115 ⟨Nat.le_of_ble_eq_true rfl, Nat.le_of_ble_eq_true rfl⟩) (fun x_30 S_31 hw_31 H locs hP hS => ?_)
        rw [hw_31.1] at hP
        obtain ⟨hq_31, w_31_0, -⟩ := hw_31
        refine W.widen (k := 0) (n := 0) (Nat.le_of_ble_eq_true rfl) (Nat.le_of_ble_eq_true rfl) ?_
        exact dg_iret hx hb hr hlocks rfl hP hS ⟨rfl, (Eq.symm (F_r_result_p12 (dk_neT jc_1 (k := -20) (b := -20) (by decide +kernel) (dk_dq rfl)) (dk_neT jc_1 (k := -19) (b := -19) (by decide +kernel) (dk_dq rfl)) (dk_neT jc_1 (k := -18) (b := -18) (by decide +kernel) (dk_dq rfl)) (dk_neT jc_1 (k := -17) (b := -17) (by decide +kernel) (dk_dq rfl)) (dk_neT jc_1 (k := -16) (b := -16) (by decide +kernel) (dk_dq rfl)) (dk_neT jc_1 (k := -15) (b := -15) (by decide +kernel) (dk_dq rfl)) (dk_eqT jc_1 (k := -14) (by decide +kernel)) c_29 w_31_0)), trivial⟩ dX7_result_118
      · have jc_29 := dk_eqc (k := 0) (by decide +kernel) c_29
        refine lv_iconst (v := 0) hx hb dX7_result_109 (by decide +kernel) ?_
        refine lv_goto (tgt := 118) hx hb dX7_result_110 (dk_dq rfl) ?_
        refine W.widen (k := 0) (n := 0) (Nat.le_of_ble_eq_true rfl) (Nat.le_of_ble_eq_true rfl) ?_
        exact dg_iret hx hb hr hlocks rfl hP hS ⟨rfl, (Eq.symm (F_r_result_p13 (dk_neT jc_1 (k := -20) (b := -20) (by decide +kernel) (dk_dq rfl)) (dk_neT jc_1 (k := -19) (b := -19) (by decide +kernel) (dk_dq rfl)) (dk_neT jc_1 (k := -18) (b := -18) (by decide +kernel) (dk_dq rfl)) (dk_neT jc_1 (k := -17) (b := -17) (by decide +kernel) (dk_dq rfl)) (dk_neT jc_1 (k := -16) (b := -16) (by decide +kernel) (dk_dq rfl)) (dk_neT jc_1 (k := -15) (b := -15) (by decide +kernel) (dk_dq rfl)) (dk_eqT jc_1 (k := -14) (by decide +kernel)) c_29)), trivial⟩ dX7_result_118
  · as_aux_lemma =>
      refine lv_tableIn (off := 86) (tgt := 87) hx hb dX7_result_1 (by rw [jc_1]; decide) (by rw [jc_1]; decide) (by rw [jc_1]; decide +kernel) (dk_dq rfl) ?_
      refine lv_iload_n hx hb dX7_result_87 rfl (lv_at hl 2 rfl) ?_
      refine lv_if_ne (tgt := 95) hx hb dX7_result_88 (dk_dq rfl) (fun c_32 => ?_) (fun c_32 => ?_)
      · have jc_32 := dk_neqc (k := 0) (by decide +kernel) c_32
        refine lv_iload_n hx hb dX7_result_95 rfl (lv_at hl 1 rfl) ?_
        refine lv_iload_n hx hb dX7_result_96 rfl (lv_at hl 2 rfl) ?_
        refine dg_calli hS hA1 hA (va_runS (As := [.int a2, .int a3]) (rest := []) F (c_floorDiv l g D o S a2 a3 (by omega) I s.heap.size) (va_cwS 2 hts (bw_S wB_548 wB_549 wB_505 wB_547) rfl rfl rfl (by decide +kernel) ⟨Nat.le_of_ble_eq_true rfl, Nat.le_of_ble_eq_true rfl⟩) (dg_preS K ST hP hS hA1 hA) rfl rfl hl.1 rfl (lv_room (Nat.le_of_ble_eq_true rfl)) dX7_result_97 ⟨Nat.le_of_ble_eq_true rfl, Nat.le_of_ble_eq_true rfl⟩) (fun x_33 S_34 hw_34 H locs hP hS => ?_)
        rw [hw_34.1] at hP
        obtain ⟨hq_34, w_34_0, -⟩ := hw_34
        obtain ⟨x_35, ex_35⟩ : ∃ z, (x_33 : Int32).toInt64 = z := ⟨_, rfl⟩
        refine lv_i2l (v := x_35) hx hb dX7_result_100 ex_35 ?_
        refine dg_calli hS hA1 hA (va_runS (As := [.long x_35]) (rest := []) F (c_r_bounded l g D o S x_35 I H.size) (va_cwS 1 hts (bw_S wB_551 wB_552 wB_553 wB_550) rfl rfl rfl (by decide +kernel) ⟨Nat.le_of_ble_eq_true rfl, Nat.le_of_ble_eq_true rfl⟩) (dg_preS K ST hP hS hA1 hA) rfl rfl hl.1 rfl (lv_room (Nat.le_of_ble_eq_true rfl)) dX7_result_101 ⟨Nat.le_of_ble_eq_true rfl, Nat.le_of_ble_eq_true rfl⟩) (fun x_36 S_37 hw_37 H locs hP hS => ?_)
        rw [hw_37.1] at hP
        obtain ⟨hq_37, w_37_0, -⟩ := hw_37
        refine W.widen (k := 0) (n := 0) (Nat.le_of_ble_eq_true rfl) (Nat.le_of_ble_eq_true rfl) ?_
        exact dg_iret hx hb hr hlocks rfl hP hS ⟨rfl, (Eq.symm (F_r_result_p14 (dk_neT jc_1 (k := -20) (b := -20) (by decide +kernel) (dk_dq rfl)) (dk_neT jc_1 (k := -19) (b := -19) (by decide +kernel) (dk_dq rfl)) (dk_neT jc_1 (k := -18) (b := -18) (by decide +kernel) (dk_dq rfl)) (dk_neT jc_1 (k := -17) (b := -17) (by decide +kernel) (dk_dq rfl)) (dk_neT jc_1 (k := -16) (b := -16) (by decide +kernel) (dk_dq rfl)) (dk_neT jc_1 (k := -15) (b := -15) (by decide +kernel) (dk_dq rfl)) (dk_neT jc_1 (k := -14) (b := -14) (by decide +kernel) (dk_dq rfl)) (dk_eqT jc_1 (k := -13) (by decide +kernel)) c_32 w_34_0 (Eq.symm ex_35) w_37_0)), trivial⟩ dX7_result_104
      · have jc_32 := dk_eqc (k := 0) (by decide +kernel) c_32
        refine lv_iconst (v := 0) hx hb dX7_result_91 (by decide +kernel) ?_
        refine lv_goto (tgt := 104) hx hb dX7_result_92 (dk_dq rfl) ?_
        refine W.widen (k := 0) (n := 0) (Nat.le_of_ble_eq_true rfl) (Nat.le_of_ble_eq_true rfl) ?_
        exact dg_iret hx hb hr hlocks rfl hP hS ⟨rfl, (Eq.symm (F_r_result_p15 (dk_neT jc_1 (k := -20) (b := -20) (by decide +kernel) (dk_dq rfl)) (dk_neT jc_1 (k := -19) (b := -19) (by decide +kernel) (dk_dq rfl)) (dk_neT jc_1 (k := -18) (b := -18) (by decide +kernel) (dk_dq rfl)) (dk_neT jc_1 (k := -17) (b := -17) (by decide +kernel) (dk_dq rfl)) (dk_neT jc_1 (k := -16) (b := -16) (by decide +kernel) (dk_dq rfl)) (dk_neT jc_1 (k := -15) (b := -15) (by decide +kernel) (dk_dq rfl)) (dk_neT jc_1 (k := -14) (b := -14) (by decide +kernel) (dk_dq rfl)) (dk_eqT jc_1 (k := -13) (by decide +kernel)) c_32)), trivial⟩ dX7_result_104
  · refine lv_tableIn (off := 77) (tgt := 78) hx hb dX7_result_1 (by rw [jc_1]; decide) (by rw [jc_1]; decide) (by rw [jc_1]; decide +kernel) (dk_dq rfl) ?_
    refine lv_iload_n hx hb dX7_result_78 rfl (lv_at hl 1 rfl) ?_
    obtain ⟨x_38, ex_38⟩ : ∃ z, (a2 : Int32).toInt64 = z := ⟨_, rfl⟩
    refine lv_i2l (v := x_38) hx hb dX7_result_79 ex_38 ?_
    refine lv_iload_n hx hb dX7_result_80 rfl (lv_at hl 2 rfl) ?_
    obtain ⟨x_39, ex_39⟩ : ∃ z, (a3 : Int32).toInt64 = z := ⟨_, rfl⟩
    refine lv_i2l (v := x_39) hx hb dX7_result_81 ex_39 ?_
    refine lv_lmul hx hb dX7_result_82 ?_
    refine lv_topl (fun x_40 ex_40 => ?_)
    refine dg_calli hS hA1 hA (va_runS (As := [.long x_40]) (rest := []) F (c_r_bounded l g D o S x_40 I s.heap.size) (va_cwS 1 hts (bw_S wB_551 wB_552 wB_553 wB_550) rfl rfl rfl (by decide +kernel) ⟨Nat.le_of_ble_eq_true rfl, Nat.le_of_ble_eq_true rfl⟩) (dg_preS K ST hP hS hA1 hA) rfl rfl hl.1 rfl (lv_room (Nat.le_of_ble_eq_true rfl)) dX7_result_83 ⟨Nat.le_of_ble_eq_true rfl, Nat.le_of_ble_eq_true rfl⟩) (fun x_41 S_42 hw_42 H locs hP hS => ?_)
    rw [hw_42.1] at hP
    obtain ⟨hq_42, w_42_0, -⟩ := hw_42
    refine W.widen (k := 0) (n := 0) (Nat.le_of_ble_eq_true rfl) (Nat.le_of_ble_eq_true rfl) ?_
    exact dg_iret hx hb hr hlocks rfl hP hS ⟨rfl, (Eq.symm (F_r_result_p16 (dk_neT jc_1 (k := -20) (b := -20) (by decide +kernel) (dk_dq rfl)) (dk_neT jc_1 (k := -19) (b := -19) (by decide +kernel) (dk_dq rfl)) (dk_neT jc_1 (k := -18) (b := -18) (by decide +kernel) (dk_dq rfl)) (dk_neT jc_1 (k := -17) (b := -17) (by decide +kernel) (dk_dq rfl)) (dk_neT jc_1 (k := -16) (b := -16) (by decide +kernel) (dk_dq rfl)) (dk_neT jc_1 (k := -15) (b := -15) (by decide +kernel) (dk_dq rfl)) (dk_neT jc_1 (k := -14) (b := -14) (by decide +kernel) (dk_dq rfl)) (dk_neT jc_1 (k := -13) (b := -13) (by decide +kernel) (dk_dq rfl)) (dk_eqT jc_1 (k := -12) (by decide +kernel)) (Eq.symm ex_38) (Eq.symm ex_39) ex_40 w_42_0)), trivial⟩ dX7_result_86
  · refine lv_tableIn (off := 68) (tgt := 69) hx hb dX7_result_1 (by rw [jc_1]; decide) (by rw [jc_1]; decide) (by rw [jc_1]; decide +kernel) (dk_dq rfl) ?_
    refine lv_iload_n hx hb dX7_result_69 rfl (lv_at hl 1 rfl) ?_
    obtain ⟨x_43, ex_43⟩ : ∃ z, (a2 : Int32).toInt64 = z := ⟨_, rfl⟩
    refine lv_i2l (v := x_43) hx hb dX7_result_70 ex_43 ?_
    refine lv_iload_n hx hb dX7_result_71 rfl (lv_at hl 2 rfl) ?_
    obtain ⟨x_44, ex_44⟩ : ∃ z, (a3 : Int32).toInt64 = z := ⟨_, rfl⟩
    refine lv_i2l (v := x_44) hx hb dX7_result_72 ex_44 ?_
    refine lv_lsub hx hb dX7_result_73 ?_
    refine lv_topl (fun x_45 ex_45 => ?_)
    refine dg_calli hS hA1 hA (va_runS (As := [.long x_45]) (rest := []) F (c_r_bounded l g D o S x_45 I s.heap.size) (va_cwS 1 hts (bw_S wB_551 wB_552 wB_553 wB_550) rfl rfl rfl (by decide +kernel) ⟨Nat.le_of_ble_eq_true rfl, Nat.le_of_ble_eq_true rfl⟩) (dg_preS K ST hP hS hA1 hA) rfl rfl hl.1 rfl (lv_room (Nat.le_of_ble_eq_true rfl)) dX7_result_74 ⟨Nat.le_of_ble_eq_true rfl, Nat.le_of_ble_eq_true rfl⟩) (fun x_46 S_47 hw_47 H locs hP hS => ?_)
    rw [hw_47.1] at hP
    obtain ⟨hq_47, w_47_0, -⟩ := hw_47
    refine W.widen (k := 0) (n := 0) (Nat.le_of_ble_eq_true rfl) (Nat.le_of_ble_eq_true rfl) ?_
    exact dg_iret hx hb hr hlocks rfl hP hS ⟨rfl, (Eq.symm (F_r_result_p17 (dk_neT jc_1 (k := -20) (b := -20) (by decide +kernel) (dk_dq rfl)) (dk_neT jc_1 (k := -19) (b := -19) (by decide +kernel) (dk_dq rfl)) (dk_neT jc_1 (k := -18) (b := -18) (by decide +kernel) (dk_dq rfl)) (dk_neT jc_1 (k := -17) (b := -17) (by decide +kernel) (dk_dq rfl)) (dk_neT jc_1 (k := -16) (b := -16) (by decide +kernel) (dk_dq rfl)) (dk_neT jc_1 (k := -15) (b := -15) (by decide +kernel) (dk_dq rfl)) (dk_neT jc_1 (k := -14) (b := -14) (by decide +kernel) (dk_dq rfl)) (dk_neT jc_1 (k := -13) (b := -13) (by decide +kernel) (dk_dq rfl)) (dk_neT jc_1 (k := -12) (b := -12) (by decide +kernel) (dk_dq rfl)) (dk_eqT jc_1 (k := -11) (by decide +kernel)) (Eq.symm ex_43) (Eq.symm ex_44) ex_45 w_47_0)), trivial⟩ dX7_result_77
  · refine lv_tableIn (off := 59) (tgt := 60) hx hb dX7_result_1 (by rw [jc_1]; decide) (by rw [jc_1]; decide) (by rw [jc_1]; decide +kernel) (dk_dq rfl) ?_
    refine lv_iload_n hx hb dX7_result_60 rfl (lv_at hl 1 rfl) ?_
    obtain ⟨x_48, ex_48⟩ : ∃ z, (a2 : Int32).toInt64 = z := ⟨_, rfl⟩
    refine lv_i2l (v := x_48) hx hb dX7_result_61 ex_48 ?_
    refine lv_iload_n hx hb dX7_result_62 rfl (lv_at hl 2 rfl) ?_
    obtain ⟨x_49, ex_49⟩ : ∃ z, (a3 : Int32).toInt64 = z := ⟨_, rfl⟩
    refine lv_i2l (v := x_49) hx hb dX7_result_63 ex_49 ?_
    refine lv_ladd hx hb dX7_result_64 ?_
    refine lv_topl (fun x_50 ex_50 => ?_)
    refine dg_calli hS hA1 hA (va_runS (As := [.long x_50]) (rest := []) F (c_r_bounded l g D o S x_50 I s.heap.size) (va_cwS 1 hts (bw_S wB_551 wB_552 wB_553 wB_550) rfl rfl rfl (by decide +kernel) ⟨Nat.le_of_ble_eq_true rfl, Nat.le_of_ble_eq_true rfl⟩) (dg_preS K ST hP hS hA1 hA) rfl rfl hl.1 rfl (lv_room (Nat.le_of_ble_eq_true rfl)) dX7_result_65 ⟨Nat.le_of_ble_eq_true rfl, Nat.le_of_ble_eq_true rfl⟩) (fun x_51 S_52 hw_52 H locs hP hS => ?_)
    rw [hw_52.1] at hP
    obtain ⟨hq_52, w_52_0, -⟩ := hw_52
    refine W.widen (k := 0) (n := 0) (Nat.le_of_ble_eq_true rfl) (Nat.le_of_ble_eq_true rfl) ?_
    exact dg_iret hx hb hr hlocks rfl hP hS ⟨rfl, (Eq.symm (F_r_result_p18 (dk_neT jc_1 (k := -20) (b := -20) (by decide +kernel) (dk_dq rfl)) (dk_neT jc_1 (k := -19) (b := -19) (by decide +kernel) (dk_dq rfl)) (dk_neT jc_1 (k := -18) (b := -18) (by decide +kernel) (dk_dq rfl)) (dk_neT jc_1 (k := -17) (b := -17) (by decide +kernel) (dk_dq rfl)) (dk_neT jc_1 (k := -16) (b := -16) (by decide +kernel) (dk_dq rfl)) (dk_neT jc_1 (k := -15) (b := -15) (by decide +kernel) (dk_dq rfl)) (dk_neT jc_1 (k := -14) (b := -14) (by decide +kernel) (dk_dq rfl)) (dk_neT jc_1 (k := -13) (b := -13) (by decide +kernel) (dk_dq rfl)) (dk_neT jc_1 (k := -12) (b := -12) (by decide +kernel) (dk_dq rfl)) (dk_neT jc_1 (k := -11) (b := -11) (by decide +kernel) (dk_dq rfl)) (dk_eqT jc_1 (k := -10) (by decide +kernel)) (Eq.symm ex_48) (Eq.symm ex_49) ex_50 w_52_0)), trivial⟩ dX7_result_68
noncomputable def F_r_valueOf_J2 (x_78 : Int32) (S_115 : dg_S) : (Int32 × dg_S) ⊕ (dg_S × Int32) := let x_117 : Int32 := x_78 + 1; (Sum.inl (x_117, S_115))
noncomputable def F_r_valueOf_J3 (o : Nat) (S_134 : dg_S) (x_131 : Int32) (x_78 : Int32) : (Int32 × dg_S) ⊕ (dg_S × Int32) := let S_136 : dg_S := F_r_push o S_134 x_131; (F_r_valueOf_J2 x_78 S_136)
noncomputable def F_r_valueOf_J4 (o : Nat) (S_79 : dg_S) (x_151 : Int32) (x_78 : Int32) : (Int32 × dg_S) ⊕ (dg_S × Int32) := let S_154 : dg_S := F_r_push o S_79 x_151; (F_r_valueOf_J2 x_78 S_154)
noncomputable def F_r_valueOf_B1 (gr : Nat) (a1 : Int32) (o : Nat) : (Int32 × dg_S) → (Int32 × dg_S) ⊕ (dg_S × Int32) := fun w9 => match w9 with | (x_78, S_79) => let x_82 : Int32 := S_79.2.1 (gr + 11) (a1 : Int32).toNatClampNeg; (if x_82 ≤ x_78 then (Sum.inr (let S_85 : dg_S := (F_r_pop o S_79).1; let x_84 : Int32 := (F_r_pop o S_79).2; (S_85, x_84))) else let x_87 : Int32 := S_79.2.1 (gr + 9) (x_78 : Int32).toNatClampNeg; (if x_87 < (-7 : Int32) then (if x_87 = (-8 : Int32) then let S_145 : dg_S := (F_r_pop o S_79).1; let x_144 : Int32 := (F_r_pop o S_79).2; let x_146 : Int32 := (1 : Int32) - x_144; let S_147 : dg_S := F_r_push o S_145 x_146; (F_r_valueOf_J2 x_78 S_147) else let S_121 : dg_S := (F_r_pop o S_79).1; let x_120 : Int32 := (F_r_pop o S_79).2; let S_123 : dg_S := (F_r_pop o S_121).1; let x_122 : Int32 := (F_r_pop o S_121).2; (if x_87 = (-9 : Int32) then let S_141 : dg_S := (F_r_pop o S_123).1; let x_140 : Int32 := (F_r_pop o S_123).2; let x_142 : Int32 := F_r_chosen o S_141 x_140 x_122 x_120; (F_r_valueOf_J3 o S_141 x_142 x_78) else let x_138 : Int32 := F_r_result o S_123 x_87 x_122 x_120; (F_r_valueOf_J3 o S_123 x_138 x_78))) else (if x_87 < (0 : Int32) then let x_156 : Int32 := F_r_fact o S_79 x_87; (F_r_valueOf_J4 o S_79 x_156 x_78) else (F_r_valueOf_J4 o S_79 x_87 x_78))))
noncomputable def F_r_valueOf (o : Nat) (S : dg_S) (gr : Nat) (a1 : Int32) (a2 : Int32) : dg_S × Int32 := let x_1 : Int32 := F_g_hasRule o S gr a1; (if x_1 = (0 : Int32) then (S, a2) else let S_5 : dg_S := dg_uF S 215 7 (.int (0 : Int32)); let x_7 : Int32 := S_5.2.1 (gr + 10) (a1 : Int32).toNatClampNeg; (lp (F_r_valueOf_B1 gr a1 o) (S, (0 : Int32)) ((1601 - ((x_7 : Int32)).toInt).toNat + 1) (x_7, S_5)))
theorem F_r_valueOf_p0 {gr : Nat} {a1 : Int32} {o : Nat} {x_78 : Int32} {S_79 : dg_S} {S_85 : dg_S} {x_84 : Int32} {x_82 : Int32} (h0 : x_82 = S_79.2.1 (gr + 11) (a1 : Int32).toNatClampNeg) (h1 : x_82 ≤ x_78) (h3 : S_85 = (F_r_pop o S_79).1) (h4 : x_84 = (F_r_pop o S_79).2) : (F_r_valueOf_B1 gr a1 o) (x_78, S_79) = Sum.inr ((S_85, x_84)) := by
  replace h0 := Eq.symm h0
  subst h0
  replace h3 := Eq.symm h3
  subst h3
  replace h4 := Eq.symm h4
  subst h4
  exact (Eq.trans (if_pos h1) rfl)
theorem F_r_valueOf_p1 {x_78 : Int32} {S_115 : dg_S} {x_117 : Int32} (h0 : x_117 = x_78 + 1) : F_r_valueOf_J2 x_78 S_115 = Sum.inl (x_117, S_115) := by
  replace h0 := Eq.symm h0
  subst h0
  exact rfl
theorem F_r_valueOf_p2 {o : Nat} {S_134 : dg_S} {x_131 : Int32} {x_78 : Int32} {S_136 : dg_S} (h0 : S_136 = F_r_push o S_134 x_131) : F_r_valueOf_J3 o S_134 x_131 x_78 = F_r_valueOf_J2 x_78 S_136 := by
  replace h0 := Eq.symm h0
  subst h0
  exact rfl
theorem F_r_valueOf_p3 {gr : Nat} {a1 : Int32} {o : Nat} {x_78 : Int32} {S_79 : dg_S} {S_123 : dg_S} {x_138 : Int32} {x_82 : Int32} {x_87 : Int32} {S_121 : dg_S} {x_120 : Int32} {x_122 : Int32} (h0 : x_82 = S_79.2.1 (gr + 11) (a1 : Int32).toNatClampNeg) (h1 : ¬ (x_82 ≤ x_78)) (h2 : x_87 = S_79.2.1 (gr + 9) (x_78 : Int32).toNatClampNeg) (h3 : x_87 < (-7 : Int32)) (h4 : ¬ (x_87 = (-8 : Int32))) (h5 : S_121 = (F_r_pop o S_79).1) (h6 : x_120 = (F_r_pop o S_79).2) (h7 : S_123 = (F_r_pop o S_121).1) (h8 : x_122 = (F_r_pop o S_121).2) (h9 : ¬ (x_87 = (-9 : Int32))) (h10 : x_138 = F_r_result o S_123 x_87 x_122 x_120) : (F_r_valueOf_B1 gr a1 o) (x_78, S_79) = F_r_valueOf_J3 o S_123 x_138 x_78 := by
  replace h0 := Eq.symm h0
  subst h0
  replace h2 := Eq.symm h2
  subst h2
  replace h5 := Eq.symm h5
  subst h5
  replace h6 := Eq.symm h6
  subst h6
  replace h7 := Eq.symm h7
  subst h7
  replace h8 := Eq.symm h8
  subst h8
  replace h10 := Eq.symm h10
  subst h10
  exact (Eq.trans (if_neg h1) (Eq.trans (if_pos h3) (Eq.trans (if_neg h4) (Eq.trans (if_neg h9) rfl))))
theorem F_r_valueOf_p4 {gr : Nat} {a1 : Int32} {o : Nat} {x_78 : Int32} {S_79 : dg_S} {S_141 : dg_S} {x_142 : Int32} {x_82 : Int32} {x_87 : Int32} {S_121 : dg_S} {x_120 : Int32} {S_123 : dg_S} {x_122 : Int32} {x_140 : Int32} (h0 : x_82 = S_79.2.1 (gr + 11) (a1 : Int32).toNatClampNeg) (h1 : ¬ (x_82 ≤ x_78)) (h2 : x_87 = S_79.2.1 (gr + 9) (x_78 : Int32).toNatClampNeg) (h3 : x_87 < (-7 : Int32)) (h4 : ¬ (x_87 = (-8 : Int32))) (h5 : S_121 = (F_r_pop o S_79).1) (h6 : x_120 = (F_r_pop o S_79).2) (h7 : S_123 = (F_r_pop o S_121).1) (h8 : x_122 = (F_r_pop o S_121).2) (h9 : x_87 = (-9 : Int32)) (h10 : S_141 = (F_r_pop o S_123).1) (h11 : x_140 = (F_r_pop o S_123).2) (h12 : x_142 = F_r_chosen o S_141 x_140 x_122 x_120) : (F_r_valueOf_B1 gr a1 o) (x_78, S_79) = F_r_valueOf_J3 o S_141 x_142 x_78 := by
  replace h0 := Eq.symm h0
  subst h0
  replace h2 := Eq.symm h2
  subst h2
  replace h5 := Eq.symm h5
  subst h5
  replace h6 := Eq.symm h6
  subst h6
  replace h7 := Eq.symm h7
  subst h7
  replace h8 := Eq.symm h8
  subst h8
  replace h10 := Eq.symm h10
  subst h10
  replace h11 := Eq.symm h11
  subst h11
  replace h12 := Eq.symm h12
  subst h12
  exact (Eq.trans (if_neg h1) (Eq.trans (if_pos h3) (Eq.trans (if_neg h4) (Eq.trans (if_pos h9) rfl))))
theorem F_r_valueOf_p5 {gr : Nat} {a1 : Int32} {o : Nat} {x_78 : Int32} {S_79 : dg_S} {S_147 : dg_S} {x_82 : Int32} {x_87 : Int32} {S_145 : dg_S} {x_144 : Int32} {x_146 : Int32} (h0 : x_82 = S_79.2.1 (gr + 11) (a1 : Int32).toNatClampNeg) (h1 : ¬ (x_82 ≤ x_78)) (h2 : x_87 = S_79.2.1 (gr + 9) (x_78 : Int32).toNatClampNeg) (h3 : x_87 < (-7 : Int32)) (h4 : x_87 = (-8 : Int32)) (h5 : S_145 = (F_r_pop o S_79).1) (h6 : x_144 = (F_r_pop o S_79).2) (h7 : x_146 = (1 : Int32) - x_144) (h8 : S_147 = F_r_push o S_145 x_146) : (F_r_valueOf_B1 gr a1 o) (x_78, S_79) = F_r_valueOf_J2 x_78 S_147 := by
  replace h0 := Eq.symm h0
  subst h0
  replace h2 := Eq.symm h2
  subst h2
  replace h5 := Eq.symm h5
  subst h5
  replace h6 := Eq.symm h6
  subst h6
  replace h7 := Eq.symm h7
  subst h7
  replace h8 := Eq.symm h8
  subst h8
  exact (Eq.trans (if_neg h1) (Eq.trans (if_pos h3) (Eq.trans (if_pos h4) rfl)))
theorem F_r_valueOf_p6 {o : Nat} {S_79 : dg_S} {x_151 : Int32} {x_78 : Int32} {S_154 : dg_S} (h0 : S_154 = F_r_push o S_79 x_151) : F_r_valueOf_J4 o S_79 x_151 x_78 = F_r_valueOf_J2 x_78 S_154 := by
  replace h0 := Eq.symm h0
  subst h0
  exact rfl
theorem F_r_valueOf_p7 {gr : Nat} {a1 : Int32} {o : Nat} {x_78 : Int32} {S_79 : dg_S} {x_156 : Int32} {x_82 : Int32} {x_87 : Int32} (h0 : x_82 = S_79.2.1 (gr + 11) (a1 : Int32).toNatClampNeg) (h1 : ¬ (x_82 ≤ x_78)) (h2 : x_87 = S_79.2.1 (gr + 9) (x_78 : Int32).toNatClampNeg) (h3 : ¬ (x_87 < (-7 : Int32))) (h4 : x_87 < (0 : Int32)) (h5 : x_156 = F_r_fact o S_79 x_87) : (F_r_valueOf_B1 gr a1 o) (x_78, S_79) = F_r_valueOf_J4 o S_79 x_156 x_78 := by
  replace h0 := Eq.symm h0
  subst h0
  replace h2 := Eq.symm h2
  subst h2
  replace h5 := Eq.symm h5
  subst h5
  exact (Eq.trans (if_neg h1) (Eq.trans (if_neg h3) (Eq.trans (if_pos h4) rfl)))
theorem F_r_valueOf_p8 {gr : Nat} {a1 : Int32} {o : Nat} {x_78 : Int32} {S_79 : dg_S} {x_87 : Int32} {x_82 : Int32} (h0 : x_82 = S_79.2.1 (gr + 11) (a1 : Int32).toNatClampNeg) (h1 : ¬ (x_82 ≤ x_78)) (h2 : x_87 = S_79.2.1 (gr + 9) (x_78 : Int32).toNatClampNeg) (h3 : ¬ (x_87 < (-7 : Int32))) (h4 : ¬ (x_87 < (0 : Int32))) : (F_r_valueOf_B1 gr a1 o) (x_78, S_79) = F_r_valueOf_J4 o S_79 x_87 x_78 := by
  replace h0 := Eq.symm h0
  subst h0
  replace h2 := Eq.symm h2
  subst h2
  exact (Eq.trans (if_neg h1) (Eq.trans (if_neg h3) (Eq.trans (if_neg h4) rfl)))
theorem F_r_valueOf_p9 {o : Nat} {S : dg_S} {gr : Nat} {a1 : Int32} {a2 : Int32} {x_7 : Int32} {S_5 : dg_S} {x_1 : Int32} (h0 : x_1 = F_g_hasRule o S gr a1) (h1 : ¬ (x_1 = (0 : Int32))) (h2 : S_5 = dg_uF S 215 7 (.int (0 : Int32))) (h3 : x_7 = S_5.2.1 (gr + 10) (a1 : Int32).toNatClampNeg) : F_r_valueOf o S gr a1 a2 = lp (F_r_valueOf_B1 gr a1 o) (S, (0 : Int32)) ((1601 - ((x_7 : Int32)).toInt).toNat + 1) (x_7, S_5) := by
  replace h0 := Eq.symm h0
  subst h0
  replace h2 := Eq.symm h2
  subst h2
  replace h3 := Eq.symm h3
  subst h3
  exact (Eq.trans (if_neg h1) rfl)
theorem F_r_valueOf_p10 {o : Nat} {S : dg_S} {gr : Nat} {a1 : Int32} {a2 : Int32} {x_1 : Int32} (h0 : x_1 = F_g_hasRule o S gr a1) (h1 : x_1 = (0 : Int32)) : F_r_valueOf o S gr a1 a2 = (S, a2) := by
  replace h0 := Eq.symm h0
  subst h0
  exact (Eq.trans (if_pos h1) rfl)
set_option maxHeartbeats 8000000 in
set_option maxRecDepth 100000 in
theorem c_r_valueOf (l : Launch) (g : Nat → ClassId) (D : va_G) (o : Nat) (S : dg_S) (gr : Nat) (hk_gr : rX gr) (a1 : Int32) (b_a1 : 0 ≤ (a1).toInt ∧ (a1).toInt ≤ 2) (a2 : Int32) (I : CX o S) (sz : Nat) : Met l yX7_valueOf (bw yX7_valueOf cX7_valueOf 8 (some .int)) ({ frames := 3, cells := 0, slots := 0, locals := 76 } : Room) (dk_Pc g D (dg_w g shX o rfX S) sz [.ref (o + 215), .ref (o + gr), .int a1, .int a2]) (va_Qi (fun (r : Int32) S' => CX o S' ∧ dg_sm shX [(37, 7)] [38] S S' ∧ (S' = (F_r_valueOf o S gr a1 a2).1 ∧ r = (F_r_valueOf o S gr a1 a2).2) ∧ True) (dg_B g D shX o rfX) (dg_A o shX.length sz)) 0 0 (dg_A o shX.length sz) := by
  refine dg_met (cc := cX7_valueOf) (maxL := 8) (ret := (some .int)) (dk_dq rfl) rfl (Nat.le_of_ble_eq_true rfl) ?_
  intro p e s m args below meth c A hAe harg hx hb hr hml hts hown hlocks hin hP K hS hA1 hA ST hsz ls hl
  rw [← hAe]
  have F : CallFix p m c cX7_valueOf 8 s args (bw yX7_valueOf cX7_valueOf 8 (some .int)) RX7 := ⟨hx, hb, hml, hown, hts⟩
  have hl : lv_has ls 8 [(0, .ref (o + 215)), (1, .ref (o + gr)), (2, .int a1), (3, .int a2)] := hl
  have M_0 : dg_sm shX [(37, 7)] [38] S S := dg_sm.rf
  refine lv_aload_n hx hb dX7_valueOf_0 rfl (lv_at hl 1 rfl) ?_
  refine lv_iload_n hx hb dX7_valueOf_1 rfl (lv_at hl 2 rfl) ?_
  refine dg_calli hS hA1 hA (va_runV (As := [.int a1]) (rest := []) F (c_g_hasRuleR l g D o S gr hk_gr a1 (by omega) I s.heap.size) (cwV 1 hts (bw_V wB_554 wB_217 wB_218 wB_9 wB_215) rfl rfl rfl (by decide +kernel) ⟨Nat.le_of_ble_eq_true rfl, Nat.le_of_ble_eq_true rfl⟩) (dg_preV (rX_0 gr hk_gr) rfl K ST hP hS hA1 hA) rfl rfl hl.1 rfl (lv_room (Nat.le_of_ble_eq_true rfl)) dX7_valueOf_2 ⟨Nat.le_of_ble_eq_true rfl, Nat.le_of_ble_eq_true rfl⟩) (fun x_1 S_2 hw_2 H locs hP hS => ?_)
  rw [hw_2.1] at hP
  obtain ⟨hq_2, w_2_0, w_2_1, -⟩ := hw_2
  have w_2_0 : 0 ≤ (x_1).toInt ∧ (x_1).toInt ≤ 1 := w_2_0
  refine lv_if_ne (tgt := 10) hx hb dX7_valueOf_5 (dk_dq rfl) (fun c_3 => ?_) (fun c_3 => ?_)
  · as_aux_lemma =>
      have jc_3 := dk_neqc (k := 0) (by decide +kernel) c_3
      refine lv_aload_n hx hb dX7_valueOf_10 rfl (lv_at hl 0 rfl) ?_
      refine lv_iconst (v := 0) hx hb dX7_valueOf_11 (by decide +kernel) ?_
      have hz_4 : (0 : Int32).toInt = 0 := by decide +kernel
      refine dg_put (ci := 7) (v := .int 0) (ty := tyX7 7) (C := RX7) (T := TX7) (N := 8) hx hb hts (fun w h => bw_mem (wU_X7 w h)) tyX7 tyX7_ok nmX7 hown K hP hS hA1 sX_215 rfl 7 (dk_dq rfl) (hts _ (bw_mem wB_532)) (fun _ h9 => h9) rfl (by decide +kernel) rfl rfl dX7_valueOf_12 (fun S_5 e_5 H locs hP hS => ?_)
      have I_5 := dg_I.uFi (lo := 0) (hi := 64) I e_5 sX_215 (by decide +kernel) (show 0 ≤ ((0 : Int32)).toInt ∧ ((0 : Int32)).toInt ≤ 64 from (by decide +kernel))
      have M_5 := dg_sm.uF M_0 e_5 sX_215 (dk_dq rfl)
      refine lv_aload_n hx hb dX7_valueOf_15 rfl (lv_at hl 1 rfl) ?_
      refine dg_get (C := RX2) (T := TX2) (N := 19) hx hb hts (fun w h => bw_mem (wU_X2 w h)) hown K hP (rX_0 gr hk_gr) rfl 17 (dk_dq rfl) (hts _ (bw_mem wB_555)) (fun _ h9 => h9) (v := .ref (o + (gr + 10))) (show S_5.1 gr 17 = .ref (o + (gr + 10)) from dg_I.rel (d := 10) I_5 (rX_0 gr hk_gr) (by decide +kernel)) dX7_valueOf_16 ?_
      refine lv_iload_n hx hb dX7_valueOf_19 rfl (lv_at hl 2 rfl) ?_
      have hin_6 : vp_in a1 3 := (dk_inv2 (by omega))
      refine dg_iald hx hb K hP (rX_10 gr hk_gr) hin_6 dX7_valueOf_20 (fun x_7 ex_7 => ?_)
      have b_x_7 := dk_all_at (dg_I.row (lo := 0) (hi := 1600) I_5 (rX_10 gr hk_gr) (by decide +kernel)) hin_6 ex_7
      refine lv_istore (lv' := [(4, .int x_7), (0, .ref (o + 215)), (1, .ref (o + gr)), (2, .int a1), (3, .int a2)]) hx hb dX7_valueOf_21 hl (dk_dq rfl) rfl (fun ls hl => ?_)
      have L_80 : ∀ (n : Nat) (x_78 : Int32), (0 ≤ (x_78).toInt ∧ (x_78).toInt ≤ 1600) → ((1601 - (x_78).toInt).toNat < n) → ∀ S_79 : dg_S, CX o S_79 → dg_sm shX [(37, 7)] [38] S S_79 → (F_r_valueOf o S gr a1 a2 = lp (F_r_valueOf_B1 gr a1 o) (S, (0 : Int32)) n (x_78, S_79)) → ∀ (H : Heap) (locs : List Loc), va_P D vwCl (dg_w g shX o rfX S_79) H → va_S A s.heap H locs → ∀ ls : Array Slot, lv_has ls 8 [(4, .int x_78), (0, .ref (o + 215)), (1, .ref (o + gr)), (2, .int a1), (3, .int a2)] → W p l e ({ frames := 3, cells := 0, slots := 0, locals := 76 } : Room) s m args below meth c H locs 0 0 (MQ below (va_Qi (fun (r : Int32) S' => CX o S' ∧ dg_sm shX [(37, 7)] [38] S S' ∧ (S' = (F_r_valueOf o S gr a1 a2).1 ∧ r = (F_r_valueOf o S gr a1 a2).2) ∧ True) (dg_B g D shX o rfX) A) args s 0 0 A) (F0 m 23 ls []) := by
        as_aux_lemma =>
          intro n
          induction n with
          | zero =>
            intro x_78 b_x_78 hmu S_79 I_79 M_79 hF_1 H locs hP hS ls hl
            omega
          | succ n ih =>
            as_aux_lemma =>
              intro x_78 b_x_78 hmu S_79 I_79 M_79 hF_1 H locs hP hS ls hl
              refine lv_iload hx hb dX7_valueOf_23 (lv_at hl 0 rfl) ?_
              refine lv_aload_n hx hb dX7_valueOf_25 rfl (lv_at hl 2 rfl) ?_
              refine dg_get (C := RX2) (T := TX2) (N := 19) hx hb hts (fun w h => bw_mem (wU_X2 w h)) hown K hP (rX_0 gr hk_gr) rfl 18 (dk_dq rfl) (hts _ (bw_mem wB_556)) (fun _ h9 => h9) (v := .ref (o + (gr + 11))) (show S_79.1 gr 18 = .ref (o + (gr + 11)) from dg_I.rel (d := 11) I_79 (rX_0 gr hk_gr) (by decide +kernel)) dX7_valueOf_26 ?_
              refine lv_iload_n hx hb dX7_valueOf_29 rfl (lv_at hl 3 rfl) ?_
              have hin_81 : vp_in a1 3 := (dk_inv2 (by omega))
              refine dg_iald hx hb K hP (rX_11 gr hk_gr) hin_81 dX7_valueOf_30 (fun x_82 ex_82 => ?_)
              have b_x_82 := dk_all_at (dg_I.row (lo := 0) (hi := 1600) I_79 (rX_11 gr hk_gr) (by decide +kernel)) hin_81 ex_82
              refine lv_icmp_ge (tgt := 145) hx hb dX7_valueOf_31 (dk_dq rfl) (fun c_83 => ?_) (fun c_83 => ?_)
              · have jc_83 := dk_gec (k := (x_82).toInt) rfl c_83
                refine lv_aload_n hx hb dX7_valueOf_145 rfl (lv_at hl 1 rfl) ?_
                refine dg_calli hS hA1 hA (va_runV (As := []) (rest := []) F (c_r_pop l g D o S_79 I_79 H.size) (cwV 0 hts (bw_V wB_558 wB_559 wB_560 wB_553 wB_557) rfl rfl rfl (by decide +kernel) ⟨Nat.le_of_ble_eq_true rfl, Nat.le_of_ble_eq_true rfl⟩) (dg_preV sX_215 rfl K ST hP hS hA1 hA) rfl rfl hl.1 rfl (lv_room (Nat.le_of_ble_eq_true rfl)) dX7_valueOf_146 ⟨Nat.le_of_ble_eq_true rfl, Nat.le_of_ble_eq_true rfl⟩) (fun x_84 S_85 hw_85 H locs hP hS => ?_)
                obtain ⟨I_85, m_85, w_85_0, -⟩ := hw_85
                have M_85 := dg_sm.tr M_79 m_85 (dk_dq rfl) (dk_dq rfl)
                refine W.widen (k := 0) (n := 0) (Nat.le_of_ble_eq_true rfl) (Nat.le_of_ble_eq_true rfl) ?_
                exact dg_iret hx hb hr hlocks rfl hP hS ⟨I_85, M_85, ⟨congrArg Prod.fst (Eq.symm (lp_r hF_1 (F_r_valueOf_p0 (Eq.symm ex_82.symm) c_83 w_85_0.1 w_85_0.2))), congrArg Prod.snd (Eq.symm (lp_r hF_1 (F_r_valueOf_p0 (Eq.symm ex_82.symm) c_83 w_85_0.1 w_85_0.2)))⟩, trivial⟩ dX7_valueOf_149
              · as_aux_lemma =>
                  have jc_83 := dk_ngec (k := (x_82).toInt) rfl c_83
                  refine lv_aload_n hx hb dX7_valueOf_34 rfl (lv_at hl 2 rfl) ?_
                  refine dg_get (C := RX2) (T := TX2) (N := 19) hx hb hts (fun w h => bw_mem (wU_X2 w h)) hown K hP (rX_0 gr hk_gr) rfl 16 (dk_dq rfl) (hts _ (bw_mem wB_561)) (fun _ h9 => h9) (v := .ref (o + (gr + 9))) (show S_79.1 gr 16 = .ref (o + (gr + 9)) from dg_I.rel (d := 9) I_79 (rX_0 gr hk_gr) (by decide +kernel)) dX7_valueOf_35 ?_
                  refine lv_iload hx hb dX7_valueOf_38 (lv_at hl 0 rfl) ?_
                  have hin_86 : vp_in x_78 1600 := (dk_inv2 (by omega))
                  refine dg_iald hx hb K hP (rX_9 gr hk_gr) hin_86 dX7_valueOf_40 (fun x_87 ex_87 => ?_)
                  refine lv_istore (lv' := [(5, .int x_87), (4, .int x_78), (0, .ref (o + 215)), (1, .ref (o + gr)), (2, .int a1), (3, .int a2)]) hx hb dX7_valueOf_41 hl (dk_dq rfl) rfl (fun ls hl => ?_)
                  refine lv_iload hx hb dX7_valueOf_43 (lv_at hl 0 rfl) ?_
                  refine lv_bipush (v := (-7)) hx hb dX7_valueOf_45 (by decide +kernel) ?_
                  have J_116 : ∀ S_115 : dg_S, CX o S_115 → dg_sm shX [(37, 7)] [38] S S_115 → ((F_r_valueOf_B1 gr a1 o) (x_78, S_79) = F_r_valueOf_J2 x_78 S_115) → ∀ (H : Heap) (locs : List Loc), va_P D vwCl (dg_w g shX o rfX S_115) H → va_S A s.heap H locs → ∀ ls : Array Slot, lv_has ls 8 [(5, .int x_87), (4, .int x_78), (0, .ref (o + 215)), (1, .ref (o + gr)), (2, .int a1), (3, .int a2)] → W p l e ({ frames := 3, cells := 0, slots := 0, locals := 76 } : Room) s m args below meth c H locs 0 0 (MQ below (va_Qi (fun (r : Int32) S' => CX o S' ∧ dg_sm shX [(37, 7)] [38] S S' ∧ (S' = (F_r_valueOf o S gr a1 a2).1 ∧ r = (F_r_valueOf o S gr a1 a2).2) ∧ True) (dg_B g D shX o rfX) A) args s 0 0 A) (F0 m 139 ls []) := by
                    intro S_115 I_115 M_115 hF_2 H locs hP hS ls hl
                    obtain ⟨x_117, ex_117⟩ : ∃ z, z = x_78 + 1 := ⟨_, rfl⟩
                    have jx_117 : (x_117).toInt = (x_78).toInt + 1 := by rw [ex_117]; exact dk_addT2 rfl (by decide +kernel) (by omega)
                    refine lv_iinc (v := x_117) (lv' := [(4, .int x_117), (5, .int x_87), (0, .ref (o + 215)), (1, .ref (o + gr)), (2, .int a1), (3, .int a2)]) hx hb dX7_valueOf_139 hl (k := 1) rfl (by rw [ex_117]; rfl) (dk_dq rfl) rfl (fun ls hl => ?_)
                    refine lv_goto (tgt := 23) hx hb dX7_valueOf_142 (dk_dq rfl) ?_
                    exact ih x_117 (by omega) (by first | exact mu_lt hmu (by omega) (by omega) | omega) S_115 I_115 M_115  (lp_l hF_1 (Eq.trans hF_2 (F_r_valueOf_p1 ex_117))) _ _ hP hS _ (lv_sub hl [0, 2, 3, 4, 5] rfl)
                  refine lv_icmp_lt (tgt := 73) hx hb dX7_valueOf_47 (dk_dq rfl) (fun c_118 => ?_) (fun c_118 => ?_)
                  · as_aux_lemma =>
                      have jc_118 := dk_ltc (k := (-7)) (by decide +kernel) c_118
                      refine lv_iload hx hb dX7_valueOf_73 (lv_at hl 0 rfl) ?_
                      refine lv_bipush (v := (-8)) hx hb dX7_valueOf_75 (by decide +kernel) ?_
                      refine lv_icmp_ne (tgt := 93) hx hb dX7_valueOf_77 (dk_dq rfl) (fun c_119 => ?_) (fun c_119 => ?_)
                      · as_aux_lemma =>
                          have jc_119 := dk_neqc (k := (-8)) (by decide +kernel) c_119
                          refine lv_aload_n hx hb dX7_valueOf_93 rfl (lv_at hl 2 rfl) ?_
                          refine dg_calli hS hA1 hA (va_runV (As := []) (rest := []) F (c_r_pop l g D o S_79 I_79 H.size) (cwV 0 hts (bw_V wB_558 wB_559 wB_560 wB_553 wB_557) rfl rfl rfl (by decide +kernel) ⟨Nat.le_of_ble_eq_true rfl, Nat.le_of_ble_eq_true rfl⟩) (dg_preV sX_215 rfl K ST hP hS hA1 hA) rfl rfl hl.1 rfl (lv_room (Nat.le_of_ble_eq_true rfl)) dX7_valueOf_94 ⟨Nat.le_of_ble_eq_true rfl, Nat.le_of_ble_eq_true rfl⟩) (fun x_120 S_121 hw_121 H locs hP hS => ?_)
                          obtain ⟨I_121, m_121, w_121_0, -⟩ := hw_121
                          have M_121 := dg_sm.tr M_79 m_121 (dk_dq rfl) (dk_dq rfl)
                          refine lv_istore (lv' := [(6, .int x_120), (5, .int x_87), (4, .int x_78), (0, .ref (o + 215)), (1, .ref (o + gr)), (2, .int a1), (3, .int a2)]) hx hb dX7_valueOf_97 hl (dk_dq rfl) rfl (fun ls hl => ?_)
                          refine lv_aload_n hx hb dX7_valueOf_99 rfl (lv_at hl 3 rfl) ?_
                          refine dg_calli hS hA1 hA (va_runV (As := []) (rest := []) F (c_r_pop l g D o S_121 I_121 H.size) (cwV 0 hts (bw_V wB_558 wB_559 wB_560 wB_553 wB_557) rfl rfl rfl (by decide +kernel) ⟨Nat.le_of_ble_eq_true rfl, Nat.le_of_ble_eq_true rfl⟩) (dg_preV sX_215 rfl K ST hP hS hA1 hA) rfl rfl hl.1 rfl (lv_room (Nat.le_of_ble_eq_true rfl)) dX7_valueOf_100 ⟨Nat.le_of_ble_eq_true rfl, Nat.le_of_ble_eq_true rfl⟩) (fun x_122 S_123 hw_123 H locs hP hS => ?_)
                          obtain ⟨I_123, m_123, w_123_0, -⟩ := hw_123
                          have M_123 := dg_sm.tr M_121 m_123 (dk_dq rfl) (dk_dq rfl)
                          refine lv_istore (lv' := [(7, .int x_122), (6, .int x_120), (5, .int x_87), (4, .int x_78), (0, .ref (o + 215)), (1, .ref (o + gr)), (2, .int a1), (3, .int a2)]) hx hb dX7_valueOf_103 hl (dk_dq rfl) rfl (fun ls hl => ?_)
                          refine lv_aload_n hx hb dX7_valueOf_105 rfl (lv_at hl 4 rfl) ?_
                          refine lv_iload hx hb dX7_valueOf_106 (lv_at hl 2 rfl) ?_
                          refine lv_bipush (v := (-9)) hx hb dX7_valueOf_108 (by decide +kernel) ?_
                          have J_135 : ∀ (x_131 : Int32), ∀ S_134 : dg_S, CX o S_134 → dg_sm shX [(37, 7)] [38] S S_134 → ((F_r_valueOf_B1 gr a1 o) (x_78, S_79) = F_r_valueOf_J3 o S_134 x_131 x_78) → ∀ (H : Heap) (locs : List Loc), va_P D vwCl (dg_w g shX o rfX S_134) H → va_S A s.heap H locs → ∀ ls : Array Slot, lv_has ls 8 [(7, .int x_122), (6, .int x_120), (5, .int x_87), (4, .int x_78), (0, .ref (o + 215)), (1, .ref (o + gr)), (2, .int a1), (3, .int a2)] → W p l e ({ frames := 3, cells := 0, slots := 0, locals := 76 } : Room) s m args below meth c H locs 0 0 (MQ below (va_Qi (fun (r : Int32) S' => CX o S' ∧ dg_sm shX [(37, 7)] [38] S S' ∧ (S' = (F_r_valueOf o S gr a1 a2).1 ∧ r = (F_r_valueOf o S gr a1 a2).2) ∧ True) (dg_B g D shX o rfX) A) args s 0 0 A) (F0 m 136 ls [.int x_131, .ref (o + 215)]) := by
                            intro x_131 S_134 I_134 M_134 hF_3 H locs hP hS ls hl
                            refine dg_callv hS hA1 hA (va_runV (As := [.int x_131]) (rest := []) F (c_r_push l g D o S_134 x_131 I_134 H.size) (cwV 1 hts (bw_V wB_569 wB_570 wB_571 wB_553 wB_568) rfl rfl rfl (by decide +kernel) ⟨Nat.le_of_ble_eq_true rfl, Nat.le_of_ble_eq_true rfl⟩) (dg_preV sX_215 rfl K ST hP hS hA1 hA) rfl rfl hl.1 rfl (lv_room (Nat.le_of_ble_eq_true rfl)) dX7_valueOf_136 ⟨Nat.le_of_ble_eq_true rfl, Nat.le_of_ble_eq_true rfl⟩) (fun S_136 hw_136 H locs hP hS => ?_)
                            obtain ⟨I_136, m_136, w_136_0, -⟩ := hw_136
                            have M_136 := dg_sm.tr M_134 m_136 (dk_dq rfl) (dk_dq rfl)
                            exact J_116   S_136 I_136 M_136  (Eq.trans hF_3 (F_r_valueOf_p2 w_136_0)) _ _ hP hS _ (lv_sub hl [2, 3, 4, 5, 6, 7] rfl)
                          refine lv_icmp_ne (tgt := 127) hx hb dX7_valueOf_110 (dk_dq rfl) (fun c_137 => ?_) (fun c_137 => ?_)
                          · have jc_137 := dk_neqc (k := (-9)) (by decide +kernel) c_137
                            refine lv_iload hx hb dX7_valueOf_127 (lv_at hl 2 rfl) ?_
                            refine lv_iload hx hb dX7_valueOf_129 (lv_at hl 0 rfl) ?_
                            refine lv_iload hx hb dX7_valueOf_131 (lv_at hl 1 rfl) ?_
                            refine dg_calli hS hA1 hA (va_runS (As := [.int x_87, .int x_122, .int x_120]) (rest := [.ref (o + 215)]) F (c_r_result l g D o S_123 x_87 x_122 x_120 I_123 H.size) (va_cwS 3 hts (bw_S wB_563 wB_564 wB_553 wB_562) rfl rfl rfl (by decide +kernel) ⟨Nat.le_of_ble_eq_true rfl, Nat.le_of_ble_eq_true rfl⟩) (dg_preS K ST hP hS hA1 hA) rfl rfl hl.1 rfl (lv_room (Nat.le_of_ble_eq_true rfl)) dX7_valueOf_133 ⟨Nat.le_of_ble_eq_true rfl, Nat.le_of_ble_eq_true rfl⟩) (fun x_138 S_139 hw_139 H locs hP hS => ?_)
                            rw [hw_139.1] at hP
                            obtain ⟨hq_139, w_139_0, -⟩ := hw_139
                            exact J_135 x_138  S_123 I_123 M_123  (F_r_valueOf_p3 (Eq.symm ex_82.symm) c_83 (Eq.symm ex_87.symm) c_118 c_119 w_121_0.1 w_121_0.2 w_123_0.1 w_123_0.2 c_137 w_139_0) _ _ hP hS _ (lv_sub hl [0, 1, 2, 3, 4, 5, 6, 7] rfl)
                          · have jc_137 := dk_eqc (k := (-9)) (by decide +kernel) c_137
                            refine lv_aload_n hx hb dX7_valueOf_113 rfl (lv_at hl 4 rfl) ?_
                            refine dg_calli hS hA1 hA (va_runV (As := []) (rest := [.ref (o + 215)]) F (c_r_pop l g D o S_123 I_123 H.size) (cwV 0 hts (bw_V wB_558 wB_559 wB_560 wB_553 wB_557) rfl rfl rfl (by decide +kernel) ⟨Nat.le_of_ble_eq_true rfl, Nat.le_of_ble_eq_true rfl⟩) (dg_preV sX_215 rfl K ST hP hS hA1 hA) rfl rfl hl.1 rfl (lv_room (Nat.le_of_ble_eq_true rfl)) dX7_valueOf_114 ⟨Nat.le_of_ble_eq_true rfl, Nat.le_of_ble_eq_true rfl⟩) (fun x_140 S_141 hw_141 H locs hP hS => ?_)
                            obtain ⟨I_141, m_141, w_141_0, -⟩ := hw_141
                            have M_141 := dg_sm.tr M_123 m_141 (dk_dq rfl) (dk_dq rfl)
                            refine lv_iload hx hb dX7_valueOf_117 (lv_at hl 0 rfl) ?_
                            refine lv_iload hx hb dX7_valueOf_119 (lv_at hl 1 rfl) ?_
                            refine dg_calli hS hA1 hA (va_runS (As := [.int x_140, .int x_122, .int x_120]) (rest := [.ref (o + 215)]) F (c_r_chosen l g D o S_141 x_140 x_122 x_120 I_141 H.size) (va_cwS 3 hts (bw_S wB_566 wB_567 wB_553 wB_565) rfl rfl rfl (by decide +kernel) ⟨Nat.le_of_ble_eq_true rfl, Nat.le_of_ble_eq_true rfl⟩) (dg_preS K ST hP hS hA1 hA) rfl rfl hl.1 rfl (lv_room (Nat.le_of_ble_eq_true rfl)) dX7_valueOf_121 ⟨Nat.le_of_ble_eq_true rfl, Nat.le_of_ble_eq_true rfl⟩) (fun x_142 S_143 hw_143 H locs hP hS => ?_)
                            rw [hw_143.1] at hP
                            obtain ⟨hq_143, w_143_0, -⟩ := hw_143
                            refine lv_goto (tgt := 136) hx hb dX7_valueOf_124 (dk_dq rfl) ?_
                            exact J_135 x_142  S_141 I_141 M_141  (F_r_valueOf_p4 (Eq.symm ex_82.symm) c_83 (Eq.symm ex_87.symm) c_118 c_119 w_121_0.1 w_121_0.2 w_123_0.1 w_123_0.2 c_137 w_141_0.1 w_141_0.2 w_143_0) _ _ hP hS _ (lv_sub hl [0, 1, 2, 3, 4, 5, 6, 7] rfl)
                      · have jc_119 := dk_eqc (k := (-8)) (by decide +kernel) c_119
                        refine lv_aload_n hx hb dX7_valueOf_80 rfl (lv_at hl 2 rfl) ?_
                        refine lv_iconst (v := 1) hx hb dX7_valueOf_81 (by decide +kernel) ?_
                        refine lv_aload_n hx hb dX7_valueOf_82 rfl (lv_at hl 2 rfl) ?_
                        refine dg_calli hS hA1 hA (va_runV (As := []) (rest := [.int 1, .ref (o + 215)]) F (c_r_pop l g D o S_79 I_79 H.size) (cwV 0 hts (bw_V wB_558 wB_559 wB_560 wB_553 wB_557) rfl rfl rfl (by decide +kernel) ⟨Nat.le_of_ble_eq_true rfl, Nat.le_of_ble_eq_true rfl⟩) (dg_preV sX_215 rfl K ST hP hS hA1 hA) rfl rfl hl.1 rfl (lv_room (Nat.le_of_ble_eq_true rfl)) dX7_valueOf_83 ⟨Nat.le_of_ble_eq_true rfl, Nat.le_of_ble_eq_true rfl⟩) (fun x_144 S_145 hw_145 H locs hP hS => ?_)
                        obtain ⟨I_145, m_145, w_145_0, -⟩ := hw_145
                        have M_145 := dg_sm.tr M_79 m_145 (dk_dq rfl) (dk_dq rfl)
                        refine lv_isub hx hb dX7_valueOf_86 ?_
                        refine lv_topi (fun x_146 ex_146 => ?_)
                        refine dg_callv hS hA1 hA (va_runV (As := [.int x_146]) (rest := []) F (c_r_push l g D o S_145 x_146 I_145 H.size) (cwV 1 hts (bw_V wB_569 wB_570 wB_571 wB_553 wB_568) rfl rfl rfl (by decide +kernel) ⟨Nat.le_of_ble_eq_true rfl, Nat.le_of_ble_eq_true rfl⟩) (dg_preV sX_215 rfl K ST hP hS hA1 hA) rfl rfl hl.1 rfl (lv_room (Nat.le_of_ble_eq_true rfl)) dX7_valueOf_87 ⟨Nat.le_of_ble_eq_true rfl, Nat.le_of_ble_eq_true rfl⟩) (fun S_147 hw_147 H locs hP hS => ?_)
                        obtain ⟨I_147, m_147, w_147_0, -⟩ := hw_147
                        have M_147 := dg_sm.tr M_145 m_147 (dk_dq rfl) (dk_dq rfl)
                        refine lv_goto (tgt := 139) hx hb dX7_valueOf_90 (dk_dq rfl) ?_
                        exact J_116   S_147 I_147 M_147  (F_r_valueOf_p5 (Eq.symm ex_82.symm) c_83 (Eq.symm ex_87.symm) c_118 c_119 w_145_0.1 w_145_0.2 ex_146 w_147_0) _ _ hP hS _ (lv_sub hl [0, 1, 2, 3, 4, 5] rfl)
                  · as_aux_lemma =>
                      have jc_118 := dk_nltc (k := (-7)) (by decide +kernel) c_118
                      refine lv_aload_n hx hb dX7_valueOf_50 rfl (lv_at hl 2 rfl) ?_
                      refine lv_iload hx hb dX7_valueOf_51 (lv_at hl 0 rfl) ?_
                      have J_153 : ∀ (x_151 : Int32), ((F_r_valueOf_B1 gr a1 o) (x_78, S_79) = F_r_valueOf_J4 o S_79 x_151 x_78) → ∀ (H : Heap) (locs : List Loc), va_P D vwCl (dg_w g shX o rfX S_79) H → va_S A s.heap H locs → ∀ ls : Array Slot, lv_has ls 8 [(5, .int x_87), (4, .int x_78), (0, .ref (o + 215)), (1, .ref (o + gr)), (2, .int a1), (3, .int a2)] → W p l e ({ frames := 3, cells := 0, slots := 0, locals := 76 } : Room) s m args below meth c H locs 0 0 (MQ below (va_Qi (fun (r : Int32) S' => CX o S' ∧ dg_sm shX [(37, 7)] [38] S S' ∧ (S' = (F_r_valueOf o S gr a1 a2).1 ∧ r = (F_r_valueOf o S gr a1 a2).2) ∧ True) (dg_B g D shX o rfX) A) args s 0 0 A) (F0 m 67 ls [.int x_151, .ref (o + 215)]) := by
                        intro x_151 hF_4 H locs hP hS ls hl
                        refine dg_callv hS hA1 hA (va_runV (As := [.int x_151]) (rest := []) F (c_r_push l g D o S_79 x_151 I_79 H.size) (cwV 1 hts (bw_V wB_569 wB_570 wB_571 wB_553 wB_568) rfl rfl rfl (by decide +kernel) ⟨Nat.le_of_ble_eq_true rfl, Nat.le_of_ble_eq_true rfl⟩) (dg_preV sX_215 rfl K ST hP hS hA1 hA) rfl rfl hl.1 rfl (lv_room (Nat.le_of_ble_eq_true rfl)) dX7_valueOf_67 ⟨Nat.le_of_ble_eq_true rfl, Nat.le_of_ble_eq_true rfl⟩) (fun S_154 hw_154 H locs hP hS => ?_)
                        obtain ⟨I_154, m_154, w_154_0, -⟩ := hw_154
                        have M_154 := dg_sm.tr M_79 m_154 (dk_dq rfl) (dk_dq rfl)
                        refine lv_goto (tgt := 139) hx hb dX7_valueOf_70 (dk_dq rfl) ?_
                        exact J_116   S_154 I_154 M_154  (Eq.trans hF_4 (F_r_valueOf_p6 w_154_0)) _ _ hP hS _ (lv_sub hl [0, 1, 2, 3, 4, 5] rfl)
                      refine lv_if_lt (tgt := 61) hx hb dX7_valueOf_53 (dk_dq rfl) (fun c_155 => ?_) (fun c_155 => ?_)
                      · have jc_155 := dk_ltc (k := 0) (by decide +kernel) c_155
                        refine lv_aload_n hx hb dX7_valueOf_61 rfl (lv_at hl 2 rfl) ?_
                        refine lv_iload hx hb dX7_valueOf_62 (lv_at hl 0 rfl) ?_
                        refine dg_calli hS hA1 hA (va_runV (As := [.int x_87]) (rest := [.ref (o + 215)]) F (c_r_fact l g D o S_79 x_87 I_79 H.size) (cwV 1 hts (bw_V wB_573 wB_574 wB_575 wB_553 wB_572) rfl rfl rfl (by decide +kernel) ⟨Nat.le_of_ble_eq_true rfl, Nat.le_of_ble_eq_true rfl⟩) (dg_preV sX_215 rfl K ST hP hS hA1 hA) rfl rfl hl.1 rfl (lv_room (Nat.le_of_ble_eq_true rfl)) dX7_valueOf_64 ⟨Nat.le_of_ble_eq_true rfl, Nat.le_of_ble_eq_true rfl⟩) (fun x_156 S_157 hw_157 H locs hP hS => ?_)
                        rw [hw_157.1] at hP
                        obtain ⟨hq_157, w_157_0, -⟩ := hw_157
                        exact J_153 x_156  (F_r_valueOf_p7 (Eq.symm ex_82.symm) c_83 (Eq.symm ex_87.symm) c_118 c_155 w_157_0) _ _ hP hS _ (lv_sub hl [0, 1, 2, 3, 4, 5] rfl)
                      · have jc_155 := dk_nltc (k := 0) (by decide +kernel) c_155
                        refine lv_iload hx hb dX7_valueOf_56 (lv_at hl 0 rfl) ?_
                        refine lv_goto (tgt := 67) hx hb dX7_valueOf_58 (dk_dq rfl) ?_
                        exact J_153 x_87  (F_r_valueOf_p8 (Eq.symm ex_82.symm) c_83 (Eq.symm ex_87.symm) c_118 c_155) _ _ hP hS _ (lv_sub hl [0, 1, 2, 3, 4, 5] rfl)
      exact L_80 ((1601 - ((x_7 : Int32)).toInt).toNat + 1) x_7 (by omega) (by first | exact mu_lt hmu (by omega) (by omega) | omega) S_5 I_5 M_5  (F_r_valueOf_p9 w_2_1 c_3 e_5 (Eq.symm ex_7.symm)) _ _ hP hS _ (lv_sub hl [0, 1, 2, 3, 4] rfl)
  · have jc_3 := dk_eqc (k := 0) (by decide +kernel) c_3
    refine lv_iload_n hx hb dX7_valueOf_8 rfl (lv_at hl 3 rfl) ?_
    refine W.widen (k := 0) (n := 0) (Nat.le_of_ble_eq_true rfl) (Nat.le_of_ble_eq_true rfl) ?_
    exact dg_iret hx hb hr hlocks rfl hP hS ⟨I, M_0, ⟨congrArg Prod.fst (Eq.symm (F_r_valueOf_p10 w_2_1 c_3)), congrArg Prod.snd (Eq.symm (F_r_valueOf_p10 w_2_1 c_3))⟩, trivial⟩ dX7_valueOf_9
