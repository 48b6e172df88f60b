/-! 11.works.lean.txt -/
theorem dX10_enter_0 : decode cX10_enter 0 = .ok (.aload_n 0, 1) := dk_o42 (by decide +kernel)
theorem dX10_enter_1 : decode cX10_enter 1 = .ok (.aload_n 1, 1) := dk_o43 (by decide +kernel)
theorem dX10_enter_2 : decode cX10_enter 2 = .ok (.putfield 41, 3) := dk_o181 (by decide +kernel)
theorem dX10_enter_5 : decode cX10_enter 5 = .ok (.aload_n 0, 1) := dk_o42 (by decide +kernel)
theorem dX10_enter_6 : decode cX10_enter 6 = .ok (.aload_n 2, 1) := dk_o44 (by decide +kernel)
theorem dX10_enter_7 : decode cX10_enter 7 = .ok (.putfield 45, 3) := dk_o181 (by decide +kernel)
theorem dX10_enter_10 : decode cX10_enter 10 = .ok (.aload_n 0, 1) := dk_o42 (by decide +kernel)
theorem dX10_enter_11 : decode cX10_enter 11 = .ok (.iload_n 3, 1) := dk_o29 (by decide +kernel)
theorem dX10_enter_12 : decode cX10_enter 12 = .ok (.putfield 53, 3) := dk_o181 (by decide +kernel)
theorem dX10_enter_15 : decode cX10_enter 15 = .ok (.aload_n 0, 1) := dk_o42 (by decide +kernel)
theorem dX10_enter_16 : decode cX10_enter 16 = .ok (.iconst 1, 1) := dk_o4 (by decide +kernel)
theorem dX10_enter_17 : decode cX10_enter 17 = .ok (.putfield 49, 3) := dk_o181 (by decide +kernel)
theorem dX10_enter_20 : decode cX10_enter 20 = .ok (.return_, 1) := dk_o177 (by decide +kernel)
theorem dX10_farOf_0 : decode cX10_farOf 0 = .ok (.aload_n 0, 1) := dk_o42 (by decide +kernel)
theorem dX10_farOf_1 : decode cX10_farOf 1 = .ok (.invokevirtual 56, 3) := dk_o182 (by decide +kernel)
theorem dX10_farOf_4 : decode cX10_farOf 4 = .ok (.aload_n 0, 1) := dk_o42 (by decide +kernel)
theorem dX10_farOf_5 : decode cX10_farOf 5 = .ok (.getfield 18, 3) := dk_o180 (by decide +kernel)
theorem dX10_farOf_8 : decode cX10_farOf 8 = .ok (.iload_n 1, 1) := dk_o27 (by decide +kernel)
theorem dX10_farOf_9 : decode cX10_farOf 9 = .ok (.iaload, 1) := dk_o46 (by decide +kernel)
theorem dX10_farOf_10 : decode cX10_farOf 10 = .ok (.ireturn, 1) := dk_o172 (by decide +kernel)
theorem dX10_isLit_0 : decode cX10_isLit 0 = .ok (.aload_n 0, 1) := dk_o42 (by decide +kernel)
theorem dX10_isLit_1 : decode cX10_isLit 1 = .ok (.iload_n 1, 1) := dk_o27 (by decide +kernel)
theorem dX10_isLit_2 : decode cX10_isLit 2 = .ok (.invokevirtual 59, 3) := dk_o182 (by decide +kernel)
theorem dX10_isLit_5 : decode cX10_isLit 5 = .ok (.istore_n 2, 1) := dk_o61 (by decide +kernel)
theorem dX10_isLit_6 : decode cX10_isLit 6 = .ok (.iload_n 2, 1) := dk_o28 (by decide +kernel)
theorem dX10_isLit_7 : decode cX10_isLit 7 = .ok (.iconst (-1), 1) := dk_o2 (by decide +kernel)
theorem dX10_isLit_8 : decode cX10_isLit 8 = .ok (.if_icmp .eq 30, 3) := dk_o159 (by decide +kernel)
theorem dX10_isLit_11 : decode cX10_isLit 11 = .ok (.iload_n 2, 1) := dk_o28 (by decide +kernel)
theorem dX10_isLit_12 : decode cX10_isLit 12 = .ok (.aload_n 0, 1) := dk_o42 (by decide +kernel)
theorem dX10_isLit_13 : decode cX10_isLit 13 = .ok (.getfield 53, 3) := dk_o180 (by decide +kernel)
theorem dX10_isLit_16 : decode cX10_isLit 16 = .ok (.if_icmp .gt 22, 3) := dk_o163 (by decide +kernel)
theorem dX10_isLit_19 : decode cX10_isLit 19 = .ok (.aload_n 0, 1) := dk_o42 (by decide +kernel)
theorem dX10_isLit_20 : decode cX10_isLit 20 = .ok (.getfield 45, 3) := dk_o180 (by decide +kernel)
theorem dX10_isLit_23 : decode cX10_isLit 23 = .ok (.getfield 63, 3) := dk_o180 (by decide +kernel)
theorem dX10_isLit_26 : decode cX10_isLit 26 = .ok (.iload_n 1, 1) := dk_o27 (by decide +kernel)
theorem dX10_isLit_27 : decode cX10_isLit 27 = .ok (.iaload, 1) := dk_o46 (by decide +kernel)
theorem dX10_isLit_28 : decode cX10_isLit 28 = .ok (.sipush 255, 3) := dk_o17 (by decide +kernel)
theorem dX10_isLit_31 : decode cX10_isLit 31 = .ok (.if_icmp .ne 7, 3) := dk_o160 (by decide +kernel)
theorem dX10_isLit_34 : decode cX10_isLit 34 = .ok (.iconst 1, 1) := dk_o4 (by decide +kernel)
theorem dX10_isLit_35 : decode cX10_isLit 35 = .ok (.goto 4, 3) := dk_o167 (by decide +kernel)
theorem dX10_isLit_38 : decode cX10_isLit 38 = .ok (.iconst 0, 1) := dk_o3 (by decide +kernel)
theorem dX10_isLit_39 : decode cX10_isLit 39 = .ok (.ireturn, 1) := dk_o172 (by decide +kernel)
theorem dX10_isSafe_0 : decode cX10_isSafe 0 = .ok (.aload_n 0, 1) := dk_o42 (by decide +kernel)
theorem dX10_isSafe_1 : decode cX10_isSafe 1 = .ok (.getfield 45, 3) := dk_o180 (by decide +kernel)
theorem dX10_isSafe_4 : decode cX10_isSafe 4 = .ok (.iload_n 1, 1) := dk_o27 (by decide +kernel)
theorem dX10_isSafe_5 : decode cX10_isSafe 5 = .ok (.invokevirtual 68, 3) := dk_o182 (by decide +kernel)
theorem dX10_isSafe_8 : decode cX10_isSafe 8 = .ok (.ifCond .ne 5, 3) := dk_o154 (by decide +kernel)
theorem dX10_isSafe_11 : decode cX10_isSafe 11 = .ok (.iconst 0, 1) := dk_o3 (by decide +kernel)
theorem dX10_isSafe_12 : decode cX10_isSafe 12 = .ok (.ireturn, 1) := dk_o172 (by decide +kernel)
theorem dX10_isSafe_13 : decode cX10_isSafe 13 = .ok (.aload_n 0, 1) := dk_o42 (by decide +kernel)
theorem dX10_isSafe_14 : decode cX10_isSafe 14 = .ok (.invokevirtual 56, 3) := dk_o182 (by decide +kernel)
theorem dX10_isSafe_17 : decode cX10_isSafe 17 = .ok (.aload_n 0, 1) := dk_o42 (by decide +kernel)
theorem dX10_isSafe_18 : decode cX10_isSafe 18 = .ok (.iload_n 1, 1) := dk_o27 (by decide +kernel)
theorem dX10_isSafe_19 : decode cX10_isSafe 19 = .ok (.invokevirtual 72, 3) := dk_o182 (by decide +kernel)
theorem dX10_isSafe_22 : decode cX10_isSafe 22 = .ok (.aload_n 0, 1) := dk_o42 (by decide +kernel)
theorem dX10_isSafe_23 : decode cX10_isSafe 23 = .ok (.getfield 12, 3) := dk_o180 (by decide +kernel)
theorem dX10_isSafe_26 : decode cX10_isSafe 26 = .ok (.aload_n 0, 1) := dk_o42 (by decide +kernel)
theorem dX10_isSafe_27 : decode cX10_isSafe 27 = .ok (.getfield 41, 3) := dk_o180 (by decide +kernel)
theorem dX10_isSafe_30 : decode cX10_isSafe 30 = .ok (.iconst 1, 1) := dk_o4 (by decide +kernel)
theorem dX10_isSafe_31 : decode cX10_isSafe 31 = .ok (.iconst 0, 1) := dk_o3 (by decide +kernel)
theorem dX10_isSafe_32 : decode cX10_isSafe 32 = .ok (.invokevirtual 76, 3) := dk_o182 (by decide +kernel)
theorem dX10_isSafe_35 : decode cX10_isSafe 35 = .ok (.ifCond .ne 7, 3) := dk_o154 (by decide +kernel)
theorem dX10_isSafe_38 : decode cX10_isSafe 38 = .ok (.iconst 1, 1) := dk_o4 (by decide +kernel)
theorem dX10_isSafe_39 : decode cX10_isSafe 39 = .ok (.goto 4, 3) := dk_o167 (by decide +kernel)
theorem dX10_isSafe_42 : decode cX10_isSafe 42 = .ok (.iconst 0, 1) := dk_o3 (by decide +kernel)
theorem dX10_isSafe_43 : decode cX10_isSafe 43 = .ok (.ireturn, 1) := dk_o172 (by decide +kernel)
theorem dX10_closeCell_0 : decode cX10_closeCell 0 = .ok (.iload_n 1, 1) := dk_o27 (by decide +kernel)
theorem dX10_closeCell_1 : decode cX10_closeCell 1 = .ok (.iconst (-1), 1) := dk_o2 (by decide +kernel)
theorem dX10_closeCell_2 : decode cX10_closeCell 2 = .ok (.if_icmp .eq 25, 3) := dk_o159 (by decide +kernel)
theorem dX10_closeCell_5 : decode cX10_closeCell 5 = .ok (.iload_n 1, 1) := dk_o27 (by decide +kernel)
theorem dX10_closeCell_6 : decode cX10_closeCell 6 = .ok (.aload_n 0, 1) := dk_o42 (by decide +kernel)
theorem dX10_closeCell_7 : decode cX10_closeCell 7 = .ok (.getfield 41, 3) := dk_o180 (by decide +kernel)
theorem dX10_closeCell_10 : decode cX10_closeCell 10 = .ok (.getfield 80, 3) := dk_o180 (by decide +kernel)
theorem dX10_closeCell_13 : decode cX10_closeCell 13 = .ok (.if_icmp .eq 14, 3) := dk_o159 (by decide +kernel)
theorem dX10_closeCell_16 : decode cX10_closeCell 16 = .ok (.aload_n 0, 1) := dk_o42 (by decide +kernel)
theorem dX10_closeCell_17 : decode cX10_closeCell 17 = .ok (.getfield 45, 3) := dk_o180 (by decide +kernel)
theorem dX10_closeCell_20 : decode cX10_closeCell 20 = .ok (.iload_n 1, 1) := dk_o27 (by decide +kernel)
theorem dX10_closeCell_21 : decode cX10_closeCell 21 = .ok (.invokevirtual 85, 3) := dk_o182 (by decide +kernel)
theorem dX10_closeCell_24 : decode cX10_closeCell 24 = .ok (.ifCond .ne 5, 3) := dk_o154 (by decide +kernel)
theorem dX10_closeCell_27 : decode cX10_closeCell 27 = .ok (.iconst 0, 1) := dk_o3 (by decide +kernel)
theorem dX10_closeCell_28 : decode cX10_closeCell 28 = .ok (.ireturn, 1) := dk_o172 (by decide +kernel)
theorem dX10_closeCell_29 : decode cX10_closeCell 29 = .ok (.aload_n 0, 1) := dk_o42 (by decide +kernel)
theorem dX10_closeCell_30 : decode cX10_closeCell 30 = .ok (.getfield 45, 3) := dk_o180 (by decide +kernel)
theorem dX10_closeCell_33 : decode cX10_closeCell 33 = .ok (.getfield 63, 3) := dk_o180 (by decide +kernel)
theorem dX10_closeCell_36 : decode cX10_closeCell 36 = .ok (.iload_n 1, 1) := dk_o27 (by decide +kernel)
theorem dX10_closeCell_37 : decode cX10_closeCell 37 = .ok (.iconst 0, 1) := dk_o3 (by decide +kernel)
theorem dX10_closeCell_38 : decode cX10_closeCell 38 = .ok (.iastore, 1) := dk_o79 (by decide +kernel)
theorem dX10_closeCell_39 : decode cX10_closeCell 39 = .ok (.aload_n 0, 1) := dk_o42 (by decide +kernel)
theorem dX10_closeCell_40 : decode cX10_closeCell 40 = .ok (.iconst 1, 1) := dk_o4 (by decide +kernel)
theorem dX10_closeCell_41 : decode cX10_closeCell 41 = .ok (.putfield 49, 3) := dk_o181 (by decide +kernel)
theorem dX10_closeCell_44 : decode cX10_closeCell 44 = .ok (.iconst 1, 1) := dk_o4 (by decide +kernel)
theorem dX10_closeCell_45 : decode cX10_closeCell 45 = .ok (.ireturn, 1) := dk_o172 (by decide +kernel)
theorem dX10_digByPlan_0 : decode cX10_digByPlan 0 = .ok (.aload_n 0, 1) := dk_o42 (by decide +kernel)
theorem dX10_digByPlan_1 : decode cX10_digByPlan 1 = .ok (.getfield 41, 3) := dk_o180 (by decide +kernel)
theorem dX10_digByPlan_4 : decode cX10_digByPlan 4 = .ok (.getfield 103, 3) := dk_o180 (by decide +kernel)
theorem dX10_digByPlan_7 : decode cX10_digByPlan 7 = .ok (.ifCond .ne 4, 3) := dk_o154 (by decide +kernel)
theorem dX10_digByPlan_10 : decode cX10_digByPlan 10 = .ok (.return_, 1) := dk_o177 (by decide +kernel)
theorem dX10_digByPlan_11 : decode cX10_digByPlan 11 = .ok (.aload_n 0, 1) := dk_o42 (by decide +kernel)
theorem dX10_digByPlan_12 : decode cX10_digByPlan 12 = .ok (.getfield 45, 3) := dk_o180 (by decide +kernel)
theorem dX10_digByPlan_15 : decode cX10_digByPlan 15 = .ok (.getfield 94, 3) := dk_o180 (by decide +kernel)
theorem dX10_digByPlan_18 : decode cX10_digByPlan 18 = .ok (.aload_n 0, 1) := dk_o42 (by decide +kernel)
theorem dX10_digByPlan_19 : decode cX10_digByPlan 19 = .ok (.getfield 41, 3) := dk_o180 (by decide +kernel)
theorem dX10_digByPlan_22 : decode cX10_digByPlan 22 = .ok (.getfield 103, 3) := dk_o180 (by decide +kernel)
theorem dX10_digByPlan_25 : decode cX10_digByPlan 25 = .ok (.irem, 1) := dk_o112 (by decide +kernel)
theorem dX10_digByPlan_26 : decode cX10_digByPlan 26 = .ok (.istore_n 1, 1) := dk_o60 (by decide +kernel)
theorem dX10_digByPlan_27 : decode cX10_digByPlan 27 = .ok (.aload_n 0, 1) := dk_o42 (by decide +kernel)
theorem dX10_digByPlan_28 : decode cX10_digByPlan 28 = .ok (.getfield 45, 3) := dk_o180 (by decide +kernel)
theorem dX10_digByPlan_31 : decode cX10_digByPlan 31 = .ok (.getfield 106, 3) := dk_o180 (by decide +kernel)
theorem dX10_digByPlan_34 : decode cX10_digByPlan 34 = .ok (.iload_n 1, 1) := dk_o27 (by decide +kernel)
theorem dX10_digByPlan_35 : decode cX10_digByPlan 35 = .ok (.iaload, 1) := dk_o46 (by decide +kernel)
theorem dX10_digByPlan_36 : decode cX10_digByPlan 36 = .ok (.istore_n 2, 1) := dk_o61 (by decide +kernel)
theorem dX10_digByPlan_37 : decode cX10_digByPlan 37 = .ok (.aload_n 0, 1) := dk_o42 (by decide +kernel)
theorem dX10_digByPlan_38 : decode cX10_digByPlan 38 = .ok (.getfield 45, 3) := dk_o180 (by decide +kernel)
theorem dX10_digByPlan_41 : decode cX10_digByPlan 41 = .ok (.getfield 109, 3) := dk_o180 (by decide +kernel)
theorem dX10_digByPlan_44 : decode cX10_digByPlan 44 = .ok (.iload_n 1, 1) := dk_o27 (by decide +kernel)
theorem dX10_digByPlan_45 : decode cX10_digByPlan 45 = .ok (.iaload, 1) := dk_o46 (by decide +kernel)
theorem dX10_digByPlan_46 : decode cX10_digByPlan 46 = .ok (.istore_n 3, 1) := dk_o62 (by decide +kernel)
theorem dX10_digByPlan_47 : decode cX10_digByPlan 47 = .ok (.aload_n 0, 1) := dk_o42 (by decide +kernel)
theorem dX10_digByPlan_48 : decode cX10_digByPlan 48 = .ok (.getfield 45, 3) := dk_o180 (by decide +kernel)
theorem dX10_digByPlan_51 : decode cX10_digByPlan 51 = .ok (.getfield 112, 3) := dk_o180 (by decide +kernel)
theorem dX10_digByPlan_54 : decode cX10_digByPlan 54 = .ok (.iload_n 2, 1) := dk_o28 (by decide +kernel)
theorem dX10_digByPlan_55 : decode cX10_digByPlan 55 = .ok (.iaload, 1) := dk_o46 (by decide +kernel)
theorem dX10_digByPlan_56 : decode cX10_digByPlan 56 = .ok (.iconst 1, 1) := dk_o4 (by decide +kernel)
theorem dX10_digByPlan_57 : decode cX10_digByPlan 57 = .ok (.if_icmp .eq 14, 3) := dk_o159 (by decide +kernel)
theorem dX10_digByPlan_60 : decode cX10_digByPlan 60 = .ok (.aload_n 0, 1) := dk_o42 (by decide +kernel)
theorem dX10_digByPlan_61 : decode cX10_digByPlan 61 = .ok (.getfield 45, 3) := dk_o180 (by decide +kernel)
theorem dX10_digByPlan_64 : decode cX10_digByPlan 64 = .ok (.iload_n 3, 1) := dk_o29 (by decide +kernel)
theorem dX10_digByPlan_65 : decode cX10_digByPlan 65 = .ok (.invokevirtual 68, 3) := dk_o182 (by decide +kernel)
theorem dX10_digByPlan_68 : decode cX10_digByPlan 68 = .ok (.ifCond .ne 4, 3) := dk_o154 (by decide +kernel)
theorem dX10_digByPlan_71 : decode cX10_digByPlan 71 = .ok (.return_, 1) := dk_o177 (by decide +kernel)
theorem dX10_digByPlan_72 : decode cX10_digByPlan 72 = .ok (.aload_n 0, 1) := dk_o42 (by decide +kernel)
theorem dX10_digByPlan_73 : decode cX10_digByPlan 73 = .ok (.iload_n 2, 1) := dk_o28 (by decide +kernel)
theorem dX10_digByPlan_74 : decode cX10_digByPlan 74 = .ok (.putfield 31, 3) := dk_o181 (by decide +kernel)
theorem dX10_digByPlan_77 : decode cX10_digByPlan 77 = .ok (.aload_n 0, 1) := dk_o42 (by decide +kernel)
theorem dX10_digByPlan_78 : decode cX10_digByPlan 78 = .ok (.iload_n 3, 1) := dk_o29 (by decide +kernel)
theorem dX10_digByPlan_79 : decode cX10_digByPlan 79 = .ok (.putfield 35, 3) := dk_o181 (by decide +kernel)
theorem dX10_digByPlan_82 : decode cX10_digByPlan 82 = .ok (.aload_n 0, 1) := dk_o42 (by decide +kernel)
theorem dX10_digByPlan_83 : decode cX10_digByPlan 83 = .ok (.iload_n 3, 1) := dk_o29 (by decide +kernel)
theorem dX10_digByPlan_84 : decode cX10_digByPlan 84 = .ok (.invokevirtual 72, 3) := dk_o182 (by decide +kernel)
theorem dX10_digByPlan_87 : decode cX10_digByPlan 87 = .ok (.aload_n 0, 1) := dk_o42 (by decide +kernel)
theorem dX10_digByPlan_88 : decode cX10_digByPlan 88 = .ok (.getfield 12, 3) := dk_o180 (by decide +kernel)
theorem dX10_digByPlan_91 : decode cX10_digByPlan 91 = .ok (.aload_n 0, 1) := dk_o42 (by decide +kernel)
theorem dX10_digByPlan_92 : decode cX10_digByPlan 92 = .ok (.getfield 41, 3) := dk_o180 (by decide +kernel)
theorem dX10_digByPlan_95 : decode cX10_digByPlan 95 = .ok (.iconst 1, 1) := dk_o4 (by decide +kernel)
theorem dX10_digByPlan_96 : decode cX10_digByPlan 96 = .ok (.iconst 0, 1) := dk_o3 (by decide +kernel)
theorem dX10_digByPlan_97 : decode cX10_digByPlan 97 = .ok (.invokevirtual 76, 3) := dk_o182 (by decide +kernel)
theorem dX10_digByPlan_100 : decode cX10_digByPlan 100 = .ok (.iconst 1, 1) := dk_o4 (by decide +kernel)
theorem dX10_digByPlan_101 : decode cX10_digByPlan 101 = .ok (.if_icmp .ne 31, 3) := dk_o160 (by decide +kernel)
theorem dX10_digByPlan_104 : decode cX10_digByPlan 104 = .ok (.aload_n 0, 1) := dk_o42 (by decide +kernel)
theorem dX10_digByPlan_105 : decode cX10_digByPlan 105 = .ok (.iconst (-1), 1) := dk_o2 (by decide +kernel)
theorem dX10_digByPlan_106 : decode cX10_digByPlan 106 = .ok (.putfield 38, 3) := dk_o181 (by decide +kernel)
theorem dX10_digByPlan_109 : decode cX10_digByPlan 109 = .ok (.aload_n 0, 1) := dk_o42 (by decide +kernel)
theorem dX10_digByPlan_110 : decode cX10_digByPlan 110 = .ok (.getfield 45, 3) := dk_o180 (by decide +kernel)
theorem dX10_digByPlan_113 : decode cX10_digByPlan 113 = .ok (.getfield 63, 3) := dk_o180 (by decide +kernel)
theorem dX10_digByPlan_116 : decode cX10_digByPlan 116 = .ok (.iload_n 3, 1) := dk_o29 (by decide +kernel)
theorem dX10_digByPlan_117 : decode cX10_digByPlan 117 = .ok (.iconst 0, 1) := dk_o3 (by decide +kernel)
theorem dX10_digByPlan_118 : decode cX10_digByPlan 118 = .ok (.iastore, 1) := dk_o79 (by decide +kernel)
theorem dX10_digByPlan_119 : decode cX10_digByPlan 119 = .ok (.aload_n 0, 1) := dk_o42 (by decide +kernel)
theorem dX10_digByPlan_120 : decode cX10_digByPlan 120 = .ok (.getfield 45, 3) := dk_o180 (by decide +kernel)
theorem dX10_digByPlan_123 : decode cX10_digByPlan 123 = .ok (.getfield 112, 3) := dk_o180 (by decide +kernel)
theorem dX10_digByPlan_126 : decode cX10_digByPlan 126 = .ok (.iload_n 2, 1) := dk_o28 (by decide +kernel)
theorem dX10_digByPlan_127 : decode cX10_digByPlan 127 = .ok (.iconst 1, 1) := dk_o4 (by decide +kernel)
theorem dX10_digByPlan_128 : decode cX10_digByPlan 128 = .ok (.iastore, 1) := dk_o79 (by decide +kernel)
theorem dX10_digByPlan_129 : decode cX10_digByPlan 129 = .ok (.goto 69, 3) := dk_o167 (by decide +kernel)
theorem dX10_digByPlan_132 : decode cX10_digByPlan 132 = .ok (.aload_n 0, 1) := dk_o42 (by decide +kernel)
theorem dX10_digByPlan_133 : decode cX10_digByPlan 133 = .ok (.getfield 12, 3) := dk_o180 (by decide +kernel)
theorem dX10_digByPlan_136 : decode cX10_digByPlan 136 = .ok (.aload_n 0, 1) := dk_o42 (by decide +kernel)
theorem dX10_digByPlan_137 : decode cX10_digByPlan 137 = .ok (.getfield 41, 3) := dk_o180 (by decide +kernel)
theorem dX10_digByPlan_140 : decode cX10_digByPlan 140 = .ok (.iconst 2, 1) := dk_o5 (by decide +kernel)
theorem dX10_digByPlan_141 : decode cX10_digByPlan 141 = .ok (.aload_n 0, 1) := dk_o42 (by decide +kernel)
theorem dX10_digByPlan_142 : decode cX10_digByPlan 142 = .ok (.getfield 45, 3) := dk_o180 (by decide +kernel)
theorem dX10_digByPlan_145 : decode cX10_digByPlan 145 = .ok (.getfield 63, 3) := dk_o180 (by decide +kernel)
theorem dX10_digByPlan_148 : decode cX10_digByPlan 148 = .ok (.iload_n 3, 1) := dk_o29 (by decide +kernel)
theorem dX10_digByPlan_149 : decode cX10_digByPlan 149 = .ok (.iaload, 1) := dk_o46 (by decide +kernel)
theorem dX10_digByPlan_150 : decode cX10_digByPlan 150 = .ok (.invokevirtual 76, 3) := dk_o182 (by decide +kernel)
theorem dX10_digByPlan_153 : decode cX10_digByPlan 153 = .ok (.istore 4, 2) := dk_o54 (by decide +kernel)
theorem dX10_digByPlan_155 : decode cX10_digByPlan 155 = .ok (.aload_n 0, 1) := dk_o42 (by decide +kernel)
theorem dX10_digByPlan_156 : decode cX10_digByPlan 156 = .ok (.iconst 0, 1) := dk_o3 (by decide +kernel)
theorem dX10_digByPlan_157 : decode cX10_digByPlan 157 = .ok (.bipush 9, 2) := dk_o16 (by decide +kernel)
theorem dX10_digByPlan_159 : decode cX10_digByPlan 159 = .ok (.iload 4, 2) := dk_o21 (by decide +kernel)
theorem dX10_digByPlan_161 : decode cX10_digByPlan 161 = .ok (.invokestatic 97, 3) := dk_o184 (by decide +kernel)
theorem dX10_digByPlan_164 : decode cX10_digByPlan 164 = .ok (.invokestatic 115, 3) := dk_o184 (by decide +kernel)
theorem dX10_digByPlan_167 : decode cX10_digByPlan 167 = .ok (.putfield 38, 3) := dk_o181 (by decide +kernel)
theorem dX10_digByPlan_170 : decode cX10_digByPlan 170 = .ok (.aload_n 0, 1) := dk_o42 (by decide +kernel)
theorem dX10_digByPlan_171 : decode cX10_digByPlan 171 = .ok (.getfield 45, 3) := dk_o180 (by decide +kernel)
theorem dX10_digByPlan_174 : decode cX10_digByPlan 174 = .ok (.aload_n 0, 1) := dk_o42 (by decide +kernel)
theorem dX10_digByPlan_175 : decode cX10_digByPlan 175 = .ok (.getfield 38, 3) := dk_o180 (by decide +kernel)
theorem dX10_digByPlan_178 : decode cX10_digByPlan 178 = .ok (.invokevirtual 118, 3) := dk_o182 (by decide +kernel)
theorem dX10_digByPlan_181 : decode cX10_digByPlan 181 = .ok (.aload_n 0, 1) := dk_o42 (by decide +kernel)
theorem dX10_digByPlan_182 : decode cX10_digByPlan 182 = .ok (.getfield 45, 3) := dk_o180 (by decide +kernel)
theorem dX10_digByPlan_185 : decode cX10_digByPlan 185 = .ok (.getfield 63, 3) := dk_o180 (by decide +kernel)
theorem dX10_digByPlan_188 : decode cX10_digByPlan 188 = .ok (.iload_n 3, 1) := dk_o29 (by decide +kernel)
theorem dX10_digByPlan_189 : decode cX10_digByPlan 189 = .ok (.sipush 255, 3) := dk_o17 (by decide +kernel)
theorem dX10_digByPlan_192 : decode cX10_digByPlan 192 = .ok (.iastore, 1) := dk_o79 (by decide +kernel)
theorem dX10_digByPlan_193 : decode cX10_digByPlan 193 = .ok (.aload_n 0, 1) := dk_o42 (by decide +kernel)
theorem dX10_digByPlan_194 : decode cX10_digByPlan 194 = .ok (.iconst 1, 1) := dk_o4 (by decide +kernel)
theorem dX10_digByPlan_195 : decode cX10_digByPlan 195 = .ok (.putfield 49, 3) := dk_o181 (by decide +kernel)
theorem dX10_digByPlan_198 : decode cX10_digByPlan 198 = .ok (.return_, 1) := dk_o177 (by decide +kernel)
theorem dX10_tellDigging_0 : decode cX10_tellDigging 0 = .ok (.aload_n 0, 1) := dk_o42 (by decide +kernel)
theorem dX10_tellDigging_1 : decode cX10_tellDigging 1 = .ok (.getfield 12, 3) := dk_o180 (by decide +kernel)
theorem dX10_tellDigging_4 : decode cX10_tellDigging 4 = .ok (.aload_n 0, 1) := dk_o42 (by decide +kernel)
theorem dX10_tellDigging_5 : decode cX10_tellDigging 5 = .ok (.getfield 45, 3) := dk_o180 (by decide +kernel)
theorem dX10_tellDigging_8 : decode cX10_tellDigging 8 = .ok (.getfield 63, 3) := dk_o180 (by decide +kernel)
theorem dX10_tellDigging_11 : decode cX10_tellDigging 11 = .ok (.iload_n 1, 1) := dk_o27 (by decide +kernel)
theorem dX10_tellDigging_12 : decode cX10_tellDigging 12 = .ok (.iaload, 1) := dk_o46 (by decide +kernel)
theorem dX10_tellDigging_13 : decode cX10_tellDigging 13 = .ok (.putfield 121, 3) := dk_o181 (by decide +kernel)
theorem dX10_tellDigging_16 : decode cX10_tellDigging 16 = .ok (.aload_n 0, 1) := dk_o42 (by decide +kernel)
theorem dX10_tellDigging_17 : decode cX10_tellDigging 17 = .ok (.getfield 12, 3) := dk_o180 (by decide +kernel)
theorem dX10_tellDigging_20 : decode cX10_tellDigging 20 = .ok (.iload_n 1, 1) := dk_o27 (by decide +kernel)
theorem dX10_tellDigging_21 : decode cX10_tellDigging 21 = .ok (.invokestatic 124, 3) := dk_o184 (by decide +kernel)
theorem dX10_tellDigging_24 : decode cX10_tellDigging 24 = .ok (.putfield 127, 3) := dk_o181 (by decide +kernel)
theorem dX10_tellDigging_27 : decode cX10_tellDigging 27 = .ok (.aload_n 0, 1) := dk_o42 (by decide +kernel)
theorem dX10_tellDigging_28 : decode cX10_tellDigging 28 = .ok (.getfield 12, 3) := dk_o180 (by decide +kernel)
theorem dX10_tellDigging_31 : decode cX10_tellDigging 31 = .ok (.aload_n 0, 1) := dk_o42 (by decide +kernel)
theorem dX10_tellDigging_32 : decode cX10_tellDigging 32 = .ok (.getfield 45, 3) := dk_o180 (by decide +kernel)
theorem dX10_tellDigging_35 : decode cX10_tellDigging 35 = .ok (.getfield 94, 3) := dk_o180 (by decide +kernel)
theorem dX10_tellDigging_38 : decode cX10_tellDigging 38 = .ok (.putfield 130, 3) := dk_o181 (by decide +kernel)
theorem dX10_tellDigging_41 : decode cX10_tellDigging 41 = .ok (.aload_n 0, 1) := dk_o42 (by decide +kernel)
theorem dX10_tellDigging_42 : decode cX10_tellDigging 42 = .ok (.getfield 12, 3) := dk_o180 (by decide +kernel)
theorem dX10_tellDigging_45 : decode cX10_tellDigging 45 = .ok (.aload_n 0, 1) := dk_o42 (by decide +kernel)
theorem dX10_tellDigging_46 : decode cX10_tellDigging 46 = .ok (.getfield 45, 3) := dk_o180 (by decide +kernel)
theorem dX10_tellDigging_49 : decode cX10_tellDigging 49 = .ok (.iload_n 1, 1) := dk_o27 (by decide +kernel)
theorem dX10_tellDigging_50 : decode cX10_tellDigging 50 = .ok (.invokevirtual 131, 3) := dk_o182 (by decide +kernel)
theorem dX10_tellDigging_53 : decode cX10_tellDigging 53 = .ok (.putfield 134, 3) := dk_o181 (by decide +kernel)
theorem dX10_tellDigging_56 : decode cX10_tellDigging 56 = .ok (.aload_n 0, 1) := dk_o42 (by decide +kernel)
theorem dX10_tellDigging_57 : decode cX10_tellDigging 57 = .ok (.getfield 12, 3) := dk_o180 (by decide +kernel)
theorem dX10_tellDigging_60 : decode cX10_tellDigging 60 = .ok (.aload_n 0, 1) := dk_o42 (by decide +kernel)
theorem dX10_tellDigging_61 : decode cX10_tellDigging 61 = .ok (.getfield 22, 3) := dk_o180 (by decide +kernel)
theorem dX10_tellDigging_64 : decode cX10_tellDigging 64 = .ok (.iload_n 1, 1) := dk_o27 (by decide +kernel)
theorem dX10_tellDigging_65 : decode cX10_tellDigging 65 = .ok (.iaload, 1) := dk_o46 (by decide +kernel)
theorem dX10_tellDigging_66 : decode cX10_tellDigging 66 = .ok (.sipush 1000, 3) := dk_o17 (by decide +kernel)
theorem dX10_tellDigging_69 : decode cX10_tellDigging 69 = .ok (.if_icmp .ge 7, 3) := dk_o162 (by decide +kernel)
theorem dX10_tellDigging_72 : decode cX10_tellDigging 72 = .ok (.iconst 1, 1) := dk_o4 (by decide +kernel)
theorem dX10_tellDigging_73 : decode cX10_tellDigging 73 = .ok (.goto 4, 3) := dk_o167 (by decide +kernel)
theorem dX10_tellDigging_76 : decode cX10_tellDigging 76 = .ok (.iconst 0, 1) := dk_o3 (by decide +kernel)
theorem dX10_tellDigging_77 : decode cX10_tellDigging 77 = .ok (.putfield 137, 3) := dk_o181 (by decide +kernel)
theorem dX10_tellDigging_80 : decode cX10_tellDigging 80 = .ok (.return_, 1) := dk_o177 (by decide +kernel)
theorem dX10_spoilExposed_0 : decode cX10_spoilExposed 0 = .ok (.iconst 0, 1) := dk_o3 (by decide +kernel)
theorem dX10_spoilExposed_1 : decode cX10_spoilExposed 1 = .ok (.istore_n 1, 1) := dk_o60 (by decide +kernel)
theorem dX10_spoilExposed_2 : decode cX10_spoilExposed 2 = .ok (.iload_n 1, 1) := dk_o27 (by decide +kernel)
theorem dX10_spoilExposed_3 : decode cX10_spoilExposed 3 = .ok (.aload_n 0, 1) := dk_o42 (by decide +kernel)
theorem dX10_spoilExposed_4 : decode cX10_spoilExposed 4 = .ok (.getfield 140, 3) := dk_o180 (by decide +kernel)
theorem dX10_spoilExposed_7 : decode cX10_spoilExposed 7 = .ok (.if_icmp .ge 112, 3) := dk_o162 (by decide +kernel)
theorem dX10_spoilExposed_10 : decode cX10_spoilExposed 10 = .ok (.aload_n 0, 1) := dk_o42 (by decide +kernel)
theorem dX10_spoilExposed_11 : decode cX10_spoilExposed 11 = .ok (.getfield 25, 3) := dk_o180 (by decide +kernel)
theorem dX10_spoilExposed_14 : decode cX10_spoilExposed 14 = .ok (.iload_n 1, 1) := dk_o27 (by decide +kernel)
theorem dX10_spoilExposed_15 : decode cX10_spoilExposed 15 = .ok (.iaload, 1) := dk_o46 (by decide +kernel)
theorem dX10_spoilExposed_16 : decode cX10_spoilExposed 16 = .ok (.istore_n 2, 1) := dk_o61 (by decide +kernel)
theorem dX10_spoilExposed_17 : decode cX10_spoilExposed 17 = .ok (.aload_n 0, 1) := dk_o42 (by decide +kernel)
theorem dX10_spoilExposed_18 : decode cX10_spoilExposed 18 = .ok (.getfield 45, 3) := dk_o180 (by decide +kernel)
theorem dX10_spoilExposed_21 : decode cX10_spoilExposed 21 = .ok (.getfield 63, 3) := dk_o180 (by decide +kernel)
theorem dX10_spoilExposed_24 : decode cX10_spoilExposed 24 = .ok (.iload_n 2, 1) := dk_o28 (by decide +kernel)
theorem dX10_spoilExposed_25 : decode cX10_spoilExposed 25 = .ok (.iaload, 1) := dk_o46 (by decide +kernel)
theorem dX10_spoilExposed_26 : decode cX10_spoilExposed 26 = .ok (.istore_n 3, 1) := dk_o62 (by decide +kernel)
theorem dX10_spoilExposed_27 : decode cX10_spoilExposed 27 = .ok (.iload_n 3, 1) := dk_o29 (by decide +kernel)
theorem dX10_spoilExposed_28 : decode cX10_spoilExposed 28 = .ok (.ifCond .le 85, 3) := dk_o158 (by decide +kernel)
theorem dX10_spoilExposed_31 : decode cX10_spoilExposed 31 = .ok (.aload_n 0, 1) := dk_o42 (by decide +kernel)
theorem dX10_spoilExposed_32 : decode cX10_spoilExposed 32 = .ok (.getfield 12, 3) := dk_o180 (by decide +kernel)
theorem dX10_spoilExposed_35 : decode cX10_spoilExposed 35 = .ok (.iload_n 3, 1) := dk_o29 (by decide +kernel)
theorem dX10_spoilExposed_36 : decode cX10_spoilExposed 36 = .ok (.putfield 121, 3) := dk_o181 (by decide +kernel)
theorem dX10_spoilExposed_39 : decode cX10_spoilExposed 39 = .ok (.aload_n 0, 1) := dk_o42 (by decide +kernel)
theorem dX10_spoilExposed_40 : decode cX10_spoilExposed 40 = .ok (.getfield 12, 3) := dk_o180 (by decide +kernel)
theorem dX10_spoilExposed_43 : decode cX10_spoilExposed 43 = .ok (.iload_n 2, 1) := dk_o28 (by decide +kernel)
theorem dX10_spoilExposed_44 : decode cX10_spoilExposed 44 = .ok (.invokestatic 124, 3) := dk_o184 (by decide +kernel)
theorem dX10_spoilExposed_47 : decode cX10_spoilExposed 47 = .ok (.putfield 127, 3) := dk_o181 (by decide +kernel)
theorem dX10_spoilExposed_50 : decode cX10_spoilExposed 50 = .ok (.aload_n 0, 1) := dk_o42 (by decide +kernel)
theorem dX10_spoilExposed_51 : decode cX10_spoilExposed 51 = .ok (.getfield 12, 3) := dk_o180 (by decide +kernel)
theorem dX10_spoilExposed_54 : decode cX10_spoilExposed 54 = .ok (.aload_n 0, 1) := dk_o42 (by decide +kernel)
theorem dX10_spoilExposed_55 : decode cX10_spoilExposed 55 = .ok (.getfield 45, 3) := dk_o180 (by decide +kernel)
theorem dX10_spoilExposed_58 : decode cX10_spoilExposed 58 = .ok (.getfield 94, 3) := dk_o180 (by decide +kernel)
theorem dX10_spoilExposed_61 : decode cX10_spoilExposed 61 = .ok (.putfield 130, 3) := dk_o181 (by decide +kernel)
theorem dX10_spoilExposed_64 : decode cX10_spoilExposed 64 = .ok (.aload_n 0, 1) := dk_o42 (by decide +kernel)
theorem dX10_spoilExposed_65 : decode cX10_spoilExposed 65 = .ok (.getfield 12, 3) := dk_o180 (by decide +kernel)
theorem dX10_spoilExposed_68 : decode cX10_spoilExposed 68 = .ok (.aload_n 0, 1) := dk_o42 (by decide +kernel)
theorem dX10_spoilExposed_69 : decode cX10_spoilExposed 69 = .ok (.getfield 22, 3) := dk_o180 (by decide +kernel)
theorem dX10_spoilExposed_72 : decode cX10_spoilExposed 72 = .ok (.iload_n 2, 1) := dk_o28 (by decide +kernel)
theorem dX10_spoilExposed_73 : decode cX10_spoilExposed 73 = .ok (.iaload, 1) := dk_o46 (by decide +kernel)
theorem dX10_spoilExposed_74 : decode cX10_spoilExposed 74 = .ok (.putfield 143, 3) := dk_o181 (by decide +kernel)
theorem dX10_spoilExposed_77 : decode cX10_spoilExposed 77 = .ok (.iconst 0, 1) := dk_o3 (by decide +kernel)
theorem dX10_spoilExposed_78 : decode cX10_spoilExposed 78 = .ok (.aload_n 0, 1) := dk_o42 (by decide +kernel)
theorem dX10_spoilExposed_79 : decode cX10_spoilExposed 79 = .ok (.getfield 12, 3) := dk_o180 (by decide +kernel)
theorem dX10_spoilExposed_82 : decode cX10_spoilExposed 82 = .ok (.aload_n 0, 1) := dk_o42 (by decide +kernel)
theorem dX10_spoilExposed_83 : decode cX10_spoilExposed 83 = .ok (.getfield 41, 3) := dk_o180 (by decide +kernel)
theorem dX10_spoilExposed_86 : decode cX10_spoilExposed 86 = .ok (.iconst 0, 1) := dk_o3 (by decide +kernel)
theorem dX10_spoilExposed_87 : decode cX10_spoilExposed 87 = .ok (.iconst 1, 1) := dk_o4 (by decide +kernel)
theorem dX10_spoilExposed_88 : decode cX10_spoilExposed 88 = .ok (.invokevirtual 76, 3) := dk_o182 (by decide +kernel)
theorem dX10_spoilExposed_91 : decode cX10_spoilExposed 91 = .ok (.invokestatic 115, 3) := dk_o184 (by decide +kernel)
theorem dX10_spoilExposed_94 : decode cX10_spoilExposed 94 = .ok (.istore 4, 2) := dk_o54 (by decide +kernel)
theorem dX10_spoilExposed_96 : decode cX10_spoilExposed 96 = .ok (.aload_n 0, 1) := dk_o42 (by decide +kernel)
theorem dX10_spoilExposed_97 : decode cX10_spoilExposed 97 = .ok (.getfield 45, 3) := dk_o180 (by decide +kernel)
theorem dX10_spoilExposed_100 : decode cX10_spoilExposed 100 = .ok (.getfield 63, 3) := dk_o180 (by decide +kernel)
theorem dX10_spoilExposed_103 : decode cX10_spoilExposed 103 = .ok (.iload_n 2, 1) := dk_o28 (by decide +kernel)
theorem dX10_spoilExposed_104 : decode cX10_spoilExposed 104 = .ok (.iconst 0, 1) := dk_o3 (by decide +kernel)
theorem dX10_spoilExposed_105 : decode cX10_spoilExposed 105 = .ok (.iload_n 3, 1) := dk_o29 (by decide +kernel)
theorem dX10_spoilExposed_106 : decode cX10_spoilExposed 106 = .ok (.iload 4, 2) := dk_o21 (by decide +kernel)
theorem dX10_spoilExposed_108 : decode cX10_spoilExposed 108 = .ok (.isub, 1) := dk_o100 (by decide +kernel)
theorem dX10_spoilExposed_109 : decode cX10_spoilExposed 109 = .ok (.invokestatic 115, 3) := dk_o184 (by decide +kernel)
theorem dX10_spoilExposed_112 : decode cX10_spoilExposed 112 = .ok (.iastore, 1) := dk_o79 (by decide +kernel)
theorem dX10_spoilExposed_113 : decode cX10_spoilExposed 113 = .ok (.iinc 1 1, 3) := dk_o132 (by decide +kernel)
theorem dX10_spoilExposed_116 : decode cX10_spoilExposed 116 = .ok (.goto (-114), 3) := dk_o167 (by decide +kernel)
theorem dX10_spoilExposed_119 : decode cX10_spoilExposed 119 = .ok (.return_, 1) := dk_o177 (by decide +kernel)
theorem dX10_spreadLight_0 : decode cX10_spreadLight 0 = .ok (.aload_n 0, 1) := dk_o42 (by decide +kernel)
theorem dX10_spreadLight_1 : decode cX10_spreadLight 1 = .ok (.getfield 49, 3) := dk_o180 (by decide +kernel)
theorem dX10_spreadLight_4 : decode cX10_spreadLight 4 = .ok (.ifCond .ne 4, 3) := dk_o154 (by decide +kernel)
theorem dX10_spreadLight_7 : decode cX10_spreadLight 7 = .ok (.return_, 1) := dk_o177 (by decide +kernel)
theorem dX10_spreadLight_8 : decode cX10_spreadLight 8 = .ok (.aload_n 0, 1) := dk_o42 (by decide +kernel)
theorem dX10_spreadLight_9 : decode cX10_spreadLight 9 = .ok (.iconst 0, 1) := dk_o3 (by decide +kernel)
theorem dX10_spreadLight_10 : decode cX10_spreadLight 10 = .ok (.putfield 49, 3) := dk_o181 (by decide +kernel)
theorem dX10_spreadLight_13 : decode cX10_spreadLight 13 = .ok (.aload_n 0, 1) := dk_o42 (by decide +kernel)
theorem dX10_spreadLight_14 : decode cX10_spreadLight 14 = .ok (.getfield 18, 3) := dk_o180 (by decide +kernel)
theorem dX10_spreadLight_17 : decode cX10_spreadLight 17 = .ok (.iconst (-1), 1) := dk_o2 (by decide +kernel)
theorem dX10_spreadLight_18 : decode cX10_spreadLight 18 = .ok (.invokestatic 145, 3) := dk_o184 (by decide +kernel)
theorem dX10_spreadLight_21 : decode cX10_spreadLight 21 = .ok (.aload_n 0, 1) := dk_o42 (by decide +kernel)
theorem dX10_spreadLight_22 : decode cX10_spreadLight 22 = .ok (.getfield 22, 3) := dk_o180 (by decide +kernel)
theorem dX10_spreadLight_25 : decode cX10_spreadLight 25 = .ok (.sipush 1000, 3) := dk_o17 (by decide +kernel)
theorem dX10_spreadLight_28 : decode cX10_spreadLight 28 = .ok (.invokestatic 145, 3) := dk_o184 (by decide +kernel)
theorem dX10_spreadLight_31 : decode cX10_spreadLight 31 = .ok (.aload_n 0, 1) := dk_o42 (by decide +kernel)
theorem dX10_spreadLight_32 : decode cX10_spreadLight 32 = .ok (.iconst 0, 1) := dk_o3 (by decide +kernel)
theorem dX10_spreadLight_33 : decode cX10_spreadLight 33 = .ok (.putfield 140, 3) := dk_o181 (by decide +kernel)
theorem dX10_spreadLight_36 : decode cX10_spreadLight 36 = .ok (.aload_n 0, 1) := dk_o42 (by decide +kernel)
theorem dX10_spreadLight_37 : decode cX10_spreadLight 37 = .ok (.getfield 41, 3) := dk_o180 (by decide +kernel)
theorem dX10_spreadLight_40 : decode cX10_spreadLight 40 = .ok (.getfield 80, 3) := dk_o180 (by decide +kernel)
theorem dX10_spreadLight_43 : decode cX10_spreadLight 43 = .ok (.istore_n 1, 1) := dk_o60 (by decide +kernel)
theorem dX10_spreadLight_44 : decode cX10_spreadLight 44 = .ok (.iload_n 1, 1) := dk_o27 (by decide +kernel)
theorem dX10_spreadLight_45 : decode cX10_spreadLight 45 = .ok (.iconst (-1), 1) := dk_o2 (by decide +kernel)
theorem dX10_spreadLight_46 : decode cX10_spreadLight 46 = .ok (.if_icmp .ne 4, 3) := dk_o160 (by decide +kernel)
theorem dX10_spreadLight_49 : decode cX10_spreadLight 49 = .ok (.return_, 1) := dk_o177 (by decide +kernel)
theorem dX10_spreadLight_50 : decode cX10_spreadLight 50 = .ok (.aload_n 0, 1) := dk_o42 (by decide +kernel)
theorem dX10_spreadLight_51 : decode cX10_spreadLight 51 = .ok (.getfield 18, 3) := dk_o180 (by decide +kernel)
theorem dX10_spreadLight_54 : decode cX10_spreadLight 54 = .ok (.iload_n 1, 1) := dk_o27 (by decide +kernel)
theorem dX10_spreadLight_55 : decode cX10_spreadLight 55 = .ok (.iconst 0, 1) := dk_o3 (by decide +kernel)
theorem dX10_spreadLight_56 : decode cX10_spreadLight 56 = .ok (.iastore, 1) := dk_o79 (by decide +kernel)
theorem dX10_spreadLight_57 : decode cX10_spreadLight 57 = .ok (.aload_n 0, 1) := dk_o42 (by decide +kernel)
theorem dX10_spreadLight_58 : decode cX10_spreadLight 58 = .ok (.getfield 28, 3) := dk_o180 (by decide +kernel)
theorem dX10_spreadLight_61 : decode cX10_spreadLight 61 = .ok (.iconst 0, 1) := dk_o3 (by decide +kernel)
theorem dX10_spreadLight_62 : decode cX10_spreadLight 62 = .ok (.iload_n 1, 1) := dk_o27 (by decide +kernel)
theorem dX10_spreadLight_63 : decode cX10_spreadLight 63 = .ok (.iastore, 1) := dk_o79 (by decide +kernel)
theorem dX10_spreadLight_64 : decode cX10_spreadLight 64 = .ok (.iconst 1, 1) := dk_o4 (by decide +kernel)
theorem dX10_spreadLight_65 : decode cX10_spreadLight 65 = .ok (.istore_n 2, 1) := dk_o61 (by decide +kernel)
theorem dX10_spreadLight_66 : decode cX10_spreadLight 66 = .ok (.iconst 0, 1) := dk_o3 (by decide +kernel)
theorem dX10_spreadLight_67 : decode cX10_spreadLight 67 = .ok (.istore_n 3, 1) := dk_o62 (by decide +kernel)
theorem dX10_spreadLight_68 : decode cX10_spreadLight 68 = .ok (.iload_n 3, 1) := dk_o29 (by decide +kernel)
theorem dX10_spreadLight_69 : decode cX10_spreadLight 69 = .ok (.iload_n 2, 1) := dk_o28 (by decide +kernel)
theorem dX10_spreadLight_70 : decode cX10_spreadLight 70 = .ok (.if_icmp .ge 67, 3) := dk_o162 (by decide +kernel)
theorem dX10_spreadLight_73 : decode cX10_spreadLight 73 = .ok (.iload_n 3, 1) := dk_o29 (by decide +kernel)
theorem dX10_spreadLight_74 : decode cX10_spreadLight 74 = .ok (.bipush 72, 2) := dk_o16 (by decide +kernel)
theorem dX10_spreadLight_76 : decode cX10_spreadLight 76 = .ok (.if_icmp .ge 61, 3) := dk_o162 (by decide +kernel)
theorem dX10_spreadLight_79 : decode cX10_spreadLight 79 = .ok (.aload_n 0, 1) := dk_o42 (by decide +kernel)
theorem dX10_spreadLight_80 : decode cX10_spreadLight 80 = .ok (.getfield 28, 3) := dk_o180 (by decide +kernel)
theorem dX10_spreadLight_83 : decode cX10_spreadLight 83 = .ok (.iload_n 3, 1) := dk_o29 (by decide +kernel)
theorem dX10_spreadLight_84 : decode cX10_spreadLight 84 = .ok (.iaload, 1) := dk_o46 (by decide +kernel)
theorem dX10_spreadLight_85 : decode cX10_spreadLight 85 = .ok (.istore 4, 2) := dk_o54 (by decide +kernel)
theorem dX10_spreadLight_87 : decode cX10_spreadLight 87 = .ok (.aload_n 0, 1) := dk_o42 (by decide +kernel)
theorem dX10_spreadLight_88 : decode cX10_spreadLight 88 = .ok (.getfield 45, 3) := dk_o180 (by decide +kernel)
theorem dX10_spreadLight_91 : decode cX10_spreadLight 91 = .ok (.getfield 63, 3) := dk_o180 (by decide +kernel)
theorem dX10_spreadLight_94 : decode cX10_spreadLight 94 = .ok (.iload 4, 2) := dk_o21 (by decide +kernel)
theorem dX10_spreadLight_96 : decode cX10_spreadLight 96 = .ok (.iaload, 1) := dk_o46 (by decide +kernel)
theorem dX10_spreadLight_97 : decode cX10_spreadLight 97 = .ok (.sipush 255, 3) := dk_o17 (by decide +kernel)
theorem dX10_spreadLight_100 : decode cX10_spreadLight 100 = .ok (.if_icmp .ne 31, 3) := dk_o160 (by decide +kernel)
theorem dX10_spreadLight_103 : decode cX10_spreadLight 103 = .ok (.aload_n 0, 1) := dk_o42 (by decide +kernel)
theorem dX10_spreadLight_104 : decode cX10_spreadLight 104 = .ok (.getfield 18, 3) := dk_o180 (by decide +kernel)
theorem dX10_spreadLight_107 : decode cX10_spreadLight 107 = .ok (.iload 4, 2) := dk_o21 (by decide +kernel)
theorem dX10_spreadLight_109 : decode cX10_spreadLight 109 = .ok (.iaload, 1) := dk_o46 (by decide +kernel)
theorem dX10_spreadLight_110 : decode cX10_spreadLight 110 = .ok (.aload_n 0, 1) := dk_o42 (by decide +kernel)
theorem dX10_spreadLight_111 : decode cX10_spreadLight 111 = .ok (.getfield 53, 3) := dk_o180 (by decide +kernel)
theorem dX10_spreadLight_114 : decode cX10_spreadLight 114 = .ok (.if_icmp .gt 9, 3) := dk_o163 (by decide +kernel)
theorem dX10_spreadLight_117 : decode cX10_spreadLight 117 = .ok (.aload_n 0, 1) := dk_o42 (by decide +kernel)
theorem dX10_spreadLight_118 : decode cX10_spreadLight 118 = .ok (.iload 4, 2) := dk_o21 (by decide +kernel)
theorem dX10_spreadLight_120 : decode cX10_spreadLight 120 = .ok (.invokevirtual 151, 3) := dk_o182 (by decide +kernel)
theorem dX10_spreadLight_123 : decode cX10_spreadLight 123 = .ok (.aload_n 0, 1) := dk_o42 (by decide +kernel)
theorem dX10_spreadLight_124 : decode cX10_spreadLight 124 = .ok (.iload 4, 2) := dk_o21 (by decide +kernel)
theorem dX10_spreadLight_126 : decode cX10_spreadLight 126 = .ok (.iload_n 2, 1) := dk_o28 (by decide +kernel)
theorem dX10_spreadLight_127 : decode cX10_spreadLight 127 = .ok (.invokevirtual 154, 3) := dk_o182 (by decide +kernel)
theorem dX10_spreadLight_130 : decode cX10_spreadLight 130 = .ok (.istore_n 2, 1) := dk_o61 (by decide +kernel)
theorem dX10_spreadLight_131 : decode cX10_spreadLight 131 = .ok (.iinc 3 1, 3) := dk_o132 (by decide +kernel)
theorem dX10_spreadLight_134 : decode cX10_spreadLight 134 = .ok (.goto (-66), 3) := dk_o167 (by decide +kernel)
theorem dX10_spreadLight_137 : decode cX10_spreadLight 137 = .ok (.return_, 1) := dk_o177 (by decide +kernel)
theorem dX10_shineFrom_0 : decode cX10_shineFrom 0 = .ok (.getstatic 157, 3) := dk_o178 (by decide +kernel)
theorem dX10_shineFrom_3 : decode cX10_shineFrom 3 = .ok (.astore_n 2, 1) := dk_o77 (by decide +kernel)
theorem dX10_shineFrom_4 : decode cX10_shineFrom 4 = .ok (.aload_n 2, 1) := dk_o44 (by decide +kernel)
theorem dX10_shineFrom_5 : decode cX10_shineFrom 5 = .ok (.arraylength, 1) := dk_o190 (by decide +kernel)
theorem dX10_shineFrom_6 : decode cX10_shineFrom 6 = .ok (.istore_n 3, 1) := dk_o62 (by decide +kernel)
theorem dX10_shineFrom_7 : decode cX10_shineFrom 7 = .ok (.iconst 0, 1) := dk_o3 (by decide +kernel)
theorem dX10_shineFrom_8 : decode cX10_shineFrom 8 = .ok (.istore 4, 2) := dk_o54 (by decide +kernel)
theorem dX10_shineFrom_10 : decode cX10_shineFrom 10 = .ok (.iload 4, 2) := dk_o21 (by decide +kernel)
theorem dX10_shineFrom_12 : decode cX10_shineFrom 12 = .ok (.iload_n 3, 1) := dk_o29 (by decide +kernel)
theorem dX10_shineFrom_13 : decode cX10_shineFrom 13 = .ok (.if_icmp .ge 80, 3) := dk_o162 (by decide +kernel)
theorem dX10_shineFrom_16 : decode cX10_shineFrom 16 = .ok (.aload_n 2, 1) := dk_o44 (by decide +kernel)
theorem dX10_shineFrom_17 : decode cX10_shineFrom 17 = .ok (.iload 4, 2) := dk_o21 (by decide +kernel)
theorem dX10_shineFrom_19 : decode cX10_shineFrom 19 = .ok (.iaload, 1) := dk_o46 (by decide +kernel)
theorem dX10_shineFrom_20 : decode cX10_shineFrom 20 = .ok (.istore 5, 2) := dk_o54 (by decide +kernel)
theorem dX10_shineFrom_22 : decode cX10_shineFrom 22 = .ok (.iload_n 1, 1) := dk_o27 (by decide +kernel)
theorem dX10_shineFrom_23 : decode cX10_shineFrom 23 = .ok (.iload 5, 2) := dk_o21 (by decide +kernel)
theorem dX10_shineFrom_25 : decode cX10_shineFrom 25 = .ok (.iadd, 1) := dk_o96 (by decide +kernel)
theorem dX10_shineFrom_26 : decode cX10_shineFrom 26 = .ok (.istore 6, 2) := dk_o54 (by decide +kernel)
theorem dX10_shineFrom_28 : decode cX10_shineFrom 28 = .ok (.aload_n 0, 1) := dk_o42 (by decide +kernel)
theorem dX10_shineFrom_29 : decode cX10_shineFrom 29 = .ok (.getfield 22, 3) := dk_o180 (by decide +kernel)
theorem dX10_shineFrom_32 : decode cX10_shineFrom 32 = .ok (.iload 6, 2) := dk_o21 (by decide +kernel)
theorem dX10_shineFrom_34 : decode cX10_shineFrom 34 = .ok (.iaload, 1) := dk_o46 (by decide +kernel)
theorem dX10_shineFrom_35 : decode cX10_shineFrom 35 = .ok (.sipush 1000, 3) := dk_o17 (by decide +kernel)
theorem dX10_shineFrom_38 : decode cX10_shineFrom 38 = .ok (.if_icmp .ne 49, 3) := dk_o160 (by decide +kernel)
theorem dX10_shineFrom_41 : decode cX10_shineFrom 41 = .ok (.aload_n 0, 1) := dk_o42 (by decide +kernel)
theorem dX10_shineFrom_42 : decode cX10_shineFrom 42 = .ok (.getfield 22, 3) := dk_o180 (by decide +kernel)
theorem dX10_shineFrom_45 : decode cX10_shineFrom 45 = .ok (.iload 6, 2) := dk_o21 (by decide +kernel)
theorem dX10_shineFrom_47 : decode cX10_shineFrom 47 = .ok (.aload_n 0, 1) := dk_o42 (by decide +kernel)
theorem dX10_shineFrom_48 : decode cX10_shineFrom 48 = .ok (.getfield 18, 3) := dk_o180 (by decide +kernel)
theorem dX10_shineFrom_51 : decode cX10_shineFrom 51 = .ok (.iload_n 1, 1) := dk_o27 (by decide +kernel)
theorem dX10_shineFrom_52 : decode cX10_shineFrom 52 = .ok (.iaload, 1) := dk_o46 (by decide +kernel)
theorem dX10_shineFrom_53 : decode cX10_shineFrom 53 = .ok (.iastore, 1) := dk_o79 (by decide +kernel)
theorem dX10_shineFrom_54 : decode cX10_shineFrom 54 = .ok (.aload_n 0, 1) := dk_o42 (by decide +kernel)
theorem dX10_shineFrom_55 : decode cX10_shineFrom 55 = .ok (.getfield 45, 3) := dk_o180 (by decide +kernel)
theorem dX10_shineFrom_58 : decode cX10_shineFrom 58 = .ok (.iload 6, 2) := dk_o21 (by decide +kernel)
theorem dX10_shineFrom_60 : decode cX10_shineFrom 60 = .ok (.invokevirtual 160, 3) := dk_o182 (by decide +kernel)
theorem dX10_shineFrom_63 : decode cX10_shineFrom 63 = .ok (.ifCond .eq 24, 3) := dk_o153 (by decide +kernel)
theorem dX10_shineFrom_66 : decode cX10_shineFrom 66 = .ok (.aload_n 0, 1) := dk_o42 (by decide +kernel)
theorem dX10_shineFrom_67 : decode cX10_shineFrom 67 = .ok (.getfield 25, 3) := dk_o180 (by decide +kernel)
theorem dX10_shineFrom_70 : decode cX10_shineFrom 70 = .ok (.aload_n 0, 1) := dk_o42 (by decide +kernel)
theorem dX10_shineFrom_71 : decode cX10_shineFrom 71 = .ok (.getfield 140, 3) := dk_o180 (by decide +kernel)
theorem dX10_shineFrom_74 : decode cX10_shineFrom 74 = .ok (.iload 6, 2) := dk_o21 (by decide +kernel)
theorem dX10_shineFrom_76 : decode cX10_shineFrom 76 = .ok (.iastore, 1) := dk_o79 (by decide +kernel)
theorem dX10_shineFrom_77 : decode cX10_shineFrom 77 = .ok (.aload_n 0, 1) := dk_o42 (by decide +kernel)
theorem dX10_shineFrom_78 : decode cX10_shineFrom 78 = .ok (.dup, 1) := dk_o89 (by decide +kernel)
theorem dX10_shineFrom_79 : decode cX10_shineFrom 79 = .ok (.getfield 140, 3) := dk_o180 (by decide +kernel)
theorem dX10_shineFrom_82 : decode cX10_shineFrom 82 = .ok (.iconst 1, 1) := dk_o4 (by decide +kernel)
theorem dX10_shineFrom_83 : decode cX10_shineFrom 83 = .ok (.iadd, 1) := dk_o96 (by decide +kernel)
theorem dX10_shineFrom_84 : decode cX10_shineFrom 84 = .ok (.putfield 140, 3) := dk_o181 (by decide +kernel)
theorem dX10_shineFrom_87 : decode cX10_shineFrom 87 = .ok (.iinc 4 1, 3) := dk_o132 (by decide +kernel)
theorem dX10_shineFrom_90 : decode cX10_shineFrom 90 = .ok (.goto (-80), 3) := dk_o167 (by decide +kernel)
theorem dX10_shineFrom_93 : decode cX10_shineFrom 93 = .ok (.return_, 1) := dk_o177 (by decide +kernel)
theorem dX10_stepFrom_0 : decode cX10_stepFrom 0 = .ok (.iload_n 2, 1) := dk_o28 (by decide +kernel)
theorem dX10_stepFrom_1 : decode cX10_stepFrom 1 = .ok (.istore_n 3, 1) := dk_o62 (by decide +kernel)
theorem dX10_stepFrom_2 : decode cX10_stepFrom 2 = .ok (.getstatic 157, 3) := dk_o178 (by decide +kernel)
theorem dX10_stepFrom_5 : decode cX10_stepFrom 5 = .ok (.astore 4, 2) := dk_o58 (by decide +kernel)
theorem dX10_stepFrom_7 : decode cX10_stepFrom 7 = .ok (.aload 4, 2) := dk_o25 (by decide +kernel)
theorem dX10_stepFrom_9 : decode cX10_stepFrom 9 = .ok (.arraylength, 1) := dk_o190 (by decide +kernel)
theorem dX10_stepFrom_10 : decode cX10_stepFrom 10 = .ok (.istore 5, 2) := dk_o54 (by decide +kernel)
theorem dX10_stepFrom_12 : decode cX10_stepFrom 12 = .ok (.iconst 0, 1) := dk_o3 (by decide +kernel)
theorem dX10_stepFrom_13 : decode cX10_stepFrom 13 = .ok (.istore 6, 2) := dk_o54 (by decide +kernel)
theorem dX10_stepFrom_15 : decode cX10_stepFrom 15 = .ok (.iload 6, 2) := dk_o21 (by decide +kernel)
theorem dX10_stepFrom_17 : decode cX10_stepFrom 17 = .ok (.iload 5, 2) := dk_o21 (by decide +kernel)
theorem dX10_stepFrom_19 : decode cX10_stepFrom 19 = .ok (.if_icmp .ge 71, 3) := dk_o162 (by decide +kernel)
theorem dX10_stepFrom_22 : decode cX10_stepFrom 22 = .ok (.aload 4, 2) := dk_o25 (by decide +kernel)
theorem dX10_stepFrom_24 : decode cX10_stepFrom 24 = .ok (.iload 6, 2) := dk_o21 (by decide +kernel)
theorem dX10_stepFrom_26 : decode cX10_stepFrom 26 = .ok (.iaload, 1) := dk_o46 (by decide +kernel)
theorem dX10_stepFrom_27 : decode cX10_stepFrom 27 = .ok (.istore 7, 2) := dk_o54 (by decide +kernel)
theorem dX10_stepFrom_29 : decode cX10_stepFrom 29 = .ok (.iload_n 1, 1) := dk_o27 (by decide +kernel)
theorem dX10_stepFrom_30 : decode cX10_stepFrom 30 = .ok (.iload 7, 2) := dk_o21 (by decide +kernel)
theorem dX10_stepFrom_32 : decode cX10_stepFrom 32 = .ok (.iadd, 1) := dk_o96 (by decide +kernel)
theorem dX10_stepFrom_33 : decode cX10_stepFrom 33 = .ok (.istore 8, 2) := dk_o54 (by decide +kernel)
theorem dX10_stepFrom_35 : decode cX10_stepFrom 35 = .ok (.aload_n 0, 1) := dk_o42 (by decide +kernel)
theorem dX10_stepFrom_36 : decode cX10_stepFrom 36 = .ok (.getfield 18, 3) := dk_o180 (by decide +kernel)
theorem dX10_stepFrom_39 : decode cX10_stepFrom 39 = .ok (.iload 8, 2) := dk_o21 (by decide +kernel)
theorem dX10_stepFrom_41 : decode cX10_stepFrom 41 = .ok (.iaload, 1) := dk_o46 (by decide +kernel)
theorem dX10_stepFrom_42 : decode cX10_stepFrom 42 = .ok (.iconst (-1), 1) := dk_o2 (by decide +kernel)
theorem dX10_stepFrom_43 : decode cX10_stepFrom 43 = .ok (.if_icmp .ne 41, 3) := dk_o160 (by decide +kernel)
theorem dX10_stepFrom_46 : decode cX10_stepFrom 46 = .ok (.aload_n 0, 1) := dk_o42 (by decide +kernel)
theorem dX10_stepFrom_47 : decode cX10_stepFrom 47 = .ok (.getfield 45, 3) := dk_o180 (by decide +kernel)
theorem dX10_stepFrom_50 : decode cX10_stepFrom 50 = .ok (.iload 8, 2) := dk_o21 (by decide +kernel)
theorem dX10_stepFrom_52 : decode cX10_stepFrom 52 = .ok (.invokevirtual 85, 3) := dk_o182 (by decide +kernel)
theorem dX10_stepFrom_55 : decode cX10_stepFrom 55 = .ok (.ifCond .eq 29, 3) := dk_o153 (by decide +kernel)
theorem dX10_stepFrom_58 : decode cX10_stepFrom 58 = .ok (.aload_n 0, 1) := dk_o42 (by decide +kernel)
theorem dX10_stepFrom_59 : decode cX10_stepFrom 59 = .ok (.getfield 18, 3) := dk_o180 (by decide +kernel)
theorem dX10_stepFrom_62 : decode cX10_stepFrom 62 = .ok (.iload 8, 2) := dk_o21 (by decide +kernel)
theorem dX10_stepFrom_64 : decode cX10_stepFrom 64 = .ok (.aload_n 0, 1) := dk_o42 (by decide +kernel)
theorem dX10_stepFrom_65 : decode cX10_stepFrom 65 = .ok (.getfield 18, 3) := dk_o180 (by decide +kernel)
theorem dX10_stepFrom_68 : decode cX10_stepFrom 68 = .ok (.iload_n 1, 1) := dk_o27 (by decide +kernel)
theorem dX10_stepFrom_69 : decode cX10_stepFrom 69 = .ok (.iaload, 1) := dk_o46 (by decide +kernel)
theorem dX10_stepFrom_70 : decode cX10_stepFrom 70 = .ok (.iconst 1, 1) := dk_o4 (by decide +kernel)
theorem dX10_stepFrom_71 : decode cX10_stepFrom 71 = .ok (.iadd, 1) := dk_o96 (by decide +kernel)
theorem dX10_stepFrom_72 : decode cX10_stepFrom 72 = .ok (.iastore, 1) := dk_o79 (by decide +kernel)
theorem dX10_stepFrom_73 : decode cX10_stepFrom 73 = .ok (.aload_n 0, 1) := dk_o42 (by decide +kernel)
theorem dX10_stepFrom_74 : decode cX10_stepFrom 74 = .ok (.getfield 28, 3) := dk_o180 (by decide +kernel)
theorem dX10_stepFrom_77 : decode cX10_stepFrom 77 = .ok (.iload_n 3, 1) := dk_o29 (by decide +kernel)
theorem dX10_stepFrom_78 : decode cX10_stepFrom 78 = .ok (.iload 8, 2) := dk_o21 (by decide +kernel)
theorem dX10_stepFrom_80 : decode cX10_stepFrom 80 = .ok (.iastore, 1) := dk_o79 (by decide +kernel)
theorem dX10_stepFrom_81 : decode cX10_stepFrom 81 = .ok (.iinc 3 1, 3) := dk_o132 (by decide +kernel)
theorem dX10_stepFrom_84 : decode cX10_stepFrom 84 = .ok (.iinc 6 1, 3) := dk_o132 (by decide +kernel)
theorem dX10_stepFrom_87 : decode cX10_stepFrom 87 = .ok (.goto (-72), 3) := dk_o167 (by decide +kernel)
theorem dX10_stepFrom_90 : decode cX10_stepFrom 90 = .ok (.iload_n 3, 1) := dk_o29 (by decide +kernel)
theorem dX10_stepFrom_91 : decode cX10_stepFrom 91 = .ok (.ireturn, 1) := dk_o172 (by decide +kernel)
theorem wB_576 : Cond.fieldLink RX10 22 "DarkMine$Works" "beam" "[I" ∈ dgB := List.mem_filter.mpr ⟨tbl_2 _ (List.mem_of_getElem? (i := 151) (by decide +kernel)), by decide +kernel⟩
theorem wB_577 : Cond.fieldLink RX10 18 "DarkMine$Works" "far" "[I" ∈ dgB := List.mem_filter.mpr ⟨tbl_2 _ (List.mem_of_getElem? (i := 150) (by decide +kernel)), by decide +kernel⟩
theorem wB_578 : Cond.fieldLink RX10 45 "DarkMine$Works" "pit" "LDarkMine$Pit;" ∈ dgB := List.mem_filter.mpr ⟨tbl_2 _ (List.mem_of_getElem? (i := 156) (by decide +kernel)), by decide +kernel⟩
theorem wB_579 : Cond.methodLink RX10 160 yX5_isSolid ∈ dgB := List.mem_filter.mpr ⟨tbl_4 _ (List.mem_of_getElem? (i := 179) (by decide +kernel)), by decide +kernel⟩
theorem wB_580 : Cond.fieldLink RX10 25 "DarkMine$Works" "exposed" "[I" ∈ dgB := List.mem_filter.mpr ⟨tbl_2 _ (List.mem_of_getElem? (i := 152) (by decide +kernel)), by decide +kernel⟩
theorem wB_581 : Cond.fieldLink RX10 140 "DarkMine$Works" "exposedCount" "I" ∈ dgB := List.mem_filter.mpr ⟨tbl_2 _ (List.mem_of_getElem? (i := 153) (by decide +kernel)), by decide +kernel⟩
theorem wB_582 : Cond.methodLink RX10 85 yX5_isOpen ∈ dgB := List.mem_filter.mpr ⟨tbl_4 _ (List.mem_of_getElem? (i := 187) (by decide +kernel)), by decide +kernel⟩
theorem wB_583 : Cond.fieldLink RX10 28 "DarkMine$Works" "queue" "[I" ∈ dgB := List.mem_filter.mpr ⟨tbl_2 _ (List.mem_of_getElem? (i := 154) (by decide +kernel)), by decide +kernel⟩
theorem wB_584 : Cond.fieldLink RX10 49 "DarkMine$Works" "stale" "Z" ∈ dgB := List.mem_filter.mpr ⟨tbl_2 _ (List.mem_of_getElem? (i := 158) (by decide +kernel)), by decide +kernel⟩
theorem wB_585 : Cond.methodLink RX10 145 yJ7_fill_53178 ∈ dgB := List.mem_filter.mpr ⟨tbl_4 _ (List.mem_of_getElem? (i := 172) (by decide +kernel)), by decide +kernel⟩
theorem wB_586 : Cond.fieldLink RX10 41 "DarkMine$Works" "ground" "LDarkMine$Ground;" ∈ dgB := List.mem_filter.mpr ⟨tbl_2 _ (List.mem_of_getElem? (i := 155) (by decide +kernel)), by decide +kernel⟩
theorem wB_587 : Cond.fieldLink RX10 80 "DarkMine$Ground" "shaftPlace" "I" ∈ dgB := List.mem_filter.mpr ⟨tbl_1 _ (List.mem_of_getElem? (i := 191) (by decide +kernel)), by decide +kernel⟩
theorem wB_588 : Cond.fieldLink RX10 63 "DarkMine$Pit" "cells" "[I" ∈ dgB := List.mem_filter.mpr ⟨tbl_1 _ (List.mem_of_getElem? (i := 68) (by decide +kernel)), by decide +kernel⟩
theorem wB_589 : Cond.fieldLink RX10 53 "DarkMine$Works" "reach" "I" ∈ dgB := List.mem_filter.mpr ⟨tbl_2 _ (List.mem_of_getElem? (i := 157) (by decide +kernel)), by decide +kernel⟩
theorem wB_590 : Cond.code yX10_stepFrom cX10_stepFrom 9 (some .int) ∈ dgB := List.mem_filter.mpr ⟨tbl_4 _ (List.mem_of_getElem? (i := 186) rfl), rfl⟩
theorem wB_591 : Cond.methodLink RX10 154 yX10_stepFrom ∈ dgB := List.mem_filter.mpr ⟨tbl_4 _ (List.mem_of_getElem? (i := 183) (by decide +kernel)), by decide +kernel⟩
theorem wB_592 : Cond.instanceMethod yX10_stepFrom ∈ dgB := List.mem_filter.mpr ⟨tbl_4 _ (List.mem_of_getElem? (i := 185) (by decide +kernel)), by decide +kernel⟩
theorem wB_593 : Cond.selects RX10 yX10_stepFrom yX10_stepFrom ∈ dgB := List.mem_filter.mpr ⟨List.mem_of_getElem? (i := 47) (by decide +kernel), by decide +kernel⟩
theorem wB_594 : Cond.initialized RX10 ∈ dgB := List.mem_filter.mpr ⟨tbl_1 _ (List.mem_of_getElem? (i := 9) (by decide +kernel)), by decide +kernel⟩
theorem wB_595 : Cond.code yX10_shineFrom cX10_shineFrom 7 none ∈ dgB := List.mem_filter.mpr ⟨tbl_4 _ (List.mem_of_getElem? (i := 176) rfl), rfl⟩
theorem wB_596 : Cond.methodLink RX10 151 yX10_shineFrom ∈ dgB := List.mem_filter.mpr ⟨tbl_4 _ (List.mem_of_getElem? (i := 173) (by decide +kernel)), by decide +kernel⟩
theorem wB_597 : Cond.instanceMethod yX10_shineFrom ∈ dgB := List.mem_filter.mpr ⟨tbl_4 _ (List.mem_of_getElem? (i := 175) (by decide +kernel)), by decide +kernel⟩
theorem wB_598 : Cond.selects RX10 yX10_shineFrom yX10_shineFrom ∈ dgB := List.mem_filter.mpr ⟨List.mem_of_getElem? (i := 46) (by decide +kernel), by decide +kernel⟩
theorem wB_599 : Cond.code yX10_spreadLight cX10_spreadLight 5 none ∈ dgB := List.mem_filter.mpr ⟨tbl_4 _ (List.mem_of_getElem? (i := 171) rfl), rfl⟩
theorem wB_600 : Cond.methodLink RX10 56 yX10_spreadLight ∈ dgB := List.mem_filter.mpr ⟨tbl_4 _ (List.mem_of_getElem? (i := 168) (by decide +kernel)), by decide +kernel⟩
theorem wB_601 : Cond.instanceMethod yX10_spreadLight ∈ dgB := List.mem_filter.mpr ⟨tbl_4 _ (List.mem_of_getElem? (i := 170) (by decide +kernel)), by decide +kernel⟩
theorem wB_602 : Cond.selects RX10 yX10_spreadLight yX10_spreadLight ∈ dgB := List.mem_filter.mpr ⟨List.mem_of_getElem? (i := 45) (by decide +kernel), by decide +kernel⟩
theorem wB_603 : Cond.code yX10_farOf cX10_farOf 2 (some .int) ∈ dgB := List.mem_filter.mpr ⟨tbl_4 _ (List.mem_of_getElem? (i := 167) rfl), rfl⟩
theorem wB_604 : Cond.methodLink RX10 59 yX10_farOf ∈ dgB := List.mem_filter.mpr ⟨tbl_4 _ (List.mem_of_getElem? (i := 164) (by decide +kernel)), by decide +kernel⟩
theorem wB_605 : Cond.instanceMethod yX10_farOf ∈ dgB := List.mem_filter.mpr ⟨tbl_4 _ (List.mem_of_getElem? (i := 165) (by decide +kernel)), by decide +kernel⟩
theorem wB_606 : Cond.selects RX10 yX10_farOf yX10_farOf ∈ dgB := List.mem_filter.mpr ⟨tbl_4 _ (List.mem_of_getElem? (i := 166) (by decide +kernel)), by decide +kernel⟩
theorem wB_607 : Cond.fieldLink RX10 12 "DarkMine$Works" "rules" "LDarkMine$Rules;" ∈ dgB := List.mem_filter.mpr ⟨tbl_2 _ (List.mem_of_getElem? (i := 149) (by decide +kernel)), by decide +kernel⟩
theorem wB_608 : Cond.fieldLink RX10 121 "DarkMine$Rules" "grade" "I" ∈ dgB := List.mem_filter.mpr ⟨tbl_2 _ (List.mem_of_getElem? (i := 119) (by decide +kernel)), by decide +kernel⟩
theorem wB_609 : Cond.code yX11_rowOf cX11_rowOf 1 (some .int) ∈ dgB := List.mem_filter.mpr ⟨tbl_5 _ (List.mem_of_getElem? (i := 6) rfl), rfl⟩
theorem wB_610 : Cond.initialized RX11 ∈ dgB := List.mem_filter.mpr ⟨tbl_1 _ (List.mem_of_getElem? (i := 1) (by decide +kernel)), by decide +kernel⟩
theorem wB_611 : Cond.static yX11_rowOf ∈ dgB := List.mem_filter.mpr ⟨tbl_5 _ (List.mem_of_getElem? (i := 5) (by decide +kernel)), by decide +kernel⟩
theorem wB_612 : Cond.fieldLink RX10 127 "DarkMine$Rules" "depth" "I" ∈ dgB := List.mem_filter.mpr ⟨tbl_2 _ (List.mem_of_getElem? (i := 121) (by decide +kernel)), by decide +kernel⟩
theorem wB_613 : Cond.fieldLink RX10 94 "DarkMine$Pit" "shift" "I" ∈ dgB := List.mem_filter.mpr ⟨tbl_1 _ (List.mem_of_getElem? (i := 61) (by decide +kernel)), by decide +kernel⟩
theorem wB_614 : Cond.fieldLink RX10 130 "DarkMine$Rules" "shift" "I" ∈ dgB := List.mem_filter.mpr ⟨tbl_2 _ (List.mem_of_getElem? (i := 123) (by decide +kernel)), by decide +kernel⟩
theorem wB_615 : Cond.methodLink RX10 131 yX5_openBeside ∈ dgB := List.mem_filter.mpr ⟨tbl_5 _ (List.mem_of_getElem? (i := 7) (by decide +kernel)), by decide +kernel⟩
theorem wB_616 : Cond.fieldLink RX10 134 "DarkMine$Rules" "open" "I" ∈ dgB := List.mem_filter.mpr ⟨tbl_2 _ (List.mem_of_getElem? (i := 127) (by decide +kernel)), by decide +kernel⟩
theorem wB_617 : Cond.fieldLink RX10 137 "DarkMine$Rules" "lit" "I" ∈ dgB := List.mem_filter.mpr ⟨tbl_2 _ (List.mem_of_getElem? (i := 129) (by decide +kernel)), by decide +kernel⟩
theorem wB_618 : Cond.code yX5_canBeDug cX5_canBeDug 2 (some .boolean) ∈ dgB := List.mem_filter.mpr ⟨tbl_4 _ (List.mem_of_getElem? (i := 233) rfl), rfl⟩
theorem wB_619 : Cond.methodLink RX10 68 yX5_canBeDug ∈ dgB := List.mem_filter.mpr ⟨tbl_4 _ (List.mem_of_getElem? (i := 230) (by decide +kernel)), by decide +kernel⟩
theorem wB_620 : Cond.instanceMethod yX5_canBeDug ∈ dgB := List.mem_filter.mpr ⟨tbl_4 _ (List.mem_of_getElem? (i := 231) (by decide +kernel)), by decide +kernel⟩
theorem wB_621 : Cond.selects RX5 yX5_canBeDug yX5_canBeDug ∈ dgB := List.mem_filter.mpr ⟨tbl_4 _ (List.mem_of_getElem? (i := 232) (by decide +kernel)), by decide +kernel⟩
theorem wB_622 : Cond.code yX10_tellDigging cX10_tellDigging 2 none ∈ dgB := List.mem_filter.mpr ⟨tbl_5 _ (List.mem_of_getElem? (i := 3) rfl), rfl⟩
theorem wB_623 : Cond.methodLink RX10 72 yX10_tellDigging ∈ dgB := List.mem_filter.mpr ⟨tbl_5 _ (List.mem_of_getElem? (i := 0) (by decide +kernel)), by decide +kernel⟩
theorem wB_624 : Cond.instanceMethod yX10_tellDigging ∈ dgB := List.mem_filter.mpr ⟨tbl_5 _ (List.mem_of_getElem? (i := 2) (by decide +kernel)), by decide +kernel⟩
theorem wB_625 : Cond.selects RX10 yX10_tellDigging yX10_tellDigging ∈ dgB := List.mem_filter.mpr ⟨List.mem_of_getElem? (i := 50) (by decide +kernel), by decide +kernel⟩
theorem wB_626 : Cond.code yX7_valueOf cX7_valueOf 8 (some .int) ∈ dgB := List.mem_filter.mpr ⟨tbl_5 _ (List.mem_of_getElem? (i := 11) rfl), rfl⟩
theorem wB_627 : Cond.methodLink RX10 76 yX7_valueOf ∈ dgB := List.mem_filter.mpr ⟨tbl_5 _ (List.mem_of_getElem? (i := 8) (by decide +kernel)), by decide +kernel⟩
theorem wB_628 : Cond.instanceMethod yX7_valueOf ∈ dgB := List.mem_filter.mpr ⟨tbl_5 _ (List.mem_of_getElem? (i := 9) (by decide +kernel)), by decide +kernel⟩
theorem wB_629 : Cond.selects RX7 yX7_valueOf yX7_valueOf ∈ dgB := List.mem_filter.mpr ⟨tbl_5 _ (List.mem_of_getElem? (i := 10) (by decide +kernel)), by decide +kernel⟩
theorem wB_630 : Cond.fieldLink RX10 103 "DarkMine$Ground" "planRows" "I" ∈ dgB := List.mem_filter.mpr ⟨tbl_1 _ (List.mem_of_getElem? (i := 216) (by decide +kernel)), by decide +kernel⟩
theorem wB_631 : Cond.fieldLink RX10 106 "DarkMine$Pit" "planMiners" "[I" ∈ dgB := List.mem_filter.mpr ⟨tbl_1 _ (List.mem_of_getElem? (i := 77) (by decide +kernel)), by decide +kernel⟩
theorem wB_632 : Cond.fieldLink RX10 109 "DarkMine$Pit" "planPlaces" "[I" ∈ dgB := List.mem_filter.mpr ⟨tbl_1 _ (List.mem_of_getElem? (i := 81) (by decide +kernel)), by decide +kernel⟩
theorem wB_633 : Cond.fieldLink RX10 112 "DarkMine$Pit" "hurts" "[I" ∈ dgB := List.mem_filter.mpr ⟨tbl_1 _ (List.mem_of_getElem? (i := 73) (by decide +kernel)), by decide +kernel⟩
theorem wB_634 : Cond.fieldLink RX10 31 "DarkMine$Works" "dugMiner" "I" ∈ dgB := List.mem_filter.mpr ⟨tbl_2 _ (List.mem_of_getElem? (i := 159) (by decide +kernel)), by decide +kernel⟩
theorem wB_635 : Cond.fieldLink RX10 35 "DarkMine$Works" "dugPlace" "I" ∈ dgB := List.mem_filter.mpr ⟨tbl_2 _ (List.mem_of_getElem? (i := 161) (by decide +kernel)), by decide +kernel⟩
theorem wB_636 : Cond.methodLink RX10 97 Lib.Math.min.name ∈ dgB := List.mem_filter.mpr ⟨tbl_5 _ (List.mem_of_getElem? (i := 104) (by decide +kernel)), by decide +kernel⟩
theorem wB_637 : Cond.methodLink RX10 115 Lib.Math.max.name ∈ dgB := List.mem_filter.mpr ⟨tbl_5 _ (List.mem_of_getElem? (i := 107) (by decide +kernel)), by decide +kernel⟩
theorem wB_638 : Cond.static Lib.Math.max.name ∈ dgB := List.mem_filter.mpr ⟨tbl_5 _ (List.mem_of_getElem? (i := 108) (by decide +kernel)), by decide +kernel⟩
theorem wB_639 : Cond.code Lib.Math.max.name Lib.Math.max.code 2 (some .int) ∈ dgB := List.mem_filter.mpr ⟨tbl_5 _ (List.mem_of_getElem? (i := 109) rfl), rfl⟩
theorem wB_640 : Cond.fieldLink RX10 38 "DarkMine$Works" "dugGrade" "I" ∈ dgB := List.mem_filter.mpr ⟨tbl_2 _ (List.mem_of_getElem? (i := 163) (by decide +kernel)), by decide +kernel⟩
theorem wB_641 : Cond.code yX5_addTub cX5_addTub 2 none ∈ dgB := List.mem_filter.mpr ⟨tbl_5 _ (List.mem_of_getElem? (i := 113) rfl), rfl⟩
theorem wB_642 : Cond.methodLink RX10 118 yX5_addTub ∈ dgB := List.mem_filter.mpr ⟨tbl_5 _ (List.mem_of_getElem? (i := 110) (by decide +kernel)), by decide +kernel⟩
theorem wB_643 : Cond.instanceMethod yX5_addTub ∈ dgB := List.mem_filter.mpr ⟨tbl_5 _ (List.mem_of_getElem? (i := 111) (by decide +kernel)), by decide +kernel⟩
theorem wB_644 : Cond.selects RX5 yX5_addTub yX5_addTub ∈ dgB := List.mem_filter.mpr ⟨tbl_5 _ (List.mem_of_getElem? (i := 112) (by decide +kernel)), by decide +kernel⟩
theorem wB_645 : Cond.fieldLink RX10 143 "DarkMine$Rules" "far" "I" ∈ dgB := List.mem_filter.mpr ⟨tbl_2 _ (List.mem_of_getElem? (i := 125) (by decide +kernel)), by decide +kernel⟩
noncomputable def F_w_shineFrom_B1 (a1 : Int32) (fx : Int32) (o : Nat) (S : dg_S) : (Int32 × Int32 × dg_S) → (Int32 × Int32 × dg_S) ⊕ (dg_S) := fun w9 => match w9 with | (x_127, x_128, S_129) => (if (4 : Int32) ≤ x_127 then (Sum.inr ((S_129))) else let x_133 : Int32 := zV (dk_sides (x_127 : Int32).toNatClampNeg); let x_134 : Int32 := a1 + x_133; let x_136 : Int32 := S_129.2.1 218 (x_134 : Int32).toNatClampNeg; (if x_136 = (1000 : Int32) then let S_142 : dg_S := dg_uf S_129 218 (upd (S_129.2.1 218) (x_134 : Int32).toNatClampNeg fx); let d_143 : Nat := zR o S 214 7; let x_144 : Int32 := F_p_isSolid o S_142 d_143 x_134; let x_146 : Int32 := S_142.2.1 (d_143 + 1) (x_134 : Int32).toNatClampNeg; (if x_144 = (0 : Int32) then let x_149 : Int32 := x_127 + 1; (Sum.inl (x_149, x_128, S_142)) else let S_151 : dg_S := dg_uf S_142 219 (upd (S_142.2.1 219) (x_128 : Int32).toNatClampNeg x_134); let x_152 : Int32 := x_128 + (1 : Int32); let S_153 : dg_S := dg_uF S_151 214 4 (.int x_152); let x_154 : Int32 := x_127 + 1; (Sum.inl (x_154, x_152, S_153))) else let x_138 : Int32 := x_127 + 1; (Sum.inl (x_138, x_128, S_129))))
noncomputable def F_w_shineFrom (o : Nat) (S : dg_S) (a1 : Int32) : dg_S := let c0 : Int32 := zI S 214 4; let fx : Int32 := S.2.1 217 (a1 : Int32).toNatClampNeg; (lp (F_w_shineFrom_B1 a1 fx o S) S ((5 - ((0 : Int32)).toInt).toNat + 1) ((0 : Int32), c0, S))
theorem F_w_shineFrom_p0 {a1 : Int32} {fx : Int32} {o : Nat} {S : dg_S} {x_127 : Int32} {x_128 : Int32} {S_129 : dg_S} (h0 : (4 : Int32) ≤ x_127) : (F_w_shineFrom_B1 a1 fx o S) (x_127, x_128, S_129) = Sum.inr (S_129) := (Eq.trans (if_pos h0) rfl)
theorem F_w_shineFrom_p1 {a1 : Int32} {fx : Int32} {o : Nat} {S : dg_S} {x_127 : Int32} {x_128 : Int32} {S_129 : dg_S} {x_138 : Int32} {x_133 : Int32} {x_134 : Int32} {x_136 : Int32} (h0 : ¬ ((4 : Int32) ≤ x_127)) (h1 : x_133 = zV (dk_sides (x_127 : Int32).toNatClampNeg)) (h2 : x_134 = a1 + x_133) (h3 : x_136 = S_129.2.1 218 (x_134 : Int32).toNatClampNeg) (h4 : ¬ (x_136 = (1000 : Int32))) (h5 : x_138 = x_127 + 1) : (F_w_shineFrom_B1 a1 fx o S) (x_127, x_128, S_129) = Sum.inl (x_138, x_128, S_129) := by
  replace h1 := Eq.symm h1
  subst h1
  replace h2 := Eq.symm h2
  subst h2
  replace h3 := Eq.symm h3
  subst h3
  replace h5 := Eq.symm h5
  subst h5
  exact (Eq.trans (if_neg h0) (Eq.trans (if_neg h4) rfl))
theorem F_w_shineFrom_p2 {a1 : Int32} {fx : Int32} {o : Nat} {S : dg_S} {x_127 : Int32} {x_128 : Int32} {S_129 : dg_S} {x_149 : Int32} {S_142 : dg_S} {x_133 : Int32} {x_134 : Int32} {x_136 : Int32} {d_143 : Nat} {x_144 : Int32} (h0 : ¬ ((4 : Int32) ≤ x_127)) (h1 : x_133 = zV (dk_sides (x_127 : Int32).toNatClampNeg)) (h2 : x_134 = a1 + x_133) (h3 : x_136 = S_129.2.1 218 (x_134 : Int32).toNatClampNeg) (h4 : x_136 = (1000 : Int32)) (h5 : S_142 = dg_uf S_129 218 (upd (S_129.2.1 218) (x_134 : Int32).toNatClampNeg fx)) (h6 : d_143 = zR o S 214 7) (h7 : x_144 = F_p_isSolid o S_142 d_143 x_134) (h8 : x_144 = (0 : Int32)) (h9 : x_149 = x_127 + 1) : (F_w_shineFrom_B1 a1 fx o S) (x_127, x_128, S_129) = Sum.inl (x_149, x_128, S_142) := by
  replace h1 := Eq.symm h1
  subst h1
  replace h2 := Eq.symm h2
  subst h2
  replace h3 := Eq.symm h3
  subst h3
  replace h5 := Eq.symm h5
  subst h5
  replace h6 := Eq.symm h6
  subst h6
  replace h7 := Eq.symm h7
  subst h7
  replace h9 := Eq.symm h9
  subst h9
  exact (Eq.trans (if_neg h0) (Eq.trans (if_pos h4) (Eq.trans (if_pos h8) rfl)))
theorem F_w_shineFrom_p3 {a1 : Int32} {fx : Int32} {o : Nat} {S : dg_S} {x_127 : Int32} {x_128 : Int32} {S_129 : dg_S} {x_154 : Int32} {x_152 : Int32} {S_153 : dg_S} {x_133 : Int32} {x_134 : Int32} {x_136 : Int32} {S_142 : dg_S} {d_143 : Nat} {x_144 : Int32} {S_151 : dg_S} (h0 : ¬ ((4 : Int32) ≤ x_127)) (h1 : x_133 = zV (dk_sides (x_127 : Int32).toNatClampNeg)) (h2 : x_134 = a1 + x_133) (h3 : x_136 = S_129.2.1 218 (x_134 : Int32).toNatClampNeg) (h4 : x_136 = (1000 : Int32)) (h5 : S_142 = dg_uf S_129 218 (upd (S_129.2.1 218) (x_134 : Int32).toNatClampNeg fx)) (h6 : d_143 = zR o S 214 7) (h7 : x_144 = F_p_isSolid o S_142 d_143 x_134) (h8 : ¬ (x_144 = (0 : Int32))) (h9 : S_151 = dg_uf S_142 219 (upd (S_142.2.1 219) (x_128 : Int32).toNatClampNeg x_134)) (h10 : x_152 = x_128 + (1 : Int32)) (h11 : S_153 = dg_uF S_151 214 4 (.int x_152)) (h12 : x_154 = x_127 + 1) : (F_w_shineFrom_B1 a1 fx o S) (x_127, x_128, S_129) = Sum.inl (x_154, x_152, S_153) := by
  replace h1 := Eq.symm h1
  subst h1
  replace h2 := Eq.symm h2
  subst h2
  replace h3 := Eq.symm h3
  subst h3
  replace h5 := Eq.symm h5
  subst h5
  replace h6 := Eq.symm h6
  subst h6
  replace h7 := Eq.symm h7
  subst h7
  replace h9 := Eq.symm h9
  subst h9
  replace h10 := Eq.symm h10
  subst h10
  replace h11 := Eq.symm h11
  subst h11
  replace h12 := Eq.symm h12
  subst h12
  exact (Eq.trans (if_neg h0) (Eq.trans (if_pos h4) (Eq.trans (if_neg h8) rfl)))
theorem F_w_shineFrom_p4 {o : Nat} {S : dg_S} {a1 : Int32} {fx : Int32} {c0 : Int32} (h0 : c0 = zI S 214 4) (h1 : fx = S.2.1 217 (a1 : Int32).toNatClampNeg) : F_w_shineFrom o S a1 = lp (F_w_shineFrom_B1 a1 fx o S) S ((5 - ((0 : Int32)).toInt).toNat + 1) ((0 : Int32), c0, S) := by
  replace h0 := Eq.symm h0
  subst h0
  replace h1 := Eq.symm h1
  subst h1
  exact rfl
set_option maxHeartbeats 8000000 in
set_option maxRecDepth 100000 in
theorem c_w_shineFrom (l : Launch) (g : Nat → ClassId) (D : va_G) (o : Nat) (S : dg_S) (a1 : Int32) (b_a1 : 8 ≤ (a1).toInt ∧ (a1).toInt ≤ 63) (c0 : Int32) (f_c0 : S.1 214 4 = .int c0) (b_c0 : 0 ≤ (c0).toInt ∧ (c0).toInt ≤ 72) (fx : Int32) (f_fx : S.2.1 217 (a1 : Int32).toNatClampNeg = fx) (b_fx : (-1) ≤ (fx).toInt ∧ (fx).toInt ≤ 72) (x_ce : (c0).toInt + (dk_cnt (S.2.1 218) 1000 72 : Int) ≤ 72) (Z2 : Z2X S) (Z3 : Z3X o S) (I : CX o S) (sz : Nat) : Met l yX10_shineFrom (bw yX10_shineFrom cX10_shineFrom 7 none) ({ frames := 2, cells := 0, slots := 0, locals := 53 } : Room) (dk_Pc g D (dg_w g shX o rfX S) sz [.ref (o + 214), .int a1]) (va_Qv (fun S' => CX o S' ∧ dg_sm shX [(36, 4)] [40, 41] S S' ∧ (∃ c : Int32, S'.1 214 4 = .int c ∧ (c).toInt + (dk_cnt (S'.2.1 218) 1000 72 : Int) ≤ 72) ∧ Z2X S' ∧ (S' = F_w_shineFrom o S a1) ∧ True) (dg_B g D shX o rfX) (dg_A o shX.length sz)) 0 0 (dg_A o shX.length sz) := by
  refine dg_met (cc := cX10_shineFrom) (maxL := 7) (ret := none) (dk_dq rfl) rfl (Nat.le_of_ble_eq_true rfl) ?_
  intro p e s m args below meth c A hAe harg hx hb hr hml hts hown hlocks hin hP K hS hA1 hA ST hsz ls hl
  rw [← hAe]
  have F : CallFix p m c cX10_shineFrom 7 s args (bw yX10_shineFrom cX10_shineFrom 7 none) RX10 := ⟨hx, hb, hml, hown, hts⟩
  have hl : lv_has ls 7 [(0, .ref (o + 214)), (1, .int a1)] := hl
  have M_0 : dg_sm shX [(36, 4)] [40, 41] S S := dg_sm.rf
  obtain ⟨⟨sd, hZs, hTs⟩, -⟩ := id ST
  refine va_getsN (host := RX11) hx hb hZs hS hown (va_Nw.use rfl (K.2.1 _ (List.mem_of_getElem? (i := 12) rfl))) (fun _ h9 => h9) dX10_shineFrom_0 ?_
  refine lv_astore_n (lv' := [(2, .ref sd), (0, .ref (o + 214)), (1, .int a1)]) hx hb dX10_shineFrom_3 rfl hl (dk_dq rfl) rfl (fun ls hl => ?_)
  refine lv_aload_n hx hb dX10_shineFrom_4 rfl (lv_at hl 0 rfl) ?_
  refine va_tlen hx hb hTs hS (v := 4) rfl dX10_shineFrom_5 ?_
  refine lv_istore_n (lv' := [(3, .int 4), (2, .ref sd), (0, .ref (o + 214)), (1, .int a1)]) hx hb dX10_shineFrom_6 rfl hl (dk_dq rfl) rfl (fun ls hl => ?_)
  refine lv_iconst (v := 0) hx hb dX10_shineFrom_7 (by decide +kernel) ?_
  refine lv_istore (lv' := [(4, .int 0), (3, .int 4), (2, .ref sd), (0, .ref (o + 214)), (1, .int a1)]) hx hb dX10_shineFrom_8 hl (dk_dq rfl) rfl (fun ls hl => ?_)
  have L_130 : ∀ (n : Nat) (x_127 : Int32) (x_128 : Int32), (0 ≤ (x_127).toInt ∧ (x_127).toInt ≤ 4) → (0 ≤ (x_128).toInt ∧ (x_128).toInt ≤ 72) → ((5 - (x_127).toInt).toNat < n) → ∀ S_129 : dg_S, CX o S_129 → dg_sm shX [(36, 4)] [40, 41] S S_129 → S_129.1 214 4 = .int x_128 → Z2X S_129 → ((x_128).toInt + (dk_cnt (S_129.2.1 218) 1000 72 : Int) ≤ 72) → (F_w_shineFrom o S a1 = lp (F_w_shineFrom_B1 a1 fx o S) S n (x_127, x_128, S_129)) → ∀ (H : Heap) (locs : List Loc), va_P D vwCl (dg_w g shX o rfX S_129) H → va_S A s.heap H locs → ∀ ls : Array Slot, lv_has ls 7 [(4, .int x_127), (3, .int 4), (2, .ref sd), (0, .ref (o + 214)), (1, .int a1)] → W p l e ({ frames := 2, cells := 0, slots := 0, locals := 53 } : Room) s m args below meth c H locs 0 0 (MQ below (va_Qv (fun S' => CX o S' ∧ dg_sm shX [(36, 4)] [40, 41] S S' ∧ (∃ c : Int32, S'.1 214 4 = .int c ∧ (c).toInt + (dk_cnt (S'.2.1 218) 1000 72 : Int) ≤ 72) ∧ Z2X S' ∧ (S' = F_w_shineFrom o S a1) ∧ True) (dg_B g D shX o rfX) A) args s 0 0 A) (F0 m 10 ls []) := by
    as_aux_lemma =>
      intro n
      induction n with
      | zero =>
        intro x_127 x_128 b_x_127 b_x_128 hmu S_129 I_129 M_129 ff_129_4_214 Z2_129 srel_129_0 hF_1 H locs hP hS ls hl
        omega
      | succ n ih =>
        as_aux_lemma =>
          intro x_127 x_128 b_x_127 b_x_128 hmu S_129 I_129 M_129 ff_129_4_214 Z2_129 srel_129_0 hF_1 H locs hP hS ls hl
          refine lv_iload hx hb dX10_shineFrom_10 (lv_at hl 0 rfl) ?_
          refine lv_iload_n hx hb dX10_shineFrom_12 rfl (lv_at hl 1 rfl) ?_
          refine lv_icmp_ge (tgt := 93) hx hb dX10_shineFrom_13 (dk_dq rfl) (fun c_131 => ?_) (fun c_131 => ?_)
          · have jc_131 := dk_gec (k := 4) (by decide +kernel) c_131
            refine W.widen (k := 0) (n := 0) (Nat.le_of_ble_eq_true rfl) (Nat.le_of_ble_eq_true rfl) ?_
            exact dg_vret hx hb hr hlocks hP hS ⟨I_129, M_129, ⟨x_128, ff_129_4_214, by omega⟩, Z2_129, (Eq.symm (lp_r hF_1 (F_w_shineFrom_p0 c_131))), trivial⟩ dX10_shineFrom_93
          · as_aux_lemma =>
              have jc_131 := dk_ngec (k := 4) (by decide +kernel) c_131
              refine lv_aload_n hx hb dX10_shineFrom_16 rfl (lv_at hl 2 rfl) ?_
              refine lv_iload hx hb dX10_shineFrom_17 (lv_at hl 0 rfl) ?_
              have hin_132 : vp_in x_127 4 := (dk_inv2 (by omega))
              obtain ⟨x_133, ex_133, jx_133⟩ := dk_side_at hin_132
              refine va_ti hx hb hTs hS hin_132 ex_133 dX10_shineFrom_19 ?_
              refine lv_istore (lv' := [(5, .int x_133), (4, .int x_127), (3, .int 4), (2, .ref sd), (0, .ref (o + 214)), (1, .int a1)]) hx hb dX10_shineFrom_20 hl (dk_dq rfl) rfl (fun ls hl => ?_)
              refine lv_iload_n hx hb dX10_shineFrom_22 rfl (lv_at hl 5 rfl) ?_
              refine lv_iload hx hb dX10_shineFrom_23 (lv_at hl 0 rfl) ?_
              refine lv_iadd hx hb dX10_shineFrom_25 ?_
              refine lv_topi (fun x_134 ex_134 => ?_)
              have jx_134 : (x_134).toInt = (a1).toInt + (x_133).toInt := by rw [ex_134]; exact dk_addT2 rfl rfl (by omega)
              refine lv_istore (lv' := [(6, .int x_134), (5, .int x_133), (4, .int x_127), (3, .int 4), (2, .ref sd), (0, .ref (o + 214)), (1, .int a1)]) hx hb dX10_shineFrom_26 hl (dk_dq rfl) rfl (fun ls hl => ?_)
              refine lv_aload_n hx hb dX10_shineFrom_28 rfl (lv_at hl 5 rfl) ?_
              refine dg_get (C := RX10) (T := TX10) (N := 13) hx hb hts (fun w h => bw_mem (wU_X10 w h)) hown K hP sX_214 rfl 2 (dk_dq rfl) (hts _ (bw_mem wB_576)) (fun _ h9 => h9) (v := .ref (o + 218)) (show S_129.1 214 2 = .ref (o + 218) from dg_I.rel (d := 4) I_129 sX_214 (by decide +kernel)) dX10_shineFrom_29 ?_
              refine lv_iload hx hb dX10_shineFrom_32 (lv_at hl 0 rfl) ?_
              have hin_135 : vp_in x_134 72 := (dk_inv2 (by omega))
              refine dg_iald hx hb K hP sX_218 hin_135 dX10_shineFrom_34 (fun x_136 ex_136 => ?_)
              refine lv_sipush (v := 1000) hx hb dX10_shineFrom_35 (by decide +kernel) ?_
              refine lv_icmp_ne (tgt := 87) hx hb dX10_shineFrom_38 (dk_dq rfl) (fun c_137 => ?_) (fun c_137 => ?_)
              · have jc_137 := dk_neqc (k := 1000) (by decide +kernel) c_137
                obtain ⟨x_138, ex_138⟩ : ∃ z, z = x_127 + 1 := ⟨_, rfl⟩
                have jx_138 : (x_138).toInt = (x_127).toInt + 1 := by rw [ex_138]; exact dk_addT2 rfl (by decide +kernel) (by omega)
                refine lv_iinc (v := x_138) (lv' := [(4, .int x_138), (6, .int x_134), (5, .int x_133), (3, .int 4), (2, .ref sd), (0, .ref (o + 214)), (1, .int a1)]) hx hb dX10_shineFrom_87 hl (k := 2) rfl (by rw [ex_138]; rfl) (dk_dq rfl) rfl (fun ls hl => ?_)
                refine lv_goto (tgt := 10) hx hb dX10_shineFrom_90 (dk_dq rfl) ?_
                exact ih x_138 x_128 (by omega) (by omega) (by first | exact mu_lt hmu (by omega) (by omega) | omega) S_129 I_129 M_129 ff_129_4_214 Z2_129 (by omega) (lp_l hF_1 (F_w_shineFrom_p1 c_131 (zV_eq ex_133) ex_134 (Eq.symm ex_136.symm) c_137 ex_138)) _ _ hP hS _ (lv_sub hl [0, 3, 4, 5, 6] rfl)
              · as_aux_lemma =>
                  have jc_137 := dk_eqc (k := 1000) (by decide +kernel) c_137
                  refine lv_aload_n hx hb dX10_shineFrom_41 rfl (lv_at hl 5 rfl) ?_
                  refine dg_get (C := RX10) (T := TX10) (N := 13) hx hb hts (fun w h => bw_mem (wU_X10 w h)) hown K hP sX_214 rfl 2 (dk_dq rfl) (hts _ (bw_mem wB_576)) (fun _ h9 => h9) (v := .ref (o + 218)) (show S_129.1 214 2 = .ref (o + 218) from dg_I.rel (d := 4) I_129 sX_214 (by decide +kernel)) dX10_shineFrom_42 ?_
                  refine lv_iload hx hb dX10_shineFrom_45 (lv_at hl 0 rfl) ?_
                  refine lv_aload_n hx hb dX10_shineFrom_47 rfl (lv_at hl 5 rfl) ?_
                  refine dg_get (C := RX10) (T := TX10) (N := 13) hx hb hts (fun w h => bw_mem (wU_X10 w h)) hown K hP sX_214 rfl 1 (dk_dq rfl) (hts _ (bw_mem wB_577)) (fun _ h9 => h9) (v := .ref (o + 217)) (show S_129.1 214 1 = .ref (o + 217) from dg_I.rel (d := 3) I_129 sX_214 (by decide +kernel)) dX10_shineFrom_48 ?_
                  refine lv_iload_n hx hb dX10_shineFrom_51 rfl (lv_at hl 6 rfl) ?_
                  have hin_139 : vp_in a1 72 := (dk_inv2 (by omega))
                  refine dg_iald hx hb K hP sX_217 hin_139 dX10_shineFrom_52 (fun y_140 ey_140 => ?_)
                  obtain rfl : fx = y_140 := ((ey_140.trans (congrFun (M_129.2 217 _ sX_217 (dk_dq rfl)).1 _)).trans f_fx).symm
                  have hin_141 : vp_in x_134 72 := (dk_inv2 (by omega))
                  refine dg_iast hx hb K hP hS hA1 sX_218 hin_141 dX10_shineFrom_53 (fun S_142 e_142 H locs hP hS => ?_)
                  have I_142 := dg_I.uf0 I_129 e_142 sX_218 (by decide +kernel)
                  have M_142 := dg_sm.uf M_129 e_142 sX_218 (dk_dq rfl)
                  have q_142 := (show S_142.2.1 218 = upd (S_129.2.1 218) (x_134 : Int32).toNatClampNeg fx from dg_uf_at e_142)
                  have jc_142 : dk_cnt (S_142.2.1 218) 1000 72 + 1 = dk_cnt (S_129.2.1 218) 1000 72 := dk_cnt_hit (xr := x_136) hin_141 (ex_136.symm).symm (by omega) (by omega) q_142
                  refine lv_aload_n hx hb dX10_shineFrom_54 rfl (lv_at hl 5 rfl) ?_
                  obtain ⟨d_143, hk_d_143, f_d_143⟩ := dg_I.one (i := 214) (k := 7) (d := 1) I sX_214 (by decide +kernel)
                  have hk_d_143 : pX d_143 := hk_d_143
                  refine dg_get (C := RX10) (T := TX10) (N := 13) hx hb hts (fun w h => bw_mem (wU_X10 w h)) hown K hP sX_214 rfl 7 (dk_dq rfl) (hts _ (bw_mem wB_578)) (fun _ h9 => h9) (v := .ref (o + d_143)) (((dg_uf_F e_142 214 7).trans (M_129.1 214 7 _ sX_214 (dk_dq rfl))).trans f_d_143) dX10_shineFrom_55 ?_
                  refine lv_iload hx hb dX10_shineFrom_58 (lv_at hl 0 rfl) ?_
                  refine dg_calli hS hA1 hA (va_runV (As := [.int x_134]) (rest := []) F (c_p_isSolid l g D o S_142 d_143 hk_d_143 x_134 (by omega) ((dg_FG.tr (dg_FG.sm M_129 (dk_dq rfl)) (dg_FG.uf e_142 sX_218 (dk_dq rfl))) d_143 hk_d_143 (Z3 d_143 hk_d_143 f_d_143)) I_142 H.size) (cwV 1 hts (bw_V wB_579 wB_491 wB_492 wB_493 wB_489) rfl rfl rfl (by decide +kernel) ⟨Nat.le_of_ble_eq_true rfl, Nat.le_of_ble_eq_true rfl⟩) (dg_preV (pX_0 d_143 hk_d_143) rfl K ST hP hS hA1 hA) rfl rfl hl.1 rfl (lv_room (Nat.le_of_ble_eq_true rfl)) dX10_shineFrom_60 ⟨Nat.le_of_ble_eq_true rfl, Nat.le_of_ble_eq_true rfl⟩) (fun x_144 S_145 hw_145 H locs hP hS => ?_)
                  rw [hw_145.1] at hP
                  obtain ⟨hq_145, w_145_0, w_145_1, w_145_2, w_145_3, -⟩ := hw_145
                  rw [hq_145] at w_145_2
                  have w_145_0 : 0 ≤ (x_144).toInt ∧ (x_144).toInt ≤ 1 := w_145_0
                  have w_145_1 : (x_144).toInt = 1 → (8 ≤ (x_134).toInt ∧ (x_134).toInt ≤ 63) := w_145_1
                  obtain ⟨x_146, f_x_146⟩ : ∃ x, S_142.2.1 (d_143 + 1) (x_134 : Int32).toNatClampNeg = x := ⟨_, rfl⟩
                  have hin_147 : vp_in (x_134 : Int32) 72 := (dk_inv2 (by omega))
                  have b_x_146 := dg_c0_at (dg_I.cel0 (lo := 0) (hi := 255) I_142 (pX_1 d_143 hk_d_143) (by decide +kernel)) hin_147 f_x_146.symm
                  have w_145_2 : (x_144).toInt = 1 → (x_146).toInt ≤ 9 := w_145_2 x_146 f_x_146
                  refine lv_if_eq (tgt := 87) hx hb dX10_shineFrom_63 (dk_dq rfl) (fun c_148 => ?_) (fun c_148 => ?_)
                  · have jc_148 := dk_eqc (k := 0) (by decide +kernel) c_148
                    obtain ⟨x_149, ex_149⟩ : ∃ z, z = x_127 + 1 := ⟨_, rfl⟩
                    have jx_149 : (x_149).toInt = (x_127).toInt + 1 := by rw [ex_149]; exact dk_addT2 rfl (by decide +kernel) (by omega)
                    refine lv_iinc (v := x_149) (lv' := [(4, .int x_149), (6, .int x_134), (5, .int x_133), (3, .int 4), (2, .ref sd), (0, .ref (o + 214)), (1, .int a1)]) hx hb dX10_shineFrom_87 hl (k := 2) rfl (by rw [ex_149]; rfl) (dk_dq rfl) rfl (fun ls hl => ?_)
                    refine lv_goto (tgt := 10) hx hb dX10_shineFrom_90 (dk_dq rfl) ?_
                    exact ih x_149 x_128 (by omega) (by omega) (by first | exact mu_lt hmu (by omega) (by omega) | omega) S_142 I_142 M_142 ((dg_uf_F e_142 214 4).trans ff_129_4_214) (Z2X.keep Z2_129 (dg_sm.uf (WF := []) (WA := [40]) dg_sm.rf e_142 sX_218 (dk_dq rfl)) (dk_dq rfl) (dk_dq rfl)) (by omega) (lp_l hF_1 (F_w_shineFrom_p2 c_131 (zV_eq ex_133) ex_134 (Eq.symm ex_136.symm) c_137 e_142 (zR_eq f_d_143) w_145_3 c_148 ex_149)) _ _ hP hS _ (lv_sub hl [0, 3, 4, 5, 6] rfl)
                  · as_aux_lemma =>
                      have jc_148 := dk_neqc (k := 0) (by decide +kernel) c_148
                      refine lv_aload_n hx hb dX10_shineFrom_66 rfl (lv_at hl 5 rfl) ?_
                      refine dg_get (C := RX10) (T := TX10) (N := 13) hx hb hts (fun w h => bw_mem (wU_X10 w h)) hown K hP sX_214 rfl 3 (dk_dq rfl) (hts _ (bw_mem wB_580)) (fun _ h9 => h9) (v := .ref (o + 219)) (show S_142.1 214 3 = .ref (o + 219) from dg_I.rel (d := 5) I_142 sX_214 (by decide +kernel)) dX10_shineFrom_67 ?_
                      refine lv_aload_n hx hb dX10_shineFrom_70 rfl (lv_at hl 5 rfl) ?_
                      refine dg_get (C := RX10) (T := TX10) (N := 13) hx hb hts (fun w h => bw_mem (wU_X10 w h)) hown K hP sX_214 rfl 4 (dk_dq rfl) (hts _ (bw_mem wB_581)) (fun _ h9 => h9) (v := .int x_128) ((dg_uf_F e_142 214 4).trans ff_129_4_214) dX10_shineFrom_71 ?_
                      refine lv_iload hx hb dX10_shineFrom_74 (lv_at hl 0 rfl) ?_
                      have hin_150 : vp_in x_128 72 := (dk_inv2 (by omega))
                      refine dg_iast hx hb K hP hS hA1 sX_219 hin_150 dX10_shineFrom_76 (fun S_151 e_151 H locs hP hS => ?_)
                      have I_151 := dg_I.ufu (lo := 0) (hi := 63) I_142 e_151 sX_219 (by decide +kernel) (show 0 ≤ (x_134).toInt ∧ (x_134).toInt ≤ 63 from (by omega))
                      have M_151 := dg_sm.uf M_142 e_151 sX_219 (dk_dq rfl)
                      refine lv_aload_n hx hb dX10_shineFrom_77 rfl (lv_at hl 5 rfl) ?_
                      refine lv_dup hx hb dX10_shineFrom_78 rfl ?_
                      refine dg_get (C := RX10) (T := TX10) (N := 13) hx hb hts (fun w h => bw_mem (wU_X10 w h)) hown K hP sX_214 rfl 4 (dk_dq rfl) (hts _ (bw_mem wB_581)) (fun _ h9 => h9) (v := .int x_128) (((dg_uf_F e_151 214 4).trans (dg_uf_F e_142 214 4)).trans ff_129_4_214) dX10_shineFrom_79 ?_
                      refine lv_iconst (v := 1) hx hb dX10_shineFrom_82 (by decide +kernel) ?_
                      refine lv_iadd hx hb dX10_shineFrom_83 ?_
                      refine lv_topi (fun x_152 ex_152 => ?_)
                      have jx_152 : (x_152).toInt = (x_128).toInt + 1 := by rw [ex_152]; exact dk_addT2 rfl (by decide +kernel) (by omega)
                      refine dg_put (ci := 10) (v := .int x_152) (ty := tyX10 4) (C := RX10) (T := TX10) (N := 13) hx hb hts (fun w h => bw_mem (wU_X10 w h)) tyX10 tyX10_ok nmX10 hown K hP hS hA1 sX_214 rfl 4 (dk_dq rfl) (hts _ (bw_mem wB_581)) (fun _ h9 => h9) rfl (by decide +kernel) rfl rfl dX10_shineFrom_84 (fun S_153 e_153 H locs hP hS => ?_)
                      have I_153 := dg_I.uFi (lo := 0) (hi := 72) I_151 e_153 sX_214 (by decide +kernel) (show 0 ≤ (x_152).toInt ∧ (x_152).toInt ≤ 72 from (by omega))
                      have M_153 := dg_sm.uF M_151 e_153 sX_214 (dk_dq rfl)
                      have Z2_153 := Z2X.push (Z2X.keep Z2_129 (dg_sm.uf (WF := []) (WA := [40]) dg_sm.rf e_142 sX_218 (dk_dq rfl)) (dk_dq rfl) (dk_dq rfl)) ((dg_uf_F e_142 214 4).trans ff_129_4_214) (by omega) e_151 (by omega) e_153 (by omega)
                      obtain ⟨x_154, ex_154⟩ : ∃ z, z = x_127 + 1 := ⟨_, rfl⟩
                      have jx_154 : (x_154).toInt = (x_127).toInt + 1 := by rw [ex_154]; exact dk_addT2 rfl (by decide +kernel) (by omega)
                      refine lv_iinc (v := x_154) (lv' := [(4, .int x_154), (6, .int x_134), (5, .int x_133), (3, .int 4), (2, .ref sd), (0, .ref (o + 214)), (1, .int a1)]) hx hb dX10_shineFrom_87 hl (k := 2) rfl (by rw [ex_154]; rfl) (dk_dq rfl) rfl (fun ls hl => ?_)
                      refine lv_goto (tgt := 10) hx hb dX10_shineFrom_90 (dk_dq rfl) ?_
                      exact ih x_154 x_152 (by omega) (by omega) (by first | exact mu_lt hmu (by omega) (by omega) | omega) S_153 I_153 M_153 (dg_uF_at e_153) Z2_153 (by (try rw [(show S_153.2.1 218 = S_142.2.1 218 from ((dg_uF_f e_153 218).trans (dg_uf_ne e_151 (dk_dq rfl))))]); omega) (lp_l hF_1 (F_w_shineFrom_p3 c_131 (zV_eq ex_133) ex_134 (Eq.symm ex_136.symm) c_137 e_142 (zR_eq f_d_143) w_145_3 c_148 e_151 ex_152 e_153 ex_154)) _ _ hP hS _ (lv_sub hl [0, 3, 4, 5, 6] rfl)
  have hz_155 : (0 : Int32).toInt = 0 := by decide +kernel
  have hz_156 : (0 : Int32).toInt = 0 := by decide +kernel
  exact L_130 ((5 - ((0 : Int32)).toInt).toNat + 1) 0 c0 (by decide +kernel) (by omega) (by first | exact mu_lt hmu (by omega) (by omega) | omega) S I M_0 f_c0 Z2 (by omega) (F_w_shineFrom_p4 (zI_eq f_c0) (Eq.symm f_fx)) _ _ hP hS _ (lv_sub hl [0, 1, 2, 3, 4] rfl)
noncomputable def F_w_stepFrom_B1 (a1 : Int32) (o : Nat) (S : dg_S) : (Int32 × Int32 × dg_S) → (Int32 × Int32 × dg_S) ⊕ (dg_S × Int32) := fun w9 => match w9 with | (x_117, x_118, S_119) => (if (4 : Int32) ≤ x_117 then (Sum.inr ((S_119, x_118))) else let x_123 : Int32 := zV (dk_sides (x_117 : Int32).toNatClampNeg); let x_124 : Int32 := a1 + x_123; let x_126 : Int32 := S_119.2.1 217 (x_124 : Int32).toNatClampNeg; (if x_126 = (-1 : Int32) then let d_129 : Nat := zR o S 214 7; let x_130 : Int32 := F_p_isOpen o S_119 d_129 x_124; (if x_130 = (0 : Int32) then let x_133 : Int32 := x_117 + 1; (Sum.inl (x_133, x_118, S_119)) else let x_135 : Int32 := S_119.2.1 217 (a1 : Int32).toNatClampNeg; let x_136 : Int32 := x_135 + (1 : Int32); let S_138 : dg_S := dg_uf S_119 217 (upd (S_119.2.1 217) (x_124 : Int32).toNatClampNeg x_136); let S_140 : dg_S := dg_uf S_138 220 (upd (S_138.2.1 220) (x_118 : Int32).toNatClampNeg x_124); let x_141 : Int32 := x_118 + 1; let x_142 : Int32 := x_117 + 1; (Sum.inl (x_142, x_141, S_140))) else let x_128 : Int32 := x_117 + 1; (Sum.inl (x_128, x_118, S_119))))
noncomputable def F_w_stepFrom (o : Nat) (S : dg_S) (a1 : Int32) (a2 : Int32) : dg_S × Int32 := (lp (F_w_stepFrom_B1 a1 o S) (S, (0 : Int32)) ((5 - ((0 : Int32)).toInt).toNat + 1) ((0 : Int32), a2, S))
theorem F_w_stepFrom_p0 {a1 : Int32} {o : Nat} {S : dg_S} {x_117 : Int32} {x_118 : Int32} {S_119 : dg_S} (h0 : (4 : Int32) ≤ x_117) : (F_w_stepFrom_B1 a1 o S) (x_117, x_118, S_119) = Sum.inr ((S_119, x_118)) := (Eq.trans (if_pos h0) rfl)
theorem F_w_stepFrom_p1 {a1 : Int32} {o : Nat} {S : dg_S} {x_117 : Int32} {x_118 : Int32} {S_119 : dg_S} {x_128 : Int32} {x_123 : Int32} {x_124 : Int32} {x_126 : Int32} (h0 : ¬ ((4 : Int32) ≤ x_117)) (h1 : x_123 = zV (dk_sides (x_117 : Int32).toNatClampNeg)) (h2 : x_124 = a1 + x_123) (h3 : x_126 = S_119.2.1 217 (x_124 : Int32).toNatClampNeg) (h4 : ¬ (x_126 = (-1 : Int32))) (h5 : x_128 = x_117 + 1) : (F_w_stepFrom_B1 a1 o S) (x_117, x_118, S_119) = Sum.inl (x_128, x_118, S_119) := by
  replace h1 := Eq.symm h1
  subst h1
  replace h2 := Eq.symm h2
  subst h2
  replace h3 := Eq.symm h3
  subst h3
  replace h5 := Eq.symm h5
  subst h5
  exact (Eq.trans (if_neg h0) (Eq.trans (if_neg h4) rfl))
theorem F_w_stepFrom_p2 {a1 : Int32} {o : Nat} {S : dg_S} {x_117 : Int32} {x_118 : Int32} {S_119 : dg_S} {x_133 : Int32} {x_123 : Int32} {x_124 : Int32} {x_126 : Int32} {d_129 : Nat} {x_130 : Int32} (h0 : ¬ ((4 : Int32) ≤ x_117)) (h1 : x_123 = zV (dk_sides (x_117 : Int32).toNatClampNeg)) (h2 : x_124 = a1 + x_123) (h3 : x_126 = S_119.2.1 217 (x_124 : Int32).toNatClampNeg) (h4 : x_126 = (-1 : Int32)) (h5 : d_129 = zR o S 214 7) (h6 : x_130 = F_p_isOpen o S_119 d_129 x_124) (h7 : x_130 = (0 : Int32)) (h8 : x_133 = x_117 + 1) : (F_w_stepFrom_B1 a1 o S) (x_117, x_118, S_119) = Sum.inl (x_133, x_118, S_119) := by
  replace h1 := Eq.symm h1
  subst h1
  replace h2 := Eq.symm h2
  subst h2
  replace h3 := Eq.symm h3
  subst h3
  replace h5 := Eq.symm h5
  subst h5
  replace h6 := Eq.symm h6
  subst h6
  replace h8 := Eq.symm h8
  subst h8
  exact (Eq.trans (if_neg h0) (Eq.trans (if_pos h4) (Eq.trans (if_pos h7) rfl)))
theorem F_w_stepFrom_p3 {a1 : Int32} {o : Nat} {S : dg_S} {x_117 : Int32} {x_118 : Int32} {S_119 : dg_S} {x_142 : Int32} {x_141 : Int32} {S_140 : dg_S} {x_123 : Int32} {x_124 : Int32} {x_126 : Int32} {d_129 : Nat} {x_130 : Int32} {x_135 : Int32} {x_136 : Int32} {S_138 : dg_S} (h0 : ¬ ((4 : Int32) ≤ x_117)) (h1 : x_123 = zV (dk_sides (x_117 : Int32).toNatClampNeg)) (h2 : x_124 = a1 + x_123) (h3 : x_126 = S_119.2.1 217 (x_124 : Int32).toNatClampNeg) (h4 : x_126 = (-1 : Int32)) (h5 : d_129 = zR o S 214 7) (h6 : x_130 = F_p_isOpen o S_119 d_129 x_124) (h7 : ¬ (x_130 = (0 : Int32))) (h8 : x_135 = S_119.2.1 217 (a1 : Int32).toNatClampNeg) (h9 : x_136 = x_135 + (1 : Int32)) (h10 : S_138 = dg_uf S_119 217 (upd (S_119.2.1 217) (x_124 : Int32).toNatClampNeg x_136)) (h11 : S_140 = dg_uf S_138 220 (upd (S_138.2.1 220) (x_118 : Int32).toNatClampNeg x_124)) (h12 : x_141 = x_118 + 1) (h13 : x_142 = x_117 + 1) : (F_w_stepFrom_B1 a1 o S) (x_117, x_118, S_119) = Sum.inl (x_142, x_141, S_140) := by
  replace h1 := Eq.symm h1
  subst h1
  replace h2 := Eq.symm h2
  subst h2
  replace h3 := Eq.symm h3
  subst h3
  replace h5 := Eq.symm h5
  subst h5
  replace h6 := Eq.symm h6
  subst h6
  replace h8 := Eq.symm h8
  subst h8
  replace h9 := Eq.symm h9
  subst h9
  replace h10 := Eq.symm h10
  subst h10
  replace h11 := Eq.symm h11
  subst h11
  replace h12 := Eq.symm h12
  subst h12
  replace h13 := Eq.symm h13
  subst h13
  exact (Eq.trans (if_neg h0) (Eq.trans (if_pos h4) (Eq.trans (if_neg h7) rfl)))
theorem F_w_stepFrom_p4 {o : Nat} {S : dg_S} {a1 : Int32} {a2 : Int32}  : F_w_stepFrom o S a1 a2 = lp (F_w_stepFrom_B1 a1 o S) (S, (0 : Int32)) ((5 - ((0 : Int32)).toInt).toNat + 1) ((0 : Int32), a2, S) := rfl
set_option maxHeartbeats 8000000 in
set_option maxRecDepth 100000 in
theorem c_w_stepFrom (l : Launch) (g : Nat → ClassId) (D : va_G) (o : Nat) (S : dg_S) (a1 : Int32) (b_a1 : 8 ≤ (a1).toInt ∧ (a1).toInt ≤ 63) (a2 : Int32) (b_a2 : 1 ≤ (a2).toInt ∧ (a2).toInt ≤ 72) (x_cf : (a2).toInt + (dk_cnt (S.2.1 217) (-1) 72 : Int) ≤ 72) (ZF : ZFX S) (I : CX o S) (sz : Nat) : Met l yX10_stepFrom (bw yX10_stepFrom cX10_stepFrom 9 (some .int)) ({ frames := 2, cells := 0, slots := 0, locals := 53 } : Room) (dk_Pc g D (dg_w g shX o rfX S) sz [.ref (o + 214), .int a1, .int a2]) (va_Qi (fun (r : Int32) S' => CX o S' ∧ dg_sm shX [] [39, 42] S S' ∧ (1 ≤ (r).toInt ∧ (r).toInt ≤ 72) ∧ ((r).toInt + (dk_cnt (S'.2.1 217) (-1) 72 : Int) ≤ 72) ∧ ZFX S' ∧ (S' = (F_w_stepFrom o S a1 a2).1 ∧ r = (F_w_stepFrom o S a1 a2).2) ∧ True) (dg_B g D shX o rfX) (dg_A o shX.length sz)) 0 0 (dg_A o shX.length sz) := by
  refine dg_met (cc := cX10_stepFrom) (maxL := 9) (ret := (some .int)) (dk_dq rfl) rfl (Nat.le_of_ble_eq_true rfl) ?_
  intro p e s m args below meth c A hAe harg hx hb hr hml hts hown hlocks hin hP K hS hA1 hA ST hsz ls hl
  rw [← hAe]
  have F : CallFix p m c cX10_stepFrom 9 s args (bw yX10_stepFrom cX10_stepFrom 9 (some .int)) RX10 := ⟨hx, hb, hml, hown, hts⟩
  have hl : lv_has ls 9 [(0, .ref (o + 214)), (1, .int a1), (2, .int a2)] := hl
  have M_0 : dg_sm shX [] [39, 42] S S := dg_sm.rf
  obtain ⟨⟨sd, hZs, hTs⟩, -⟩ := id ST
  refine lv_iload_n hx hb dX10_stepFrom_0 rfl (lv_at hl 2 rfl) ?_
  refine lv_istore_n (lv' := [(3, .int a2), (0, .ref (o + 214)), (1, .int a1), (2, .int a2)]) hx hb dX10_stepFrom_1 rfl hl (dk_dq rfl) rfl (fun ls hl => ?_)
  refine va_getsN (host := RX11) hx hb hZs hS hown (va_Nw.use rfl (K.2.1 _ (List.mem_of_getElem? (i := 12) rfl))) (fun _ h9 => h9) dX10_stepFrom_2 ?_
  refine lv_astore (lv' := [(4, .ref sd), (3, .int a2), (0, .ref (o + 214)), (1, .int a1), (2, .int a2)]) hx hb dX10_stepFrom_5 hl (dk_dq rfl) rfl (fun ls hl => ?_)
  refine lv_aload hx hb dX10_stepFrom_7 (lv_at hl 0 rfl) ?_
  refine va_tlen hx hb hTs hS (v := 4) rfl dX10_stepFrom_9 ?_
  refine lv_istore (lv' := [(5, .int 4), (4, .ref sd), (3, .int a2), (0, .ref (o + 214)), (1, .int a1), (2, .int a2)]) hx hb dX10_stepFrom_10 hl (dk_dq rfl) rfl (fun ls hl => ?_)
  refine lv_iconst (v := 0) hx hb dX10_stepFrom_12 (by decide +kernel) ?_
  refine lv_istore (lv' := [(6, .int 0), (5, .int 4), (4, .ref sd), (3, .int a2), (0, .ref (o + 214)), (1, .int a1), (2, .int a2)]) hx hb dX10_stepFrom_13 hl (dk_dq rfl) rfl (fun ls hl => ?_)
  have L_120 : ∀ (n : Nat) (x_117 : Int32) (x_118 : Int32), (0 ≤ (x_117).toInt ∧ (x_117).toInt ≤ 4) → (1 ≤ (x_118).toInt ∧ (x_118).toInt ≤ 72) → ((5 - (x_117).toInt).toNat < n) → ∀ S_119 : dg_S, CX o S_119 → dg_sm shX [] [39, 42] S S_119 → ZFX S_119 → ((x_118).toInt + (dk_cnt (S_119.2.1 217) (-1) 72 : Int) ≤ 72) → (F_w_stepFrom o S a1 a2 = lp (F_w_stepFrom_B1 a1 o S) (S, (0 : Int32)) n (x_117, x_118, S_119)) → ∀ (H : Heap) (locs : List Loc), va_P D vwCl (dg_w g shX o rfX S_119) H → va_S A s.heap H locs → ∀ ls : Array Slot, lv_has ls 9 [(6, .int x_117), (5, .int 4), (4, .ref sd), (3, .int x_118), (0, .ref (o + 214)), (1, .int a1), (2, .int a2)] → W p l e ({ frames := 2, cells := 0, slots := 0, locals := 53 } : Room) s m args below meth c H locs 0 0 (MQ below (va_Qi (fun (r : Int32) S' => CX o S' ∧ dg_sm shX [] [39, 42] S S' ∧ (1 ≤ (r).toInt ∧ (r).toInt ≤ 72) ∧ ((r).toInt + (dk_cnt (S'.2.1 217) (-1) 72 : Int) ≤ 72) ∧ ZFX S' ∧ (S' = (F_w_stepFrom o S a1 a2).1 ∧ r = (F_w_stepFrom o S a1 a2).2) ∧ True) (dg_B g D shX o rfX) A) args s 0 0 A) (F0 m 15 ls []) := by
    as_aux_lemma =>
      intro n
      induction n with
      | zero =>
        intro x_117 x_118 b_x_117 b_x_118 hmu S_119 I_119 M_119 ZF_119 srel_119_0 hF_1 H locs hP hS ls hl
        omega
      | succ n ih =>
        as_aux_lemma =>
          intro x_117 x_118 b_x_117 b_x_118 hmu S_119 I_119 M_119 ZF_119 srel_119_0 hF_1 H locs hP hS ls hl
          refine lv_iload hx hb dX10_stepFrom_15 (lv_at hl 0 rfl) ?_
          refine lv_iload hx hb dX10_stepFrom_17 (lv_at hl 1 rfl) ?_
          refine lv_icmp_ge (tgt := 90) hx hb dX10_stepFrom_19 (dk_dq rfl) (fun c_121 => ?_) (fun c_121 => ?_)
          · have jc_121 := dk_gec (k := 4) (by decide +kernel) c_121
            refine lv_iload_n hx hb dX10_stepFrom_90 rfl (lv_at hl 3 rfl) ?_
            refine W.widen (k := 0) (n := 0) (Nat.le_of_ble_eq_true rfl) (Nat.le_of_ble_eq_true rfl) ?_
            exact dg_iret hx hb hr hlocks rfl hP hS ⟨I_119, M_119, (by omega), (by omega), ZF_119, ⟨congrArg Prod.fst (Eq.symm (lp_r hF_1 (F_w_stepFrom_p0 c_121))), congrArg Prod.snd (Eq.symm (lp_r hF_1 (F_w_stepFrom_p0 c_121)))⟩, trivial⟩ dX10_stepFrom_91
          · as_aux_lemma =>
              have jc_121 := dk_ngec (k := 4) (by decide +kernel) c_121
              refine lv_aload hx hb dX10_stepFrom_22 (lv_at hl 2 rfl) ?_
              refine lv_iload hx hb dX10_stepFrom_24 (lv_at hl 0 rfl) ?_
              have hin_122 : vp_in x_117 4 := (dk_inv2 (by omega))
              obtain ⟨x_123, ex_123, jx_123⟩ := dk_side_at hin_122
              refine va_ti hx hb hTs hS hin_122 ex_123 dX10_stepFrom_26 ?_
              refine lv_istore (lv' := [(7, .int x_123), (6, .int x_117), (5, .int 4), (4, .ref sd), (3, .int x_118), (0, .ref (o + 214)), (1, .int a1), (2, .int a2)]) hx hb dX10_stepFrom_27 hl (dk_dq rfl) rfl (fun ls hl => ?_)
              refine lv_iload_n hx hb dX10_stepFrom_29 rfl (lv_at hl 6 rfl) ?_
              refine lv_iload hx hb dX10_stepFrom_30 (lv_at hl 0 rfl) ?_
              refine lv_iadd hx hb dX10_stepFrom_32 ?_
              refine lv_topi (fun x_124 ex_124 => ?_)
              have jx_124 : (x_124).toInt = (a1).toInt + (x_123).toInt := by rw [ex_124]; exact dk_addT2 rfl rfl (by omega)
              refine lv_istore (lv' := [(8, .int x_124), (7, .int x_123), (6, .int x_117), (5, .int 4), (4, .ref sd), (3, .int x_118), (0, .ref (o + 214)), (1, .int a1), (2, .int a2)]) hx hb dX10_stepFrom_33 hl (dk_dq rfl) rfl (fun ls hl => ?_)
              refine lv_aload_n hx hb dX10_stepFrom_35 rfl (lv_at hl 6 rfl) ?_
              refine dg_get (C := RX10) (T := TX10) (N := 13) hx hb hts (fun w h => bw_mem (wU_X10 w h)) hown K hP sX_214 rfl 1 (dk_dq rfl) (hts _ (bw_mem wB_577)) (fun _ h9 => h9) (v := .ref (o + 217)) (show S_119.1 214 1 = .ref (o + 217) from dg_I.rel (d := 3) I_119 sX_214 (by decide +kernel)) dX10_stepFrom_36 ?_
              refine lv_iload hx hb dX10_stepFrom_39 (lv_at hl 0 rfl) ?_
              have hin_125 : vp_in x_124 72 := (dk_inv2 (by omega))
              refine dg_iald hx hb K hP sX_217 hin_125 dX10_stepFrom_41 (fun x_126 ex_126 => ?_)
              have zf_x_126 := dk_far_at ZF_119 hin_125 ex_126
              refine lv_iconst (v := (-1)) hx hb dX10_stepFrom_42 (by decide +kernel) ?_
              refine lv_icmp_ne (tgt := 84) hx hb dX10_stepFrom_43 (dk_dq rfl) (fun c_127 => ?_) (fun c_127 => ?_)
              · have jc_127 := dk_neqc (k := (-1)) (by decide +kernel) c_127
                obtain ⟨x_128, ex_128⟩ : ∃ z, z = x_117 + 1 := ⟨_, rfl⟩
                have jx_128 : (x_128).toInt = (x_117).toInt + 1 := by rw [ex_128]; exact dk_addT2 rfl (by decide +kernel) (by omega)
                refine lv_iinc (v := x_128) (lv' := [(6, .int x_128), (8, .int x_124), (7, .int x_123), (5, .int 4), (4, .ref sd), (3, .int x_118), (0, .ref (o + 214)), (1, .int a1), (2, .int a2)]) hx hb dX10_stepFrom_84 hl (k := 2) rfl (by rw [ex_128]; rfl) (dk_dq rfl) rfl (fun ls hl => ?_)
                refine lv_goto (tgt := 15) hx hb dX10_stepFrom_87 (dk_dq rfl) ?_
                exact ih x_128 x_118 (by omega) (by omega) (by first | exact mu_lt hmu (by omega) (by omega) | omega) S_119 I_119 M_119 ZF_119 (by omega) (lp_l hF_1 (F_w_stepFrom_p1 c_121 (zV_eq ex_123) ex_124 (Eq.symm ex_126.symm) c_127 ex_128)) _ _ hP hS _ (lv_sub hl [0, 3, 4, 5, 6, 7, 8] rfl)
              · as_aux_lemma =>
                  have jc_127 := dk_eqc (k := (-1)) (by decide +kernel) c_127
                  refine lv_aload_n hx hb dX10_stepFrom_46 rfl (lv_at hl 6 rfl) ?_
                  obtain ⟨d_129, hk_d_129, f_d_129⟩ := dg_I.one (i := 214) (k := 7) (d := 1) I sX_214 (by decide +kernel)
                  have hk_d_129 : pX d_129 := hk_d_129
                  refine dg_get (C := RX10) (T := TX10) (N := 13) hx hb hts (fun w h => bw_mem (wU_X10 w h)) hown K hP sX_214 rfl 7 (dk_dq rfl) (hts _ (bw_mem wB_578)) (fun _ h9 => h9) (v := .ref (o + d_129)) ((M_119.1 214 7 _ sX_214 (dk_dq rfl)).trans f_d_129) dX10_stepFrom_47 ?_
                  refine lv_iload hx hb dX10_stepFrom_50 (lv_at hl 0 rfl) ?_
                  refine dg_calli hS hA1 hA (va_runV (As := [.int x_124]) (rest := []) F (c_p_isOpen l g D o S_119 d_129 hk_d_129 x_124 (by omega) I_119 H.size) (cwV 1 hts (bw_V wB_582 wB_496 wB_497 wB_493 wB_494) rfl rfl rfl (by decide +kernel) ⟨Nat.le_of_ble_eq_true rfl, Nat.le_of_ble_eq_true rfl⟩) (dg_preV (pX_0 d_129 hk_d_129) rfl K ST hP hS hA1 hA) rfl rfl hl.1 rfl (lv_room (Nat.le_of_ble_eq_true rfl)) dX10_stepFrom_52 ⟨Nat.le_of_ble_eq_true rfl, Nat.le_of_ble_eq_true rfl⟩) (fun x_130 S_131 hw_131 H locs hP hS => ?_)
                  rw [hw_131.1] at hP
                  obtain ⟨hq_131, w_131_0, w_131_1, w_131_2, -⟩ := hw_131
                  have w_131_0 : 0 ≤ (x_130).toInt ∧ (x_130).toInt ≤ 1 := w_131_0
                  have w_131_1 : (x_130).toInt = 1 → (8 ≤ (x_124).toInt ∧ (x_124).toInt ≤ 63) := w_131_1
                  refine lv_if_eq (tgt := 84) hx hb dX10_stepFrom_55 (dk_dq rfl) (fun c_132 => ?_) (fun c_132 => ?_)
                  · have jc_132 := dk_eqc (k := 0) (by decide +kernel) c_132
                    obtain ⟨x_133, ex_133⟩ : ∃ z, z = x_117 + 1 := ⟨_, rfl⟩
                    have jx_133 : (x_133).toInt = (x_117).toInt + 1 := by rw [ex_133]; exact dk_addT2 rfl (by decide +kernel) (by omega)
                    refine lv_iinc (v := x_133) (lv' := [(6, .int x_133), (8, .int x_124), (7, .int x_123), (5, .int 4), (4, .ref sd), (3, .int x_118), (0, .ref (o + 214)), (1, .int a1), (2, .int a2)]) hx hb dX10_stepFrom_84 hl (k := 2) rfl (by rw [ex_133]; rfl) (dk_dq rfl) rfl (fun ls hl => ?_)
                    refine lv_goto (tgt := 15) hx hb dX10_stepFrom_87 (dk_dq rfl) ?_
                    exact ih x_133 x_118 (by omega) (by omega) (by first | exact mu_lt hmu (by omega) (by omega) | omega) S_119 I_119 M_119 ZF_119 (by omega) (lp_l hF_1 (F_w_stepFrom_p2 c_121 (zV_eq ex_123) ex_124 (Eq.symm ex_126.symm) c_127 (zR_eq f_d_129) w_131_2 c_132 ex_133)) _ _ hP hS _ (lv_sub hl [0, 3, 4, 5, 6, 7, 8] rfl)
                  · as_aux_lemma =>
                      have jc_132 := dk_neqc (k := 0) (by decide +kernel) c_132
                      refine lv_aload_n hx hb dX10_stepFrom_58 rfl (lv_at hl 6 rfl) ?_
                      refine dg_get (C := RX10) (T := TX10) (N := 13) hx hb hts (fun w h => bw_mem (wU_X10 w h)) hown K hP sX_214 rfl 1 (dk_dq rfl) (hts _ (bw_mem wB_577)) (fun _ h9 => h9) (v := .ref (o + 217)) (show S_119.1 214 1 = .ref (o + 217) from dg_I.rel (d := 3) I_119 sX_214 (by decide +kernel)) dX10_stepFrom_59 ?_
                      refine lv_iload hx hb dX10_stepFrom_62 (lv_at hl 0 rfl) ?_
                      refine lv_aload_n hx hb dX10_stepFrom_64 rfl (lv_at hl 6 rfl) ?_
                      refine dg_get (C := RX10) (T := TX10) (N := 13) hx hb hts (fun w h => bw_mem (wU_X10 w h)) hown K hP sX_214 rfl 1 (dk_dq rfl) (hts _ (bw_mem wB_577)) (fun _ h9 => h9) (v := .ref (o + 217)) (show S_119.1 214 1 = .ref (o + 217) from dg_I.rel (d := 3) I_119 sX_214 (by decide +kernel)) dX10_stepFrom_65 ?_
                      refine lv_iload_n hx hb dX10_stepFrom_68 rfl (lv_at hl 7 rfl) ?_
                      have hin_134 : vp_in a1 72 := (dk_inv2 (by omega))
                      refine dg_iald hx hb K hP sX_217 hin_134 dX10_stepFrom_69 (fun x_135 ex_135 => ?_)
                      have zf_x_135 := dk_far_at ZF_119 hin_134 ex_135
                      refine lv_iconst (v := 1) hx hb dX10_stepFrom_70 (by decide +kernel) ?_
                      refine lv_iadd hx hb dX10_stepFrom_71 ?_
                      refine lv_topi (fun x_136 ex_136 => ?_)
                      have jx_136 : (x_136).toInt = (x_135).toInt + 1 := by rw [ex_136]; exact dk_addT2 rfl (by decide +kernel) (by omega)
                      have hin_137 : vp_in x_124 72 := (dk_inv2 (by omega))
                      refine dg_iast hx hb K hP hS hA1 sX_217 hin_137 dX10_stepFrom_72 (fun S_138 e_138 H locs hP hS => ?_)
                      have I_138 := dg_I.uf0 I_119 e_138 sX_217 (by decide +kernel)
                      have M_138 := dg_sm.uf M_119 e_138 sX_217 (dk_dq rfl)
                      have q_138 := (show S_138.2.1 217 = upd (S_119.2.1 217) (x_124 : Int32).toNatClampNeg x_136 from dg_uf_at e_138)
                      have jc_138 : dk_cnt (S_138.2.1 217) (-1) 72 + 1 = dk_cnt (S_119.2.1 217) (-1) 72 := dk_cnt_hit (xr := x_126) hin_137 (ex_126.symm).symm (by omega) (by omega) q_138
                      have ZF_138 : ZFX S_138 := dk_far_upd (xr := x_126) ZF_119 hin_137 (ex_126.symm).symm (by omega) (by omega) (by omega) q_138
                      refine lv_aload_n hx hb dX10_stepFrom_73 rfl (lv_at hl 6 rfl) ?_
                      refine dg_get (C := RX10) (T := TX10) (N := 13) hx hb hts (fun w h => bw_mem (wU_X10 w h)) hown K hP sX_214 rfl 5 (dk_dq rfl) (hts _ (bw_mem wB_583)) (fun _ h9 => h9) (v := .ref (o + 220)) (show S_138.1 214 5 = .ref (o + 220) from dg_I.rel (d := 6) I_138 sX_214 (by decide +kernel)) dX10_stepFrom_74 ?_
                      refine lv_iload_n hx hb dX10_stepFrom_77 rfl (lv_at hl 5 rfl) ?_
                      refine lv_iload hx hb dX10_stepFrom_78 (lv_at hl 0 rfl) ?_
                      have hin_139 : vp_in x_118 72 := (dk_inv2 (by omega))
                      refine dg_iast hx hb K hP hS hA1 sX_220 hin_139 dX10_stepFrom_80 (fun S_140 e_140 H locs hP hS => ?_)
                      have I_140 := dg_I.ufu (lo := 0) (hi := 63) I_138 e_140 sX_220 (by decide +kernel) (show 0 ≤ (x_124).toInt ∧ (x_124).toInt ≤ 63 from (by omega))
                      have M_140 := dg_sm.uf M_138 e_140 sX_220 (dk_dq rfl)
                      obtain ⟨x_141, ex_141⟩ : ∃ z, z = x_118 + 1 := ⟨_, rfl⟩
                      have jx_141 : (x_141).toInt = (x_118).toInt + 1 := by rw [ex_141]; exact dk_addT2 rfl (by decide +kernel) (by omega)
                      refine lv_iinc (v := x_141) (lv' := [(3, .int x_141), (8, .int x_124), (7, .int x_123), (6, .int x_117), (5, .int 4), (4, .ref sd), (0, .ref (o + 214)), (1, .int a1), (2, .int a2)]) hx hb dX10_stepFrom_81 hl (k := 5) rfl (by rw [ex_141]; rfl) (dk_dq rfl) rfl (fun ls hl => ?_)
                      obtain ⟨x_142, ex_142⟩ : ∃ z, z = x_117 + 1 := ⟨_, rfl⟩
                      have jx_142 : (x_142).toInt = (x_117).toInt + 1 := by rw [ex_142]; exact dk_addT2 rfl (by decide +kernel) (by omega)
                      refine lv_iinc (v := x_142) (lv' := [(6, .int x_142), (3, .int x_141), (8, .int x_124), (7, .int x_123), (5, .int 4), (4, .ref sd), (0, .ref (o + 214)), (1, .int a1), (2, .int a2)]) hx hb dX10_stepFrom_84 hl (k := 3) rfl (by rw [ex_142]; rfl) (dk_dq rfl) rfl (fun ls hl => ?_)
                      refine lv_goto (tgt := 15) hx hb dX10_stepFrom_87 (dk_dq rfl) ?_
                      exact ih x_142 x_141 (by omega) (by omega) (by first | exact mu_lt hmu (by omega) (by omega) | omega) S_140 I_140 M_140 (ZFX.keep ZF_138 (dg_sm.uf (WF := []) (WA := [42]) dg_sm.rf e_140 sX_220 (dk_dq rfl)) (dk_dq rfl)) (by (try rw [(show S_140.2.1 217 = S_138.2.1 217 from (dg_uf_ne e_140 (dk_dq rfl)))]); omega) (lp_l hF_1 (F_w_stepFrom_p3 c_121 (zV_eq ex_123) ex_124 (Eq.symm ex_126.symm) c_127 (zR_eq f_d_129) w_131_2 c_132 (Eq.symm ex_135.symm) ex_136 e_138 e_140 ex_141 ex_142)) _ _ hP hS _ (lv_sub hl [0, 4, 5, 1, 6, 7, 8] rfl)
  have hz_143 : (0 : Int32).toInt = 0 := by decide +kernel
  have hz_144 : (0 : Int32).toInt = 0 := by decide +kernel
  exact L_120 ((5 - ((0 : Int32)).toInt).toNat + 1) 0 a2 (by decide +kernel) (by omega) (by first | exact mu_lt hmu (by omega) (by omega) | omega) S I M_0 ZF (by omega) (F_w_stepFrom_p4) _ _ hP hS _ (lv_sub hl [0, 1, 2, 3, 4, 5, 6] rfl)
noncomputable def F_w_spreadLight_B2 (o : Nat) (S : dg_S) : (Int32 × Int32 × Int32 × dg_S) → (Int32 × Int32 × Int32 × dg_S) ⊕ (dg_S) := fun w9 => match w9 with | (x_150, x_151, x_152, S_153) => (if x_151 ≤ x_150 then (Sum.inr ((S_153))) else let x_157 : Int32 := S_153.2.1 220 (x_150 : Int32).toNatClampNeg; let d_158 : Nat := zR o S 214 7; let x_160 : Int32 := S_153.2.1 (d_158 + 1) (x_157 : Int32).toNatClampNeg; (if x_160 = (255 : Int32) then let x_164 : Int32 := S_153.2.1 217 (x_157 : Int32).toNatClampNeg; let x_165 : Int32 := zI S 214 8; (if x_165 < x_164 then let S_169 : dg_S := (F_w_stepFrom o S_153 x_157 x_151).1; let x_168 : Int32 := (F_w_stepFrom o S_153 x_157 x_151).2; let x_170 : Int32 := x_150 + 1; (Sum.inl (x_170, x_168, x_152, S_169)) else let S_172 : dg_S := F_w_shineFrom o S_153 x_157; let y_173 : Int32 := zI S_172 214 4; let S_175 : dg_S := (F_w_stepFrom o S_172 x_157 x_151).1; let x_174 : Int32 := (F_w_stepFrom o S_172 x_157 x_151).2; let x_176 : Int32 := x_150 + 1; (Sum.inl (x_176, x_174, y_173, S_175))) else let x_162 : Int32 := x_150 + 1; (Sum.inl (x_162, x_151, x_152, S_153))))
noncomputable def F_w_spreadLight_J1 (o : Nat) (S : dg_S) (S_10 : dg_S) : dg_S := let d_11 : Nat := zR o S 214 6; let x_12 : Int32 := zI S d_11 2; (if x_12 = (-1 : Int32) then (S_10) else let S_15 : dg_S := dg_uf S_10 217 (upd (S_10.2.1 217) (x_12 : Int32).toNatClampNeg (0 : Int32)); let S_18 : dg_S := dg_uf S_15 220 (upd (S_15.2.1 220) (0 : Int32).toNatClampNeg x_12); (lp (F_w_spreadLight_B2 o S) S ((73 - ((0 : Int32)).toInt).toNat + 1) ((0 : Int32), (1 : Int32), (0 : Int32), S_18)))
noncomputable def F_w_spreadLight (o : Nat) (S : dg_S) : dg_S := let x_1 : Int32 := zI S 214 9; (if x_1 = (0 : Int32) then (S) else let S_4 : dg_S := dg_uF S 214 9 (.int (0 : Int32)); let r_6 : Nat → Int32 := dk_fl (S_4.2.1 217) (-1 : Int32) 72; let S_6 : dg_S := dg_uf S_4 217 r_6; let r_8 : Nat → Int32 := dk_fl (S_6.2.1 218) (1000 : Int32) 72; let S_8 : dg_S := dg_uf S_6 218 r_8; let S_10 : dg_S := dg_uF S_8 214 4 (.int (0 : Int32)); (F_w_spreadLight_J1 o S S_10))
theorem F_w_spreadLight_p0 {o : Nat} {S : dg_S} {x_150 : Int32} {x_151 : Int32} {x_152 : Int32} {S_153 : dg_S} (h0 : x_151 ≤ x_150) : (F_w_spreadLight_B2 o S) (x_150, x_151, x_152, S_153) = Sum.inr (S_153) := (Eq.trans (if_pos h0) rfl)
theorem F_w_spreadLight_p1 {o : Nat} {S : dg_S} {x_150 : Int32} {x_151 : Int32} {x_152 : Int32} {S_153 : dg_S} {x_162 : Int32} {x_157 : Int32} {d_158 : Nat} {x_160 : Int32} (h0 : ¬ (x_151 ≤ x_150)) (h1 : x_157 = S_153.2.1 220 (x_150 : Int32).toNatClampNeg) (h2 : d_158 = zR o S 214 7) (h3 : x_160 = S_153.2.1 (d_158 + 1) (x_157 : Int32).toNatClampNeg) (h4 : ¬ (x_160 = (255 : Int32))) (h5 : x_162 = x_150 + 1) : (F_w_spreadLight_B2 o S) (x_150, x_151, x_152, S_153) = Sum.inl (x_162, x_151, x_152, S_153) := by
  replace h1 := Eq.symm h1
  subst h1
  replace h2 := Eq.symm h2
  subst h2
  replace h3 := Eq.symm h3
  subst h3
  replace h5 := Eq.symm h5
  subst h5
  exact (Eq.trans (if_neg h0) (Eq.trans (if_neg h4) rfl))
theorem F_w_spreadLight_p2 {o : Nat} {S : dg_S} {x_150 : Int32} {x_151 : Int32} {x_152 : Int32} {S_153 : dg_S} {x_170 : Int32} {x_168 : Int32} {S_169 : dg_S} {x_157 : Int32} {d_158 : Nat} {x_160 : Int32} {x_164 : Int32} {x_165 : Int32} (h0 : ¬ (x_151 ≤ x_150)) (h1 : x_157 = S_153.2.1 220 (x_150 : Int32).toNatClampNeg) (h2 : d_158 = zR o S 214 7) (h3 : x_160 = S_153.2.1 (d_158 + 1) (x_157 : Int32).toNatClampNeg) (h4 : x_160 = (255 : Int32)) (h5 : x_164 = S_153.2.1 217 (x_157 : Int32).toNatClampNeg) (h6 : x_165 = zI S 214 8) (h7 : x_165 < x_164) (h8 : S_169 = (F_w_stepFrom o S_153 x_157 x_151).1) (h9 : x_168 = (F_w_stepFrom o S_153 x_157 x_151).2) (h10 : x_170 = x_150 + 1) : (F_w_spreadLight_B2 o S) (x_150, x_151, x_152, S_153) = Sum.inl (x_170, x_168, x_152, S_169) := by
  replace h1 := Eq.symm h1
  subst h1
  replace h2 := Eq.symm h2
  subst h2
  replace h3 := Eq.symm h3
  subst h3
  replace h5 := Eq.symm h5
  subst h5
  replace h6 := Eq.symm h6
  subst h6
  replace h8 := Eq.symm h8
  subst h8
  replace h9 := Eq.symm h9
  subst h9
  replace h10 := Eq.symm h10
  subst h10
  exact (Eq.trans (if_neg h0) (Eq.trans (if_pos h4) (Eq.trans (if_pos h7) rfl)))
theorem F_w_spreadLight_p3 {o : Nat} {S : dg_S} {x_150 : Int32} {x_151 : Int32} {x_152 : Int32} {S_153 : dg_S} {x_176 : Int32} {x_174 : Int32} {y_173 : Int32} {S_175 : dg_S} {x_157 : Int32} {d_158 : Nat} {x_160 : Int32} {x_164 : Int32} {x_165 : Int32} {S_172 : dg_S} (h0 : ¬ (x_151 ≤ x_150)) (h1 : x_157 = S_153.2.1 220 (x_150 : Int32).toNatClampNeg) (h2 : d_158 = zR o S 214 7) (h3 : x_160 = S_153.2.1 (d_158 + 1) (x_157 : Int32).toNatClampNeg) (h4 : x_160 = (255 : Int32)) (h5 : x_164 = S_153.2.1 217 (x_157 : Int32).toNatClampNeg) (h6 : x_165 = zI S 214 8) (h7 : ¬ (x_165 < x_164)) (h8 : S_172 = F_w_shineFrom o S_153 x_157) (h9 : y_173 = zI S_172 214 4) (h10 : S_175 = (F_w_stepFrom o S_172 x_157 x_151).1) (h11 : x_174 = (F_w_stepFrom o S_172 x_157 x_151).2) (h12 : x_176 = x_150 + 1) : (F_w_spreadLight_B2 o S) (x_150, x_151, x_152, S_153) = Sum.inl (x_176, x_174, y_173, S_175) := by
  replace h1 := Eq.symm h1
  subst h1
  replace h2 := Eq.symm h2
  subst h2
  replace h3 := Eq.symm h3
  subst h3
  replace h5 := Eq.symm h5
  subst h5
  replace h6 := Eq.symm h6
  subst h6
  replace h8 := Eq.symm h8
  subst h8
  replace h9 := Eq.symm h9
  subst h9
  replace h10 := Eq.symm h10
  subst h10
  replace h11 := Eq.symm h11
  subst h11
  replace h12 := Eq.symm h12
  subst h12
  exact (Eq.trans (if_neg h0) (Eq.trans (if_pos h4) (Eq.trans (if_neg h7) rfl)))
theorem F_w_spreadLight_p4 {o : Nat} {S : dg_S} {S_10 : dg_S} {S_18 : dg_S} {d_11 : Nat} {x_12 : Int32} {S_15 : dg_S} (h0 : d_11 = zR o S 214 6) (h1 : x_12 = zI S d_11 2) (h2 : ¬ (x_12 = (-1 : Int32))) (h3 : S_15 = dg_uf S_10 217 (upd (S_10.2.1 217) (x_12 : Int32).toNatClampNeg (0 : Int32))) (h4 : S_18 = dg_uf S_15 220 (upd (S_15.2.1 220) (0 : Int32).toNatClampNeg x_12)) : F_w_spreadLight_J1 o S S_10 = lp (F_w_spreadLight_B2 o S) S ((73 - ((0 : Int32)).toInt).toNat + 1) ((0 : Int32), (1 : Int32), (0 : Int32), S_18) := by
  replace h0 := Eq.symm h0
  subst h0
  replace h1 := Eq.symm h1
  subst h1
  replace h3 := Eq.symm h3
  subst h3
  replace h4 := Eq.symm h4
  subst h4
  exact (Eq.trans (if_neg h2) rfl)
theorem F_w_spreadLight_p5 {o : Nat} {S : dg_S} {S_10 : dg_S} {d_11 : Nat} {x_12 : Int32} (h0 : d_11 = zR o S 214 6) (h1 : x_12 = zI S d_11 2) (h2 : x_12 = (-1 : Int32)) : F_w_spreadLight_J1 o S S_10 = S_10 := by
  replace h0 := Eq.symm h0
  subst h0
  replace h1 := Eq.symm h1
  subst h1
  exact (Eq.trans (if_pos h2) rfl)
theorem F_w_spreadLight_p6 {o : Nat} {S : dg_S} {S_10 : dg_S} {x_1 : Int32} {S_4 : dg_S} {r_6 : Nat → Int32} {S_6 : dg_S} {r_8 : Nat → Int32} {S_8 : dg_S} (h0 : x_1 = zI S 214 9) (h1 : ¬ (x_1 = (0 : Int32))) (h2 : S_4 = dg_uF S 214 9 (.int (0 : Int32))) (h3 : r_6 = dk_fl (S_4.2.1 217) (-1 : Int32) 72) (h4 : S_6 = dg_uf S_4 217 r_6) (h5 : r_8 = dk_fl (S_6.2.1 218) (1000 : Int32) 72) (h6 : S_8 = dg_uf S_6 218 r_8) (h7 : S_10 = dg_uF S_8 214 4 (.int (0 : Int32))) : F_w_spreadLight o S = F_w_spreadLight_J1 o S S_10 := by
  replace h0 := Eq.symm h0
  subst h0
  replace h2 := Eq.symm h2
  subst h2
  replace h3 := Eq.symm h3
  subst h3
  replace h4 := Eq.symm h4
  subst h4
  replace h5 := Eq.symm h5
  subst h5
  replace h6 := Eq.symm h6
  subst h6
  replace h7 := Eq.symm h7
  subst h7
  exact (Eq.trans (if_neg h1) rfl)
theorem F_w_spreadLight_p7 {o : Nat} {S : dg_S} {x_1 : Int32} (h0 : x_1 = zI S 214 9) (h1 : x_1 = (0 : Int32)) : F_w_spreadLight o S = S := by
  replace h0 := Eq.symm h0
  subst h0
  exact (Eq.trans (if_pos h1) rfl)
set_option maxHeartbeats 8000000 in
set_option maxRecDepth 100000 in
theorem c_w_spreadLight (l : Launch) (g : Nat → ClassId) (D : va_G) (o : Nat) (S : dg_S) (Z2 : Z2X S) (Z3 : Z3X o S) (I : CX o S) (sz : Nat) : Met l yX10_spreadLight (bw yX10_spreadLight cX10_spreadLight 5 none) ({ frames := 3, cells := 0, slots := 0, locals := 81 } : Room) (dk_Pc g D (dg_w g shX o rfX S) sz [.ref (o + 214)]) (va_Qv (fun S' => CX o S' ∧ dg_sm shX [(36, 4), (36, 9)] [39, 40, 41, 42] S S' ∧ Z2X S' ∧ (S' = F_w_spreadLight o S) ∧ True) (dg_B g D shX o rfX) (dg_A o shX.length sz)) 0 0 (dg_A o shX.length sz) := by
  refine dg_met (cc := cX10_spreadLight) (maxL := 5) (ret := none) (dk_dq rfl) rfl (Nat.le_of_ble_eq_true rfl) ?_
  intro p e s m args below meth c A hAe harg hx hb hr hml hts hown hlocks hin hP K hS hA1 hA ST hsz ls hl
  rw [← hAe]
  have F : CallFix p m c cX10_spreadLight 5 s args (bw yX10_spreadLight cX10_spreadLight 5 none) RX10 := ⟨hx, hb, hml, hown, hts⟩
  have hl : lv_has ls 5 [(0, .ref (o + 214))] := hl
  have M_0 : dg_sm shX [(36, 4), (36, 9)] [39, 40, 41, 42] S S := dg_sm.rf
  refine lv_aload_n hx hb dX10_spreadLight_0 rfl (lv_at hl 0 rfl) ?_
  obtain ⟨x_1, f_x_1, b_x_1⟩ := dg_I.int (i := 214) (k := 9) (lo := 0) (hi := 1) I sX_214 (by decide +kernel)
  refine dg_get (C := RX10) (T := TX10) (N := 13) hx hb hts (fun w h => bw_mem (wU_X10 w h)) hown K hP sX_214 rfl 9 (dk_dq rfl) (hts _ (bw_mem wB_584)) (fun _ h9 => h9) (v := .int x_1) f_x_1 dX10_spreadLight_1 ?_
  refine lv_if_ne (tgt := 8) hx hb dX10_spreadLight_4 (dk_dq rfl) (fun c_2 => ?_) (fun c_2 => ?_)
  · as_aux_lemma =>
      have jc_2 := dk_neqc (k := 0) (by decide +kernel) c_2
      refine lv_aload_n hx hb dX10_spreadLight_8 rfl (lv_at hl 0 rfl) ?_
      refine lv_iconst (v := 0) hx hb dX10_spreadLight_9 (by decide +kernel) ?_
      have hz_3 : (0 : Int32).toInt = 0 := by decide +kernel
      refine dg_put (ci := 10) (v := .int 0) (ty := tyX10 9) (C := RX10) (T := TX10) (N := 13) hx hb hts (fun w h => bw_mem (wU_X10 w h)) tyX10 tyX10_ok nmX10 hown K hP hS hA1 sX_214 rfl 9 (dk_dq rfl) (hts _ (bw_mem wB_584)) (fun _ h9 => h9) rfl (by decide +kernel) (by decide +kernel) (by decide +kernel) dX10_spreadLight_10 (fun S_4 e_4 H locs hP hS => ?_)
      have I_4 := dg_I.uFi (lo := 0) (hi := 1) I e_4 sX_214 (by decide +kernel) (show 0 ≤ ((0 : Int32)).toInt ∧ ((0 : Int32)).toInt ≤ 1 from (by decide +kernel))
      have M_4 := dg_sm.uF M_0 e_4 sX_214 (dk_dq rfl)
      refine lv_aload_n hx hb dX10_spreadLight_13 rfl (lv_at hl 0 rfl) ?_
      refine dg_get (C := RX10) (T := TX10) (N := 13) hx hb hts (fun w h => bw_mem (wU_X10 w h)) hown K hP sX_214 rfl 1 (dk_dq rfl) (hts _ (bw_mem wB_577)) (fun _ h9 => h9) (v := .ref (o + 217)) (show S_4.1 214 1 = .ref (o + 217) from dg_I.rel (d := 3) I_4 sX_214 (by decide +kernel)) dX10_spreadLight_14 ?_
      refine lv_iconst (v := (-1)) hx hb dX10_spreadLight_17 (by decide +kernel) ?_
      have hz_5 : (-1 : Int32).toInt = (-1) := by decide +kernel
      refine dg_callv hS hA1 hA (va_runS (As := [.ref (o + 217), .int (-1)]) (rest := []) F (c_fillF l g D S_4 sX_217 (dk_dq rfl) (-1) H.size) (va_cwS 2 hts (bw_S wB_585 wB_262 wB_263 wB_264) rfl rfl rfl (by decide +kernel) ⟨Nat.le_of_ble_eq_true rfl, Nat.le_of_ble_eq_true rfl⟩) (dg_preS K ST hP hS hA1 hA) rfl rfl hl.1 rfl (lv_room (Nat.le_of_ble_eq_true rfl)) dX10_spreadLight_18 ⟨Nat.le_of_ble_eq_true rfl, Nat.le_of_ble_eq_true rfl⟩) (fun S_6 hw_6 H locs hP hS => ?_)
      obtain ⟨r_6, e_6, hr_6, hf_6⟩ := hw_6
      have I_6 := dg_I.uf0 I_4 e_6 sX_217 (by decide +kernel)
      have M_6 := dg_sm.uf M_4 e_6 sX_217 (dk_dq rfl)
      have ZF_6 : ZFX S_6 := by unfold ZFX; rw [dg_uf_at e_6]; exact dk_far_cp hr_6
      have jc_6 : dk_cnt (S_6.2.1 217) (-1) 72 = 72 := by rw [dg_uf_at e_6]; exact dk_cnt_cp (fun j hj => by rw [hr_6 j hj]; decide +kernel)
      refine lv_aload_n hx hb dX10_spreadLight_21 rfl (lv_at hl 0 rfl) ?_
      refine dg_get (C := RX10) (T := TX10) (N := 13) hx hb hts (fun w h => bw_mem (wU_X10 w h)) hown K hP sX_214 rfl 2 (dk_dq rfl) (hts _ (bw_mem wB_576)) (fun _ h9 => h9) (v := .ref (o + 218)) (show S_6.1 214 2 = .ref (o + 218) from dg_I.rel (d := 4) I_6 sX_214 (by decide +kernel)) dX10_spreadLight_22 ?_
      refine lv_sipush (v := 1000) hx hb dX10_spreadLight_25 (by decide +kernel) ?_
      have hz_7 : (1000 : Int32).toInt = 1000 := by decide +kernel
      refine dg_callv hS hA1 hA (va_runS (As := [.ref (o + 218), .int 1000]) (rest := []) F (c_fillF l g D S_6 sX_218 (dk_dq rfl) 1000 H.size) (va_cwS 2 hts (bw_S wB_585 wB_262 wB_263 wB_264) rfl rfl rfl (by decide +kernel) ⟨Nat.le_of_ble_eq_true rfl, Nat.le_of_ble_eq_true rfl⟩) (dg_preS K ST hP hS hA1 hA) rfl rfl hl.1 rfl (lv_room (Nat.le_of_ble_eq_true rfl)) dX10_spreadLight_28 ⟨Nat.le_of_ble_eq_true rfl, Nat.le_of_ble_eq_true rfl⟩) (fun S_8 hw_8 H locs hP hS => ?_)
      obtain ⟨r_8, e_8, hr_8, hf_8⟩ := hw_8
      have I_8 := dg_I.uf0 I_6 e_8 sX_218 (by decide +kernel)
      have M_8 := dg_sm.uf M_6 e_8 sX_218 (dk_dq rfl)
      have jc_8 : dk_cnt (S_8.2.1 218) 1000 72 = 72 := by rw [dg_uf_at e_8]; exact dk_cnt_cp (fun j hj => by rw [hr_8 j hj]; decide +kernel)
      refine lv_aload_n hx hb dX10_spreadLight_31 rfl (lv_at hl 0 rfl) ?_
      refine lv_iconst (v := 0) hx hb dX10_spreadLight_32 (by decide +kernel) ?_
      have hz_9 : (0 : Int32).toInt = 0 := by decide +kernel
      refine dg_put (ci := 10) (v := .int 0) (ty := tyX10 4) (C := RX10) (T := TX10) (N := 13) hx hb hts (fun w h => bw_mem (wU_X10 w h)) tyX10 tyX10_ok nmX10 hown K hP hS hA1 sX_214 rfl 4 (dk_dq rfl) (hts _ (bw_mem wB_581)) (fun _ h9 => h9) rfl (by decide +kernel) rfl rfl dX10_spreadLight_33 (fun S_10 e_10 H locs hP hS => ?_)
      have I_10 := dg_I.uFi (lo := 0) (hi := 72) I_8 e_10 sX_214 (by decide +kernel) (show 0 ≤ ((0 : Int32)).toInt ∧ ((0 : Int32)).toInt ≤ 72 from (by decide +kernel))
      have M_10 := dg_sm.uF M_8 e_10 sX_214 (dk_dq rfl)
      have Z2_10 := Z2X.zero (dg_uF_at e_10)
      have hF_1 : F_w_spreadLight o S = F_w_spreadLight_J1 o S S_10 := (F_w_spreadLight_p6 (zI_eq f_x_1) c_2 e_4 hf_6 e_6 hf_8 e_8 e_10)
      refine lv_aload_n hx hb dX10_spreadLight_36 rfl (lv_at hl 0 rfl) ?_
      obtain ⟨d_11, hk_d_11, f_d_11⟩ := dg_I.one (i := 214) (k := 6) (d := 0) I sX_214 (by decide +kernel)
      have hk_d_11 : rX d_11 := hk_d_11
      refine dg_get (C := RX10) (T := TX10) (N := 13) hx hb hts (fun w h => bw_mem (wU_X10 w h)) hown K hP sX_214 rfl 6 (dk_dq rfl) (hts _ (bw_mem wB_586)) (fun _ h9 => h9) (v := .ref (o + d_11)) (((dg_uF_ne e_10 (fun z => absurd z.2 (dk_dq rfl))).trans ((dg_uf_F e_8 214 6).trans ((dg_uf_F e_6 214 6).trans (dg_uF_ne e_4 (fun z => absurd z.2 (dk_dq rfl)))))).trans f_d_11) dX10_spreadLight_37 ?_
      obtain ⟨x_12, f_x_12, b_x_12⟩ := dg_I.int (i := d_11) (k := 2) (lo := (-1)) (hi := 63) I (rX_0 d_11 hk_d_11) (by decide +kernel)
      refine dg_get (C := RX2) (T := TX2) (N := 19) hx hb hts (fun w h => bw_mem (wU_X2 w h)) hown K hP (rX_0 d_11 hk_d_11) rfl 2 (dk_dq rfl) (hts _ (bw_mem wB_587)) (fun _ h9 => h9) (v := .int x_12) (((dg_uF_ne e_10 (fun z => absurd z.2 (dk_dq rfl))).trans ((dg_uf_F e_8 d_11 2).trans ((dg_uf_F e_6 d_11 2).trans (dg_uF_ne e_4 (fun z => absurd z.2 (dk_dq rfl)))))).trans f_x_12) dX10_spreadLight_40 ?_
      as_aux_lemma =>
        refine lv_istore_n (lv' := [(1, .int x_12), (0, .ref (o + 214))]) hx hb dX10_spreadLight_43 rfl hl (dk_dq rfl) rfl (fun ls hl => ?_)
        refine lv_iload_n hx hb dX10_spreadLight_44 rfl (lv_at hl 0 rfl) ?_
        refine lv_iconst (v := (-1)) hx hb dX10_spreadLight_45 (by decide +kernel) ?_
        refine lv_icmp_ne (tgt := 50) hx hb dX10_spreadLight_46 (dk_dq rfl) (fun c_13 => ?_) (fun c_13 => ?_)
        · as_aux_lemma =>
            have jc_13 := dk_neqc (k := (-1)) (by decide +kernel) c_13
            refine lv_aload_n hx hb dX10_spreadLight_50 rfl (lv_at hl 1 rfl) ?_
            refine dg_get (C := RX10) (T := TX10) (N := 13) hx hb hts (fun w h => bw_mem (wU_X10 w h)) hown K hP sX_214 rfl 1 (dk_dq rfl) (hts _ (bw_mem wB_577)) (fun _ h9 => h9) (v := .ref (o + 217)) (show S_10.1 214 1 = .ref (o + 217) from dg_I.rel (d := 3) I_10 sX_214 (by decide +kernel)) dX10_spreadLight_51 ?_
            refine lv_iload_n hx hb dX10_spreadLight_54 rfl (lv_at hl 0 rfl) ?_
            refine lv_iconst (v := 0) hx hb dX10_spreadLight_55 (by decide +kernel) ?_
            have hin_14 : vp_in x_12 72 := (dk_inv2 (by omega))
            have hz_16 : (0 : Int32).toInt = 0 := by decide +kernel
            refine dg_iast hx hb K hP hS hA1 sX_217 hin_14 dX10_spreadLight_56 (fun S_15 e_15 H locs hP hS => ?_)
            have I_15 := dg_I.uf0 I_10 e_15 sX_217 (by decide +kernel)
            have M_15 := dg_sm.uf M_10 e_15 sX_217 (dk_dq rfl)
            have q_15 := (show S_15.2.1 217 = upd (S_6.2.1 217) (x_12 : Int32).toNatClampNeg 0 from (dg_uf_at e_15).trans (by rw [((dg_uF_f e_10 217).trans (dg_uf_ne e_8 (dk_dq rfl)))]))
            have hm9 : (-1 : Int32).toInt = -1 := by decide +kernel
            have jc_15 : dk_cnt (S_15.2.1 217) (-1) 72 + 1 = dk_cnt (S_6.2.1 217) (-1) 72 := dk_cnt_hit (xr := (-1 : Int32)) hin_14 (by rw [dg_uf_at e_6]; exact (hr_6 _ (dk_inT hin_14).2).symm) (by omega) (by omega) q_15
            have ZF_15 : ZFX S_15 := dk_far_upd (xr := (-1 : Int32)) ZF_6 hin_14 (by rw [dg_uf_at e_6]; exact (hr_6 _ (dk_inT hin_14).2).symm) (by omega) (by omega) (by omega) q_15
            refine lv_aload_n hx hb dX10_spreadLight_57 rfl (lv_at hl 1 rfl) ?_
            refine dg_get (C := RX10) (T := TX10) (N := 13) hx hb hts (fun w h => bw_mem (wU_X10 w h)) hown K hP sX_214 rfl 5 (dk_dq rfl) (hts _ (bw_mem wB_583)) (fun _ h9 => h9) (v := .ref (o + 220)) (show S_15.1 214 5 = .ref (o + 220) from dg_I.rel (d := 6) I_15 sX_214 (by decide +kernel)) dX10_spreadLight_58 ?_
            refine lv_iconst (v := 0) hx hb dX10_spreadLight_61 (by decide +kernel) ?_
            refine lv_iload_n hx hb dX10_spreadLight_62 rfl (lv_at hl 0 rfl) ?_
            have hin_17 : vp_in (0 : Int32) 72 := (dk_in (by decide +kernel))
            have hz_19 : (0 : Int32).toInt = 0 := by decide +kernel
            refine dg_iast hx hb K hP hS hA1 sX_220 hin_17 dX10_spreadLight_63 (fun S_18 e_18 H locs hP hS => ?_)
            have I_18 := dg_I.ufu (lo := 0) (hi := 63) I_15 e_18 sX_220 (by decide +kernel) (show 0 ≤ (x_12).toInt ∧ (x_12).toInt ≤ 63 from (by omega))
            have M_18 := dg_sm.uf M_15 e_18 sX_220 (dk_dq rfl)
            refine lv_iconst (v := 1) hx hb dX10_spreadLight_64 (by decide +kernel) ?_
            refine lv_istore_n (lv' := [(2, .int 1), (1, .int x_12), (0, .ref (o + 214))]) hx hb dX10_spreadLight_65 rfl hl (dk_dq rfl) rfl (fun ls hl => ?_)
            refine lv_iconst (v := 0) hx hb dX10_spreadLight_66 (by decide +kernel) ?_
            refine lv_istore_n (lv' := [(3, .int 0), (2, .int 1), (1, .int x_12), (0, .ref (o + 214))]) hx hb dX10_spreadLight_67 rfl hl (dk_dq rfl) rfl (fun ls hl => ?_)
            have L_154 : ∀ (n : Nat) (x_150 : Int32) (x_151 : Int32) (x_152 : Int32), (0 ≤ (x_150).toInt ∧ (x_150).toInt ≤ 72) → (1 ≤ (x_151).toInt ∧ (x_151).toInt ≤ 72) → (0 ≤ (x_152).toInt ∧ (x_152).toInt ≤ 72) → ((73 - (x_150).toInt).toNat < n) → ∀ S_153 : dg_S, CX o S_153 → dg_sm shX [(36, 4), (36, 9)] [39, 40, 41, 42] S S_153 → S_153.1 214 9 = .int 0 → S_153.1 214 4 = .int x_152 → Z2X S_153 → ZFX S_153 → ((x_152).toInt + (dk_cnt (S_153.2.1 218) 1000 72 : Int) ≤ 72) → ((x_151).toInt + (dk_cnt (S_153.2.1 217) (-1) 72 : Int) ≤ 72) → (F_w_spreadLight o S = lp (F_w_spreadLight_B2 o S) S n (x_150, x_151, x_152, S_153)) → ∀ (H : Heap) (locs : List Loc), va_P D vwCl (dg_w g shX o rfX S_153) H → va_S A s.heap H locs → ∀ ls : Array Slot, lv_has ls 5 [(3, .int x_150), (2, .int x_151), (1, .int x_12), (0, .ref (o + 214))] → W p l e ({ frames := 3, cells := 0, slots := 0, locals := 81 } : Room) s m args below meth c H locs 0 0 (MQ below (va_Qv (fun S' => CX o S' ∧ dg_sm shX [(36, 4), (36, 9)] [39, 40, 41, 42] S S' ∧ Z2X S' ∧ (S' = F_w_spreadLight o S) ∧ True) (dg_B g D shX o rfX) A) args s 0 0 A) (F0 m 68 ls []) := by
              as_aux_lemma =>
                intro n
                induction n with
                | zero =>
                  intro x_150 x_151 x_152 b_x_150 b_x_151 b_x_152 hmu S_153 I_153 M_153 ff_153_9_214 ff_153_4_214 Z2_153 ZF_153 srel_153_0 srel_153_1 hF_2 H locs hP hS ls hl
                  omega
                | succ n ih =>
                  as_aux_lemma =>
                    intro x_150 x_151 x_152 b_x_150 b_x_151 b_x_152 hmu S_153 I_153 M_153 ff_153_9_214 ff_153_4_214 Z2_153 ZF_153 srel_153_0 srel_153_1 hF_2 H locs hP hS ls hl
                    refine lv_iload_n hx hb dX10_spreadLight_68 rfl (lv_at hl 0 rfl) ?_
                    refine lv_iload_n hx hb dX10_spreadLight_69 rfl (lv_at hl 1 rfl) ?_
                    refine lv_icmp_ge (tgt := 137) hx hb dX10_spreadLight_70 (dk_dq rfl) (fun c_155 => ?_) (fun c_155 => ?_)
                    · have jc_155 := dk_gec (k := (x_151).toInt) rfl c_155
                      refine W.widen (k := 0) (n := 0) (Nat.le_of_ble_eq_true rfl) (Nat.le_of_ble_eq_true rfl) ?_
                      exact dg_vret hx hb hr hlocks hP hS ⟨I_153, M_153, Z2_153, (Eq.symm (lp_r hF_2 (F_w_spreadLight_p0 c_155))), trivial⟩ dX10_spreadLight_137
                    · as_aux_lemma =>
                        have jc_155 := dk_ngec (k := (x_151).toInt) rfl c_155
                        refine lv_iload_n hx hb dX10_spreadLight_73 rfl (lv_at hl 0 rfl) ?_
                        refine lv_bipush (v := 72) hx hb dX10_spreadLight_74 (by decide +kernel) ?_
                        refine lv_icmp_ge (tgt := 137) hx hb dX10_spreadLight_76 (dk_dq rfl) (fun c => absurd c (fun z => absurd (dk_gec (k := 72) (by decide +kernel) z) (by omega))) (fun _ => ?_)
                        refine lv_aload_n hx hb dX10_spreadLight_79 rfl (lv_at hl 3 rfl) ?_
                        refine dg_get (C := RX10) (T := TX10) (N := 13) hx hb hts (fun w h => bw_mem (wU_X10 w h)) hown K hP sX_214 rfl 5 (dk_dq rfl) (hts _ (bw_mem wB_583)) (fun _ h9 => h9) (v := .ref (o + 220)) (show S_153.1 214 5 = .ref (o + 220) from dg_I.rel (d := 6) I_153 sX_214 (by decide +kernel)) dX10_spreadLight_80 ?_
                        refine lv_iload_n hx hb dX10_spreadLight_83 rfl (lv_at hl 0 rfl) ?_
                        have hin_156 : vp_in x_150 72 := (dk_inv2 (by omega))
                        refine dg_iald hx hb K hP sX_220 hin_156 dX10_spreadLight_84 (fun x_157 ex_157 => ?_)
                        have b_x_157 := dk_all_at (dg_I.row (lo := 0) (hi := 63) I_153 sX_220 (by decide +kernel)) hin_156 ex_157
                        refine lv_istore (lv' := [(4, .int x_157), (3, .int x_150), (2, .int x_151), (1, .int x_12), (0, .ref (o + 214))]) hx hb dX10_spreadLight_85 hl (dk_dq rfl) rfl (fun ls hl => ?_)
                        refine lv_aload_n hx hb dX10_spreadLight_87 rfl (lv_at hl 4 rfl) ?_
                        obtain ⟨d_158, hk_d_158, f_d_158⟩ := dg_I.one (i := 214) (k := 7) (d := 1) I sX_214 (by decide +kernel)
                        have hk_d_158 : pX d_158 := hk_d_158
                        refine dg_get (C := RX10) (T := TX10) (N := 13) hx hb hts (fun w h => bw_mem (wU_X10 w h)) hown K hP sX_214 rfl 7 (dk_dq rfl) (hts _ (bw_mem wB_578)) (fun _ h9 => h9) (v := .ref (o + d_158)) ((M_153.1 214 7 _ sX_214 (dk_dq rfl)).trans f_d_158) dX10_spreadLight_88 ?_
                        refine dg_get (C := RX5) (T := TX5) (N := 8) hx hb hts (fun w h => bw_mem (wU_X5 w h)) hown K hP (pX_0 d_158 hk_d_158) rfl 2 (dk_dq rfl) (hts _ (bw_mem wB_588)) (fun _ h9 => h9) (v := .ref (o + (d_158 + 1))) (show S_153.1 d_158 2 = .ref (o + (d_158 + 1)) from dg_I.rel (d := 1) I_153 (pX_0 d_158 hk_d_158) (by decide +kernel)) dX10_spreadLight_91 ?_
                        refine lv_iload hx hb dX10_spreadLight_94 (lv_at hl 0 rfl) ?_
                        have hin_159 : vp_in x_157 72 := (dk_inv2 (by omega))
                        refine dg_iald hx hb K hP (pX_1 d_158 hk_d_158) hin_159 dX10_spreadLight_96 (fun x_160 ex_160 => ?_)
                        have b_x_160 := dg_cel_at (dg_I.cel (lo := 0) (hi := 255) I_153 (pX_1 d_158 hk_d_158) (by decide +kernel) ((dg_FG.sm M_153 (dk_dq rfl)) d_158 hk_d_158 (Z3 d_158 hk_d_158 f_d_158))) hin_159 ex_160
                        refine lv_sipush (v := 255) hx hb dX10_spreadLight_97 (by decide +kernel) ?_
                        refine lv_icmp_ne (tgt := 131) hx hb dX10_spreadLight_100 (dk_dq rfl) (fun c_161 => ?_) (fun c_161 => ?_)
                        · have jc_161 := dk_neqc (k := 255) (by decide +kernel) c_161
                          obtain ⟨x_162, ex_162⟩ : ∃ z, z = x_150 + 1 := ⟨_, rfl⟩
                          have jx_162 : (x_162).toInt = (x_150).toInt + 1 := by rw [ex_162]; exact dk_addT2 rfl (by decide +kernel) (by omega)
                          refine lv_iinc (v := x_162) (lv' := [(3, .int x_162), (4, .int x_157), (2, .int x_151), (1, .int x_12), (0, .ref (o + 214))]) hx hb dX10_spreadLight_131 hl (k := 1) rfl (by rw [ex_162]; rfl) (dk_dq rfl) rfl (fun ls hl => ?_)
                          refine lv_goto (tgt := 68) hx hb dX10_spreadLight_134 (dk_dq rfl) ?_
                          exact ih x_162 x_151 x_152 (by omega) (by omega) (by omega) (by first | exact mu_lt hmu (by omega) (by omega) | omega) S_153 I_153 M_153 ff_153_9_214 ff_153_4_214 Z2_153 ZF_153 (by omega) (by omega) (lp_l hF_2 (F_w_spreadLight_p1 c_155 (Eq.symm ex_157.symm) (zR_eq f_d_158) (Eq.symm ex_160.symm) c_161 ex_162)) _ _ hP hS _ (lv_sub hl [0, 2, 3, 4] rfl)
                        · as_aux_lemma =>
                            have jc_161 := dk_eqc (k := 255) (by decide +kernel) c_161
                            refine lv_aload_n hx hb dX10_spreadLight_103 rfl (lv_at hl 4 rfl) ?_
                            refine dg_get (C := RX10) (T := TX10) (N := 13) hx hb hts (fun w h => bw_mem (wU_X10 w h)) hown K hP sX_214 rfl 1 (dk_dq rfl) (hts _ (bw_mem wB_577)) (fun _ h9 => h9) (v := .ref (o + 217)) (show S_153.1 214 1 = .ref (o + 217) from dg_I.rel (d := 3) I_153 sX_214 (by decide +kernel)) dX10_spreadLight_104 ?_
                            refine lv_iload hx hb dX10_spreadLight_107 (lv_at hl 0 rfl) ?_
                            have hin_163 : vp_in x_157 72 := (dk_inv2 (by omega))
                            refine dg_iald hx hb K hP sX_217 hin_163 dX10_spreadLight_109 (fun x_164 ex_164 => ?_)
                            have zf_x_164 := dk_far_at ZF_153 hin_163 ex_164
                            refine lv_aload_n hx hb dX10_spreadLight_110 rfl (lv_at hl 4 rfl) ?_
                            obtain ⟨x_165, f_x_165, b_x_165⟩ := dg_I.int (i := 214) (k := 8) (lo := (-2147483648)) (hi := 2147483647) I sX_214 (by decide +kernel)
                            refine dg_get (C := RX10) (T := TX10) (N := 13) hx hb hts (fun w h => bw_mem (wU_X10 w h)) hown K hP sX_214 rfl 8 (dk_dq rfl) (hts _ (bw_mem wB_589)) (fun _ h9 => h9) (v := .int x_165) ((M_153.1 214 8 _ sX_214 (dk_dq rfl)).trans f_x_165) dX10_spreadLight_111 ?_
                            refine lv_icmp_gt (tgt := 123) hx hb dX10_spreadLight_114 (dk_dq rfl) (fun c_166 => ?_) (fun c_166 => ?_)
                            · as_aux_lemma =>
                                have hf_166 := dk_full x_165
                                have jc_166 := dk_gtc (k := (x_165).toInt) rfl c_166
                                refine lv_aload_n hx hb dX10_spreadLight_123 rfl (lv_at hl 4 rfl) ?_
                                refine lv_iload hx hb dX10_spreadLight_124 (lv_at hl 0 rfl) ?_
                                refine lv_iload_n hx hb dX10_spreadLight_126 rfl (lv_at hl 2 rfl) ?_
                                refine dg_calli hS hA1 hA (va_runV (As := [.int x_157, .int x_151]) (rest := []) F (c_w_stepFrom l g D o S_153 x_157 (by omega) x_151 (by omega) (by omega) ZF_153 I_153 H.size) (cwV 2 hts (bw_V wB_591 wB_592 wB_593 wB_594 wB_590) rfl rfl rfl (by decide +kernel) ⟨Nat.le_of_ble_eq_true rfl, Nat.le_of_ble_eq_true rfl⟩) (dg_preV sX_214 rfl K ST hP hS hA1 hA) rfl rfl hl.1 rfl (lv_room (Nat.le_of_ble_eq_true rfl)) dX10_spreadLight_127 ⟨Nat.le_of_ble_eq_true rfl, Nat.le_of_ble_eq_true rfl⟩) (fun x_168 S_169 hw_169 H locs hP hS => ?_)
                                obtain ⟨I_169, m_169, w_169_0, w_169_1, w_169_2, w_169_3, -⟩ := hw_169
                                have M_169 := dg_sm.tr M_153 m_169 (dk_dq rfl) (dk_dq rfl)
                                have w_169_0 : 1 ≤ (x_168).toInt ∧ (x_168).toInt ≤ 72 := w_169_0
                                replace w_169_1 : (x_168).toInt + (dk_cnt (S_169.2.1 217) (-1) 72 : Int) ≤ 72 := w_169_1
                                refine lv_istore_n (lv' := [(2, .int x_168), (4, .int x_157), (3, .int x_150), (1, .int x_12), (0, .ref (o + 214))]) hx hb dX10_spreadLight_130 rfl hl (dk_dq rfl) rfl (fun ls hl => ?_)
                                obtain ⟨x_170, ex_170⟩ : ∃ z, z = x_150 + 1 := ⟨_, rfl⟩
                                have jx_170 : (x_170).toInt = (x_150).toInt + 1 := by rw [ex_170]; exact dk_addT2 rfl (by decide +kernel) (by omega)
                                refine lv_iinc (v := x_170) (lv' := [(3, .int x_170), (2, .int x_168), (4, .int x_157), (1, .int x_12), (0, .ref (o + 214))]) hx hb dX10_spreadLight_131 hl (k := 2) rfl (by rw [ex_170]; rfl) (dk_dq rfl) rfl (fun ls hl => ?_)
                                refine lv_goto (tgt := 68) hx hb dX10_spreadLight_134 (dk_dq rfl) ?_
                                exact ih x_170 x_168 x_152 (by omega) (by omega) (by omega) (by first | exact mu_lt hmu (by omega) (by omega) | omega) S_169 I_169 M_169 ((m_169.1 214 9 _ sX_214 (dk_dq rfl)).trans ff_153_9_214) ((m_169.1 214 4 _ sX_214 (dk_dq rfl)).trans ff_153_4_214) (Z2X.keep Z2_153 m_169 (dk_dq rfl) (dk_dq rfl)) w_169_2 (by (try rw [(show S_169.2.1 218 = S_153.2.1 218 from (m_169.2 218 _ sX_218 (dk_dq rfl)).1)]); omega) (by (try rw [(show S_169.2.1 218 = S_153.2.1 218 from (m_169.2 218 _ sX_218 (dk_dq rfl)).1)]); omega) (lp_l hF_2 (F_w_spreadLight_p2 c_155 (Eq.symm ex_157.symm) (zR_eq f_d_158) (Eq.symm ex_160.symm) c_161 (Eq.symm ex_164.symm) (zI_eq f_x_165) c_166 w_169_3.1 w_169_3.2 ex_170)) _ _ hP hS _ (lv_sub hl [0, 1, 3, 4] rfl)
                            · as_aux_lemma =>
                                have hf_170 := dk_full x_165
                                have jc_166 := dk_ngtc (k := (x_165).toInt) rfl c_166
                                refine lv_aload_n hx hb dX10_spreadLight_117 rfl (lv_at hl 4 rfl) ?_
                                refine lv_iload hx hb dX10_spreadLight_118 (lv_at hl 0 rfl) ?_
                                refine dg_callv hS hA1 hA (va_runV (As := [.int x_157]) (rest := []) F (c_w_shineFrom l g D o S_153 x_157 (by omega) x_152 ff_153_4_214 (by omega) x_164 ex_164.symm (by omega) (by omega) Z2_153 (Z3X.keep Z3 M_153 (dg_FG.sm M_153 (dk_dq rfl)) (dk_dq rfl)) I_153 H.size) (cwV 1 hts (bw_V wB_596 wB_597 wB_598 wB_594 wB_595) rfl rfl rfl (by decide +kernel) ⟨Nat.le_of_ble_eq_true rfl, Nat.le_of_ble_eq_true rfl⟩) (dg_preV sX_214 rfl K ST hP hS hA1 hA) rfl rfl hl.1 rfl (lv_room (Nat.le_of_ble_eq_true rfl)) dX10_spreadLight_120 ⟨Nat.le_of_ble_eq_true rfl, Nat.le_of_ble_eq_true rfl⟩) (fun S_172 hw_172 H locs hP hS => ?_)
                                obtain ⟨I_172, m_172, w_172_0, w_172_1, w_172_2, -⟩ := hw_172
                                have M_172 := dg_sm.tr M_153 m_172 (dk_dq rfl) (dk_dq rfl)
                                replace w_172_0 : ∃ c : Int32, S_172.1 214 4 = .int c ∧ (c).toInt + (dk_cnt (S_172.2.1 218) 1000 72 : Int) ≤ 72 := w_172_0
                                obtain ⟨y_173, f_y_173, r_y_173⟩ := w_172_0
                                have b_y_173 := dg_I.intb (lo := 0) (hi := 72) I_172 sX_214 (by decide +kernel) f_y_173
                                refine lv_aload_n hx hb dX10_spreadLight_123 rfl (lv_at hl 4 rfl) ?_
                                refine lv_iload hx hb dX10_spreadLight_124 (lv_at hl 0 rfl) ?_
                                refine lv_iload_n hx hb dX10_spreadLight_126 rfl (lv_at hl 2 rfl) ?_
                                refine dg_calli hS hA1 hA (va_runV (As := [.int x_157, .int x_151]) (rest := []) F (c_w_stepFrom l g D o S_172 x_157 (by omega) x_151 (by omega) (by (try rw [(show S_172.2.1 217 = S_153.2.1 217 from (m_172.2 217 _ sX_217 (dk_dq rfl)).1)]); omega) (ZFX.keep ZF_153 m_172 (dk_dq rfl)) I_172 H.size) (cwV 2 hts (bw_V wB_591 wB_592 wB_593 wB_594 wB_590) rfl rfl rfl (by decide +kernel) ⟨Nat.le_of_ble_eq_true rfl, Nat.le_of_ble_eq_true rfl⟩) (dg_preV sX_214 rfl K ST hP hS hA1 hA) rfl rfl hl.1 rfl (lv_room (Nat.le_of_ble_eq_true rfl)) dX10_spreadLight_127 ⟨Nat.le_of_ble_eq_true rfl, Nat.le_of_ble_eq_true rfl⟩) (fun x_174 S_175 hw_175 H locs hP hS => ?_)
                                obtain ⟨I_175, m_175, w_175_0, w_175_1, w_175_2, w_175_3, -⟩ := hw_175
                                have M_175 := dg_sm.tr M_172 m_175 (dk_dq rfl) (dk_dq rfl)
                                have w_175_0 : 1 ≤ (x_174).toInt ∧ (x_174).toInt ≤ 72 := w_175_0
                                replace w_175_1 : (x_174).toInt + (dk_cnt (S_175.2.1 217) (-1) 72 : Int) ≤ 72 := w_175_1
                                refine lv_istore_n (lv' := [(2, .int x_174), (4, .int x_157), (3, .int x_150), (1, .int x_12), (0, .ref (o + 214))]) hx hb dX10_spreadLight_130 rfl hl (dk_dq rfl) rfl (fun ls hl => ?_)
                                obtain ⟨x_176, ex_176⟩ : ∃ z, z = x_150 + 1 := ⟨_, rfl⟩
                                have jx_176 : (x_176).toInt = (x_150).toInt + 1 := by rw [ex_176]; exact dk_addT2 rfl (by decide +kernel) (by omega)
                                refine lv_iinc (v := x_176) (lv' := [(3, .int x_176), (2, .int x_174), (4, .int x_157), (1, .int x_12), (0, .ref (o + 214))]) hx hb dX10_spreadLight_131 hl (k := 2) rfl (by rw [ex_176]; rfl) (dk_dq rfl) rfl (fun ls hl => ?_)
                                refine lv_goto (tgt := 68) hx hb dX10_spreadLight_134 (dk_dq rfl) ?_
                                exact ih x_176 x_174 y_173 (by omega) (by omega) (by omega) (by first | exact mu_lt hmu (by omega) (by omega) | omega) S_175 I_175 M_175 (((m_175.1 214 9 _ sX_214 (dk_dq rfl)).trans (m_172.1 214 9 _ sX_214 (dk_dq rfl))).trans ff_153_9_214) ((m_175.1 214 4 _ sX_214 (dk_dq rfl)).trans f_y_173) (Z2X.keep w_172_1 m_175 (dk_dq rfl) (dk_dq rfl)) w_175_2 (by (try rw [(show S_175.2.1 218 = S_172.2.1 218 from (m_175.2 218 _ sX_218 (dk_dq rfl)).1)]); omega) (by (try rw [(show S_175.2.1 218 = S_172.2.1 218 from (m_175.2 218 _ sX_218 (dk_dq rfl)).1)]); omega) (lp_l hF_2 (F_w_spreadLight_p3 c_155 (Eq.symm ex_157.symm) (zR_eq f_d_158) (Eq.symm ex_160.symm) c_161 (Eq.symm ex_164.symm) (zI_eq f_x_165) c_166 w_172_2 (zI_eq f_y_173) w_175_3.1 w_175_3.2 ex_176)) _ _ hP hS _ (lv_sub hl [0, 1, 3, 4] rfl)
            have hz_177 : (0 : Int32).toInt = 0 := by decide +kernel
            have hz_178 : (1 : Int32).toInt = 1 := by decide +kernel
            have hz_179 : (0 : Int32).toInt = 0 := by decide +kernel
            have hz_180 : (0 : Int32).toInt = 0 := by decide +kernel
            have hz_181 : (1 : Int32).toInt = 1 := by decide +kernel
            have hz_182 : (0 : Int32).toInt = 0 := by decide +kernel
            exact L_154 ((73 - ((0 : Int32)).toInt).toNat + 1) 0 1 0 (by decide +kernel) (by decide +kernel) (by decide +kernel) (by first | exact mu_lt hmu (by omega) (by omega) | omega) S_18 I_18 M_18 (((dg_uf_F e_18 214 9).trans ((dg_uf_F e_15 214 9).trans ((dg_uF_ne e_10 (fun z => absurd z.2 (dk_dq rfl))).trans ((dg_uf_F e_8 214 9).trans (dg_uf_F e_6 214 9))))).trans (dg_uF_at e_4)) (((dg_uf_F e_18 214 4).trans (dg_uf_F e_15 214 4)).trans (dg_uF_at e_10)) (Z2X.keep (Z2X.keep Z2_10 (dg_sm.uf (WF := []) (WA := [39]) dg_sm.rf e_15 sX_217 (dk_dq rfl)) (dk_dq rfl) (dk_dq rfl)) (dg_sm.uf (WF := []) (WA := [42]) dg_sm.rf e_18 sX_220 (dk_dq rfl)) (dk_dq rfl) (dk_dq rfl)) (ZFX.keep ZF_15 (dg_sm.uf (WF := []) (WA := [42]) dg_sm.rf e_18 sX_220 (dk_dq rfl)) (dk_dq rfl)) (by (try rw [(show S_18.2.1 217 = S_15.2.1 217 from (dg_uf_ne e_18 (dk_dq rfl)))]); (try rw [(show S_18.2.1 218 = S_8.2.1 218 from ((dg_uf_ne e_18 (dk_dq rfl)).trans ((dg_uf_ne e_15 (dk_dq rfl)).trans (dg_uF_f e_10 218))))]); omega) (by (try rw [(show S_18.2.1 217 = S_15.2.1 217 from (dg_uf_ne e_18 (dk_dq rfl)))]); (try rw [(show S_18.2.1 218 = S_8.2.1 218 from ((dg_uf_ne e_18 (dk_dq rfl)).trans ((dg_uf_ne e_15 (dk_dq rfl)).trans (dg_uF_f e_10 218))))]); omega) (Eq.trans hF_1 (F_w_spreadLight_p4 (zR_eq f_d_11) (zI_eq f_x_12) c_13 e_15 e_18)) _ _ hP hS _ (lv_sub hl [0, 1, 2, 3] rfl)
        · have jc_13 := dk_eqc (k := (-1)) (by decide +kernel) c_13
          refine W.widen (k := 0) (n := 0) (Nat.le_of_ble_eq_true rfl) (Nat.le_of_ble_eq_true rfl) ?_
          exact dg_vret hx hb hr hlocks hP hS ⟨I_10, M_10, Z2_10, (Eq.symm (Eq.trans hF_1 (F_w_spreadLight_p5 (zR_eq f_d_11) (zI_eq f_x_12) c_13))), trivial⟩ dX10_spreadLight_49
  · have jc_2 := dk_eqc (k := 0) (by decide +kernel) c_2
    refine W.widen (k := 0) (n := 0) (Nat.le_of_ble_eq_true rfl) (Nat.le_of_ble_eq_true rfl) ?_
    exact dg_vret hx hb hr hlocks hP hS ⟨I, M_0, Z2, (Eq.symm (F_w_spreadLight_p7 (zI_eq f_x_1) c_2)), trivial⟩ dX10_spreadLight_7
noncomputable def F_w_enter_J1 (S_5 : dg_S) : dg_S := (S_5)
noncomputable def F_w_enter (o : Nat) (S : dg_S) (gr : Nat) (pt : Nat) (a1 : Int32) : dg_S := let S_1 : dg_S := dg_uF S 214 6 (.ref (o + gr)); let S_2 : dg_S := dg_uF S_1 214 7 (.ref (o + pt)); let S_3 : dg_S := dg_uF S_2 214 8 (.int a1); let S_5 : dg_S := dg_uF S_3 214 9 (.int (1 : Int32)); (F_w_enter_J1 S_5)
theorem F_w_enter_p0 {S_5 : dg_S}  : F_w_enter_J1 S_5 = S_5 := rfl
theorem F_w_enter_p1 {o : Nat} {S : dg_S} {gr : Nat} {pt : Nat} {a1 : Int32} {S_5 : dg_S} {S_1 : dg_S} {S_2 : dg_S} {S_3 : dg_S} (h0 : S_1 = dg_uF S 214 6 (.ref (o + gr))) (h1 : S_2 = dg_uF S_1 214 7 (.ref (o + pt))) (h2 : S_3 = dg_uF S_2 214 8 (.int a1)) (h3 : S_5 = dg_uF S_3 214 9 (.int (1 : Int32))) : F_w_enter o S gr pt a1 = F_w_enter_J1 S_5 := by
  replace h0 := Eq.symm h0
  subst h0
  replace h1 := Eq.symm h1
  subst h1
  replace h2 := Eq.symm h2
  subst h2
  replace h3 := Eq.symm h3
  subst h3
  exact rfl
set_option maxHeartbeats 8000000 in
set_option maxRecDepth 100000 in
theorem c_w_enter (l : Launch) (g : Nat → ClassId) (D : va_G) (o : Nat) (S : dg_S) (gr : Nat) (hk_gr : rX gr) (pt : Nat) (hk_pt : pX pt) (a1 : Int32) (hf_pt : dg_fil S pt) (I : CX o S) (sz : Nat) : Met l yX10_enter (bw yX10_enter cX10_enter 4 none) ({ frames := 1, cells := 0, slots := 0, locals := 32 } : Room) (dk_Pc g D (dg_w g shX o rfX S) sz [.ref (o + 214), .ref (o + gr), .ref (o + pt), .int a1]) (va_Qv (fun S' => CX o S' ∧ dg_sm shX [(36, 6), (36, 7), (36, 8), (36, 9)] [] S S' ∧ Z3X o S' ∧ (S' = F_w_enter o S gr pt a1) ∧ True) (dg_B g D shX o rfX) (dg_A o shX.length sz)) 0 0 (dg_A o shX.length sz) := by
  refine dg_met (cc := cX10_enter) (maxL := 4) (ret := none) (dk_dq rfl) rfl (Nat.le_of_ble_eq_true rfl) ?_
  intro p e s m args below meth c A hAe harg hx hb hr hml hts hown hlocks hin hP K hS hA1 hA ST hsz ls hl
  rw [← hAe]
  have F : CallFix p m c cX10_enter 4 s args (bw yX10_enter cX10_enter 4 none) RX10 := ⟨hx, hb, hml, hown, hts⟩
  have hl : lv_has ls 4 [(0, .ref (o + 214)), (1, .ref (o + gr)), (2, .ref (o + pt)), (3, .int a1)] := hl
  have M_0 : dg_sm shX [(36, 6), (36, 7), (36, 8), (36, 9)] [] S S := dg_sm.rf
  refine lv_aload_n hx hb dX10_enter_0 rfl (lv_at hl 0 rfl) ?_
  refine lv_aload_n hx hb dX10_enter_1 rfl (lv_at hl 1 rfl) ?_
  refine dg_put (ci := 10) (v := .ref (o + gr)) (ty := tyX10 6) (C := RX10) (T := TX10) (N := 13) hx hb hts (fun w h => bw_mem (wU_X10 w h)) tyX10 tyX10_ok nmX10 hown K hP hS hA1 sX_214 rfl 6 (dk_dq rfl) (hts _ (bw_mem wB_586)) (fun _ h9 => h9) rfl (by decide +kernel) rfl rfl dX10_enter_2 (fun S_1 e_1 H locs hP hS => ?_)
  have I_1 := dg_I.uFo (j := gr) (d := 0) I e_1 sX_214 (by decide +kernel) hk_gr
  have M_1 := dg_sm.uF M_0 e_1 sX_214 (dk_dq rfl)
  refine lv_aload_n hx hb dX10_enter_5 rfl (lv_at hl 0 rfl) ?_
  refine lv_aload_n hx hb dX10_enter_6 rfl (lv_at hl 2 rfl) ?_
  refine dg_put (ci := 10) (v := .ref (o + pt)) (ty := tyX10 7) (C := RX10) (T := TX10) (N := 13) hx hb hts (fun w h => bw_mem (wU_X10 w h)) tyX10 tyX10_ok nmX10 hown K hP hS hA1 sX_214 rfl 7 (dk_dq rfl) (hts _ (bw_mem wB_578)) (fun _ h9 => h9) rfl (by decide +kernel) rfl rfl dX10_enter_7 (fun S_2 e_2 H locs hP hS => ?_)
  have I_2 := dg_I.uFo (j := pt) (d := 1) I_1 e_2 sX_214 (by decide +kernel) hk_pt
  have M_2 := dg_sm.uF M_1 e_2 sX_214 (dk_dq rfl)
  have Z3_2 : Z3X o S_2 := Z3X.put e_2 ((dg_FG.uF e_1) pt hk_pt hf_pt) hk_pt
  refine lv_aload_n hx hb dX10_enter_10 rfl (lv_at hl 0 rfl) ?_
  refine lv_iload_n hx hb dX10_enter_11 rfl (lv_at hl 3 rfl) ?_
  refine dg_put (ci := 10) (v := .int a1) (ty := tyX10 8) (C := RX10) (T := TX10) (N := 13) hx hb hts (fun w h => bw_mem (wU_X10 w h)) tyX10 tyX10_ok nmX10 hown K hP hS hA1 sX_214 rfl 8 (dk_dq rfl) (hts _ (bw_mem wB_589)) (fun _ h9 => h9) rfl (by decide +kernel) rfl rfl dX10_enter_12 (fun S_3 e_3 H locs hP hS => ?_)
  have I_3 := dg_I.uFi (lo := (-2147483648)) (hi := 2147483647) I_2 e_3 sX_214 (by decide +kernel) (show (-2147483648) ≤ (a1).toInt ∧ (a1).toInt ≤ 2147483647 from (dk_full _))
  have M_3 := dg_sm.uF M_2 e_3 sX_214 (dk_dq rfl)
  refine lv_aload_n hx hb dX10_enter_15 rfl (lv_at hl 0 rfl) ?_
  refine lv_iconst (v := 1) hx hb dX10_enter_16 (by decide +kernel) ?_
  have hz_4 : (1 : Int32).toInt = 1 := by decide +kernel
  refine dg_put (ci := 10) (v := .int 1) (ty := tyX10 9) (C := RX10) (T := TX10) (N := 13) hx hb hts (fun w h => bw_mem (wU_X10 w h)) tyX10 tyX10_ok nmX10 hown K hP hS hA1 sX_214 rfl 9 (dk_dq rfl) (hts _ (bw_mem wB_584)) (fun _ h9 => h9) rfl (by decide +kernel) (by decide +kernel) (by decide +kernel) dX10_enter_17 (fun S_5 e_5 H locs hP hS => ?_)
  have I_5 := dg_I.uFi (lo := 0) (hi := 1) I_3 e_5 sX_214 (by decide +kernel) (show 0 ≤ ((1 : Int32)).toInt ∧ ((1 : Int32)).toInt ≤ 1 from (by decide +kernel))
  have M_5 := dg_sm.uF M_3 e_5 sX_214 (dk_dq rfl)
  have hF_1 : F_w_enter o S gr pt a1 = F_w_enter_J1 S_5 := (F_w_enter_p1 e_1 e_2 e_3 e_5)
  refine W.widen (k := 0) (n := 0) (Nat.le_of_ble_eq_true rfl) (Nat.le_of_ble_eq_true rfl) ?_
  exact dg_vret hx hb hr hlocks hP hS ⟨I_5, M_5, (Z3X.keep (Z3X.keep Z3_2 (dg_sm.uF (WF := [(36, 8)]) (WA := []) dg_sm.rf e_3 sX_214 (dk_dq rfl)) (dg_FG.uF e_3) (dk_dq rfl)) (dg_sm.uF (WF := [(36, 9)]) (WA := []) dg_sm.rf e_5 sX_214 (dk_dq rfl)) (dg_FG.uF e_5) (dk_dq rfl)), (Eq.symm (Eq.trans hF_1 (F_w_enter_p0))), trivial⟩ dX10_enter_20
noncomputable def F_w_farOf (o : Nat) (S : dg_S) (a1 : Int32) : dg_S × Int32 := let S_1 : dg_S := F_w_spreadLight o S; let x_3 : Int32 := S_1.2.1 217 (a1 : Int32).toNatClampNeg; (S_1, x_3)
theorem F_w_farOf_p0 {o : Nat} {S : dg_S} {a1 : Int32} {S_1 : dg_S} {x_3 : Int32} (h0 : S_1 = F_w_spreadLight o S) (h1 : x_3 = S_1.2.1 217 (a1 : Int32).toNatClampNeg) : F_w_farOf o S a1 = (S_1, x_3) := by
  replace h0 := Eq.symm h0
  subst h0
  replace h1 := Eq.symm h1
  subst h1
  exact rfl
set_option maxHeartbeats 8000000 in
set_option maxRecDepth 100000 in
theorem c_w_farOf (l : Launch) (g : Nat → ClassId) (D : va_G) (o : Nat) (S : dg_S) (a1 : Int32) (b_a1 : 0 ≤ (a1).toInt ∧ (a1).toInt ≤ 71) (Z2 : Z2X S) (Z3 : Z3X o S) (I : CX o S) (sz : Nat) : Met l yX10_farOf (bw yX10_farOf cX10_farOf 2 (some .int)) ({ frames := 4, cells := 0, slots := 0, locals := 105 } : Room) (dk_Pc g D (dg_w g shX o rfX S) sz [.ref (o + 214), .int a1]) (va_Qi (fun (r : Int32) S' => CX o S' ∧ dg_sm shX [(36, 4), (36, 9)] [39, 40, 41, 42] S S' ∧ Z2X S' ∧ (S' = (F_w_farOf o S a1).1 ∧ r = (F_w_farOf o S a1).2) ∧ True) (dg_B g D shX o rfX) (dg_A o shX.length sz)) 0 0 (dg_A o shX.length sz) := by
  refine dg_met (cc := cX10_farOf) (maxL := 2) (ret := (some .int)) (dk_dq rfl) rfl (Nat.le_of_ble_eq_true rfl) ?_
  intro p e s m args below meth c A hAe harg hx hb hr hml hts hown hlocks hin hP K hS hA1 hA ST hsz ls hl
  rw [← hAe]
  have F : CallFix p m c cX10_farOf 2 s args (bw yX10_farOf cX10_farOf 2 (some .int)) RX10 := ⟨hx, hb, hml, hown, hts⟩
  have hl : lv_has ls 2 [(0, .ref (o + 214)), (1, .int a1)] := hl
  have M_0 : dg_sm shX [(36, 4), (36, 9)] [39, 40, 41, 42] S S := dg_sm.rf
  refine lv_aload_n hx hb dX10_farOf_0 rfl (lv_at hl 0 rfl) ?_
  refine dg_callv hS hA1 hA (va_runV (As := []) (rest := []) F (c_w_spreadLight l g D o S Z2 Z3 I s.heap.size) (cwV 0 hts (bw_V wB_600 wB_601 wB_602 wB_594 wB_599) rfl rfl rfl (by decide +kernel) ⟨Nat.le_of_ble_eq_true rfl, Nat.le_of_ble_eq_true rfl⟩) (dg_preV sX_214 rfl K ST hP hS hA1 hA) rfl rfl hl.1 rfl (lv_room (Nat.le_of_ble_eq_true rfl)) dX10_farOf_1 ⟨Nat.le_of_ble_eq_true rfl, Nat.le_of_ble_eq_true rfl⟩) (fun S_1 hw_1 H locs hP hS => ?_)
  obtain ⟨I_1, m_1, w_1_0, w_1_1, -⟩ := hw_1
  have M_1 := dg_sm.tr M_0 m_1 (dk_dq rfl) (dk_dq rfl)
  refine lv_aload_n hx hb dX10_farOf_4 rfl (lv_at hl 0 rfl) ?_
  refine dg_get (C := RX10) (T := TX10) (N := 13) hx hb hts (fun w h => bw_mem (wU_X10 w h)) hown K hP sX_214 rfl 1 (dk_dq rfl) (hts _ (bw_mem wB_577)) (fun _ h9 => h9) (v := .ref (o + 217)) (show S_1.1 214 1 = .ref (o + 217) from dg_I.rel (d := 3) I_1 sX_214 (by decide +kernel)) dX10_farOf_5 ?_
  refine lv_iload_n hx hb dX10_farOf_8 rfl (lv_at hl 1 rfl) ?_
  have hin_2 : vp_in a1 72 := (dk_inv2 (by omega))
  refine dg_iald hx hb K hP sX_217 hin_2 dX10_farOf_9 (fun x_3 ex_3 => ?_)
  refine W.widen (k := 0) (n := 0) (Nat.le_of_ble_eq_true rfl) (Nat.le_of_ble_eq_true rfl) ?_
  exact dg_iret hx hb hr hlocks rfl hP hS ⟨I_1, M_1, w_1_0, ⟨congrArg Prod.fst (Eq.symm (F_w_farOf_p0 w_1_1 (Eq.symm ex_3.symm))), congrArg Prod.snd (Eq.symm (F_w_farOf_p0 w_1_1 (Eq.symm ex_3.symm)))⟩, trivial⟩ dX10_farOf_10
noncomputable def F_w_isLit (o : Nat) (S : dg_S) (a1 : Int32) : dg_S × Int32 := let S_2 : dg_S := (F_w_farOf o S a1).1; let x_1 : Int32 := (F_w_farOf o S a1).2; (if x_1 = (-1 : Int32) then (S_2, (0 : Int32)) else let x_5 : Int32 := zI S 214 8; (if x_5 < x_1 then (S_2, (0 : Int32)) else let d_12 : Nat := zR o S 214 7; let x_14 : Int32 := S_2.2.1 (d_12 + 1) (a1 : Int32).toNatClampNeg; (if x_14 = (255 : Int32) then (S_2, (1 : Int32)) else (S_2, (0 : Int32)))))
theorem F_w_isLit_p0 {o : Nat} {S : dg_S} {a1 : Int32} {S_2 : dg_S} {x_1 : Int32} (h0 : S_2 = (F_w_farOf o S a1).1) (h1 : x_1 = (F_w_farOf o S a1).2) (h2 : x_1 = (-1 : Int32)) : F_w_isLit o S a1 = (S_2, (0 : Int32)) := by
  replace h0 := Eq.symm h0
  subst h0
  replace h1 := Eq.symm h1
  subst h1
  exact (Eq.trans (if_pos h2) rfl)
theorem F_w_isLit_p1 {o : Nat} {S : dg_S} {a1 : Int32} {S_2 : dg_S} {x_1 : Int32} {x_5 : Int32} (h0 : S_2 = (F_w_farOf o S a1).1) (h1 : x_1 = (F_w_farOf o S a1).2) (h2 : ¬ (x_1 = (-1 : Int32))) (h3 : x_5 = zI S 214 8) (h4 : x_5 < x_1) : F_w_isLit o S a1 = (S_2, (0 : Int32)) := by
  replace h0 := Eq.symm h0
  subst h0
  replace h1 := Eq.symm h1
  subst h1
  replace h3 := Eq.symm h3
  subst h3
  exact (Eq.trans (if_neg h2) (Eq.trans (if_pos h4) rfl))
theorem F_w_isLit_p2 {o : Nat} {S : dg_S} {a1 : Int32} {S_2 : dg_S} {x_1 : Int32} {x_5 : Int32} {d_12 : Nat} {x_14 : Int32} (h0 : S_2 = (F_w_farOf o S a1).1) (h1 : x_1 = (F_w_farOf o S a1).2) (h2 : ¬ (x_1 = (-1 : Int32))) (h3 : x_5 = zI S 214 8) (h4 : ¬ (x_5 < x_1)) (h5 : d_12 = zR o S 214 7) (h6 : x_14 = S_2.2.1 (d_12 + 1) (a1 : Int32).toNatClampNeg) (h7 : ¬ (x_14 = (255 : Int32))) : F_w_isLit o S a1 = (S_2, (0 : Int32)) := by
  replace h0 := Eq.symm h0
  subst h0
  replace h1 := Eq.symm h1
  subst h1
  replace h3 := Eq.symm h3
  subst h3
  replace h5 := Eq.symm h5
  subst h5
  replace h6 := Eq.symm h6
  subst h6
  exact (Eq.trans (if_neg h2) (Eq.trans (if_neg h4) (Eq.trans (if_neg h7) rfl)))
theorem F_w_isLit_p3 {o : Nat} {S : dg_S} {a1 : Int32} {S_2 : dg_S} {x_1 : Int32} {x_5 : Int32} {d_12 : Nat} {x_14 : Int32} (h0 : S_2 = (F_w_farOf o S a1).1) (h1 : x_1 = (F_w_farOf o S a1).2) (h2 : ¬ (x_1 = (-1 : Int32))) (h3 : x_5 = zI S 214 8) (h4 : ¬ (x_5 < x_1)) (h5 : d_12 = zR o S 214 7) (h6 : x_14 = S_2.2.1 (d_12 + 1) (a1 : Int32).toNatClampNeg) (h7 : x_14 = (255 : Int32)) : F_w_isLit o S a1 = (S_2, (1 : Int32)) := by
  replace h0 := Eq.symm h0
  subst h0
  replace h1 := Eq.symm h1
  subst h1
  replace h3 := Eq.symm h3
  subst h3
  replace h5 := Eq.symm h5
  subst h5
  replace h6 := Eq.symm h6
  subst h6
  exact (Eq.trans (if_neg h2) (Eq.trans (if_neg h4) (Eq.trans (if_pos h7) rfl)))
set_option maxHeartbeats 8000000 in
set_option maxRecDepth 100000 in
theorem c_w_isLit (l : Launch) (g : Nat → ClassId) (D : va_G) (o : Nat) (S : dg_S) (a1 : Int32) (b_a1 : 0 ≤ (a1).toInt ∧ (a1).toInt ≤ 71) (Z2 : Z2X S) (Z3 : Z3X o S) (I : CX o S) (sz : Nat) : Met l yX10_isLit (bw yX10_isLit cX10_isLit 3 (some .boolean)) ({ frames := 5, cells := 0, slots := 0, locals := 126 } : Room) (dk_Pc g D (dg_w g shX o rfX S) sz [.ref (o + 214), .int a1]) (va_Qi (fun (r : Int32) S' => CX o S' ∧ dg_sm shX [(36, 4), (36, 9)] [39, 40, 41, 42] S S' ∧ (0 ≤ (r).toInt ∧ (r).toInt ≤ 1) ∧ Z2X S' ∧ (S' = (F_w_isLit o S a1).1 ∧ r = (F_w_isLit o S a1).2) ∧ True) (dg_B g D shX o rfX) (dg_A o shX.length sz)) 0 0 (dg_A o shX.length sz) := by
  refine dg_met (cc := cX10_isLit) (maxL := 3) (ret := (some .boolean)) (dk_dq rfl) rfl (Nat.le_of_ble_eq_true rfl) ?_
  intro p e s m args below meth c A hAe harg hx hb hr hml hts hown hlocks hin hP K hS hA1 hA ST hsz ls hl
  rw [← hAe]
  have F : CallFix p m c cX10_isLit 3 s args (bw yX10_isLit cX10_isLit 3 (some .boolean)) RX10 := ⟨hx, hb, hml, hown, hts⟩
  have hl : lv_has ls 3 [(0, .ref (o + 214)), (1, .int a1)] := hl
  have M_0 : dg_sm shX [(36, 4), (36, 9)] [39, 40, 41, 42] S S := dg_sm.rf
  refine lv_aload_n hx hb dX10_isLit_0 rfl (lv_at hl 0 rfl) ?_
  refine lv_iload_n hx hb dX10_isLit_1 rfl (lv_at hl 1 rfl) ?_
  refine dg_calli hS hA1 hA (va_runV (As := [.int a1]) (rest := []) F (c_w_farOf l g D o S a1 (by omega) Z2 Z3 I s.heap.size) (cwV 1 hts (bw_V wB_604 wB_605 wB_606 wB_594 wB_603) rfl rfl rfl (by decide +kernel) ⟨Nat.le_of_ble_eq_true rfl, Nat.le_of_ble_eq_true rfl⟩) (dg_preV sX_214 rfl K ST hP hS hA1 hA) rfl rfl hl.1 rfl (lv_room (Nat.le_of_ble_eq_true rfl)) dX10_isLit_2 ⟨Nat.le_of_ble_eq_true rfl, Nat.le_of_ble_eq_true rfl⟩) (fun x_1 S_2 hw_2 H locs hP hS => ?_)
  obtain ⟨I_2, m_2, w_2_0, w_2_1, -⟩ := hw_2
  have M_2 := dg_sm.tr M_0 m_2 (dk_dq rfl) (dk_dq rfl)
  refine lv_istore_n (lv' := [(2, .int x_1), (0, .ref (o + 214)), (1, .int a1)]) hx hb dX10_isLit_5 rfl hl (dk_dq rfl) rfl (fun ls hl => ?_)
  refine lv_iload_n hx hb dX10_isLit_6 rfl (lv_at hl 0 rfl) ?_
  refine lv_iconst (v := (-1)) hx hb dX10_isLit_7 (by decide +kernel) ?_
  refine lv_icmp_eq (tgt := 38) hx hb dX10_isLit_8 (dk_dq rfl) (fun c_3 => ?_) (fun c_3 => ?_)
  · have jc_3 := dk_eqc (k := (-1)) (by decide +kernel) c_3
    refine lv_iconst (v := 0) hx hb dX10_isLit_38 (by decide +kernel) ?_
    have hz_4 : (0 : Int32).toInt = 0 := by decide +kernel
    refine W.widen (k := 0) (n := 0) (Nat.le_of_ble_eq_true rfl) (Nat.le_of_ble_eq_true rfl) ?_
    exact dg_iret hx hb hr hlocks (by decide +kernel) hP hS ⟨I_2, M_2, (by decide +kernel), w_2_0, ⟨congrArg Prod.fst (Eq.symm (F_w_isLit_p0 w_2_1.1 w_2_1.2 c_3)), congrArg Prod.snd (Eq.symm (F_w_isLit_p0 w_2_1.1 w_2_1.2 c_3))⟩, trivial⟩ dX10_isLit_39
  · as_aux_lemma =>
      have jc_3 := dk_neqc (k := (-1)) (by decide +kernel) c_3
      refine lv_iload_n hx hb dX10_isLit_11 rfl (lv_at hl 0 rfl) ?_
      refine lv_aload_n hx hb dX10_isLit_12 rfl (lv_at hl 1 rfl) ?_
      obtain ⟨x_5, f_x_5, b_x_5⟩ := dg_I.int (i := 214) (k := 8) (lo := (-2147483648)) (hi := 2147483647) I sX_214 (by decide +kernel)
      refine dg_get (C := RX10) (T := TX10) (N := 13) hx hb hts (fun w h => bw_mem (wU_X10 w h)) hown K hP sX_214 rfl 8 (dk_dq rfl) (hts _ (bw_mem wB_589)) (fun _ h9 => h9) (v := .int x_5) ((m_2.1 214 8 _ sX_214 (dk_dq rfl)).trans f_x_5) dX10_isLit_13 ?_
      refine lv_icmp_gt (tgt := 38) hx hb dX10_isLit_16 (dk_dq rfl) (fun c_6 => ?_) (fun c_6 => ?_)
      · have hf_6 := dk_full x_1
        have hf_7 := dk_full x_5
        have jc_6 := dk_gtc (k := (x_5).toInt) rfl c_6
        refine lv_iconst (v := 0) hx hb dX10_isLit_38 (by decide +kernel) ?_
        have hz_9 : (0 : Int32).toInt = 0 := by decide +kernel
        refine W.widen (k := 0) (n := 0) (Nat.le_of_ble_eq_true rfl) (Nat.le_of_ble_eq_true rfl) ?_
        exact dg_iret hx hb hr hlocks (by decide +kernel) hP hS ⟨I_2, M_2, (by decide +kernel), w_2_0, ⟨congrArg Prod.fst (Eq.symm (F_w_isLit_p1 w_2_1.1 w_2_1.2 c_3 (zI_eq f_x_5) c_6)), congrArg Prod.snd (Eq.symm (F_w_isLit_p1 w_2_1.1 w_2_1.2 c_3 (zI_eq f_x_5) c_6))⟩, trivial⟩ dX10_isLit_39
      · as_aux_lemma =>
          have hf_9 := dk_full x_1
          have hf_10 := dk_full x_5
          have jc_6 := dk_ngtc (k := (x_5).toInt) rfl c_6
          refine lv_aload_n hx hb dX10_isLit_19 rfl (lv_at hl 1 rfl) ?_
          obtain ⟨d_12, hk_d_12, f_d_12⟩ := dg_I.one (i := 214) (k := 7) (d := 1) I sX_214 (by decide +kernel)
          have hk_d_12 : pX d_12 := hk_d_12
          refine dg_get (C := RX10) (T := TX10) (N := 13) hx hb hts (fun w h => bw_mem (wU_X10 w h)) hown K hP sX_214 rfl 7 (dk_dq rfl) (hts _ (bw_mem wB_578)) (fun _ h9 => h9) (v := .ref (o + d_12)) ((m_2.1 214 7 _ sX_214 (dk_dq rfl)).trans f_d_12) dX10_isLit_20 ?_
          refine dg_get (C := RX5) (T := TX5) (N := 8) hx hb hts (fun w h => bw_mem (wU_X5 w h)) hown K hP (pX_0 d_12 hk_d_12) rfl 2 (dk_dq rfl) (hts _ (bw_mem wB_588)) (fun _ h9 => h9) (v := .ref (o + (d_12 + 1))) (show S_2.1 d_12 2 = .ref (o + (d_12 + 1)) from dg_I.rel (d := 1) I_2 (pX_0 d_12 hk_d_12) (by decide +kernel)) dX10_isLit_23 ?_
          refine lv_iload_n hx hb dX10_isLit_26 rfl (lv_at hl 2 rfl) ?_
          have hin_13 : vp_in a1 72 := (dk_inv2 (by omega))
          refine dg_iald hx hb K hP (pX_1 d_12 hk_d_12) hin_13 dX10_isLit_27 (fun x_14 ex_14 => ?_)
          have b_x_14 := dg_cel_at (dg_I.cel (lo := 0) (hi := 255) I_2 (pX_1 d_12 hk_d_12) (by decide +kernel) ((dg_FG.sm m_2 (dk_dq rfl)) d_12 hk_d_12 (Z3 d_12 hk_d_12 f_d_12))) hin_13 ex_14
          refine lv_sipush (v := 255) hx hb dX10_isLit_28 (by decide +kernel) ?_
          refine lv_icmp_ne (tgt := 38) hx hb dX10_isLit_31 (dk_dq rfl) (fun c_15 => ?_) (fun c_15 => ?_)
          · have jc_15 := dk_neqc (k := 255) (by decide +kernel) c_15
            refine lv_iconst (v := 0) hx hb dX10_isLit_38 (by decide +kernel) ?_
            have hz_16 : (0 : Int32).toInt = 0 := by decide +kernel
            refine W.widen (k := 0) (n := 0) (Nat.le_of_ble_eq_true rfl) (Nat.le_of_ble_eq_true rfl) ?_
            exact dg_iret hx hb hr hlocks (by decide +kernel) hP hS ⟨I_2, M_2, (by decide +kernel), w_2_0, ⟨congrArg Prod.fst (Eq.symm (F_w_isLit_p2 w_2_1.1 w_2_1.2 c_3 (zI_eq f_x_5) c_6 (zR_eq f_d_12) (Eq.symm ex_14.symm) c_15)), congrArg Prod.snd (Eq.symm (F_w_isLit_p2 w_2_1.1 w_2_1.2 c_3 (zI_eq f_x_5) c_6 (zR_eq f_d_12) (Eq.symm ex_14.symm) c_15))⟩, trivial⟩ dX10_isLit_39
          · have jc_15 := dk_eqc (k := 255) (by decide +kernel) c_15
            refine lv_iconst (v := 1) hx hb dX10_isLit_34 (by decide +kernel) ?_
            refine lv_goto (tgt := 39) hx hb dX10_isLit_35 (dk_dq rfl) ?_
            have hz_17 : (1 : Int32).toInt = 1 := by decide +kernel
            refine W.widen (k := 0) (n := 0) (Nat.le_of_ble_eq_true rfl) (Nat.le_of_ble_eq_true rfl) ?_
            exact dg_iret hx hb hr hlocks (by decide +kernel) hP hS ⟨I_2, M_2, (by decide +kernel), w_2_0, ⟨congrArg Prod.fst (Eq.symm (F_w_isLit_p3 w_2_1.1 w_2_1.2 c_3 (zI_eq f_x_5) c_6 (zR_eq f_d_12) (Eq.symm ex_14.symm) c_15)), congrArg Prod.snd (Eq.symm (F_w_isLit_p3 w_2_1.1 w_2_1.2 c_3 (zI_eq f_x_5) c_6 (zR_eq f_d_12) (Eq.symm ex_14.symm) c_15))⟩, trivial⟩ dX10_isLit_39
noncomputable def F_w_tellDigging_J1 (S_12 : dg_S) (a1 : Int32) : dg_S := let x_14 : Int32 := S_12.2.1 218 (a1 : Int32).toNatClampNeg; (if (1000 : Int32) ≤ x_14 then let S_17 : dg_S := dg_uF S_12 215 5 (.int (0 : Int32)); (S_17) else let S_19 : dg_S := dg_uF S_12 215 5 (.int (1 : Int32)); (S_19))
noncomputable def F_w_tellDigging (o : Nat) (S : dg_S) (a1 : Int32) : dg_S := let d_1 : Nat := zR o S 214 7; let x_3 : Int32 := S.2.1 (d_1 + 1) (a1 : Int32).toNatClampNeg; let S_4 : dg_S := dg_uF S 215 0 (.int x_3); let x_5 : Int32 := F_rowOf o S_4 a1; let S_7 : dg_S := dg_uF S_4 215 1 (.int x_5); let x_8 : Int32 := zI S d_1 0; let S_9 : dg_S := dg_uF S_7 215 2 (.int x_8); let x_10 : Int32 := F_p_openBeside o S_9 d_1 a1; let S_12 : dg_S := dg_uF S_9 215 4 (.int x_10); (F_w_tellDigging_J1 S_12 a1)
theorem F_w_tellDigging_p0 {S_12 : dg_S} {a1 : Int32} {S_17 : dg_S} {x_14 : Int32} (h0 : x_14 = S_12.2.1 218 (a1 : Int32).toNatClampNeg) (h1 : (1000 : Int32) ≤ x_14) (h2 : S_17 = dg_uF S_12 215 5 (.int (0 : Int32))) : F_w_tellDigging_J1 S_12 a1 = S_17 := by
  replace h0 := Eq.symm h0
  subst h0
  replace h2 := Eq.symm h2
  subst h2
  exact (Eq.trans (if_pos h1) rfl)
theorem F_w_tellDigging_p1 {S_12 : dg_S} {a1 : Int32} {S_19 : dg_S} {x_14 : Int32} (h0 : x_14 = S_12.2.1 218 (a1 : Int32).toNatClampNeg) (h1 : ¬ ((1000 : Int32) ≤ x_14)) (h2 : S_19 = dg_uF S_12 215 5 (.int (1 : Int32))) : F_w_tellDigging_J1 S_12 a1 = S_19 := by
  replace h0 := Eq.symm h0
  subst h0
  replace h2 := Eq.symm h2
  subst h2
  exact (Eq.trans (if_neg h1) rfl)
theorem F_w_tellDigging_p2 {o : Nat} {S : dg_S} {a1 : Int32} {S_12 : dg_S} {d_1 : Nat} {x_3 : Int32} {S_4 : dg_S} {x_5 : Int32} {S_7 : dg_S} {x_8 : Int32} {S_9 : dg_S} {x_10 : Int32} (h0 : d_1 = zR o S 214 7) (h1 : x_3 = S.2.1 (d_1 + 1) (a1 : Int32).toNatClampNeg) (h2 : S_4 = dg_uF S 215 0 (.int x_3)) (h3 : x_5 = F_rowOf o S_4 a1) (h4 : S_7 = dg_uF S_4 215 1 (.int x_5)) (h5 : x_8 = zI S d_1 0) (h6 : S_9 = dg_uF S_7 215 2 (.int x_8)) (h7 : x_10 = F_p_openBeside o S_9 d_1 a1) (h8 : S_12 = dg_uF S_9 215 4 (.int x_10)) : F_w_tellDigging o S a1 = F_w_tellDigging_J1 S_12 a1 := by
  replace h0 := Eq.symm h0
  subst h0
  replace h1 := Eq.symm h1
  subst h1
  replace h2 := Eq.symm h2
  subst h2
  replace h3 := Eq.symm h3
  subst h3
  replace h4 := Eq.symm h4
  subst h4
  replace h5 := Eq.symm h5
  subst h5
  replace h6 := Eq.symm h6
  subst h6
  replace h7 := Eq.symm h7
  subst h7
  replace h8 := Eq.symm h8
  subst h8
  exact rfl
set_option maxHeartbeats 8000000 in
set_option maxRecDepth 100000 in
theorem c_w_tellDigging (l : Launch) (g : Nat → ClassId) (D : va_G) (o : Nat) (S : dg_S) (a1 : Int32) (b_a1 : 8 ≤ (a1).toInt ∧ (a1).toInt ≤ 63) (I : CX o S) (sz : Nat) : Met l yX10_tellDigging (bw yX10_tellDigging cX10_tellDigging 2 none) ({ frames := 3, cells := 0, slots := 0, locals := 79 } : Room) (dk_Pc g D (dg_w g shX o rfX S) sz [.ref (o + 214), .int a1]) (va_Qv (fun S' => CX o S' ∧ dg_sm shX [(37, 0), (37, 1), (37, 2), (37, 4), (37, 5)] [] S S' ∧ (S' = F_w_tellDigging o S a1) ∧ True) (dg_B g D shX o rfX) (dg_A o shX.length sz)) 0 0 (dg_A o shX.length sz) := by
  refine dg_met (cc := cX10_tellDigging) (maxL := 2) (ret := none) (dk_dq rfl) rfl (Nat.le_of_ble_eq_true rfl) ?_
  intro p e s m args below meth c A hAe harg hx hb hr hml hts hown hlocks hin hP K hS hA1 hA ST hsz ls hl
  rw [← hAe]
  have F : CallFix p m c cX10_tellDigging 2 s args (bw yX10_tellDigging cX10_tellDigging 2 none) RX10 := ⟨hx, hb, hml, hown, hts⟩
  have hl : lv_has ls 2 [(0, .ref (o + 214)), (1, .int a1)] := hl
  have M_0 : dg_sm shX [(37, 0), (37, 1), (37, 2), (37, 4), (37, 5)] [] S S := dg_sm.rf
  refine lv_aload_n hx hb dX10_tellDigging_0 rfl (lv_at hl 0 rfl) ?_
  refine dg_get (C := RX10) (T := TX10) (N := 13) hx hb hts (fun w h => bw_mem (wU_X10 w h)) hown K hP sX_214 rfl 0 (dk_dq rfl) (hts _ (bw_mem wB_607)) (fun _ h9 => h9) (v := .ref (o + 215)) (show S.1 214 0 = .ref (o + 215) from dg_I.rel (d := 1) I sX_214 (by decide +kernel)) dX10_tellDigging_1 ?_
  refine lv_aload_n hx hb dX10_tellDigging_4 rfl (lv_at hl 0 rfl) ?_
  obtain ⟨d_1, hk_d_1, f_d_1⟩ := dg_I.one (i := 214) (k := 7) (d := 1) I sX_214 (by decide +kernel)
  have hk_d_1 : pX d_1 := hk_d_1
  refine dg_get (C := RX10) (T := TX10) (N := 13) hx hb hts (fun w h => bw_mem (wU_X10 w h)) hown K hP sX_214 rfl 7 (dk_dq rfl) (hts _ (bw_mem wB_578)) (fun _ h9 => h9) (v := .ref (o + d_1)) f_d_1 dX10_tellDigging_5 ?_
  refine dg_get (C := RX5) (T := TX5) (N := 8) hx hb hts (fun w h => bw_mem (wU_X5 w h)) hown K hP (pX_0 d_1 hk_d_1) rfl 2 (dk_dq rfl) (hts _ (bw_mem wB_588)) (fun _ h9 => h9) (v := .ref (o + (d_1 + 1))) (show S.1 d_1 2 = .ref (o + (d_1 + 1)) from dg_I.rel (d := 1) I (pX_0 d_1 hk_d_1) (by decide +kernel)) dX10_tellDigging_8 ?_
  refine lv_iload_n hx hb dX10_tellDigging_11 rfl (lv_at hl 1 rfl) ?_
  have hin_2 : vp_in a1 72 := (dk_inv2 (by omega))
  refine dg_iald hx hb K hP (pX_1 d_1 hk_d_1) hin_2 dX10_tellDigging_12 (fun x_3 ex_3 => ?_)
  have b_x_3 := dg_c0_at (dg_I.cel0 (lo := 0) (hi := 255) I (pX_1 d_1 hk_d_1) (by decide +kernel)) hin_2 ex_3
  refine dg_put (ci := 7) (v := .int x_3) (ty := tyX7 0) (C := RX7) (T := TX7) (N := 8) hx hb hts (fun w h => bw_mem (wU_X7 w h)) tyX7 tyX7_ok nmX7 hown K hP hS hA1 sX_215 rfl 0 (dk_dq rfl) (hts _ (bw_mem wB_608)) (fun _ h9 => h9) rfl (by decide +kernel) rfl rfl dX10_tellDigging_13 (fun S_4 e_4 H locs hP hS => ?_)
  have I_4 := dg_I.uFi (lo := (-2147483648)) (hi := 2147483647) I e_4 sX_215 (by decide +kernel) (show (-2147483648) ≤ (x_3).toInt ∧ (x_3).toInt ≤ 2147483647 from (dk_full _))
  have M_4 := dg_sm.uF M_0 e_4 sX_215 (dk_dq rfl)
  refine lv_aload_n hx hb dX10_tellDigging_16 rfl (lv_at hl 0 rfl) ?_
  refine dg_get (C := RX10) (T := TX10) (N := 13) hx hb hts (fun w h => bw_mem (wU_X10 w h)) hown K hP sX_214 rfl 0 (dk_dq rfl) (hts _ (bw_mem wB_607)) (fun _ h9 => h9) (v := .ref (o + 215)) (show S_4.1 214 0 = .ref (o + 215) from dg_I.rel (d := 1) I_4 sX_214 (by decide +kernel)) dX10_tellDigging_17 ?_
  refine lv_iload_n hx hb dX10_tellDigging_20 rfl (lv_at hl 1 rfl) ?_
  refine dg_calli hS hA1 hA (va_runSN (As := [.int a1]) (rest := [.ref (o + 215)]) F (c_rowOf l g D o S_4 a1 I_4 H.size) ⟨va_cnB 1 hts (bw_in wB_609) rfl rfl rfl (K.2.1 _ (List.mem_of_getElem? (i := 8) rfl)) (hts _ (bw_mem wB_610)) (by decide +kernel) ⟨Nat.le_of_ble_eq_true rfl, Nat.le_of_ble_eq_true rfl⟩, (hts _ (bw_mem wB_611)), trivial⟩ (dg_preS K ST hP hS hA1 hA) rfl rfl hl.1 rfl (lv_room (Nat.le_of_ble_eq_true rfl)) dX10_tellDigging_21 ⟨Nat.le_of_ble_eq_true rfl, Nat.le_of_ble_eq_true rfl⟩) (fun x_5 S_6 hw_6 H locs hP hS => ?_)
  rw [hw_6.1] at hP
  obtain ⟨hq_6, w_6_0, -⟩ := hw_6
  refine dg_put (ci := 7) (v := .int x_5) (ty := tyX7 1) (C := RX7) (T := TX7) (N := 8) hx hb hts (fun w h => bw_mem (wU_X7 w h)) tyX7 tyX7_ok nmX7 hown K hP hS hA1 sX_215 rfl 1 (dk_dq rfl) (hts _ (bw_mem wB_612)) (fun _ h9 => h9) rfl (by decide +kernel) rfl rfl dX10_tellDigging_24 (fun S_7 e_7 H locs hP hS => ?_)
  have I_7 := dg_I.uFi (lo := (-2147483648)) (hi := 2147483647) I_4 e_7 sX_215 (by decide +kernel) (show (-2147483648) ≤ (x_5).toInt ∧ (x_5).toInt ≤ 2147483647 from (dk_full _))
  have M_7 := dg_sm.uF M_4 e_7 sX_215 (dk_dq rfl)
  refine lv_aload_n hx hb dX10_tellDigging_27 rfl (lv_at hl 0 rfl) ?_
  refine dg_get (C := RX10) (T := TX10) (N := 13) hx hb hts (fun w h => bw_mem (wU_X10 w h)) hown K hP sX_214 rfl 0 (dk_dq rfl) (hts _ (bw_mem wB_607)) (fun _ h9 => h9) (v := .ref (o + 215)) (show S_7.1 214 0 = .ref (o + 215) from dg_I.rel (d := 1) I_7 sX_214 (by decide +kernel)) dX10_tellDigging_28 ?_
  refine lv_aload_n hx hb dX10_tellDigging_31 rfl (lv_at hl 0 rfl) ?_
  refine dg_get (C := RX10) (T := TX10) (N := 13) hx hb hts (fun w h => bw_mem (wU_X10 w h)) hown K hP sX_214 rfl 7 (dk_dq rfl) (hts _ (bw_mem wB_578)) (fun _ h9 => h9) (v := .ref (o + d_1)) (((dg_uF_ne e_7 (fun z => absurd z.2 (dk_dq rfl))).trans (dg_uF_ne e_4 (fun z => absurd z.2 (dk_dq rfl)))).trans f_d_1) dX10_tellDigging_32 ?_
  obtain ⟨x_8, f_x_8, b_x_8⟩ := dg_I.int (i := d_1) (k := 0) (lo := 0) (hi := 65535) I (pX_0 d_1 hk_d_1) (by decide +kernel)
  refine dg_get (C := RX5) (T := TX5) (N := 8) hx hb hts (fun w h => bw_mem (wU_X5 w h)) hown K hP (pX_0 d_1 hk_d_1) rfl 0 (dk_dq rfl) (hts _ (bw_mem wB_613)) (fun _ h9 => h9) (v := .int x_8) (((dg_uF_ne e_7 (fun z => absurd z.2 (dk_dq rfl))).trans (dg_uF_ne e_4 (fun z => by have h9 := (pX_0 d_1 hk_d_1); rw [z.1, sX_215] at h9; cases h9))).trans f_x_8) dX10_tellDigging_35 ?_
  refine dg_put (ci := 7) (v := .int x_8) (ty := tyX7 2) (C := RX7) (T := TX7) (N := 8) hx hb hts (fun w h => bw_mem (wU_X7 w h)) tyX7 tyX7_ok nmX7 hown K hP hS hA1 sX_215 rfl 2 (dk_dq rfl) (hts _ (bw_mem wB_614)) (fun _ h9 => h9) rfl (by decide +kernel) rfl rfl dX10_tellDigging_38 (fun S_9 e_9 H locs hP hS => ?_)
  have I_9 := dg_I.uFi (lo := (-2147483648)) (hi := 2147483647) I_7 e_9 sX_215 (by decide +kernel) (show (-2147483648) ≤ (x_8).toInt ∧ (x_8).toInt ≤ 2147483647 from (dk_full _))
  have M_9 := dg_sm.uF M_7 e_9 sX_215 (dk_dq rfl)
  refine lv_aload_n hx hb dX10_tellDigging_41 rfl (lv_at hl 0 rfl) ?_
  refine dg_get (C := RX10) (T := TX10) (N := 13) hx hb hts (fun w h => bw_mem (wU_X10 w h)) hown K hP sX_214 rfl 0 (dk_dq rfl) (hts _ (bw_mem wB_607)) (fun _ h9 => h9) (v := .ref (o + 215)) (show S_9.1 214 0 = .ref (o + 215) from dg_I.rel (d := 1) I_9 sX_214 (by decide +kernel)) dX10_tellDigging_42 ?_
  as_aux_lemma =>
    refine lv_aload_n hx hb dX10_tellDigging_45 rfl (lv_at hl 0 rfl) ?_
    refine dg_get (C := RX10) (T := TX10) (N := 13) hx hb hts (fun w h => bw_mem (wU_X10 w h)) hown K hP sX_214 rfl 7 (dk_dq rfl) (hts _ (bw_mem wB_578)) (fun _ h9 => h9) (v := .ref (o + d_1)) (((dg_uF_ne e_9 (fun z => absurd z.2 (dk_dq rfl))).trans ((dg_uF_ne e_7 (fun z => absurd z.2 (dk_dq rfl))).trans (dg_uF_ne e_4 (fun z => absurd z.2 (dk_dq rfl))))).trans f_d_1) dX10_tellDigging_46 ?_
    refine lv_iload_n hx hb dX10_tellDigging_49 rfl (lv_at hl 1 rfl) ?_
    refine dg_calli hS hA1 hA (va_runV (As := [.int a1]) (rest := [.ref (o + 215)]) F (c_p_openBeside l g D o S_9 d_1 hk_d_1 a1 (by omega) I_9 H.size) (cwV 1 hts (bw_V wB_615 wB_500 wB_501 wB_493 wB_498) rfl rfl rfl (by decide +kernel) ⟨Nat.le_of_ble_eq_true rfl, Nat.le_of_ble_eq_true rfl⟩) (dg_preV (pX_0 d_1 hk_d_1) rfl K ST hP hS hA1 hA) rfl rfl hl.1 rfl (lv_room (Nat.le_of_ble_eq_true rfl)) dX10_tellDigging_50 ⟨Nat.le_of_ble_eq_true rfl, Nat.le_of_ble_eq_true rfl⟩) (fun x_10 S_11 hw_11 H locs hP hS => ?_)
    rw [hw_11.1] at hP
    obtain ⟨hq_11, w_11_0, -⟩ := hw_11
    refine dg_put (ci := 7) (v := .int x_10) (ty := tyX7 4) (C := RX7) (T := TX7) (N := 8) hx hb hts (fun w h => bw_mem (wU_X7 w h)) tyX7 tyX7_ok nmX7 hown K hP hS hA1 sX_215 rfl 4 (dk_dq rfl) (hts _ (bw_mem wB_616)) (fun _ h9 => h9) rfl (by decide +kernel) rfl rfl dX10_tellDigging_53 (fun S_12 e_12 H locs hP hS => ?_)
    have I_12 := dg_I.uFi (lo := (-2147483648)) (hi := 2147483647) I_9 e_12 sX_215 (by decide +kernel) (show (-2147483648) ≤ (x_10).toInt ∧ (x_10).toInt ≤ 2147483647 from (dk_full _))
    have M_12 := dg_sm.uF M_9 e_12 sX_215 (dk_dq rfl)
    have hF_1 : F_w_tellDigging o S a1 = F_w_tellDigging_J1 S_12 a1 := (F_w_tellDigging_p2 (zR_eq f_d_1) (Eq.symm ex_3.symm) e_4 w_6_0 e_7 (zI_eq f_x_8) e_9 w_11_0 e_12)
    refine lv_aload_n hx hb dX10_tellDigging_56 rfl (lv_at hl 0 rfl) ?_
    refine dg_get (C := RX10) (T := TX10) (N := 13) hx hb hts (fun w h => bw_mem (wU_X10 w h)) hown K hP sX_214 rfl 0 (dk_dq rfl) (hts _ (bw_mem wB_607)) (fun _ h9 => h9) (v := .ref (o + 215)) (show S_12.1 214 0 = .ref (o + 215) from dg_I.rel (d := 1) I_12 sX_214 (by decide +kernel)) dX10_tellDigging_57 ?_
    refine lv_aload_n hx hb dX10_tellDigging_60 rfl (lv_at hl 0 rfl) ?_
    refine dg_get (C := RX10) (T := TX10) (N := 13) hx hb hts (fun w h => bw_mem (wU_X10 w h)) hown K hP sX_214 rfl 2 (dk_dq rfl) (hts _ (bw_mem wB_576)) (fun _ h9 => h9) (v := .ref (o + 218)) (show S_12.1 214 2 = .ref (o + 218) from dg_I.rel (d := 4) I_12 sX_214 (by decide +kernel)) dX10_tellDigging_61 ?_
    refine lv_iload_n hx hb dX10_tellDigging_64 rfl (lv_at hl 1 rfl) ?_
    have hin_13 : vp_in a1 72 := (dk_inv2 (by omega))
    refine dg_iald hx hb K hP sX_218 hin_13 dX10_tellDigging_65 (fun x_14 ex_14 => ?_)
    refine lv_sipush (v := 1000) hx hb dX10_tellDigging_66 (by decide +kernel) ?_
    refine lv_icmp_ge (tgt := 76) hx hb dX10_tellDigging_69 (dk_dq rfl) (fun c_15 => ?_) (fun c_15 => ?_)
    · have jc_15 := dk_gec (k := 1000) (by decide +kernel) c_15
      refine lv_iconst (v := 0) hx hb dX10_tellDigging_76 (by decide +kernel) ?_
      have hz_16 : (0 : Int32).toInt = 0 := by decide +kernel
      refine dg_put (ci := 7) (v := .int 0) (ty := tyX7 5) (C := RX7) (T := TX7) (N := 8) hx hb hts (fun w h => bw_mem (wU_X7 w h)) tyX7 tyX7_ok nmX7 hown K hP hS hA1 sX_215 rfl 5 (dk_dq rfl) (hts _ (bw_mem wB_617)) (fun _ h9 => h9) rfl (by decide +kernel) rfl rfl dX10_tellDigging_77 (fun S_17 e_17 H locs hP hS => ?_)
      have I_17 := dg_I.uFi (lo := (-2147483648)) (hi := 2147483647) I_12 e_17 sX_215 (by decide +kernel) (show (-2147483648) ≤ ((0 : Int32)).toInt ∧ ((0 : Int32)).toInt ≤ 2147483647 from (by decide +kernel))
      have M_17 := dg_sm.uF M_12 e_17 sX_215 (dk_dq rfl)
      refine W.widen (k := 0) (n := 0) (Nat.le_of_ble_eq_true rfl) (Nat.le_of_ble_eq_true rfl) ?_
      exact dg_vret hx hb hr hlocks hP hS ⟨I_17, M_17, (Eq.symm (Eq.trans hF_1 (F_w_tellDigging_p0 (Eq.symm ex_14.symm) c_15 e_17))), trivial⟩ dX10_tellDigging_80
    · have jc_15 := dk_ngec (k := 1000) (by decide +kernel) c_15
      refine lv_iconst (v := 1) hx hb dX10_tellDigging_72 (by decide +kernel) ?_
      refine lv_goto (tgt := 77) hx hb dX10_tellDigging_73 (dk_dq rfl) ?_
      have hz_18 : (1 : Int32).toInt = 1 := by decide +kernel
      refine dg_put (ci := 7) (v := .int 1) (ty := tyX7 5) (C := RX7) (T := TX7) (N := 8) hx hb hts (fun w h => bw_mem (wU_X7 w h)) tyX7 tyX7_ok nmX7 hown K hP hS hA1 sX_215 rfl 5 (dk_dq rfl) (hts _ (bw_mem wB_617)) (fun _ h9 => h9) rfl (by decide +kernel) rfl rfl dX10_tellDigging_77 (fun S_19 e_19 H locs hP hS => ?_)
      have I_19 := dg_I.uFi (lo := (-2147483648)) (hi := 2147483647) I_12 e_19 sX_215 (by decide +kernel) (show (-2147483648) ≤ ((1 : Int32)).toInt ∧ ((1 : Int32)).toInt ≤ 2147483647 from (by decide +kernel))
      have M_19 := dg_sm.uF M_12 e_19 sX_215 (dk_dq rfl)
      refine W.widen (k := 0) (n := 0) (Nat.le_of_ble_eq_true rfl) (Nat.le_of_ble_eq_true rfl) ?_
      exact dg_vret hx hb hr hlocks hP hS ⟨I_19, M_19, (Eq.symm (Eq.trans hF_1 (F_w_tellDigging_p1 (Eq.symm ex_14.symm) c_15 e_19))), trivial⟩ dX10_tellDigging_80
noncomputable def F_w_isSafe (o : Nat) (S : dg_S) (a1 : Int32) : dg_S × Int32 := let d_1 : Nat := zR o S 214 7; let x_2 : Int32 := F_p_canBeDug o S d_1 a1; (if x_2 = (0 : Int32) then (S, (0 : Int32)) else let S_5 : dg_S := F_w_spreadLight o S; let S_6 : dg_S := F_w_tellDigging o S_5 a1; let d_7 : Nat := zR o S 214 6; let S_10 : dg_S := (F_r_valueOf o S_6 d_7 (1 : Int32) (0 : Int32)).1; let x_9 : Int32 := (F_r_valueOf o S_6 d_7 (1 : Int32) (0 : Int32)).2; (if x_9 = (0 : Int32) then (S_10, (1 : Int32)) else (S_10, (0 : Int32))))
theorem F_w_isSafe_p0 {o : Nat} {S : dg_S} {a1 : Int32} {S_10 : dg_S} {d_1 : Nat} {x_2 : Int32} {S_5 : dg_S} {S_6 : dg_S} {d_7 : Nat} {x_9 : Int32} (h0 : d_1 = zR o S 214 7) (h1 : x_2 = F_p_canBeDug o S d_1 a1) (h2 : ¬ (x_2 = (0 : Int32))) (h3 : S_5 = F_w_spreadLight o S) (h4 : S_6 = F_w_tellDigging o S_5 a1) (h5 : d_7 = zR o S 214 6) (h6 : S_10 = (F_r_valueOf o S_6 d_7 (1 : Int32) (0 : Int32)).1) (h7 : x_9 = (F_r_valueOf o S_6 d_7 (1 : Int32) (0 : Int32)).2) (h8 : ¬ (x_9 = (0 : Int32))) : F_w_isSafe o S a1 = (S_10, (0 : Int32)) := by
  replace h0 := Eq.symm h0
  subst h0
  replace h1 := Eq.symm h1
  subst h1
  replace h3 := Eq.symm h3
  subst h3
  replace h4 := Eq.symm h4
  subst h4
  replace h5 := Eq.symm h5
  subst h5
  replace h6 := Eq.symm h6
  subst h6
  replace h7 := Eq.symm h7
  subst h7
  exact (Eq.trans (if_neg h2) (Eq.trans (if_neg h8) rfl))
theorem F_w_isSafe_p1 {o : Nat} {S : dg_S} {a1 : Int32} {S_10 : dg_S} {d_1 : Nat} {x_2 : Int32} {S_5 : dg_S} {S_6 : dg_S} {d_7 : Nat} {x_9 : Int32} (h0 : d_1 = zR o S 214 7) (h1 : x_2 = F_p_canBeDug o S d_1 a1) (h2 : ¬ (x_2 = (0 : Int32))) (h3 : S_5 = F_w_spreadLight o S) (h4 : S_6 = F_w_tellDigging o S_5 a1) (h5 : d_7 = zR o S 214 6) (h6 : S_10 = (F_r_valueOf o S_6 d_7 (1 : Int32) (0 : Int32)).1) (h7 : x_9 = (F_r_valueOf o S_6 d_7 (1 : Int32) (0 : Int32)).2) (h8 : x_9 = (0 : Int32)) : F_w_isSafe o S a1 = (S_10, (1 : Int32)) := by
  replace h0 := Eq.symm h0
  subst h0
  replace h1 := Eq.symm h1
  subst h1
  replace h3 := Eq.symm h3
  subst h3
  replace h4 := Eq.symm h4
  subst h4
  replace h5 := Eq.symm h5
  subst h5
  replace h6 := Eq.symm h6
  subst h6
  replace h7 := Eq.symm h7
  subst h7
  exact (Eq.trans (if_neg h2) (Eq.trans (if_pos h8) rfl))
theorem F_w_isSafe_p2 {o : Nat} {S : dg_S} {a1 : Int32} {d_1 : Nat} {x_2 : Int32} (h0 : d_1 = zR o S 214 7) (h1 : x_2 = F_p_canBeDug o S d_1 a1) (h2 : x_2 = (0 : Int32)) : F_w_isSafe o S a1 = (S, (0 : Int32)) := by
  replace h0 := Eq.symm h0
  subst h0
  replace h1 := Eq.symm h1
  subst h1
  exact (Eq.trans (if_pos h2) rfl)
set_option maxHeartbeats 8000000 in
set_option maxRecDepth 100000 in
theorem c_w_isSafe (l : Launch) (g : Nat → ClassId) (D : va_G) (o : Nat) (S : dg_S) (a1 : Int32) (b_a1 : 0 ≤ (a1).toInt ∧ (a1).toInt ≤ 63) (Z2 : Z2X S) (Z3 : Z3X o S) (I : CX o S) (sz : Nat) : Met l yX10_isSafe (bw yX10_isSafe cX10_isSafe 2 (some .boolean)) ({ frames := 4, cells := 0, slots := 0, locals := 105 } : Room) (dk_Pc g D (dg_w g shX o rfX S) sz [.ref (o + 214), .int a1]) (va_Qi (fun (r : Int32) S' => CX o S' ∧ dg_sm shX [(36, 4), (36, 9), (37, 0), (37, 1), (37, 2), (37, 4), (37, 5), (37, 7)] [38, 39, 40, 41, 42] S S' ∧ (0 ≤ (r).toInt ∧ (r).toInt ≤ 1) ∧ Z2X S' ∧ (S' = (F_w_isSafe o S a1).1 ∧ r = (F_w_isSafe o S a1).2) ∧ True) (dg_B g D shX o rfX) (dg_A o shX.length sz)) 0 0 (dg_A o shX.length sz) := by
  refine dg_met (cc := cX10_isSafe) (maxL := 2) (ret := (some .boolean)) (dk_dq rfl) rfl (Nat.le_of_ble_eq_true rfl) ?_
  intro p e s m args below meth c A hAe harg hx hb hr hml hts hown hlocks hin hP K hS hA1 hA ST hsz ls hl
  rw [← hAe]
  have F : CallFix p m c cX10_isSafe 2 s args (bw yX10_isSafe cX10_isSafe 2 (some .boolean)) RX10 := ⟨hx, hb, hml, hown, hts⟩
  have hl : lv_has ls 2 [(0, .ref (o + 214)), (1, .int a1)] := hl
  have M_0 : dg_sm shX [(36, 4), (36, 9), (37, 0), (37, 1), (37, 2), (37, 4), (37, 5), (37, 7)] [38, 39, 40, 41, 42] S S := dg_sm.rf
  refine lv_aload_n hx hb dX10_isSafe_0 rfl (lv_at hl 0 rfl) ?_
  obtain ⟨d_1, hk_d_1, f_d_1⟩ := dg_I.one (i := 214) (k := 7) (d := 1) I sX_214 (by decide +kernel)
  have hk_d_1 : pX d_1 := hk_d_1
  refine dg_get (C := RX10) (T := TX10) (N := 13) hx hb hts (fun w h => bw_mem (wU_X10 w h)) hown K hP sX_214 rfl 7 (dk_dq rfl) (hts _ (bw_mem wB_578)) (fun _ h9 => h9) (v := .ref (o + d_1)) f_d_1 dX10_isSafe_1 ?_
  refine lv_iload_n hx hb dX10_isSafe_4 rfl (lv_at hl 1 rfl) ?_
  refine dg_calli hS hA1 hA (va_runV (As := [.int a1]) (rest := []) F (c_p_canBeDug l g D o S d_1 hk_d_1 a1 (by omega) (Z3 d_1 hk_d_1 f_d_1) I s.heap.size) (cwV 1 hts (bw_V wB_619 wB_620 wB_621 wB_493 wB_618) rfl rfl rfl (by decide +kernel) ⟨Nat.le_of_ble_eq_true rfl, Nat.le_of_ble_eq_true rfl⟩) (dg_preV (pX_0 d_1 hk_d_1) rfl K ST hP hS hA1 hA) rfl rfl hl.1 rfl (lv_room (Nat.le_of_ble_eq_true rfl)) dX10_isSafe_5 ⟨Nat.le_of_ble_eq_true rfl, Nat.le_of_ble_eq_true rfl⟩) (fun x_2 S_3 hw_3 H locs hP hS => ?_)
  rw [hw_3.1] at hP
  obtain ⟨hq_3, w_3_0, w_3_1, w_3_2, -⟩ := hw_3
  have w_3_0 : 0 ≤ (x_2).toInt ∧ (x_2).toInt ≤ 1 := w_3_0
  have w_3_1 : (x_2).toInt = 1 → (8 ≤ (a1).toInt ∧ (a1).toInt ≤ 63) := w_3_1
  refine lv_if_ne (tgt := 13) hx hb dX10_isSafe_8 (dk_dq rfl) (fun c_4 => ?_) (fun c_4 => ?_)
  · as_aux_lemma =>
      have jc_4 := dk_neqc (k := 0) (by decide +kernel) c_4
      refine lv_aload_n hx hb dX10_isSafe_13 rfl (lv_at hl 0 rfl) ?_
      refine dg_callv hS hA1 hA (va_runV (As := []) (rest := []) F (c_w_spreadLight l g D o S Z2 Z3 I H.size) (cwV 0 hts (bw_V wB_600 wB_601 wB_602 wB_594 wB_599) rfl rfl rfl (by decide +kernel) ⟨Nat.le_of_ble_eq_true rfl, Nat.le_of_ble_eq_true rfl⟩) (dg_preV sX_214 rfl K ST hP hS hA1 hA) rfl rfl hl.1 rfl (lv_room (Nat.le_of_ble_eq_true rfl)) dX10_isSafe_14 ⟨Nat.le_of_ble_eq_true rfl, Nat.le_of_ble_eq_true rfl⟩) (fun S_5 hw_5 H locs hP hS => ?_)
      obtain ⟨I_5, m_5, w_5_0, w_5_1, -⟩ := hw_5
      have M_5 := dg_sm.tr M_0 m_5 (dk_dq rfl) (dk_dq rfl)
      refine lv_aload_n hx hb dX10_isSafe_17 rfl (lv_at hl 0 rfl) ?_
      refine lv_iload_n hx hb dX10_isSafe_18 rfl (lv_at hl 1 rfl) ?_
      refine dg_callv hS hA1 hA (va_runV (As := [.int a1]) (rest := []) F (c_w_tellDigging l g D o S_5 a1 (by omega) I_5 H.size) (cwV 1 hts (bw_V wB_623 wB_624 wB_625 wB_594 wB_622) rfl rfl rfl (by decide +kernel) ⟨Nat.le_of_ble_eq_true rfl, Nat.le_of_ble_eq_true rfl⟩) (dg_preV sX_214 rfl K ST hP hS hA1 hA) rfl rfl hl.1 rfl (lv_room (Nat.le_of_ble_eq_true rfl)) dX10_isSafe_19 ⟨Nat.le_of_ble_eq_true rfl, Nat.le_of_ble_eq_true rfl⟩) (fun S_6 hw_6 H locs hP hS => ?_)
      obtain ⟨I_6, m_6, w_6_0, -⟩ := hw_6
      have M_6 := dg_sm.tr M_5 m_6 (dk_dq rfl) (dk_dq rfl)
      refine lv_aload_n hx hb dX10_isSafe_22 rfl (lv_at hl 0 rfl) ?_
      refine dg_get (C := RX10) (T := TX10) (N := 13) hx hb hts (fun w h => bw_mem (wU_X10 w h)) hown K hP sX_214 rfl 0 (dk_dq rfl) (hts _ (bw_mem wB_607)) (fun _ h9 => h9) (v := .ref (o + 215)) (show S_6.1 214 0 = .ref (o + 215) from dg_I.rel (d := 1) I_6 sX_214 (by decide +kernel)) dX10_isSafe_23 ?_
      refine lv_aload_n hx hb dX10_isSafe_26 rfl (lv_at hl 0 rfl) ?_
      obtain ⟨d_7, hk_d_7, f_d_7⟩ := dg_I.one (i := 214) (k := 6) (d := 0) I sX_214 (by decide +kernel)
      have hk_d_7 : rX d_7 := hk_d_7
      refine dg_get (C := RX10) (T := TX10) (N := 13) hx hb hts (fun w h => bw_mem (wU_X10 w h)) hown K hP sX_214 rfl 6 (dk_dq rfl) (hts _ (bw_mem wB_586)) (fun _ h9 => h9) (v := .ref (o + d_7)) (((m_6.1 214 6 _ sX_214 (dk_dq rfl)).trans (m_5.1 214 6 _ sX_214 (dk_dq rfl))).trans f_d_7) dX10_isSafe_27 ?_
      refine lv_iconst (v := 1) hx hb dX10_isSafe_30 (by decide +kernel) ?_
      refine lv_iconst (v := 0) hx hb dX10_isSafe_31 (by decide +kernel) ?_
      have hz_8 : (1 : Int32).toInt = 1 := by decide +kernel
      refine dg_calli hS hA1 hA (va_runV (As := [.ref (o + d_7), .int 1, .int 0]) (rest := []) F (c_r_valueOf l g D o S_6 d_7 hk_d_7 1 (by decide +kernel) 0 I_6 H.size) (cwV 3 hts (bw_V wB_627 wB_628 wB_629 wB_553 wB_626) rfl rfl rfl (by decide +kernel) ⟨Nat.le_of_ble_eq_true rfl, Nat.le_of_ble_eq_true rfl⟩) (dg_preV sX_215 rfl K ST hP hS hA1 hA) rfl rfl hl.1 rfl (lv_room (Nat.le_of_ble_eq_true rfl)) dX10_isSafe_32 ⟨Nat.le_of_ble_eq_true rfl, Nat.le_of_ble_eq_true rfl⟩) (fun x_9 S_10 hw_10 H locs hP hS => ?_)
      obtain ⟨I_10, m_10, w_10_0, -⟩ := hw_10
      have M_10 := dg_sm.tr M_6 m_10 (dk_dq rfl) (dk_dq rfl)
      refine lv_if_ne (tgt := 42) hx hb dX10_isSafe_35 (dk_dq rfl) (fun c_11 => ?_) (fun c_11 => ?_)
      · have jc_11 := dk_neqc (k := 0) (by decide +kernel) c_11
        refine lv_iconst (v := 0) hx hb dX10_isSafe_42 (by decide +kernel) ?_
        have hz_12 : (0 : Int32).toInt = 0 := by decide +kernel
        refine W.widen (k := 0) (n := 0) (Nat.le_of_ble_eq_true rfl) (Nat.le_of_ble_eq_true rfl) ?_
        exact dg_iret hx hb hr hlocks (by decide +kernel) hP hS ⟨I_10, M_10, (by decide +kernel), (Z2X.keep (Z2X.keep w_5_0 m_6 (dk_dq rfl) (dk_dq rfl)) m_10 (dk_dq rfl) (dk_dq rfl)), ⟨congrArg Prod.fst (Eq.symm (F_w_isSafe_p0 (zR_eq f_d_1) w_3_2 c_4 w_5_1 w_6_0 (zR_eq f_d_7) w_10_0.1 w_10_0.2 c_11)), congrArg Prod.snd (Eq.symm (F_w_isSafe_p0 (zR_eq f_d_1) w_3_2 c_4 w_5_1 w_6_0 (zR_eq f_d_7) w_10_0.1 w_10_0.2 c_11))⟩, trivial⟩ dX10_isSafe_43
      · have jc_11 := dk_eqc (k := 0) (by decide +kernel) c_11
        refine lv_iconst (v := 1) hx hb dX10_isSafe_38 (by decide +kernel) ?_
        refine lv_goto (tgt := 43) hx hb dX10_isSafe_39 (dk_dq rfl) ?_
        have hz_13 : (1 : Int32).toInt = 1 := by decide +kernel
        refine W.widen (k := 0) (n := 0) (Nat.le_of_ble_eq_true rfl) (Nat.le_of_ble_eq_true rfl) ?_
        exact dg_iret hx hb hr hlocks (by decide +kernel) hP hS ⟨I_10, M_10, (by decide +kernel), (Z2X.keep (Z2X.keep w_5_0 m_6 (dk_dq rfl) (dk_dq rfl)) m_10 (dk_dq rfl) (dk_dq rfl)), ⟨congrArg Prod.fst (Eq.symm (F_w_isSafe_p1 (zR_eq f_d_1) w_3_2 c_4 w_5_1 w_6_0 (zR_eq f_d_7) w_10_0.1 w_10_0.2 c_11)), congrArg Prod.snd (Eq.symm (F_w_isSafe_p1 (zR_eq f_d_1) w_3_2 c_4 w_5_1 w_6_0 (zR_eq f_d_7) w_10_0.1 w_10_0.2 c_11))⟩, trivial⟩ dX10_isSafe_43
  · have jc_4 := dk_eqc (k := 0) (by decide +kernel) c_4
    refine lv_iconst (v := 0) hx hb dX10_isSafe_11 (by decide +kernel) ?_
    have hz_14 : (0 : Int32).toInt = 0 := by decide +kernel
    refine W.widen (k := 0) (n := 0) (Nat.le_of_ble_eq_true rfl) (Nat.le_of_ble_eq_true rfl) ?_
    exact dg_iret hx hb hr hlocks (by decide +kernel) hP hS ⟨I, M_0, (by decide +kernel), Z2, ⟨congrArg Prod.fst (Eq.symm (F_w_isSafe_p2 (zR_eq f_d_1) w_3_2 c_4)), congrArg Prod.snd (Eq.symm (F_w_isSafe_p2 (zR_eq f_d_1) w_3_2 c_4))⟩, trivial⟩ dX10_isSafe_12
noncomputable def F_w_closeCell (o : Nat) (S : dg_S) (a1 : Int32) : dg_S × Int32 := (if a1 = (-1 : Int32) then (S, (0 : Int32)) else let d_3 : Nat := zR o S 214 6; let x_4 : Int32 := zI S d_3 2; (if a1 = x_4 then (S, (0 : Int32)) else let d_7 : Nat := zR o S 214 7; let x_8 : Int32 := F_p_isOpen o S d_7 a1; (if x_8 = (0 : Int32) then (S, (0 : Int32)) else let S_12 : dg_S := dg_uf S (d_7 + 1) (upd (S.2.1 (d_7 + 1)) (a1 : Int32).toNatClampNeg (0 : Int32)); let S_15 : dg_S := dg_uF S_12 214 9 (.int (1 : Int32)); (S_15, (1 : Int32)))))
theorem F_w_closeCell_p0 {o : Nat} {S : dg_S} {a1 : Int32} (h0 : a1 = (-1 : Int32)) : F_w_closeCell o S a1 = (S, (0 : Int32)) := (Eq.trans (if_pos h0) rfl)
theorem F_w_closeCell_p1 {o : Nat} {S : dg_S} {a1 : Int32} {d_3 : Nat} {x_4 : Int32} (h0 : ¬ (a1 = (-1 : Int32))) (h1 : d_3 = zR o S 214 6) (h2 : x_4 = zI S d_3 2) (h3 : a1 = x_4) : F_w_closeCell o S a1 = (S, (0 : Int32)) := by
  replace h1 := Eq.symm h1
  subst h1
  replace h2 := Eq.symm h2
  subst h2
  exact (Eq.trans (if_neg h0) (Eq.trans (if_pos h3) rfl))
theorem F_w_closeCell_p2 {o : Nat} {S : dg_S} {a1 : Int32} {S_15 : dg_S} {d_3 : Nat} {x_4 : Int32} {d_7 : Nat} {x_8 : Int32} {S_12 : dg_S} (h0 : ¬ (a1 = (-1 : Int32))) (h1 : d_3 = zR o S 214 6) (h2 : x_4 = zI S d_3 2) (h3 : ¬ (a1 = x_4)) (h4 : d_7 = zR o S 214 7) (h5 : x_8 = F_p_isOpen o S d_7 a1) (h6 : ¬ (x_8 = (0 : Int32))) (h7 : S_12 = dg_uf S (d_7 + 1) (upd (S.2.1 (d_7 + 1)) (a1 : Int32).toNatClampNeg (0 : Int32))) (h8 : S_15 = dg_uF S_12 214 9 (.int (1 : Int32))) : F_w_closeCell o S a1 = (S_15, (1 : Int32)) := by
  replace h1 := Eq.symm h1
  subst h1
  replace h2 := Eq.symm h2
  subst h2
  replace h4 := Eq.symm h4
  subst h4
  replace h5 := Eq.symm h5
  subst h5
  replace h7 := Eq.symm h7
  subst h7
  replace h8 := Eq.symm h8
  subst h8
  exact (Eq.trans (if_neg h0) (Eq.trans (if_neg h3) (Eq.trans (if_neg h6) rfl)))
theorem F_w_closeCell_p3 {o : Nat} {S : dg_S} {a1 : Int32} {d_3 : Nat} {x_4 : Int32} {d_7 : Nat} {x_8 : Int32} (h0 : ¬ (a1 = (-1 : Int32))) (h1 : d_3 = zR o S 214 6) (h2 : x_4 = zI S d_3 2) (h3 : ¬ (a1 = x_4)) (h4 : d_7 = zR o S 214 7) (h5 : x_8 = F_p_isOpen o S d_7 a1) (h6 : x_8 = (0 : Int32)) : F_w_closeCell o S a1 = (S, (0 : Int32)) := by
  replace h1 := Eq.symm h1
  subst h1
  replace h2 := Eq.symm h2
  subst h2
  replace h4 := Eq.symm h4
  subst h4
  replace h5 := Eq.symm h5
  subst h5
  exact (Eq.trans (if_neg h0) (Eq.trans (if_neg h3) (Eq.trans (if_pos h6) rfl)))
set_option maxHeartbeats 8000000 in
set_option maxRecDepth 100000 in
theorem c_w_closeCell (l : Launch) (g : Nat → ClassId) (D : va_G) (o : Nat) (S : dg_S) (a1 : Int32) (b_a1 : (-1) ≤ (a1).toInt ∧ (a1).toInt ≤ 63) (I : CX o S) (sz : Nat) : Met l yX10_closeCell (bw yX10_closeCell cX10_closeCell 2 (some .boolean)) ({ frames := 2, cells := 0, slots := 0, locals := 53 } : Room) (dk_Pc g D (dg_w g shX o rfX S) sz [.ref (o + 214), .int a1]) (va_Qi (fun (r : Int32) S' => CX o S' ∧ dg_sm shX [(36, 9)] [4] S S' ∧ (0 ≤ (r).toInt ∧ (r).toInt ≤ 1) ∧ dg_FG S S' ∧ (S' = (F_w_closeCell o S a1).1 ∧ r = (F_w_closeCell o S a1).2) ∧ True) (dg_B g D shX o rfX) (dg_A o shX.length sz)) 0 0 (dg_A o shX.length sz) := by
  refine dg_met (cc := cX10_closeCell) (maxL := 2) (ret := (some .boolean)) (dk_dq rfl) rfl (Nat.le_of_ble_eq_true rfl) ?_
  intro p e s m args below meth c A hAe harg hx hb hr hml hts hown hlocks hin hP K hS hA1 hA ST hsz ls hl
  rw [← hAe]
  have F : CallFix p m c cX10_closeCell 2 s args (bw yX10_closeCell cX10_closeCell 2 (some .boolean)) RX10 := ⟨hx, hb, hml, hown, hts⟩
  have hl : lv_has ls 2 [(0, .ref (o + 214)), (1, .int a1)] := hl
  have M_0 : dg_sm shX [(36, 9)] [4] S S := dg_sm.rf
  refine lv_iload_n hx hb dX10_closeCell_0 rfl (lv_at hl 1 rfl) ?_
  refine lv_iconst (v := (-1)) hx hb dX10_closeCell_1 (by decide +kernel) ?_
  refine lv_icmp_eq (tgt := 27) hx hb dX10_closeCell_2 (dk_dq rfl) (fun c_1 => ?_) (fun c_1 => ?_)
  · have jc_1 := dk_eqc (k := (-1)) (by decide +kernel) c_1
    refine lv_iconst (v := 0) hx hb dX10_closeCell_27 (by decide +kernel) ?_
    have hz_2 : (0 : Int32).toInt = 0 := by decide +kernel
    refine W.widen (k := 0) (n := 0) (Nat.le_of_ble_eq_true rfl) (Nat.le_of_ble_eq_true rfl) ?_
    exact dg_iret hx hb hr hlocks (by decide +kernel) hP hS ⟨I, M_0, (by decide +kernel), dg_FG.rf, ⟨congrArg Prod.fst (Eq.symm (F_w_closeCell_p0 c_1)), congrArg Prod.snd (Eq.symm (F_w_closeCell_p0 c_1))⟩, trivial⟩ dX10_closeCell_28
  · as_aux_lemma =>
      have jc_1 := dk_neqc (k := (-1)) (by decide +kernel) c_1
      refine lv_iload_n hx hb dX10_closeCell_5 rfl (lv_at hl 1 rfl) ?_
      refine lv_aload_n hx hb dX10_closeCell_6 rfl (lv_at hl 0 rfl) ?_
      obtain ⟨d_3, hk_d_3, f_d_3⟩ := dg_I.one (i := 214) (k := 6) (d := 0) I sX_214 (by decide +kernel)
      have hk_d_3 : rX d_3 := hk_d_3
      refine dg_get (C := RX10) (T := TX10) (N := 13) hx hb hts (fun w h => bw_mem (wU_X10 w h)) hown K hP sX_214 rfl 6 (dk_dq rfl) (hts _ (bw_mem wB_586)) (fun _ h9 => h9) (v := .ref (o + d_3)) f_d_3 dX10_closeCell_7 ?_
      obtain ⟨x_4, f_x_4, b_x_4⟩ := dg_I.int (i := d_3) (k := 2) (lo := (-1)) (hi := 63) I (rX_0 d_3 hk_d_3) (by decide +kernel)
      refine dg_get (C := RX2) (T := TX2) (N := 19) hx hb hts (fun w h => bw_mem (wU_X2 w h)) hown K hP (rX_0 d_3 hk_d_3) rfl 2 (dk_dq rfl) (hts _ (bw_mem wB_587)) (fun _ h9 => h9) (v := .int x_4) f_x_4 dX10_closeCell_10 ?_
      refine lv_icmp_eq (tgt := 27) hx hb dX10_closeCell_13 (dk_dq rfl) (fun c_5 => ?_) (fun c_5 => ?_)
      · have jc_5 := dk_eqc (k := (x_4).toInt) rfl c_5
        refine lv_iconst (v := 0) hx hb dX10_closeCell_27 (by decide +kernel) ?_
        have hz_6 : (0 : Int32).toInt = 0 := by decide +kernel
        refine W.widen (k := 0) (n := 0) (Nat.le_of_ble_eq_true rfl) (Nat.le_of_ble_eq_true rfl) ?_
        exact dg_iret hx hb hr hlocks (by decide +kernel) hP hS ⟨I, M_0, (by decide +kernel), dg_FG.rf, ⟨congrArg Prod.fst (Eq.symm (F_w_closeCell_p1 c_1 (zR_eq f_d_3) (zI_eq f_x_4) c_5)), congrArg Prod.snd (Eq.symm (F_w_closeCell_p1 c_1 (zR_eq f_d_3) (zI_eq f_x_4) c_5))⟩, trivial⟩ dX10_closeCell_28
      · as_aux_lemma =>
          have jc_5 := dk_neqc (k := (x_4).toInt) rfl c_5
          refine lv_aload_n hx hb dX10_closeCell_16 rfl (lv_at hl 0 rfl) ?_
          obtain ⟨d_7, hk_d_7, f_d_7⟩ := dg_I.one (i := 214) (k := 7) (d := 1) I sX_214 (by decide +kernel)
          have hk_d_7 : pX d_7 := hk_d_7
          refine dg_get (C := RX10) (T := TX10) (N := 13) hx hb hts (fun w h => bw_mem (wU_X10 w h)) hown K hP sX_214 rfl 7 (dk_dq rfl) (hts _ (bw_mem wB_578)) (fun _ h9 => h9) (v := .ref (o + d_7)) f_d_7 dX10_closeCell_17 ?_
          refine lv_iload_n hx hb dX10_closeCell_20 rfl (lv_at hl 1 rfl) ?_
          refine dg_calli hS hA1 hA (va_runV (As := [.int a1]) (rest := []) F (c_p_isOpen l g D o S d_7 hk_d_7 a1 (by omega) I s.heap.size) (cwV 1 hts (bw_V wB_582 wB_496 wB_497 wB_493 wB_494) rfl rfl rfl (by decide +kernel) ⟨Nat.le_of_ble_eq_true rfl, Nat.le_of_ble_eq_true rfl⟩) (dg_preV (pX_0 d_7 hk_d_7) rfl K ST hP hS hA1 hA) rfl rfl hl.1 rfl (lv_room (Nat.le_of_ble_eq_true rfl)) dX10_closeCell_21 ⟨Nat.le_of_ble_eq_true rfl, Nat.le_of_ble_eq_true rfl⟩) (fun x_8 S_9 hw_9 H locs hP hS => ?_)
          rw [hw_9.1] at hP
          obtain ⟨hq_9, w_9_0, w_9_1, w_9_2, -⟩ := hw_9
          have w_9_0 : 0 ≤ (x_8).toInt ∧ (x_8).toInt ≤ 1 := w_9_0
          have w_9_1 : (x_8).toInt = 1 → (8 ≤ (a1).toInt ∧ (a1).toInt ≤ 63) := w_9_1
          refine lv_if_ne (tgt := 29) hx hb dX10_closeCell_24 (dk_dq rfl) (fun c_10 => ?_) (fun c_10 => ?_)
          · as_aux_lemma =>
              have jc_10 := dk_neqc (k := 0) (by decide +kernel) c_10
              refine lv_aload_n hx hb dX10_closeCell_29 rfl (lv_at hl 0 rfl) ?_
              refine dg_get (C := RX10) (T := TX10) (N := 13) hx hb hts (fun w h => bw_mem (wU_X10 w h)) hown K hP sX_214 rfl 7 (dk_dq rfl) (hts _ (bw_mem wB_578)) (fun _ h9 => h9) (v := .ref (o + d_7)) f_d_7 dX10_closeCell_30 ?_
              refine dg_get (C := RX5) (T := TX5) (N := 8) hx hb hts (fun w h => bw_mem (wU_X5 w h)) hown K hP (pX_0 d_7 hk_d_7) rfl 2 (dk_dq rfl) (hts _ (bw_mem wB_588)) (fun _ h9 => h9) (v := .ref (o + (d_7 + 1))) (show S.1 d_7 2 = .ref (o + (d_7 + 1)) from dg_I.rel (d := 1) I (pX_0 d_7 hk_d_7) (by decide +kernel)) dX10_closeCell_33 ?_
              refine lv_iload_n hx hb dX10_closeCell_36 rfl (lv_at hl 1 rfl) ?_
              refine lv_iconst (v := 0) hx hb dX10_closeCell_37 (by decide +kernel) ?_
              have hin_11 : vp_in a1 72 := (dk_inv2 (by omega))
              have hz_13 : (0 : Int32).toInt = 0 := by decide +kernel
              refine dg_iast hx hb K hP hS hA1 (pX_1 d_7 hk_d_7) hin_11 dX10_closeCell_38 (fun S_12 e_12 H locs hP hS => ?_)
              have I_12 := dg_I.ufc (lo := 0) (hi := 255) I e_12 (pX_1 d_7 hk_d_7) (by decide +kernel) hin_11 (show dg_Pcel _ _ from by unfold dg_Pcel; omega) (by omega)
              have gs_12 := dg_FG.st e_12 (by omega)
              have M_12 := dg_sm.uf M_0 e_12 (pX_1 d_7 hk_d_7) (dk_dq rfl)
              refine lv_aload_n hx hb dX10_closeCell_39 rfl (lv_at hl 0 rfl) ?_
              refine lv_iconst (v := 1) hx hb dX10_closeCell_40 (by decide +kernel) ?_
              have hz_14 : (1 : Int32).toInt = 1 := by decide +kernel
              refine dg_put (ci := 10) (v := .int 1) (ty := tyX10 9) (C := RX10) (T := TX10) (N := 13) hx hb hts (fun w h => bw_mem (wU_X10 w h)) tyX10 tyX10_ok nmX10 hown K hP hS hA1 sX_214 rfl 9 (dk_dq rfl) (hts _ (bw_mem wB_584)) (fun _ h9 => h9) rfl (by decide +kernel) (by decide +kernel) (by decide +kernel) dX10_closeCell_41 (fun S_15 e_15 H locs hP hS => ?_)
              have I_15 := dg_I.uFi (lo := 0) (hi := 1) I_12 e_15 sX_214 (by decide +kernel) (show 0 ≤ ((1 : Int32)).toInt ∧ ((1 : Int32)).toInt ≤ 1 from (by decide +kernel))
              have M_15 := dg_sm.uF M_12 e_15 sX_214 (dk_dq rfl)
              refine lv_iconst (v := 1) hx hb dX10_closeCell_44 (by decide +kernel) ?_
              have hz_16 : (1 : Int32).toInt = 1 := by decide +kernel
              refine W.widen (k := 0) (n := 0) (Nat.le_of_ble_eq_true rfl) (Nat.le_of_ble_eq_true rfl) ?_
              exact dg_iret hx hb hr hlocks (by decide +kernel) hP hS ⟨I_15, M_15, (by decide +kernel), (dg_FG.tr gs_12 (dg_FG.uF e_15)), ⟨congrArg Prod.fst (Eq.symm (F_w_closeCell_p2 c_1 (zR_eq f_d_3) (zI_eq f_x_4) c_5 (zR_eq f_d_7) w_9_2 c_10 e_12 e_15)), congrArg Prod.snd (Eq.symm (F_w_closeCell_p2 c_1 (zR_eq f_d_3) (zI_eq f_x_4) c_5 (zR_eq f_d_7) w_9_2 c_10 e_12 e_15))⟩, trivial⟩ dX10_closeCell_45
          · have jc_10 := dk_eqc (k := 0) (by decide +kernel) c_10
            refine lv_iconst (v := 0) hx hb dX10_closeCell_27 (by decide +kernel) ?_
            have hz_17 : (0 : Int32).toInt = 0 := by decide +kernel
            refine W.widen (k := 0) (n := 0) (Nat.le_of_ble_eq_true rfl) (Nat.le_of_ble_eq_true rfl) ?_
            exact dg_iret hx hb hr hlocks (by decide +kernel) hP hS ⟨I, M_0, (by decide +kernel), dg_FG.rf, ⟨congrArg Prod.fst (Eq.symm (F_w_closeCell_p3 c_1 (zR_eq f_d_3) (zI_eq f_x_4) c_5 (zR_eq f_d_7) w_9_2 c_10)), congrArg Prod.snd (Eq.symm (F_w_closeCell_p3 c_1 (zR_eq f_d_3) (zI_eq f_x_4) c_5 (zR_eq f_d_7) w_9_2 c_10))⟩, trivial⟩ dX10_closeCell_28
noncomputable def F_w_digByPlan_J2 (S_34 : dg_S) : dg_S := let S_37 : dg_S := dg_uF S_34 214 9 (.int (1 : Int32)); (S_37)
noncomputable def F_w_digByPlan_J1 (x_21 : Int32) (S_22 : dg_S) (d_4 : Nat) (x_10 : Int32) (x_8 : Int32) (o : Nat) (d_1 : Nat) : dg_S := (if x_21 = (1 : Int32) then let S_39 : dg_S := dg_uF S_22 214 12 (.int (-1 : Int32)); let S_41 : dg_S := dg_uf S_39 (d_4 + 1) (upd (S_39.2.1 (d_4 + 1)) (x_10 : Int32).toNatClampNeg (0 : Int32)); let S_44 : dg_S := dg_uf S_41 (d_4 + 2) (upd (S_41.2.1 (d_4 + 2)) (x_8 : Int32).toNatClampNeg (1 : Int32)); (S_44) else let x_25 : Int32 := S_22.2.1 (d_4 + 1) (x_10 : Int32).toNatClampNeg; let S_28 : dg_S := (F_r_valueOf o S_22 d_1 (2 : Int32) x_25).1; let x_27 : Int32 := (F_r_valueOf o S_22 d_1 (2 : Int32) x_25).2; let x_29 : Int32 := if x_27 < (9 : Int32) then x_27 else (9 : Int32); let x_30 : Int32 := if (0 : Int32) < x_29 then x_29 else (0 : Int32); let S_31 : dg_S := dg_uF S_28 214 12 (.int x_30); let S_32 : dg_S := F_p_addTub o S_31 d_4 x_30; let S_34 : dg_S := dg_uf S_32 (d_4 + 1) (upd (S_32.2.1 (d_4 + 1)) (x_10 : Int32).toNatClampNeg (255 : Int32)); (F_w_digByPlan_J2 S_34))
noncomputable def F_w_digByPlan (o : Nat) (S : dg_S) : dg_S := let d_1 : Nat := zR o S 214 6; let x_2 : Int32 := zI S d_1 8; (if x_2 = (0 : Int32) then (S) else let d_4 : Nat := zR o S 214 7; let x_5 : Int32 := zI S d_4 0; let x_6 : Int32 := x_5 - x_5 / x_2 * x_2; let x_8 : Int32 := S.2.1 (d_4 + 3) (x_6 : Int32).toNatClampNeg; let x_10 : Int32 := S.2.1 (d_4 + 4) (x_6 : Int32).toNatClampNeg; let x_12 : Int32 := S.2.1 (d_4 + 2) (x_8 : Int32).toNatClampNeg; (if x_12 = (1 : Int32) then (S) else let x_14 : Int32 := F_p_canBeDug o S d_4 x_10; (if x_14 = (0 : Int32) then (S) else let S_17 : dg_S := dg_uF S 214 10 (.int x_8); let S_18 : dg_S := dg_uF S_17 214 11 (.int x_10); let S_19 : dg_S := F_w_tellDigging o S_18 x_10; let S_22 : dg_S := (F_r_valueOf o S_19 d_1 (1 : Int32) (0 : Int32)).1; let x_21 : Int32 := (F_r_valueOf o S_19 d_1 (1 : Int32) (0 : Int32)).2; (F_w_digByPlan_J1 x_21 S_22 d_4 x_10 x_8 o d_1))))
theorem F_w_digByPlan_p0 {o : Nat} {S : dg_S} {d_1 : Nat} {x_2 : Int32} {d_4 : Nat} {x_5 : Int32} {x_6 : Int32} {x_8 : Int32} {x_12 : Int32} (h0 : d_1 = zR o S 214 6) (h1 : x_2 = zI S d_1 8) (h2 : ¬ (x_2 = (0 : Int32))) (h3 : d_4 = zR o S 214 7) (h4 : x_5 = zI S d_4 0) (h5 : x_6 = x_5 - x_5 / x_2 * x_2) (h6 : x_8 = S.2.1 (d_4 + 3) (x_6 : Int32).toNatClampNeg) (h7 : x_12 = S.2.1 (d_4 + 2) (x_8 : Int32).toNatClampNeg) (h8 : x_12 = (1 : Int32)) : F_w_digByPlan o S = S := by
  replace h0 := Eq.symm h0
  subst h0
  replace h1 := Eq.symm h1
  subst h1
  replace h3 := Eq.symm h3
  subst h3
  replace h4 := Eq.symm h4
  subst h4
  replace h5 := Eq.symm h5
  subst h5
  replace h6 := Eq.symm h6
  subst h6
  replace h7 := Eq.symm h7
  subst h7
  exact (Eq.trans (if_neg h2) (Eq.trans (if_pos h8) rfl))
theorem F_w_digByPlan_p1 {S_34 : dg_S} {S_37 : dg_S} (h0 : S_37 = dg_uF S_34 214 9 (.int (1 : Int32))) : F_w_digByPlan_J2 S_34 = S_37 := by
  replace h0 := Eq.symm h0
  subst h0
  exact rfl
theorem F_w_digByPlan_p2 {x_21 : Int32} {S_22 : dg_S} {d_4 : Nat} {x_10 : Int32} {x_8 : Int32} {o : Nat} {d_1 : Nat} {S_34 : dg_S} {x_25 : Int32} {S_28 : dg_S} {x_27 : Int32} {x_29 : Int32} {x_30 : Int32} {S_31 : dg_S} {S_32 : dg_S} (h0 : ¬ (x_21 = (1 : Int32))) (h1 : x_25 = S_22.2.1 (d_4 + 1) (x_10 : Int32).toNatClampNeg) (h2 : S_28 = (F_r_valueOf o S_22 d_1 (2 : Int32) x_25).1) (h3 : x_27 = (F_r_valueOf o S_22 d_1 (2 : Int32) x_25).2) (h4 : x_29 = if x_27 < (9 : Int32) then x_27 else (9 : Int32)) (h5 : x_30 = if (0 : Int32) < x_29 then x_29 else (0 : Int32)) (h6 : S_31 = dg_uF S_28 214 12 (.int x_30)) (h7 : S_32 = F_p_addTub o S_31 d_4 x_30) (h8 : S_34 = dg_uf S_32 (d_4 + 1) (upd (S_32.2.1 (d_4 + 1)) (x_10 : Int32).toNatClampNeg (255 : Int32))) : F_w_digByPlan_J1 x_21 S_22 d_4 x_10 x_8 o d_1 = F_w_digByPlan_J2 S_34 := by
  replace h1 := Eq.symm h1
  subst h1
  replace h2 := Eq.symm h2
  subst h2
  replace h3 := Eq.symm h3
  subst h3
  replace h4 := Eq.symm h4
  subst h4
  replace h5 := Eq.symm h5
  subst h5
  replace h6 := Eq.symm h6
  subst h6
  replace h7 := Eq.symm h7
  subst h7
  replace h8 := Eq.symm h8
  subst h8
  exact (Eq.trans (if_neg h0) rfl)
theorem F_w_digByPlan_p3 {x_21 : Int32} {S_22 : dg_S} {d_4 : Nat} {x_10 : Int32} {x_8 : Int32} {o : Nat} {d_1 : Nat} {S_44 : dg_S} {S_39 : dg_S} {S_41 : dg_S} (h0 : x_21 = (1 : Int32)) (h1 : S_39 = dg_uF S_22 214 12 (.int (-1 : Int32))) (h2 : S_41 = dg_uf S_39 (d_4 + 1) (upd (S_39.2.1 (d_4 + 1)) (x_10 : Int32).toNatClampNeg (0 : Int32))) (h3 : S_44 = dg_uf S_41 (d_4 + 2) (upd (S_41.2.1 (d_4 + 2)) (x_8 : Int32).toNatClampNeg (1 : Int32))) : F_w_digByPlan_J1 x_21 S_22 d_4 x_10 x_8 o d_1 = S_44 := by
  replace h1 := Eq.symm h1
  subst h1
  replace h2 := Eq.symm h2
  subst h2
  replace h3 := Eq.symm h3
  subst h3
  exact (Eq.trans (if_pos h0) rfl)
theorem F_w_digByPlan_p4 {o : Nat} {S : dg_S} {x_21 : Int32} {S_22 : dg_S} {d_4 : Nat} {x_10 : Int32} {x_8 : Int32} {d_1 : Nat} {x_2 : Int32} {x_5 : Int32} {x_6 : Int32} {x_12 : Int32} {x_14 : Int32} {S_17 : dg_S} {S_18 : dg_S} {S_19 : dg_S} (h0 : d_1 = zR o S 214 6) (h1 : x_2 = zI S d_1 8) (h2 : ¬ (x_2 = (0 : Int32))) (h3 : d_4 = zR o S 214 7) (h4 : x_5 = zI S d_4 0) (h5 : x_6 = x_5 - x_5 / x_2 * x_2) (h6 : x_8 = S.2.1 (d_4 + 3) (x_6 : Int32).toNatClampNeg) (h7 : x_10 = S.2.1 (d_4 + 4) (x_6 : Int32).toNatClampNeg) (h8 : x_12 = S.2.1 (d_4 + 2) (x_8 : Int32).toNatClampNeg) (h9 : ¬ (x_12 = (1 : Int32))) (h10 : x_14 = F_p_canBeDug o S d_4 x_10) (h11 : ¬ (x_14 = (0 : Int32))) (h12 : S_17 = dg_uF S 214 10 (.int x_8)) (h13 : S_18 = dg_uF S_17 214 11 (.int x_10)) (h14 : S_19 = F_w_tellDigging o S_18 x_10) (h15 : S_22 = (F_r_valueOf o S_19 d_1 (1 : Int32) (0 : Int32)).1) (h16 : x_21 = (F_r_valueOf o S_19 d_1 (1 : Int32) (0 : Int32)).2) : F_w_digByPlan o S = F_w_digByPlan_J1 x_21 S_22 d_4 x_10 x_8 o d_1 := by
  replace h0 := Eq.symm h0
  subst h0
  replace h1 := Eq.symm h1
  subst h1
  replace h3 := Eq.symm h3
  subst h3
  replace h4 := Eq.symm h4
  subst h4
  replace h5 := Eq.symm h5
  subst h5
  replace h6 := Eq.symm h6
  subst h6
  replace h7 := Eq.symm h7
  subst h7
  replace h8 := Eq.symm h8
  subst h8
  replace h10 := Eq.symm h10
  subst h10
  replace h12 := Eq.symm h12
  subst h12
  replace h13 := Eq.symm h13
  subst h13
  replace h14 := Eq.symm h14
  subst h14
  replace h15 := Eq.symm h15
  subst h15
  replace h16 := Eq.symm h16
  subst h16
  exact (Eq.trans (if_neg h2) (Eq.trans (if_neg h9) (Eq.trans (if_neg h11) rfl)))
theorem F_w_digByPlan_p5 {o : Nat} {S : dg_S} {d_1 : Nat} {x_2 : Int32} {d_4 : Nat} {x_5 : Int32} {x_6 : Int32} {x_8 : Int32} {x_10 : Int32} {x_12 : Int32} {x_14 : Int32} (h0 : d_1 = zR o S 214 6) (h1 : x_2 = zI S d_1 8) (h2 : ¬ (x_2 = (0 : Int32))) (h3 : d_4 = zR o S 214 7) (h4 : x_5 = zI S d_4 0) (h5 : x_6 = x_5 - x_5 / x_2 * x_2) (h6 : x_8 = S.2.1 (d_4 + 3) (x_6 : Int32).toNatClampNeg) (h7 : x_10 = S.2.1 (d_4 + 4) (x_6 : Int32).toNatClampNeg) (h8 : x_12 = S.2.1 (d_4 + 2) (x_8 : Int32).toNatClampNeg) (h9 : ¬ (x_12 = (1 : Int32))) (h10 : x_14 = F_p_canBeDug o S d_4 x_10) (h11 : x_14 = (0 : Int32)) : F_w_digByPlan o S = S := by
  replace h0 := Eq.symm h0
  subst h0
  replace h1 := Eq.symm h1
  subst h1
  replace h3 := Eq.symm h3
  subst h3
  replace h4 := Eq.symm h4
  subst h4
  replace h5 := Eq.symm h5
  subst h5
  replace h6 := Eq.symm h6
  subst h6
  replace h7 := Eq.symm h7
  subst h7
  replace h8 := Eq.symm h8
  subst h8
  replace h10 := Eq.symm h10
  subst h10
  exact (Eq.trans (if_neg h2) (Eq.trans (if_neg h9) (Eq.trans (if_pos h11) rfl)))
theorem F_w_digByPlan_p6 {o : Nat} {S : dg_S} {d_1 : Nat} {x_2 : Int32} (h0 : d_1 = zR o S 214 6) (h1 : x_2 = zI S d_1 8) (h2 : x_2 = (0 : Int32)) : F_w_digByPlan o S = S := by
  replace h0 := Eq.symm h0
  subst h0
  replace h1 := Eq.symm h1
  subst h1
  exact (Eq.trans (if_pos h2) rfl)
set_option maxHeartbeats 8000000 in
set_option maxRecDepth 100000 in
theorem c_w_digByPlan (l : Launch) (g : Nat → ClassId) (D : va_G) (o : Nat) (S : dg_S) (Z3 : Z3X o S) (I : CX o S) (sz : Nat) : Met l yX10_digByPlan (bw yX10_digByPlan cX10_digByPlan 5 none) ({ frames := 4, cells := 0, slots := 0, locals := 103 } : Room) (dk_Pc g D (dg_w g shX o rfX S) sz [.ref (o + 214)]) (va_Qv (fun S' => CX o S' ∧ dg_sm shX [(36, 9), (36, 10), (36, 11), (36, 12), (37, 0), (37, 1), (37, 2), (37, 4), (37, 5), (37, 7)] [4, 5, 9, 38] S S' ∧ Z3X o S' ∧ dg_FG S S' ∧ (S' = F_w_digByPlan o S) ∧ True) (dg_B g D shX o rfX) (dg_A o shX.length sz)) 0 0 (dg_A o shX.length sz) := by
  refine dg_met (cc := cX10_digByPlan) (maxL := 5) (ret := none) (dk_dq rfl) rfl (Nat.le_of_ble_eq_true rfl) ?_
  intro p e s m args below meth c A hAe harg hx hb hr hml hts hown hlocks hin hP K hS hA1 hA ST hsz ls hl
  rw [← hAe]
  have F : CallFix p m c cX10_digByPlan 5 s args (bw yX10_digByPlan cX10_digByPlan 5 none) RX10 := ⟨hx, hb, hml, hown, hts⟩
  have hl : lv_has ls 5 [(0, .ref (o + 214))] := hl
  have M_0 : dg_sm shX [(36, 9), (36, 10), (36, 11), (36, 12), (37, 0), (37, 1), (37, 2), (37, 4), (37, 5), (37, 7)] [4, 5, 9, 38] S S := dg_sm.rf
  refine lv_aload_n hx hb dX10_digByPlan_0 rfl (lv_at hl 0 rfl) ?_
  obtain ⟨d_1, hk_d_1, f_d_1⟩ := dg_I.one (i := 214) (k := 6) (d := 0) I sX_214 (by decide +kernel)
  have hk_d_1 : rX d_1 := hk_d_1
  refine dg_get (C := RX10) (T := TX10) (N := 13) hx hb hts (fun w h => bw_mem (wU_X10 w h)) hown K hP sX_214 rfl 6 (dk_dq rfl) (hts _ (bw_mem wB_586)) (fun _ h9 => h9) (v := .ref (o + d_1)) f_d_1 dX10_digByPlan_1 ?_
  obtain ⟨x_2, f_x_2, b_x_2⟩ := dg_I.int (i := d_1) (k := 8) (lo := 0) (hi := 16) I (rX_0 d_1 hk_d_1) (by decide +kernel)
  refine dg_get (C := RX2) (T := TX2) (N := 19) hx hb hts (fun w h => bw_mem (wU_X2 w h)) hown K hP (rX_0 d_1 hk_d_1) rfl 8 (dk_dq rfl) (hts _ (bw_mem wB_630)) (fun _ h9 => h9) (v := .int x_2) f_x_2 dX10_digByPlan_4 ?_
  refine lv_if_ne (tgt := 11) hx hb dX10_digByPlan_7 (dk_dq rfl) (fun c_3 => ?_) (fun c_3 => ?_)
  · as_aux_lemma =>
      have jc_3 := dk_neqc (k := 0) (by decide +kernel) c_3
      refine lv_aload_n hx hb dX10_digByPlan_11 rfl (lv_at hl 0 rfl) ?_
      obtain ⟨d_4, hk_d_4, f_d_4⟩ := dg_I.one (i := 214) (k := 7) (d := 1) I sX_214 (by decide +kernel)
      have hk_d_4 : pX d_4 := hk_d_4
      refine dg_get (C := RX10) (T := TX10) (N := 13) hx hb hts (fun w h => bw_mem (wU_X10 w h)) hown K hP sX_214 rfl 7 (dk_dq rfl) (hts _ (bw_mem wB_578)) (fun _ h9 => h9) (v := .ref (o + d_4)) f_d_4 dX10_digByPlan_12 ?_
      obtain ⟨x_5, f_x_5, b_x_5⟩ := dg_I.int (i := d_4) (k := 0) (lo := 0) (hi := 65535) I (pX_0 d_4 hk_d_4) (by decide +kernel)
      refine dg_get (C := RX5) (T := TX5) (N := 8) hx hb hts (fun w h => bw_mem (wU_X5 w h)) hown K hP (pX_0 d_4 hk_d_4) rfl 0 (dk_dq rfl) (hts _ (bw_mem wB_613)) (fun _ h9 => h9) (v := .int x_5) f_x_5 dX10_digByPlan_15 ?_
      refine lv_aload_n hx hb dX10_digByPlan_18 rfl (lv_at hl 0 rfl) ?_
      refine dg_get (C := RX10) (T := TX10) (N := 13) hx hb hts (fun w h => bw_mem (wU_X10 w h)) hown K hP sX_214 rfl 6 (dk_dq rfl) (hts _ (bw_mem wB_586)) (fun _ h9 => h9) (v := .ref (o + d_1)) f_d_1 dX10_digByPlan_19 ?_
      refine dg_get (C := RX2) (T := TX2) (N := 19) hx hb hts (fun w h => bw_mem (wU_X2 w h)) hown K hP (rX_0 d_1 hk_d_1) rfl 8 (dk_dq rfl) (hts _ (bw_mem wB_630)) (fun _ h9 => h9) (v := .int x_2) f_x_2 dX10_digByPlan_22 ?_
      refine lv_irem hx hb dX10_digByPlan_25 (fun z => absurd (dk_eqc (k := 0) (by decide +kernel) z) (by omega)) ?_
      refine lv_topi (fun x_6 ex_6 => ?_)
      have jx_6 := dk_remT (x := x_5) (y := x_2) (a := (x_5).toInt) (b := (x_2).toInt) rfl rfl (by omega) (by omega)
      rw [← ex_6] at jx_6
      refine lv_istore_n (lv' := [(1, .int x_6), (0, .ref (o + 214))]) hx hb dX10_digByPlan_26 rfl hl (dk_dq rfl) rfl (fun ls hl => ?_)
      refine lv_aload_n hx hb dX10_digByPlan_27 rfl (lv_at hl 1 rfl) ?_
      refine dg_get (C := RX10) (T := TX10) (N := 13) hx hb hts (fun w h => bw_mem (wU_X10 w h)) hown K hP sX_214 rfl 7 (dk_dq rfl) (hts _ (bw_mem wB_578)) (fun _ h9 => h9) (v := .ref (o + d_4)) f_d_4 dX10_digByPlan_28 ?_
      refine dg_get (C := RX5) (T := TX5) (N := 8) hx hb hts (fun w h => bw_mem (wU_X5 w h)) hown K hP (pX_0 d_4 hk_d_4) rfl 4 (dk_dq rfl) (hts _ (bw_mem wB_631)) (fun _ h9 => h9) (v := .ref (o + (d_4 + 3))) (show S.1 d_4 4 = .ref (o + (d_4 + 3)) from dg_I.rel (d := 3) I (pX_0 d_4 hk_d_4) (by decide +kernel)) dX10_digByPlan_31 ?_
      refine lv_iload_n hx hb dX10_digByPlan_34 rfl (lv_at hl 0 rfl) ?_
      have hin_7 : vp_in x_6 16 := (dk_inv2 (by omega))
      refine dg_iald hx hb K hP (pX_3 d_4 hk_d_4) hin_7 dX10_digByPlan_35 (fun x_8 ex_8 => ?_)
      have b_x_8 := dk_all_at (dg_I.row (lo := 0) (hi := 5) I (pX_3 d_4 hk_d_4) (by decide +kernel)) hin_7 ex_8
      refine lv_istore_n (lv' := [(2, .int x_8), (1, .int x_6), (0, .ref (o + 214))]) hx hb dX10_digByPlan_36 rfl hl (dk_dq rfl) rfl (fun ls hl => ?_)
      refine lv_aload_n hx hb dX10_digByPlan_37 rfl (lv_at hl 2 rfl) ?_
      refine dg_get (C := RX10) (T := TX10) (N := 13) hx hb hts (fun w h => bw_mem (wU_X10 w h)) hown K hP sX_214 rfl 7 (dk_dq rfl) (hts _ (bw_mem wB_578)) (fun _ h9 => h9) (v := .ref (o + d_4)) f_d_4 dX10_digByPlan_38 ?_
      refine dg_get (C := RX5) (T := TX5) (N := 8) hx hb hts (fun w h => bw_mem (wU_X5 w h)) hown K hP (pX_0 d_4 hk_d_4) rfl 5 (dk_dq rfl) (hts _ (bw_mem wB_632)) (fun _ h9 => h9) (v := .ref (o + (d_4 + 4))) (show S.1 d_4 5 = .ref (o + (d_4 + 4)) from dg_I.rel (d := 4) I (pX_0 d_4 hk_d_4) (by decide +kernel)) dX10_digByPlan_41 ?_
      refine lv_iload_n hx hb dX10_digByPlan_44 rfl (lv_at hl 1 rfl) ?_
      have hin_9 : vp_in x_6 16 := (dk_inv2 (by omega))
      refine dg_iald hx hb K hP (pX_4 d_4 hk_d_4) hin_9 dX10_digByPlan_45 (fun x_10 ex_10 => ?_)
      have b_x_10 := dk_all_at (dg_I.row (lo := 0) (hi := 63) I (pX_4 d_4 hk_d_4) (by decide +kernel)) hin_9 ex_10
      refine lv_istore_n (lv' := [(3, .int x_10), (2, .int x_8), (1, .int x_6), (0, .ref (o + 214))]) hx hb dX10_digByPlan_46 rfl hl (dk_dq rfl) rfl (fun ls hl => ?_)
      refine lv_aload_n hx hb dX10_digByPlan_47 rfl (lv_at hl 3 rfl) ?_
      refine dg_get (C := RX10) (T := TX10) (N := 13) hx hb hts (fun w h => bw_mem (wU_X10 w h)) hown K hP sX_214 rfl 7 (dk_dq rfl) (hts _ (bw_mem wB_578)) (fun _ h9 => h9) (v := .ref (o + d_4)) f_d_4 dX10_digByPlan_48 ?_
      refine dg_get (C := RX5) (T := TX5) (N := 8) hx hb hts (fun w h => bw_mem (wU_X5 w h)) hown K hP (pX_0 d_4 hk_d_4) rfl 3 (dk_dq rfl) (hts _ (bw_mem wB_633)) (fun _ h9 => h9) (v := .ref (o + (d_4 + 2))) (show S.1 d_4 3 = .ref (o + (d_4 + 2)) from dg_I.rel (d := 2) I (pX_0 d_4 hk_d_4) (by decide +kernel)) dX10_digByPlan_51 ?_
      refine lv_iload_n hx hb dX10_digByPlan_54 rfl (lv_at hl 1 rfl) ?_
      have hin_11 : vp_in x_8 6 := (dk_inv2 (by omega))
      refine dg_iald hx hb K hP (pX_2 d_4 hk_d_4) hin_11 dX10_digByPlan_55 (fun x_12 ex_12 => ?_)
      refine lv_iconst (v := 1) hx hb dX10_digByPlan_56 (by decide +kernel) ?_
      refine lv_icmp_eq (tgt := 71) hx hb dX10_digByPlan_57 (dk_dq rfl) (fun c_13 => ?_) (fun c_13 => ?_)
      · have jc_13 := dk_eqc (k := 1) (by decide +kernel) c_13
        refine W.widen (k := 0) (n := 0) (Nat.le_of_ble_eq_true rfl) (Nat.le_of_ble_eq_true rfl) ?_
        exact dg_vret hx hb hr hlocks hP hS ⟨I, M_0, Z3, dg_FG.rf, (Eq.symm (F_w_digByPlan_p0 (zR_eq f_d_1) (zI_eq f_x_2) c_3 (zR_eq f_d_4) (zI_eq f_x_5) ex_6 (Eq.symm ex_8.symm) (Eq.symm ex_12.symm) c_13)), trivial⟩ dX10_digByPlan_71
      · as_aux_lemma =>
          have jc_13 := dk_neqc (k := 1) (by decide +kernel) c_13
          refine lv_aload_n hx hb dX10_digByPlan_60 rfl (lv_at hl 3 rfl) ?_
          refine dg_get (C := RX10) (T := TX10) (N := 13) hx hb hts (fun w h => bw_mem (wU_X10 w h)) hown K hP sX_214 rfl 7 (dk_dq rfl) (hts _ (bw_mem wB_578)) (fun _ h9 => h9) (v := .ref (o + d_4)) f_d_4 dX10_digByPlan_61 ?_
          refine lv_iload_n hx hb dX10_digByPlan_64 rfl (lv_at hl 0 rfl) ?_
          refine dg_calli hS hA1 hA (va_runV (As := [.int x_10]) (rest := []) F (c_p_canBeDug l g D o S d_4 hk_d_4 x_10 (by omega) (Z3 d_4 hk_d_4 f_d_4) I s.heap.size) (cwV 1 hts (bw_V wB_619 wB_620 wB_621 wB_493 wB_618) rfl rfl rfl (by decide +kernel) ⟨Nat.le_of_ble_eq_true rfl, Nat.le_of_ble_eq_true rfl⟩) (dg_preV (pX_0 d_4 hk_d_4) rfl K ST hP hS hA1 hA) rfl rfl hl.1 rfl (lv_room (Nat.le_of_ble_eq_true rfl)) dX10_digByPlan_65 ⟨Nat.le_of_ble_eq_true rfl, Nat.le_of_ble_eq_true rfl⟩) (fun x_14 S_15 hw_15 H locs hP hS => ?_)
          rw [hw_15.1] at hP
          obtain ⟨hq_15, w_15_0, w_15_1, w_15_2, -⟩ := hw_15
          have w_15_0 : 0 ≤ (x_14).toInt ∧ (x_14).toInt ≤ 1 := w_15_0
          have w_15_1 : (x_14).toInt = 1 → (8 ≤ (x_10).toInt ∧ (x_10).toInt ≤ 63) := w_15_1
          refine lv_if_ne (tgt := 72) hx hb dX10_digByPlan_68 (dk_dq rfl) (fun c_16 => ?_) (fun c_16 => ?_)
          · as_aux_lemma =>
              have jc_16 := dk_neqc (k := 0) (by decide +kernel) c_16
              refine lv_aload_n hx hb dX10_digByPlan_72 rfl (lv_at hl 3 rfl) ?_
              refine lv_iload_n hx hb dX10_digByPlan_73 rfl (lv_at hl 1 rfl) ?_
              refine dg_put (ci := 10) (v := .int x_8) (ty := tyX10 10) (C := RX10) (T := TX10) (N := 13) hx hb hts (fun w h => bw_mem (wU_X10 w h)) tyX10 tyX10_ok nmX10 hown K hP hS hA1 sX_214 rfl 10 (dk_dq rfl) (hts _ (bw_mem wB_634)) (fun _ h9 => h9) rfl (by decide +kernel) rfl rfl dX10_digByPlan_74 (fun S_17 e_17 H locs hP hS => ?_)
              have I_17 := dg_I.uFi (lo := (-2147483648)) (hi := 2147483647) I e_17 sX_214 (by decide +kernel) (show (-2147483648) ≤ (x_8).toInt ∧ (x_8).toInt ≤ 2147483647 from (dk_full _))
              have M_17 := dg_sm.uF M_0 e_17 sX_214 (dk_dq rfl)
              refine lv_aload_n hx hb dX10_digByPlan_77 rfl (lv_at hl 3 rfl) ?_
              refine lv_iload_n hx hb dX10_digByPlan_78 rfl (lv_at hl 0 rfl) ?_
              refine dg_put (ci := 10) (v := .int x_10) (ty := tyX10 11) (C := RX10) (T := TX10) (N := 13) hx hb hts (fun w h => bw_mem (wU_X10 w h)) tyX10 tyX10_ok nmX10 hown K hP hS hA1 sX_214 rfl 11 (dk_dq rfl) (hts _ (bw_mem wB_635)) (fun _ h9 => h9) rfl (by decide +kernel) rfl rfl dX10_digByPlan_79 (fun S_18 e_18 H locs hP hS => ?_)
              have I_18 := dg_I.uFi (lo := (-2147483648)) (hi := 2147483647) I_17 e_18 sX_214 (by decide +kernel) (show (-2147483648) ≤ (x_10).toInt ∧ (x_10).toInt ≤ 2147483647 from (dk_full _))
              have M_18 := dg_sm.uF M_17 e_18 sX_214 (dk_dq rfl)
              refine lv_aload_n hx hb dX10_digByPlan_82 rfl (lv_at hl 3 rfl) ?_
              refine lv_iload_n hx hb dX10_digByPlan_83 rfl (lv_at hl 0 rfl) ?_
              refine dg_callv hS hA1 hA (va_runV (As := [.int x_10]) (rest := []) F (c_w_tellDigging l g D o S_18 x_10 (by omega) I_18 H.size) (cwV 1 hts (bw_V wB_623 wB_624 wB_625 wB_594 wB_622) rfl rfl rfl (by decide +kernel) ⟨Nat.le_of_ble_eq_true rfl, Nat.le_of_ble_eq_true rfl⟩) (dg_preV sX_214 rfl K ST hP hS hA1 hA) rfl rfl hl.1 rfl (lv_room (Nat.le_of_ble_eq_true rfl)) dX10_digByPlan_84 ⟨Nat.le_of_ble_eq_true rfl, Nat.le_of_ble_eq_true rfl⟩) (fun S_19 hw_19 H locs hP hS => ?_)
              obtain ⟨I_19, m_19, w_19_0, -⟩ := hw_19
              have M_19 := dg_sm.tr M_18 m_19 (dk_dq rfl) (dk_dq rfl)
              refine lv_aload_n hx hb dX10_digByPlan_87 rfl (lv_at hl 3 rfl) ?_
              refine dg_get (C := RX10) (T := TX10) (N := 13) hx hb hts (fun w h => bw_mem (wU_X10 w h)) hown K hP sX_214 rfl 0 (dk_dq rfl) (hts _ (bw_mem wB_607)) (fun _ h9 => h9) (v := .ref (o + 215)) (show S_19.1 214 0 = .ref (o + 215) from dg_I.rel (d := 1) I_19 sX_214 (by decide +kernel)) dX10_digByPlan_88 ?_
              refine lv_aload_n hx hb dX10_digByPlan_91 rfl (lv_at hl 3 rfl) ?_
              refine dg_get (C := RX10) (T := TX10) (N := 13) hx hb hts (fun w h => bw_mem (wU_X10 w h)) hown K hP sX_214 rfl 6 (dk_dq rfl) (hts _ (bw_mem wB_586)) (fun _ h9 => h9) (v := .ref (o + d_1)) (((m_19.1 214 6 _ sX_214 (dk_dq rfl)).trans ((dg_uF_ne e_18 (fun z => absurd z.2 (dk_dq rfl))).trans (dg_uF_ne e_17 (fun z => absurd z.2 (dk_dq rfl))))).trans f_d_1) dX10_digByPlan_92 ?_
              refine lv_iconst (v := 1) hx hb dX10_digByPlan_95 (by decide +kernel) ?_
              refine lv_iconst (v := 0) hx hb dX10_digByPlan_96 (by decide +kernel) ?_
              have hz_20 : (1 : Int32).toInt = 1 := by decide +kernel
              refine dg_calli hS hA1 hA (va_runV (As := [.ref (o + d_1), .int 1, .int 0]) (rest := []) F (c_r_valueOf l g D o S_19 d_1 hk_d_1 1 (by decide +kernel) 0 I_19 H.size) (cwV 3 hts (bw_V wB_627 wB_628 wB_629 wB_553 wB_626) rfl rfl rfl (by decide +kernel) ⟨Nat.le_of_ble_eq_true rfl, Nat.le_of_ble_eq_true rfl⟩) (dg_preV sX_215 rfl K ST hP hS hA1 hA) rfl rfl hl.1 rfl (lv_room (Nat.le_of_ble_eq_true rfl)) dX10_digByPlan_97 ⟨Nat.le_of_ble_eq_true rfl, Nat.le_of_ble_eq_true rfl⟩) (fun x_21 S_22 hw_22 H locs hP hS => ?_)
              obtain ⟨I_22, m_22, w_22_0, -⟩ := hw_22
              have M_22 := dg_sm.tr M_19 m_22 (dk_dq rfl) (dk_dq rfl)
              have hF_1 : F_w_digByPlan o S = F_w_digByPlan_J1 x_21 S_22 d_4 x_10 x_8 o d_1 := (F_w_digByPlan_p4 (zR_eq f_d_1) (zI_eq f_x_2) c_3 (zR_eq f_d_4) (zI_eq f_x_5) ex_6 (Eq.symm ex_8.symm) (Eq.symm ex_10.symm) (Eq.symm ex_12.symm) c_13 w_15_2 c_16 e_17 e_18 w_19_0 w_22_0.1 w_22_0.2)
              refine lv_iconst (v := 1) hx hb dX10_digByPlan_100 (by decide +kernel) ?_
              refine lv_icmp_ne (tgt := 132) hx hb dX10_digByPlan_101 (dk_dq rfl) (fun c_23 => ?_) (fun c_23 => ?_)
              · as_aux_lemma =>
                  have jc_23 := dk_neqc (k := 1) (by decide +kernel) c_23
                  refine lv_aload_n hx hb dX10_digByPlan_132 rfl (lv_at hl 3 rfl) ?_
                  refine dg_get (C := RX10) (T := TX10) (N := 13) hx hb hts (fun w h => bw_mem (wU_X10 w h)) hown K hP sX_214 rfl 0 (dk_dq rfl) (hts _ (bw_mem wB_607)) (fun _ h9 => h9) (v := .ref (o + 215)) (show S_22.1 214 0 = .ref (o + 215) from dg_I.rel (d := 1) I_22 sX_214 (by decide +kernel)) dX10_digByPlan_133 ?_
                  refine lv_aload_n hx hb dX10_digByPlan_136 rfl (lv_at hl 3 rfl) ?_
                  refine dg_get (C := RX10) (T := TX10) (N := 13) hx hb hts (fun w h => bw_mem (wU_X10 w h)) hown K hP sX_214 rfl 6 (dk_dq rfl) (hts _ (bw_mem wB_586)) (fun _ h9 => h9) (v := .ref (o + d_1)) (((m_22.1 214 6 _ sX_214 (dk_dq rfl)).trans ((m_19.1 214 6 _ sX_214 (dk_dq rfl)).trans ((dg_uF_ne e_18 (fun z => absurd z.2 (dk_dq rfl))).trans (dg_uF_ne e_17 (fun z => absurd z.2 (dk_dq rfl)))))).trans f_d_1) dX10_digByPlan_137 ?_
                  refine lv_iconst (v := 2) hx hb dX10_digByPlan_140 (by decide +kernel) ?_
                  refine lv_aload_n hx hb dX10_digByPlan_141 rfl (lv_at hl 3 rfl) ?_
                  refine dg_get (C := RX10) (T := TX10) (N := 13) hx hb hts (fun w h => bw_mem (wU_X10 w h)) hown K hP sX_214 rfl 7 (dk_dq rfl) (hts _ (bw_mem wB_578)) (fun _ h9 => h9) (v := .ref (o + d_4)) (((m_22.1 214 7 _ sX_214 (dk_dq rfl)).trans ((m_19.1 214 7 _ sX_214 (dk_dq rfl)).trans ((dg_uF_ne e_18 (fun z => absurd z.2 (dk_dq rfl))).trans (dg_uF_ne e_17 (fun z => absurd z.2 (dk_dq rfl)))))).trans f_d_4) dX10_digByPlan_142 ?_
                  refine dg_get (C := RX5) (T := TX5) (N := 8) hx hb hts (fun w h => bw_mem (wU_X5 w h)) hown K hP (pX_0 d_4 hk_d_4) rfl 2 (dk_dq rfl) (hts _ (bw_mem wB_588)) (fun _ h9 => h9) (v := .ref (o + (d_4 + 1))) (show S_22.1 d_4 2 = .ref (o + (d_4 + 1)) from dg_I.rel (d := 1) I_22 (pX_0 d_4 hk_d_4) (by decide +kernel)) dX10_digByPlan_145 ?_
                  refine lv_iload_n hx hb dX10_digByPlan_148 rfl (lv_at hl 0 rfl) ?_
                  have hin_24 : vp_in x_10 72 := (dk_inv2 (by omega))
                  refine dg_iald hx hb K hP (pX_1 d_4 hk_d_4) hin_24 dX10_digByPlan_149 (fun x_25 ex_25 => ?_)
                  have b_x_25 := dg_cel_at (dg_I.cel (lo := 0) (hi := 255) I_22 (pX_1 d_4 hk_d_4) (by decide +kernel) ((dg_FG.tr (dg_FG.tr (dg_FG.tr (dg_FG.uF e_17) (dg_FG.uF e_18)) (dg_FG.sm m_19 (dk_dq rfl))) (dg_FG.sm m_22 (dk_dq rfl))) d_4 hk_d_4 (Z3 d_4 hk_d_4 f_d_4))) hin_24 ex_25
                  have hz_26 : (2 : Int32).toInt = 2 := by decide +kernel
                  refine dg_calli hS hA1 hA (va_runV (As := [.ref (o + d_1), .int 2, .int x_25]) (rest := []) F (c_r_valueOf l g D o S_22 d_1 hk_d_1 2 (by decide +kernel) x_25 I_22 H.size) (cwV 3 hts (bw_V wB_627 wB_628 wB_629 wB_553 wB_626) rfl rfl rfl (by decide +kernel) ⟨Nat.le_of_ble_eq_true rfl, Nat.le_of_ble_eq_true rfl⟩) (dg_preV sX_215 rfl K ST hP hS hA1 hA) rfl rfl hl.1 rfl (lv_room (Nat.le_of_ble_eq_true rfl)) dX10_digByPlan_150 ⟨Nat.le_of_ble_eq_true rfl, Nat.le_of_ble_eq_true rfl⟩) (fun x_27 S_28 hw_28 H locs hP hS => ?_)
                  obtain ⟨I_28, m_28, w_28_0, -⟩ := hw_28
                  have M_28 := dg_sm.tr M_22 m_28 (dk_dq rfl) (dk_dq rfl)
                  refine lv_istore (lv' := [(4, .int x_27), (3, .int x_10), (2, .int x_8), (1, .int x_6), (0, .ref (o + 214))]) hx hb dX10_digByPlan_153 hl (dk_dq rfl) rfl (fun ls hl => ?_)
                  refine lv_aload_n hx hb dX10_digByPlan_155 rfl (lv_at hl 4 rfl) ?_
                  refine lv_iconst (v := 0) hx hb dX10_digByPlan_156 (by decide +kernel) ?_
                  refine lv_bipush (v := 9) hx hb dX10_digByPlan_157 (by decide +kernel) ?_
                  refine lv_iload hx hb dX10_digByPlan_159 (lv_at hl 0 rfl) ?_
                  refine va_mmin hx hb (by rw [hml]; exact hl.1.symm) hown (hts _ (bw_mem wB_636)) (hts _ (bw_mem wB_504)) (hts _ (bw_mem wB_505)) (hts _ (bw_mem wB_506)) (Nat.le_of_ble_eq_true rfl) (Nat.le_of_ble_eq_true rfl) (Nat.le_of_ble_eq_true rfl) (Nat.le_of_ble_eq_true rfl) dX10_digByPlan_161 ?_
                  refine lv_topi (fun x_29 ex_29 => ?_)
                  have jx_29 := dk_minT (a := 9) (b := (x_27).toInt) (by decide +kernel) rfl ex_29
                  refine va_mmax hx hb (by rw [hml]; exact hl.1.symm) hown (hts _ (bw_mem wB_637)) (hts _ (bw_mem wB_638)) (hts _ (bw_mem wB_505)) (hts _ (bw_mem wB_639)) (Nat.le_of_ble_eq_true rfl) (Nat.le_of_ble_eq_true rfl) (Nat.le_of_ble_eq_true rfl) (Nat.le_of_ble_eq_true rfl) dX10_digByPlan_164 ?_
                  refine lv_topi (fun x_30 ex_30 => ?_)
                  have jx_30 := dk_maxT (a := 0) (b := (x_29).toInt) (by decide +kernel) rfl ex_30
                  refine dg_put (ci := 10) (v := .int x_30) (ty := tyX10 12) (C := RX10) (T := TX10) (N := 13) hx hb hts (fun w h => bw_mem (wU_X10 w h)) tyX10 tyX10_ok nmX10 hown K hP hS hA1 sX_214 rfl 12 (dk_dq rfl) (hts _ (bw_mem wB_640)) (fun _ h9 => h9) rfl (by decide +kernel) rfl rfl dX10_digByPlan_167 (fun S_31 e_31 H locs hP hS => ?_)
                  have I_31 := dg_I.uFi (lo := (-2147483648)) (hi := 2147483647) I_28 e_31 sX_214 (by decide +kernel) (show (-2147483648) ≤ (x_30).toInt ∧ (x_30).toInt ≤ 2147483647 from (dk_full _))
                  have M_31 := dg_sm.uF M_28 e_31 sX_214 (dk_dq rfl)
                  refine lv_aload_n hx hb dX10_digByPlan_170 rfl (lv_at hl 4 rfl) ?_
                  refine dg_get (C := RX10) (T := TX10) (N := 13) hx hb hts (fun w h => bw_mem (wU_X10 w h)) hown K hP sX_214 rfl 7 (dk_dq rfl) (hts _ (bw_mem wB_578)) (fun _ h9 => h9) (v := .ref (o + d_4)) (((dg_uF_ne e_31 (fun z => absurd z.2 (dk_dq rfl))).trans ((m_28.1 214 7 _ sX_214 (dk_dq rfl)).trans ((m_22.1 214 7 _ sX_214 (dk_dq rfl)).trans ((m_19.1 214 7 _ sX_214 (dk_dq rfl)).trans ((dg_uF_ne e_18 (fun z => absurd z.2 (dk_dq rfl))).trans (dg_uF_ne e_17 (fun z => absurd z.2 (dk_dq rfl)))))))).trans f_d_4) dX10_digByPlan_171 ?_
                  refine lv_aload_n hx hb dX10_digByPlan_174 rfl (lv_at hl 4 rfl) ?_
                  refine dg_get (C := RX10) (T := TX10) (N := 13) hx hb hts (fun w h => bw_mem (wU_X10 w h)) hown K hP sX_214 rfl 12 (dk_dq rfl) (hts _ (bw_mem wB_640)) (fun _ h9 => h9) (v := .int x_30) (dg_uF_at e_31) dX10_digByPlan_175 ?_
                  refine dg_callv hS hA1 hA (va_runV (As := [.int x_30]) (rest := []) F (c_p_addTub l g D o S_31 d_4 hk_d_4 x_30 (by omega) I_31 H.size) (cwV 1 hts (bw_V wB_642 wB_643 wB_644 wB_493 wB_641) rfl rfl rfl (by decide +kernel) ⟨Nat.le_of_ble_eq_true rfl, Nat.le_of_ble_eq_true rfl⟩) (dg_preV (pX_0 d_4 hk_d_4) rfl K ST hP hS hA1 hA) rfl rfl hl.1 rfl (lv_room (Nat.le_of_ble_eq_true rfl)) dX10_digByPlan_178 ⟨Nat.le_of_ble_eq_true rfl, Nat.le_of_ble_eq_true rfl⟩) (fun S_32 hw_32 H locs hP hS => ?_)
                  obtain ⟨I_32, m_32, w_32_0, -⟩ := hw_32
                  have M_32 := dg_sm.tr M_31 m_32 (dk_dq rfl) (dk_dq rfl)
                  refine lv_aload_n hx hb dX10_digByPlan_181 rfl (lv_at hl 4 rfl) ?_
                  refine dg_get (C := RX10) (T := TX10) (N := 13) hx hb hts (fun w h => bw_mem (wU_X10 w h)) hown K hP sX_214 rfl 7 (dk_dq rfl) (hts _ (bw_mem wB_578)) (fun _ h9 => h9) (v := .ref (o + d_4)) (((m_32.1 214 7 _ sX_214 (dk_dq rfl)).trans ((dg_uF_ne e_31 (fun z => absurd z.2 (dk_dq rfl))).trans ((m_28.1 214 7 _ sX_214 (dk_dq rfl)).trans ((m_22.1 214 7 _ sX_214 (dk_dq rfl)).trans ((m_19.1 214 7 _ sX_214 (dk_dq rfl)).trans ((dg_uF_ne e_18 (fun z => absurd z.2 (dk_dq rfl))).trans (dg_uF_ne e_17 (fun z => absurd z.2 (dk_dq rfl))))))))).trans f_d_4) dX10_digByPlan_182 ?_
                  as_aux_lemma =>
                    refine dg_get (C := RX5) (T := TX5) (N := 8) hx hb hts (fun w h => bw_mem (wU_X5 w h)) hown K hP (pX_0 d_4 hk_d_4) rfl 2 (dk_dq rfl) (hts _ (bw_mem wB_588)) (fun _ h9 => h9) (v := .ref (o + (d_4 + 1))) (show S_32.1 d_4 2 = .ref (o + (d_4 + 1)) from dg_I.rel (d := 1) I_32 (pX_0 d_4 hk_d_4) (by decide +kernel)) dX10_digByPlan_185 ?_
                    refine lv_iload_n hx hb dX10_digByPlan_188 rfl (lv_at hl 1 rfl) ?_
                    refine lv_sipush (v := 255) hx hb dX10_digByPlan_189 (by decide +kernel) ?_
                    have hin_33 : vp_in x_10 72 := (dk_inv2 (by omega))
                    have hz_35 : (255 : Int32).toInt = 255 := by decide +kernel
                    refine dg_iast hx hb K hP hS hA1 (pX_1 d_4 hk_d_4) hin_33 dX10_digByPlan_192 (fun S_34 e_34 H locs hP hS => ?_)
                    have I_34 := dg_I.ufc (lo := 0) (hi := 255) I_32 e_34 (pX_1 d_4 hk_d_4) (by decide +kernel) hin_33 (show dg_Pcel _ _ from by unfold dg_Pcel; omega) (by omega)
                    have gs_34 := dg_FG.st e_34 (by omega)
                    have M_34 := dg_sm.uf M_32 e_34 (pX_1 d_4 hk_d_4) (dk_dq rfl)
                    have hF_2 : F_w_digByPlan o S = F_w_digByPlan_J2 S_34 := (Eq.trans hF_1 (F_w_digByPlan_p2 c_23 (Eq.symm ex_25.symm) w_28_0.1 w_28_0.2 ex_29 ex_30 e_31 w_32_0 e_34))
                    refine lv_aload_n hx hb dX10_digByPlan_193 rfl (lv_at hl 4 rfl) ?_
                    refine lv_iconst (v := 1) hx hb dX10_digByPlan_194 (by decide +kernel) ?_
                    have hz_36 : (1 : Int32).toInt = 1 := by decide +kernel
                    refine dg_put (ci := 10) (v := .int 1) (ty := tyX10 9) (C := RX10) (T := TX10) (N := 13) hx hb hts (fun w h => bw_mem (wU_X10 w h)) tyX10 tyX10_ok nmX10 hown K hP hS hA1 sX_214 rfl 9 (dk_dq rfl) (hts _ (bw_mem wB_584)) (fun _ h9 => h9) rfl (by decide +kernel) (by decide +kernel) (by decide +kernel) dX10_digByPlan_195 (fun S_37 e_37 H locs hP hS => ?_)
                    have I_37 := dg_I.uFi (lo := 0) (hi := 1) I_34 e_37 sX_214 (by decide +kernel) (show 0 ≤ ((1 : Int32)).toInt ∧ ((1 : Int32)).toInt ≤ 1 from (by decide +kernel))
                    have M_37 := dg_sm.uF M_34 e_37 sX_214 (dk_dq rfl)
                    refine W.widen (k := 0) (n := 0) (Nat.le_of_ble_eq_true rfl) (Nat.le_of_ble_eq_true rfl) ?_
                    exact dg_vret hx hb hr hlocks hP hS ⟨I_37, M_37, (Z3X.keep (Z3X.keep (Z3X.keep (Z3X.keep (Z3X.keep (Z3X.keep (Z3X.keep (Z3X.keep (Z3X.keep Z3 (dg_sm.uF (WF := [(36, 10)]) (WA := []) dg_sm.rf e_17 sX_214 (dk_dq rfl)) (dg_FG.uF e_17) (dk_dq rfl)) (dg_sm.uF (WF := [(36, 11)]) (WA := []) dg_sm.rf e_18 sX_214 (dk_dq rfl)) (dg_FG.uF e_18) (dk_dq rfl)) m_19 (dg_FG.sm m_19 (dk_dq rfl)) (dk_dq rfl)) m_22 (dg_FG.sm m_22 (dk_dq rfl)) (dk_dq rfl)) m_28 (dg_FG.sm m_28 (dk_dq rfl)) (dk_dq rfl)) (dg_sm.uF (WF := [(36, 12)]) (WA := []) dg_sm.rf e_31 sX_214 (dk_dq rfl)) (dg_FG.uF e_31) (dk_dq rfl)) m_32 (dg_FG.sm m_32 (dk_dq rfl)) (dk_dq rfl)) (dg_sm.uf (WF := []) (WA := [4]) dg_sm.rf e_34 (pX_1 d_4 hk_d_4) (dk_dq rfl)) gs_34 (dk_dq rfl)) (dg_sm.uF (WF := [(36, 9)]) (WA := []) dg_sm.rf e_37 sX_214 (dk_dq rfl)) (dg_FG.uF e_37) (dk_dq rfl)), (dg_FG.tr (dg_FG.tr (dg_FG.tr (dg_FG.tr (dg_FG.tr (dg_FG.tr (dg_FG.tr (dg_FG.tr (dg_FG.uF e_17) (dg_FG.uF e_18)) (dg_FG.sm m_19 (dk_dq rfl))) (dg_FG.sm m_22 (dk_dq rfl))) (dg_FG.sm m_28 (dk_dq rfl))) (dg_FG.uF e_31)) (dg_FG.sm m_32 (dk_dq rfl))) gs_34) (dg_FG.uF e_37)), (Eq.symm (Eq.trans hF_2 (F_w_digByPlan_p1 e_37))), trivial⟩ dX10_digByPlan_198
              · as_aux_lemma =>
                  have jc_23 := dk_eqc (k := 1) (by decide +kernel) c_23
                  refine lv_aload_n hx hb dX10_digByPlan_104 rfl (lv_at hl 3 rfl) ?_
                  refine lv_iconst (v := (-1)) hx hb dX10_digByPlan_105 (by decide +kernel) ?_
                  have hz_38 : (-1 : Int32).toInt = (-1) := by decide +kernel
                  refine dg_put (ci := 10) (v := .int (-1)) (ty := tyX10 12) (C := RX10) (T := TX10) (N := 13) hx hb hts (fun w h => bw_mem (wU_X10 w h)) tyX10 tyX10_ok nmX10 hown K hP hS hA1 sX_214 rfl 12 (dk_dq rfl) (hts _ (bw_mem wB_640)) (fun _ h9 => h9) rfl (by decide +kernel) rfl rfl dX10_digByPlan_106 (fun S_39 e_39 H locs hP hS => ?_)
                  have I_39 := dg_I.uFi (lo := (-2147483648)) (hi := 2147483647) I_22 e_39 sX_214 (by decide +kernel) (show (-2147483648) ≤ ((-1 : Int32)).toInt ∧ ((-1 : Int32)).toInt ≤ 2147483647 from (by decide +kernel))
                  have M_39 := dg_sm.uF M_22 e_39 sX_214 (dk_dq rfl)
                  refine lv_aload_n hx hb dX10_digByPlan_109 rfl (lv_at hl 3 rfl) ?_
                  refine dg_get (C := RX10) (T := TX10) (N := 13) hx hb hts (fun w h => bw_mem (wU_X10 w h)) hown K hP sX_214 rfl 7 (dk_dq rfl) (hts _ (bw_mem wB_578)) (fun _ h9 => h9) (v := .ref (o + d_4)) (((dg_uF_ne e_39 (fun z => absurd z.2 (dk_dq rfl))).trans ((m_22.1 214 7 _ sX_214 (dk_dq rfl)).trans ((m_19.1 214 7 _ sX_214 (dk_dq rfl)).trans ((dg_uF_ne e_18 (fun z => absurd z.2 (dk_dq rfl))).trans (dg_uF_ne e_17 (fun z => absurd z.2 (dk_dq rfl))))))).trans f_d_4) dX10_digByPlan_110 ?_
                  refine dg_get (C := RX5) (T := TX5) (N := 8) hx hb hts (fun w h => bw_mem (wU_X5 w h)) hown K hP (pX_0 d_4 hk_d_4) rfl 2 (dk_dq rfl) (hts _ (bw_mem wB_588)) (fun _ h9 => h9) (v := .ref (o + (d_4 + 1))) (show S_39.1 d_4 2 = .ref (o + (d_4 + 1)) from dg_I.rel (d := 1) I_39 (pX_0 d_4 hk_d_4) (by decide +kernel)) dX10_digByPlan_113 ?_
                  refine lv_iload_n hx hb dX10_digByPlan_116 rfl (lv_at hl 0 rfl) ?_
                  refine lv_iconst (v := 0) hx hb dX10_digByPlan_117 (by decide +kernel) ?_
                  have hin_40 : vp_in x_10 72 := (dk_inv2 (by omega))
                  have hz_42 : (0 : Int32).toInt = 0 := by decide +kernel
                  refine dg_iast hx hb K hP hS hA1 (pX_1 d_4 hk_d_4) hin_40 dX10_digByPlan_118 (fun S_41 e_41 H locs hP hS => ?_)
                  have I_41 := dg_I.ufc (lo := 0) (hi := 255) I_39 e_41 (pX_1 d_4 hk_d_4) (by decide +kernel) hin_40 (show dg_Pcel _ _ from by unfold dg_Pcel; omega) (by omega)
                  have gs_41 := dg_FG.st e_41 (by omega)
                  have M_41 := dg_sm.uf M_39 e_41 (pX_1 d_4 hk_d_4) (dk_dq rfl)
                  refine lv_aload_n hx hb dX10_digByPlan_119 rfl (lv_at hl 3 rfl) ?_
                  refine dg_get (C := RX10) (T := TX10) (N := 13) hx hb hts (fun w h => bw_mem (wU_X10 w h)) hown K hP sX_214 rfl 7 (dk_dq rfl) (hts _ (bw_mem wB_578)) (fun _ h9 => h9) (v := .ref (o + d_4)) (((dg_uf_F e_41 214 7).trans ((dg_uF_ne e_39 (fun z => absurd z.2 (dk_dq rfl))).trans ((m_22.1 214 7 _ sX_214 (dk_dq rfl)).trans ((m_19.1 214 7 _ sX_214 (dk_dq rfl)).trans ((dg_uF_ne e_18 (fun z => absurd z.2 (dk_dq rfl))).trans (dg_uF_ne e_17 (fun z => absurd z.2 (dk_dq rfl)))))))).trans f_d_4) dX10_digByPlan_120 ?_
                  refine dg_get (C := RX5) (T := TX5) (N := 8) hx hb hts (fun w h => bw_mem (wU_X5 w h)) hown K hP (pX_0 d_4 hk_d_4) rfl 3 (dk_dq rfl) (hts _ (bw_mem wB_633)) (fun _ h9 => h9) (v := .ref (o + (d_4 + 2))) (show S_41.1 d_4 3 = .ref (o + (d_4 + 2)) from dg_I.rel (d := 2) I_41 (pX_0 d_4 hk_d_4) (by decide +kernel)) dX10_digByPlan_123 ?_
                  refine lv_iload_n hx hb dX10_digByPlan_126 rfl (lv_at hl 1 rfl) ?_
                  refine lv_iconst (v := 1) hx hb dX10_digByPlan_127 (by decide +kernel) ?_
                  have hin_43 : vp_in x_8 6 := (dk_inv2 (by omega))
                  have hz_45 : (1 : Int32).toInt = 1 := by decide +kernel
                  refine dg_iast hx hb K hP hS hA1 (pX_2 d_4 hk_d_4) hin_43 dX10_digByPlan_128 (fun S_44 e_44 H locs hP hS => ?_)
                  have I_44 := dg_I.uf0 I_41 e_44 (pX_2 d_4 hk_d_4) (by decide +kernel)
                  have M_44 := dg_sm.uf M_41 e_44 (pX_2 d_4 hk_d_4) (dk_dq rfl)
                  refine lv_goto (tgt := 198) hx hb dX10_digByPlan_129 (dk_dq rfl) ?_
                  refine W.widen (k := 0) (n := 0) (Nat.le_of_ble_eq_true rfl) (Nat.le_of_ble_eq_true rfl) ?_
                  exact dg_vret hx hb hr hlocks hP hS ⟨I_44, M_44, (Z3X.keep (Z3X.keep (Z3X.keep (Z3X.keep (Z3X.keep (Z3X.keep (Z3X.keep Z3 (dg_sm.uF (WF := [(36, 10)]) (WA := []) dg_sm.rf e_17 sX_214 (dk_dq rfl)) (dg_FG.uF e_17) (dk_dq rfl)) (dg_sm.uF (WF := [(36, 11)]) (WA := []) dg_sm.rf e_18 sX_214 (dk_dq rfl)) (dg_FG.uF e_18) (dk_dq rfl)) m_19 (dg_FG.sm m_19 (dk_dq rfl)) (dk_dq rfl)) m_22 (dg_FG.sm m_22 (dk_dq rfl)) (dk_dq rfl)) (dg_sm.uF (WF := [(36, 12)]) (WA := []) dg_sm.rf e_39 sX_214 (dk_dq rfl)) (dg_FG.uF e_39) (dk_dq rfl)) (dg_sm.uf (WF := []) (WA := [4]) dg_sm.rf e_41 (pX_1 d_4 hk_d_4) (dk_dq rfl)) gs_41 (dk_dq rfl)) (dg_sm.uf (WF := []) (WA := [5]) dg_sm.rf e_44 (pX_2 d_4 hk_d_4) (dk_dq rfl)) (dg_FG.uf e_44 (pX_2 d_4 hk_d_4) (dk_dq rfl)) (dk_dq rfl)), (dg_FG.tr (dg_FG.tr (dg_FG.tr (dg_FG.tr (dg_FG.tr (dg_FG.tr (dg_FG.uF e_17) (dg_FG.uF e_18)) (dg_FG.sm m_19 (dk_dq rfl))) (dg_FG.sm m_22 (dk_dq rfl))) (dg_FG.uF e_39)) gs_41) (dg_FG.uf e_44 (pX_2 d_4 hk_d_4) (dk_dq rfl))), (Eq.symm (Eq.trans hF_1 (F_w_digByPlan_p3 c_23 e_39 e_41 e_44))), trivial⟩ dX10_digByPlan_198
          · have jc_16 := dk_eqc (k := 0) (by decide +kernel) c_16
            refine W.widen (k := 0) (n := 0) (Nat.le_of_ble_eq_true rfl) (Nat.le_of_ble_eq_true rfl) ?_
            exact dg_vret hx hb hr hlocks hP hS ⟨I, M_0, Z3, dg_FG.rf, (Eq.symm (F_w_digByPlan_p5 (zR_eq f_d_1) (zI_eq f_x_2) c_3 (zR_eq f_d_4) (zI_eq f_x_5) ex_6 (Eq.symm ex_8.symm) (Eq.symm ex_10.symm) (Eq.symm ex_12.symm) c_13 w_15_2 c_16)), trivial⟩ dX10_digByPlan_71
  · have jc_3 := dk_eqc (k := 0) (by decide +kernel) c_3
    refine W.widen (k := 0) (n := 0) (Nat.le_of_ble_eq_true rfl) (Nat.le_of_ble_eq_true rfl) ?_
    exact dg_vret hx hb hr hlocks hP hS ⟨I, M_0, Z3, dg_FG.rf, (Eq.symm (F_w_digByPlan_p6 (zR_eq f_d_1) (zI_eq f_x_2) c_3)), trivial⟩ dX10_digByPlan_10
noncomputable def F_w_spoilExposed_J2 (x_155 : Int32) (S_187 : dg_S) : (Int32 × dg_S) ⊕ (dg_S) := let x_189 : Int32 := x_155 + 1; (Sum.inl (x_189, S_187))
noncomputable def F_w_spoilExposed_J3 (o : Nat) (S : dg_S) (S_199 : dg_S) (x_164 : Int32) (d_162 : Nat) (x_161 : Int32) (x_155 : Int32) : (Int32 × dg_S) ⊕ (dg_S) := let d_200 : Nat := zR o S 214 6; let S_203 : dg_S := (F_r_valueOf o S_199 d_200 (0 : Int32) (1 : Int32)).1; let x_202 : Int32 := (F_r_valueOf o S_199 d_200 (0 : Int32) (1 : Int32)).2; let x_204 : Int32 := if (0 : Int32) < x_202 then x_202 else (0 : Int32); let x_206 : Int32 := x_164 - x_204; let x_207 : Int32 := if (0 : Int32) < x_206 then x_206 else (0 : Int32); let S_209 : dg_S := dg_uf S_203 (d_162 + 1) (upd (S_203.2.1 (d_162 + 1)) (x_161 : Int32).toNatClampNeg x_207); (F_w_spoilExposed_J2 x_155 S_209)
noncomputable def F_w_spoilExposed_B1 (S : dg_S) (o : Nat) : (Int32 × dg_S) → (Int32 × dg_S) ⊕ (dg_S) := fun w9 => match w9 with | (x_155, S_156) => let x_158 : Int32 := zI S 214 4; (if x_158 ≤ x_155 then (Sum.inr ((S_156))) else let x_161 : Int32 := S_156.2.1 219 (x_155 : Int32).toNatClampNeg; let d_162 : Nat := zR o S 214 7; let x_164 : Int32 := S_156.2.1 (d_162 + 1) (x_161 : Int32).toNatClampNeg; (if x_164 ≤ (0 : Int32) then (F_w_spoilExposed_J2 x_155 S_156) else let S_191 : dg_S := dg_uF S_156 215 0 (.int x_164); let x_192 : Int32 := F_rowOf o S_191 x_161; let S_194 : dg_S := dg_uF S_191 215 1 (.int x_192); let x_195 : Int32 := zI S d_162 0; let S_196 : dg_S := dg_uF S_194 215 2 (.int x_195); let x_198 : Int32 := S_196.2.1 218 (x_161 : Int32).toNatClampNeg; let S_199 : dg_S := dg_uF S_196 215 3 (.int x_198); (F_w_spoilExposed_J3 o S S_199 x_164 d_162 x_161 x_155)))
noncomputable def F_w_spoilExposed (o : Nat) (S : dg_S) : dg_S := (lp (F_w_spoilExposed_B1 S o) S ((73 - ((0 : Int32)).toInt).toNat + 1) ((0 : Int32), S))
theorem F_w_spoilExposed_p0 {S : dg_S} {o : Nat} {x_155 : Int32} {S_156 : dg_S} {x_158 : Int32} (h0 : x_158 = zI S 214 4) (h1 : x_158 ≤ x_155) : (F_w_spoilExposed_B1 S o) (x_155, S_156) = Sum.inr (S_156) := by
  replace h0 := Eq.symm h0
  subst h0
  exact (Eq.trans (if_pos h1) rfl)
theorem F_w_spoilExposed_p1 {x_155 : Int32} {S_187 : dg_S} {x_189 : Int32} (h0 : x_189 = x_155 + 1) : F_w_spoilExposed_J2 x_155 S_187 = Sum.inl (x_189, S_187) := by
  replace h0 := Eq.symm h0
  subst h0
  exact rfl
theorem F_w_spoilExposed_p2 {S : dg_S} {o : Nat} {x_155 : Int32} {S_156 : dg_S} {x_158 : Int32} {x_161 : Int32} {d_162 : Nat} {x_164 : Int32} (h0 : x_158 = zI S 214 4) (h1 : ¬ (x_158 ≤ x_155)) (h2 : x_161 = S_156.2.1 219 (x_155 : Int32).toNatClampNeg) (h3 : d_162 = zR o S 214 7) (h4 : x_164 = S_156.2.1 (d_162 + 1) (x_161 : Int32).toNatClampNeg) (h5 : x_164 ≤ (0 : Int32)) : (F_w_spoilExposed_B1 S o) (x_155, S_156) = F_w_spoilExposed_J2 x_155 S_156 := by
  replace h0 := Eq.symm h0
  subst h0
  replace h2 := Eq.symm h2
  subst h2
  replace h3 := Eq.symm h3
  subst h3
  replace h4 := Eq.symm h4
  subst h4
  exact (Eq.trans (if_neg h1) (Eq.trans (if_pos h5) rfl))
theorem F_w_spoilExposed_p3 {o : Nat} {S : dg_S} {S_199 : dg_S} {x_164 : Int32} {d_162 : Nat} {x_161 : Int32} {x_155 : Int32} {S_209 : dg_S} {d_200 : Nat} {S_203 : dg_S} {x_202 : Int32} {x_204 : Int32} {x_206 : Int32} {x_207 : Int32} (h0 : d_200 = zR o S 214 6) (h1 : S_203 = (F_r_valueOf o S_199 d_200 (0 : Int32) (1 : Int32)).1) (h2 : x_202 = (F_r_valueOf o S_199 d_200 (0 : Int32) (1 : Int32)).2) (h3 : x_204 = if (0 : Int32) < x_202 then x_202 else (0 : Int32)) (h4 : x_206 = x_164 - x_204) (h5 : x_207 = if (0 : Int32) < x_206 then x_206 else (0 : Int32)) (h6 : S_209 = dg_uf S_203 (d_162 + 1) (upd (S_203.2.1 (d_162 + 1)) (x_161 : Int32).toNatClampNeg x_207)) : F_w_spoilExposed_J3 o S S_199 x_164 d_162 x_161 x_155 = F_w_spoilExposed_J2 x_155 S_209 := by
  replace h0 := Eq.symm h0
  subst h0
  replace h1 := Eq.symm h1
  subst h1
  replace h2 := Eq.symm h2
  subst h2
  replace h3 := Eq.symm h3
  subst h3
  replace h4 := Eq.symm h4
  subst h4
  replace h5 := Eq.symm h5
  subst h5
  replace h6 := Eq.symm h6
  subst h6
  exact rfl
theorem F_w_spoilExposed_p4 {S : dg_S} {o : Nat} {x_155 : Int32} {S_156 : dg_S} {S_199 : dg_S} {x_164 : Int32} {d_162 : Nat} {x_161 : Int32} {x_158 : Int32} {S_191 : dg_S} {x_192 : Int32} {S_194 : dg_S} {x_195 : Int32} {S_196 : dg_S} {x_198 : Int32} (h0 : x_158 = zI S 214 4) (h1 : ¬ (x_158 ≤ x_155)) (h2 : x_161 = S_156.2.1 219 (x_155 : Int32).toNatClampNeg) (h3 : d_162 = zR o S 214 7) (h4 : x_164 = S_156.2.1 (d_162 + 1) (x_161 : Int32).toNatClampNeg) (h5 : ¬ (x_164 ≤ (0 : Int32))) (h6 : S_191 = dg_uF S_156 215 0 (.int x_164)) (h7 : x_192 = F_rowOf o S_191 x_161) (h8 : S_194 = dg_uF S_191 215 1 (.int x_192)) (h9 : x_195 = zI S d_162 0) (h10 : S_196 = dg_uF S_194 215 2 (.int x_195)) (h11 : x_198 = S_196.2.1 218 (x_161 : Int32).toNatClampNeg) (h12 : S_199 = dg_uF S_196 215 3 (.int x_198)) : (F_w_spoilExposed_B1 S o) (x_155, S_156) = F_w_spoilExposed_J3 o S S_199 x_164 d_162 x_161 x_155 := by
  replace h0 := Eq.symm h0
  subst h0
  replace h2 := Eq.symm h2
  subst h2
  replace h3 := Eq.symm h3
  subst h3
  replace h4 := Eq.symm h4
  subst h4
  replace h6 := Eq.symm h6
  subst h6
  replace h7 := Eq.symm h7
  subst h7
  replace h8 := Eq.symm h8
  subst h8
  replace h9 := Eq.symm h9
  subst h9
  replace h10 := Eq.symm h10
  subst h10
  replace h11 := Eq.symm h11
  subst h11
  replace h12 := Eq.symm h12
  subst h12
  exact (Eq.trans (if_neg h1) (Eq.trans (if_neg h5) rfl))
theorem F_w_spoilExposed_p5 {o : Nat} {S : dg_S}  : F_w_spoilExposed o S = lp (F_w_spoilExposed_B1 S o) S ((73 - ((0 : Int32)).toInt).toNat + 1) ((0 : Int32), S) := rfl
set_option maxHeartbeats 8000000 in
set_option maxRecDepth 100000 in
theorem c_w_spoilExposed (l : Launch) (g : Nat → ClassId) (D : va_G) (o : Nat) (S : dg_S) (Z2 : Z2X S) (Z3 : Z3X o S) (I : CX o S) (sz : Nat) : Met l yX10_spoilExposed (bw yX10_spoilExposed cX10_spoilExposed 5 none) ({ frames := 4, cells := 0, slots := 0, locals := 103 } : Room) (dk_Pc g D (dg_w g shX o rfX S) sz [.ref (o + 214)]) (va_Qv (fun S' => CX o S' ∧ dg_sm shX [(37, 0), (37, 1), (37, 2), (37, 3), (37, 7)] [4, 38] S S' ∧ Z3X o S' ∧ dg_FG S S' ∧ (S' = F_w_spoilExposed o S) ∧ True) (dg_B g D shX o rfX) (dg_A o shX.length sz)) 0 0 (dg_A o shX.length sz) := by
  refine dg_met (cc := cX10_spoilExposed) (maxL := 5) (ret := none) (dk_dq rfl) rfl (Nat.le_of_ble_eq_true rfl) ?_
  intro p e s m args below meth c A hAe harg hx hb hr hml hts hown hlocks hin hP K hS hA1 hA ST hsz ls hl
  rw [← hAe]
  have F : CallFix p m c cX10_spoilExposed 5 s args (bw yX10_spoilExposed cX10_spoilExposed 5 none) RX10 := ⟨hx, hb, hml, hown, hts⟩
  have hl : lv_has ls 5 [(0, .ref (o + 214))] := hl
  have M_0 : dg_sm shX [(37, 0), (37, 1), (37, 2), (37, 3), (37, 7)] [4, 38] S S := dg_sm.rf
  refine lv_iconst (v := 0) hx hb dX10_spoilExposed_0 (by decide +kernel) ?_
  refine lv_istore_n (lv' := [(1, .int 0), (0, .ref (o + 214))]) hx hb dX10_spoilExposed_1 rfl hl (dk_dq rfl) rfl (fun ls hl => ?_)
  have L_157 : ∀ (n : Nat) (x_155 : Int32), (0 ≤ (x_155).toInt ∧ (x_155).toInt ≤ 72) → ((73 - (x_155).toInt).toNat < n) → ∀ S_156 : dg_S, CX o S_156 → dg_sm shX [(37, 0), (37, 1), (37, 2), (37, 3), (37, 7)] [4, 38] S S_156 → dg_FG S S_156 → Z3X o S_156 → (F_w_spoilExposed o S = lp (F_w_spoilExposed_B1 S o) S n (x_155, S_156)) → ∀ (H : Heap) (locs : List Loc), va_P D vwCl (dg_w g shX o rfX S_156) H → va_S A s.heap H locs → ∀ ls : Array Slot, lv_has ls 5 [(1, .int x_155), (0, .ref (o + 214))] → W p l e ({ frames := 4, cells := 0, slots := 0, locals := 103 } : Room) s m args below meth c H locs 0 0 (MQ below (va_Qv (fun S' => CX o S' ∧ dg_sm shX [(37, 0), (37, 1), (37, 2), (37, 3), (37, 7)] [4, 38] S S' ∧ Z3X o S' ∧ dg_FG S S' ∧ (S' = F_w_spoilExposed o S) ∧ True) (dg_B g D shX o rfX) A) args s 0 0 A) (F0 m 2 ls []) := by
    as_aux_lemma =>
      intro n
      induction n with
      | zero =>
        intro x_155 b_x_155 hmu S_156 I_156 M_156 G_156 Z3_156 hF_1 H locs hP hS ls hl
        omega
      | succ n ih =>
        as_aux_lemma =>
          intro x_155 b_x_155 hmu S_156 I_156 M_156 G_156 Z3_156 hF_1 H locs hP hS ls hl
          refine lv_iload_n hx hb dX10_spoilExposed_2 rfl (lv_at hl 0 rfl) ?_
          refine lv_aload_n hx hb dX10_spoilExposed_3 rfl (lv_at hl 1 rfl) ?_
          obtain ⟨x_158, f_x_158, b_x_158⟩ := dg_I.int (i := 214) (k := 4) (lo := 0) (hi := 72) I sX_214 (by decide +kernel)
          refine dg_get (C := RX10) (T := TX10) (N := 13) hx hb hts (fun w h => bw_mem (wU_X10 w h)) hown K hP sX_214 rfl 4 (dk_dq rfl) (hts _ (bw_mem wB_581)) (fun _ h9 => h9) (v := .int x_158) ((M_156.1 214 4 _ sX_214 (dk_dq rfl)).trans f_x_158) dX10_spoilExposed_4 ?_
          refine lv_icmp_ge (tgt := 119) hx hb dX10_spoilExposed_7 (dk_dq rfl) (fun c_159 => ?_) (fun c_159 => ?_)
          · have jc_159 := dk_gec (k := (x_158).toInt) rfl c_159
            refine W.widen (k := 0) (n := 0) (Nat.le_of_ble_eq_true rfl) (Nat.le_of_ble_eq_true rfl) ?_
            exact dg_vret hx hb hr hlocks hP hS ⟨I_156, M_156, Z3_156, G_156, (Eq.symm (lp_r hF_1 (F_w_spoilExposed_p0 (zI_eq f_x_158) c_159))), trivial⟩ dX10_spoilExposed_119
          · as_aux_lemma =>
              have jc_159 := dk_ngec (k := (x_158).toInt) rfl c_159
              refine lv_aload_n hx hb dX10_spoilExposed_10 rfl (lv_at hl 1 rfl) ?_
              refine dg_get (C := RX10) (T := TX10) (N := 13) hx hb hts (fun w h => bw_mem (wU_X10 w h)) hown K hP sX_214 rfl 3 (dk_dq rfl) (hts _ (bw_mem wB_580)) (fun _ h9 => h9) (v := .ref (o + 219)) (show S_156.1 214 3 = .ref (o + 219) from dg_I.rel (d := 5) I_156 sX_214 (by decide +kernel)) dX10_spoilExposed_11 ?_
              refine lv_iload_n hx hb dX10_spoilExposed_14 rfl (lv_at hl 0 rfl) ?_
              have hin_160 : vp_in x_155 72 := (dk_inv2 (by omega))
              refine dg_iald hx hb K hP sX_219 hin_160 dX10_spoilExposed_15 (fun x_161 ex_161 => ?_)
              have b_x_161 := dk_all_at (dg_I.row (lo := 0) (hi := 63) I_156 sX_219 (by decide +kernel)) hin_160 ex_161
              have z_x_161 : 8 ≤ (x_161).toInt := by rw [ex_161]; exact (Z2X.keep Z2 M_156 (dk_dq rfl) (dk_dq rfl)) _ ((M_156.1 214 4 _ sX_214 (dk_dq rfl)).trans f_x_158) _ (dk_inT hin_160).2 (by have h9 := (dk_inT hin_160).1; omega)
              refine lv_istore_n (lv' := [(2, .int x_161), (1, .int x_155), (0, .ref (o + 214))]) hx hb dX10_spoilExposed_16 rfl hl (dk_dq rfl) rfl (fun ls hl => ?_)
              refine lv_aload_n hx hb dX10_spoilExposed_17 rfl (lv_at hl 2 rfl) ?_
              obtain ⟨d_162, hk_d_162, f_d_162⟩ := dg_I.one (i := 214) (k := 7) (d := 1) I sX_214 (by decide +kernel)
              have hk_d_162 : pX d_162 := hk_d_162
              refine dg_get (C := RX10) (T := TX10) (N := 13) hx hb hts (fun w h => bw_mem (wU_X10 w h)) hown K hP sX_214 rfl 7 (dk_dq rfl) (hts _ (bw_mem wB_578)) (fun _ h9 => h9) (v := .ref (o + d_162)) ((M_156.1 214 7 _ sX_214 (dk_dq rfl)).trans f_d_162) dX10_spoilExposed_18 ?_
              refine dg_get (C := RX5) (T := TX5) (N := 8) hx hb hts (fun w h => bw_mem (wU_X5 w h)) hown K hP (pX_0 d_162 hk_d_162) rfl 2 (dk_dq rfl) (hts _ (bw_mem wB_588)) (fun _ h9 => h9) (v := .ref (o + (d_162 + 1))) (show S_156.1 d_162 2 = .ref (o + (d_162 + 1)) from dg_I.rel (d := 1) I_156 (pX_0 d_162 hk_d_162) (by decide +kernel)) dX10_spoilExposed_21 ?_
              refine lv_iload_n hx hb dX10_spoilExposed_24 rfl (lv_at hl 0 rfl) ?_
              have hin_163 : vp_in x_161 72 := (dk_inv2 (by omega))
              refine dg_iald hx hb K hP (pX_1 d_162 hk_d_162) hin_163 dX10_spoilExposed_25 (fun x_164 ex_164 => ?_)
              have b_x_164 := dg_cel_at (dg_I.cel (lo := 0) (hi := 255) I_156 (pX_1 d_162 hk_d_162) (by decide +kernel) (G_156 d_162 hk_d_162 (Z3 d_162 hk_d_162 f_d_162))) hin_163 ex_164
              refine lv_istore_n (lv' := [(3, .int x_164), (2, .int x_161), (1, .int x_155), (0, .ref (o + 214))]) hx hb dX10_spoilExposed_26 rfl hl (dk_dq rfl) rfl (fun ls hl => ?_)
              refine lv_iload_n hx hb dX10_spoilExposed_27 rfl (lv_at hl 0 rfl) ?_
              have J_188 : ∀ S_187 : dg_S, CX o S_187 → dg_sm shX [(37, 0), (37, 1), (37, 2), (37, 3), (37, 7)] [4, 38] S S_187 → dg_FG S S_187 → ∀ rw_187_0 : Int32, S_187.2.1 (d_162 + 1) (x_161 : Int32).toNatClampNeg = rw_187_0 → (0 ≤ (rw_187_0).toInt ∧ (rw_187_0).toInt ≤ 255) → Z3X o S_187 → dg_fil S_187 d_162 → ((F_w_spoilExposed_B1 S o) (x_155, S_156) = F_w_spoilExposed_J2 x_155 S_187) → ∀ (H : Heap) (locs : List Loc), va_P D vwCl (dg_w g shX o rfX S_187) H → va_S A s.heap H locs → ∀ ls : Array Slot, lv_has ls 5 [(3, .int x_164), (2, .int x_161), (1, .int x_155), (0, .ref (o + 214))] → W p l e ({ frames := 4, cells := 0, slots := 0, locals := 103 } : Room) s m args below meth c H locs 0 0 (MQ below (va_Qv (fun S' => CX o S' ∧ dg_sm shX [(37, 0), (37, 1), (37, 2), (37, 3), (37, 7)] [4, 38] S S' ∧ Z3X o S' ∧ dg_FG S S' ∧ (S' = F_w_spoilExposed o S) ∧ True) (dg_B g D shX o rfX) A) args s 0 0 A) (F0 m 113 ls []) := by
                intro S_187 I_187 M_187 G_187 rw_187_0 frw_187_0 brw_187_0 Z3_187 fl_187_0 hF_2 H locs hP hS ls hl
                obtain ⟨x_189, ex_189⟩ : ∃ z, z = x_155 + 1 := ⟨_, rfl⟩
                have jx_189 : (x_189).toInt = (x_155).toInt + 1 := by rw [ex_189]; exact dk_addT2 rfl (by decide +kernel) (by omega)
                refine lv_iinc (v := x_189) (lv' := [(1, .int x_189), (3, .int x_164), (2, .int x_161), (0, .ref (o + 214))]) hx hb dX10_spoilExposed_113 hl (k := 2) rfl (by rw [ex_189]; rfl) (dk_dq rfl) rfl (fun ls hl => ?_)
                refine lv_goto (tgt := 2) hx hb dX10_spoilExposed_116 (dk_dq rfl) ?_
                exact ih x_189 (by omega) (by first | exact mu_lt hmu (by omega) (by omega) | omega) S_187 I_187 M_187 G_187 Z3_187 (lp_l hF_1 (Eq.trans hF_2 (F_w_spoilExposed_p1 ex_189))) _ _ hP hS _ (lv_sub hl [0, 3] rfl)
              refine lv_if_le (tgt := 113) hx hb dX10_spoilExposed_28 (dk_dq rfl) (fun c_190 => ?_) (fun c_190 => ?_)
              · have jc_190 := dk_lec (k := 0) (by decide +kernel) c_190
                exact J_188   S_156 I_156 M_156 G_156 x_164 ex_164.symm (by omega) Z3_156 (G_156 d_162 hk_d_162 (Z3 d_162 hk_d_162 f_d_162)) (F_w_spoilExposed_p2 (zI_eq f_x_158) c_159 (Eq.symm ex_161.symm) (zR_eq f_d_162) (Eq.symm ex_164.symm) c_190) _ _ hP hS _ (lv_sub hl [0, 1, 2, 3] rfl)
              · as_aux_lemma =>
                  have jc_190 := dk_nlec (k := 0) (by decide +kernel) c_190
                  refine lv_aload_n hx hb dX10_spoilExposed_31 rfl (lv_at hl 3 rfl) ?_
                  refine dg_get (C := RX10) (T := TX10) (N := 13) hx hb hts (fun w h => bw_mem (wU_X10 w h)) hown K hP sX_214 rfl 0 (dk_dq rfl) (hts _ (bw_mem wB_607)) (fun _ h9 => h9) (v := .ref (o + 215)) (show S_156.1 214 0 = .ref (o + 215) from dg_I.rel (d := 1) I_156 sX_214 (by decide +kernel)) dX10_spoilExposed_32 ?_
                  refine lv_iload_n hx hb dX10_spoilExposed_35 rfl (lv_at hl 0 rfl) ?_
                  refine dg_put (ci := 7) (v := .int x_164) (ty := tyX7 0) (C := RX7) (T := TX7) (N := 8) hx hb hts (fun w h => bw_mem (wU_X7 w h)) tyX7 tyX7_ok nmX7 hown K hP hS hA1 sX_215 rfl 0 (dk_dq rfl) (hts _ (bw_mem wB_608)) (fun _ h9 => h9) rfl (by decide +kernel) rfl rfl dX10_spoilExposed_36 (fun S_191 e_191 H locs hP hS => ?_)
                  have I_191 := dg_I.uFi (lo := (-2147483648)) (hi := 2147483647) I_156 e_191 sX_215 (by decide +kernel) (show (-2147483648) ≤ (x_164).toInt ∧ (x_164).toInt ≤ 2147483647 from (dk_full _))
                  have M_191 := dg_sm.uF M_156 e_191 sX_215 (dk_dq rfl)
                  refine lv_aload_n hx hb dX10_spoilExposed_39 rfl (lv_at hl 3 rfl) ?_
                  refine dg_get (C := RX10) (T := TX10) (N := 13) hx hb hts (fun w h => bw_mem (wU_X10 w h)) hown K hP sX_214 rfl 0 (dk_dq rfl) (hts _ (bw_mem wB_607)) (fun _ h9 => h9) (v := .ref (o + 215)) (show S_191.1 214 0 = .ref (o + 215) from dg_I.rel (d := 1) I_191 sX_214 (by decide +kernel)) dX10_spoilExposed_40 ?_
                  refine lv_iload_n hx hb dX10_spoilExposed_43 rfl (lv_at hl 1 rfl) ?_
                  refine dg_calli hS hA1 hA (va_runSN (As := [.int x_161]) (rest := [.ref (o + 215)]) F (c_rowOf l g D o S_191 x_161 I_191 H.size) ⟨va_cnB 1 hts (bw_in wB_609) rfl rfl rfl (K.2.1 _ (List.mem_of_getElem? (i := 8) rfl)) (hts _ (bw_mem wB_610)) (by decide +kernel) ⟨Nat.le_of_ble_eq_true rfl, Nat.le_of_ble_eq_true rfl⟩, (hts _ (bw_mem wB_611)), trivial⟩ (dg_preS K ST hP hS hA1 hA) rfl rfl hl.1 rfl (lv_room (Nat.le_of_ble_eq_true rfl)) dX10_spoilExposed_44 ⟨Nat.le_of_ble_eq_true rfl, Nat.le_of_ble_eq_true rfl⟩) (fun x_192 S_193 hw_193 H locs hP hS => ?_)
                  rw [hw_193.1] at hP
                  obtain ⟨hq_193, w_193_0, -⟩ := hw_193
                  refine dg_put (ci := 7) (v := .int x_192) (ty := tyX7 1) (C := RX7) (T := TX7) (N := 8) hx hb hts (fun w h => bw_mem (wU_X7 w h)) tyX7 tyX7_ok nmX7 hown K hP hS hA1 sX_215 rfl 1 (dk_dq rfl) (hts _ (bw_mem wB_612)) (fun _ h9 => h9) rfl (by decide +kernel) rfl rfl dX10_spoilExposed_47 (fun S_194 e_194 H locs hP hS => ?_)
                  have I_194 := dg_I.uFi (lo := (-2147483648)) (hi := 2147483647) I_191 e_194 sX_215 (by decide +kernel) (show (-2147483648) ≤ (x_192).toInt ∧ (x_192).toInt ≤ 2147483647 from (dk_full _))
                  have M_194 := dg_sm.uF M_191 e_194 sX_215 (dk_dq rfl)
                  refine lv_aload_n hx hb dX10_spoilExposed_50 rfl (lv_at hl 3 rfl) ?_
                  refine dg_get (C := RX10) (T := TX10) (N := 13) hx hb hts (fun w h => bw_mem (wU_X10 w h)) hown K hP sX_214 rfl 0 (dk_dq rfl) (hts _ (bw_mem wB_607)) (fun _ h9 => h9) (v := .ref (o + 215)) (show S_194.1 214 0 = .ref (o + 215) from dg_I.rel (d := 1) I_194 sX_214 (by decide +kernel)) dX10_spoilExposed_51 ?_
                  refine lv_aload_n hx hb dX10_spoilExposed_54 rfl (lv_at hl 3 rfl) ?_
                  refine dg_get (C := RX10) (T := TX10) (N := 13) hx hb hts (fun w h => bw_mem (wU_X10 w h)) hown K hP sX_214 rfl 7 (dk_dq rfl) (hts _ (bw_mem wB_578)) (fun _ h9 => h9) (v := .ref (o + d_162)) (((dg_uF_ne e_194 (fun z => absurd z.2 (dk_dq rfl))).trans ((dg_uF_ne e_191 (fun z => absurd z.2 (dk_dq rfl))).trans (M_156.1 214 7 _ sX_214 (dk_dq rfl)))).trans f_d_162) dX10_spoilExposed_55 ?_
                  obtain ⟨x_195, f_x_195, b_x_195⟩ := dg_I.int (i := d_162) (k := 0) (lo := 0) (hi := 65535) I (pX_0 d_162 hk_d_162) (by decide +kernel)
                  refine dg_get (C := RX5) (T := TX5) (N := 8) hx hb hts (fun w h => bw_mem (wU_X5 w h)) hown K hP (pX_0 d_162 hk_d_162) rfl 0 (dk_dq rfl) (hts _ (bw_mem wB_613)) (fun _ h9 => h9) (v := .int x_195) (((dg_uF_ne e_194 (fun z => absurd z.2 (dk_dq rfl))).trans ((dg_uF_ne e_191 (fun z => by have h9 := (pX_0 d_162 hk_d_162); rw [z.1, sX_215] at h9; cases h9)).trans (M_156.1 d_162 0 _ (pX_0 d_162 hk_d_162) (dk_dq rfl)))).trans f_x_195) dX10_spoilExposed_58 ?_
                  refine dg_put (ci := 7) (v := .int x_195) (ty := tyX7 2) (C := RX7) (T := TX7) (N := 8) hx hb hts (fun w h => bw_mem (wU_X7 w h)) tyX7 tyX7_ok nmX7 hown K hP hS hA1 sX_215 rfl 2 (dk_dq rfl) (hts _ (bw_mem wB_614)) (fun _ h9 => h9) rfl (by decide +kernel) rfl rfl dX10_spoilExposed_61 (fun S_196 e_196 H locs hP hS => ?_)
                  have I_196 := dg_I.uFi (lo := (-2147483648)) (hi := 2147483647) I_194 e_196 sX_215 (by decide +kernel) (show (-2147483648) ≤ (x_195).toInt ∧ (x_195).toInt ≤ 2147483647 from (dk_full _))
                  have M_196 := dg_sm.uF M_194 e_196 sX_215 (dk_dq rfl)
                  refine lv_aload_n hx hb dX10_spoilExposed_64 rfl (lv_at hl 3 rfl) ?_
                  refine dg_get (C := RX10) (T := TX10) (N := 13) hx hb hts (fun w h => bw_mem (wU_X10 w h)) hown K hP sX_214 rfl 0 (dk_dq rfl) (hts _ (bw_mem wB_607)) (fun _ h9 => h9) (v := .ref (o + 215)) (show S_196.1 214 0 = .ref (o + 215) from dg_I.rel (d := 1) I_196 sX_214 (by decide +kernel)) dX10_spoilExposed_65 ?_
                  refine lv_aload_n hx hb dX10_spoilExposed_68 rfl (lv_at hl 3 rfl) ?_
                  refine dg_get (C := RX10) (T := TX10) (N := 13) hx hb hts (fun w h => bw_mem (wU_X10 w h)) hown K hP sX_214 rfl 2 (dk_dq rfl) (hts _ (bw_mem wB_576)) (fun _ h9 => h9) (v := .ref (o + 218)) (show S_196.1 214 2 = .ref (o + 218) from dg_I.rel (d := 4) I_196 sX_214 (by decide +kernel)) dX10_spoilExposed_69 ?_
                  refine lv_iload_n hx hb dX10_spoilExposed_72 rfl (lv_at hl 1 rfl) ?_
                  have hin_197 : vp_in x_161 72 := (dk_inv2 (by omega))
                  refine dg_iald hx hb K hP sX_218 hin_197 dX10_spoilExposed_73 (fun x_198 ex_198 => ?_)
                  refine dg_put (ci := 7) (v := .int x_198) (ty := tyX7 3) (C := RX7) (T := TX7) (N := 8) hx hb hts (fun w h => bw_mem (wU_X7 w h)) tyX7 tyX7_ok nmX7 hown K hP hS hA1 sX_215 rfl 3 (dk_dq rfl) (hts _ (bw_mem wB_645)) (fun _ h9 => h9) rfl (by decide +kernel) rfl rfl dX10_spoilExposed_74 (fun S_199 e_199 H locs hP hS => ?_)
                  have I_199 := dg_I.uFi (lo := (-2147483648)) (hi := 2147483647) I_196 e_199 sX_215 (by decide +kernel) (show (-2147483648) ≤ (x_198).toInt ∧ (x_198).toInt ≤ 2147483647 from (dk_full _))
                  have M_199 := dg_sm.uF M_196 e_199 sX_215 (dk_dq rfl)
                  have hF_3 : (F_w_spoilExposed_B1 S o) (x_155, S_156) = F_w_spoilExposed_J3 o S S_199 x_164 d_162 x_161 x_155 := (F_w_spoilExposed_p4 (zI_eq f_x_158) c_159 (Eq.symm ex_161.symm) (zR_eq f_d_162) (Eq.symm ex_164.symm) c_190 e_191 w_193_0 e_194 (zI_eq f_x_195) e_196 (Eq.symm ex_198.symm) e_199)
                  refine lv_iconst (v := 0) hx hb dX10_spoilExposed_77 (by decide +kernel) ?_
                  refine lv_aload_n hx hb dX10_spoilExposed_78 rfl (lv_at hl 3 rfl) ?_
                  refine dg_get (C := RX10) (T := TX10) (N := 13) hx hb hts (fun w h => bw_mem (wU_X10 w h)) hown K hP sX_214 rfl 0 (dk_dq rfl) (hts _ (bw_mem wB_607)) (fun _ h9 => h9) (v := .ref (o + 215)) (show S_199.1 214 0 = .ref (o + 215) from dg_I.rel (d := 1) I_199 sX_214 (by decide +kernel)) dX10_spoilExposed_79 ?_
                  refine lv_aload_n hx hb dX10_spoilExposed_82 rfl (lv_at hl 3 rfl) ?_
                  obtain ⟨d_200, hk_d_200, f_d_200⟩ := dg_I.one (i := 214) (k := 6) (d := 0) I sX_214 (by decide +kernel)
                  have hk_d_200 : rX d_200 := hk_d_200
                  as_aux_lemma =>
                    refine dg_get (C := RX10) (T := TX10) (N := 13) hx hb hts (fun w h => bw_mem (wU_X10 w h)) hown K hP sX_214 rfl 6 (dk_dq rfl) (hts _ (bw_mem wB_586)) (fun _ h9 => h9) (v := .ref (o + d_200)) (((dg_uF_ne e_199 (fun z => absurd z.2 (dk_dq rfl))).trans ((dg_uF_ne e_196 (fun z => absurd z.2 (dk_dq rfl))).trans ((dg_uF_ne e_194 (fun z => absurd z.2 (dk_dq rfl))).trans ((dg_uF_ne e_191 (fun z => absurd z.2 (dk_dq rfl))).trans (M_156.1 214 6 _ sX_214 (dk_dq rfl)))))).trans f_d_200) dX10_spoilExposed_83 ?_
                    refine lv_iconst (v := 0) hx hb dX10_spoilExposed_86 (by decide +kernel) ?_
                    refine lv_iconst (v := 1) hx hb dX10_spoilExposed_87 (by decide +kernel) ?_
                    have hz_201 : (0 : Int32).toInt = 0 := by decide +kernel
                    refine dg_calli hS hA1 hA (va_runV (As := [.ref (o + d_200), .int 0, .int 1]) (rest := [.int 0]) F (c_r_valueOf l g D o S_199 d_200 hk_d_200 0 (by decide +kernel) 1 I_199 H.size) (cwV 3 hts (bw_V wB_627 wB_628 wB_629 wB_553 wB_626) rfl rfl rfl (by decide +kernel) ⟨Nat.le_of_ble_eq_true rfl, Nat.le_of_ble_eq_true rfl⟩) (dg_preV sX_215 rfl K ST hP hS hA1 hA) rfl rfl hl.1 rfl (lv_room (Nat.le_of_ble_eq_true rfl)) dX10_spoilExposed_88 ⟨Nat.le_of_ble_eq_true rfl, Nat.le_of_ble_eq_true rfl⟩) (fun x_202 S_203 hw_203 H locs hP hS => ?_)
                    obtain ⟨I_203, m_203, w_203_0, -⟩ := hw_203
                    have M_203 := dg_sm.tr M_199 m_203 (dk_dq rfl) (dk_dq rfl)
                    refine va_mmax hx hb (by rw [hml]; exact hl.1.symm) hown (hts _ (bw_mem wB_637)) (hts _ (bw_mem wB_638)) (hts _ (bw_mem wB_505)) (hts _ (bw_mem wB_639)) (Nat.le_of_ble_eq_true rfl) (Nat.le_of_ble_eq_true rfl) (Nat.le_of_ble_eq_true rfl) (Nat.le_of_ble_eq_true rfl) dX10_spoilExposed_91 ?_
                    refine lv_topi (fun x_204 ex_204 => ?_)
                    have jx_204 := dk_maxT (a := 0) (b := (x_202).toInt) (by decide +kernel) rfl ex_204
                    refine lv_istore (lv' := [(4, .int x_204), (3, .int x_164), (2, .int x_161), (1, .int x_155), (0, .ref (o + 214))]) hx hb dX10_spoilExposed_94 hl (dk_dq rfl) rfl (fun ls hl => ?_)
                    refine lv_aload_n hx hb dX10_spoilExposed_96 rfl (lv_at hl 4 rfl) ?_
                    refine dg_get (C := RX10) (T := TX10) (N := 13) hx hb hts (fun w h => bw_mem (wU_X10 w h)) hown K hP sX_214 rfl 7 (dk_dq rfl) (hts _ (bw_mem wB_578)) (fun _ h9 => h9) (v := .ref (o + d_162)) (((m_203.1 214 7 _ sX_214 (dk_dq rfl)).trans ((dg_uF_ne e_199 (fun z => absurd z.2 (dk_dq rfl))).trans ((dg_uF_ne e_196 (fun z => absurd z.2 (dk_dq rfl))).trans ((dg_uF_ne e_194 (fun z => absurd z.2 (dk_dq rfl))).trans ((dg_uF_ne e_191 (fun z => absurd z.2 (dk_dq rfl))).trans (M_156.1 214 7 _ sX_214 (dk_dq rfl))))))).trans f_d_162) dX10_spoilExposed_97 ?_
                    refine dg_get (C := RX5) (T := TX5) (N := 8) hx hb hts (fun w h => bw_mem (wU_X5 w h)) hown K hP (pX_0 d_162 hk_d_162) rfl 2 (dk_dq rfl) (hts _ (bw_mem wB_588)) (fun _ h9 => h9) (v := .ref (o + (d_162 + 1))) (show S_203.1 d_162 2 = .ref (o + (d_162 + 1)) from dg_I.rel (d := 1) I_203 (pX_0 d_162 hk_d_162) (by decide +kernel)) dX10_spoilExposed_100 ?_
                    refine lv_iload_n hx hb dX10_spoilExposed_103 rfl (lv_at hl 2 rfl) ?_
                    refine lv_iconst (v := 0) hx hb dX10_spoilExposed_104 (by decide +kernel) ?_
                    refine lv_iload_n hx hb dX10_spoilExposed_105 rfl (lv_at hl 1 rfl) ?_
                    refine lv_iload hx hb dX10_spoilExposed_106 (lv_at hl 0 rfl) ?_
                    have hf_204 := dk_full x_204
                    refine lv_isub hx hb dX10_spoilExposed_108 ?_
                    refine lv_topi (fun x_206 ex_206 => ?_)
                    have jx_206 : (x_206).toInt = (x_164).toInt - (x_204).toInt := by rw [ex_206]; exact dk_subT2 rfl rfl (by omega)
                    refine va_mmax hx hb (by rw [hml]; exact hl.1.symm) hown (hts _ (bw_mem wB_637)) (hts _ (bw_mem wB_638)) (hts _ (bw_mem wB_505)) (hts _ (bw_mem wB_639)) (Nat.le_of_ble_eq_true rfl) (Nat.le_of_ble_eq_true rfl) (Nat.le_of_ble_eq_true rfl) (Nat.le_of_ble_eq_true rfl) dX10_spoilExposed_109 ?_
                    refine lv_topi (fun x_207 ex_207 => ?_)
                    have jx_207 := dk_maxT (a := 0) (b := (x_206).toInt) (by decide +kernel) rfl ex_207
                    have hin_208 : vp_in x_161 72 := (dk_inv2 (by omega))
                    refine dg_iast hx hb K hP hS hA1 (pX_1 d_162 hk_d_162) hin_208 dX10_spoilExposed_112 (fun S_209 e_209 H locs hP hS => ?_)
                    have I_209 := dg_I.ufc (lo := 0) (hi := 255) I_203 e_209 (pX_1 d_162 hk_d_162) (by decide +kernel) hin_208 (show dg_Pcel _ _ from by unfold dg_Pcel; omega) (by omega)
                    have gs_209 := dg_FG.st e_209 (by omega)
                    have M_209 := dg_sm.uf M_203 e_209 (pX_1 d_162 hk_d_162) (dk_dq rfl)
                    exact J_188   S_209 I_209 M_209 (dg_FG.tr (dg_FG.tr (dg_FG.tr (dg_FG.tr (dg_FG.tr (dg_FG.tr G_156 (dg_FG.uF e_191)) (dg_FG.uF e_194)) (dg_FG.uF e_196)) (dg_FG.uF e_199)) (dg_FG.sm m_203 (dk_dq rfl))) gs_209) x_207 ((congrFun (dg_uf_at e_209) _).trans (dg_upd_at rfl)) (by omega) (Z3X.keep (Z3X.keep (Z3X.keep (Z3X.keep (Z3X.keep (Z3X.keep Z3_156 (dg_sm.uF (WF := [(37, 0)]) (WA := []) dg_sm.rf e_191 sX_215 (dk_dq rfl)) (dg_FG.uF e_191) (dk_dq rfl)) (dg_sm.uF (WF := [(37, 1)]) (WA := []) dg_sm.rf e_194 sX_215 (dk_dq rfl)) (dg_FG.uF e_194) (dk_dq rfl)) (dg_sm.uF (WF := [(37, 2)]) (WA := []) dg_sm.rf e_196 sX_215 (dk_dq rfl)) (dg_FG.uF e_196) (dk_dq rfl)) (dg_sm.uF (WF := [(37, 3)]) (WA := []) dg_sm.rf e_199 sX_215 (dk_dq rfl)) (dg_FG.uF e_199) (dk_dq rfl)) m_203 (dg_FG.sm m_203 (dk_dq rfl)) (dk_dq rfl)) (dg_sm.uf (WF := []) (WA := [4]) dg_sm.rf e_209 (pX_1 d_162 hk_d_162) (dk_dq rfl)) gs_209 (dk_dq rfl)) ((dg_FG.tr (dg_FG.tr (dg_FG.tr (dg_FG.tr (dg_FG.tr (dg_FG.tr G_156 (dg_FG.uF e_191)) (dg_FG.uF e_194)) (dg_FG.uF e_196)) (dg_FG.uF e_199)) (dg_FG.sm m_203 (dk_dq rfl))) gs_209) d_162 hk_d_162 (Z3 d_162 hk_d_162 f_d_162)) (Eq.trans hF_3 (F_w_spoilExposed_p3 (zR_eq f_d_200) w_203_0.1 w_203_0.2 ex_204 ex_206 ex_207 e_209)) _ _ hP hS _ (lv_sub hl [1, 2, 3, 4] rfl)
  have hz_210 : (0 : Int32).toInt = 0 := by decide +kernel
  have hz_211 : (0 : Int32).toInt = 0 := by decide +kernel
  exact L_157 ((73 - ((0 : Int32)).toInt).toNat + 1) 0 (by decide +kernel) (by first | exact mu_lt hmu (by omega) (by omega) | omega) S I M_0 dg_FG.rf Z3 (F_w_spoilExposed_p5) _ _ hP hS _ (lv_sub hl [0, 1] rfl)
