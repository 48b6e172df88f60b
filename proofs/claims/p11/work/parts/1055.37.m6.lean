/-! 37.m6.lean.txt -/
theorem dX12_keeps_0 : decode cX12_keeps 0 = .ok (.aload_n 0, 1) := dk_o42 (by decide +kernel)
theorem dX12_keeps_1 : decode cX12_keeps 1 = .ok (.getfield 198, 3) := dk_o180 (by decide +kernel)
theorem dX12_keeps_4 : decode cX12_keeps 4 = .ok (.bipush 20, 2) := dk_o16 (by decide +kernel)
theorem dX12_keeps_6 : decode cX12_keeps 6 = .ok (.if_icmp .ne 26, 3) := dk_o160 (by decide +kernel)
theorem dX12_keeps_9 : decode cX12_keeps 9 = .ok (.aload_n 0, 1) := dk_o42 (by decide +kernel)
theorem dX12_keeps_10 : decode cX12_keeps 10 = .ok (.aload_n 0, 1) := dk_o42 (by decide +kernel)
theorem dX12_keeps_11 : decode cX12_keeps 11 = .ok (.getfield 195, 3) := dk_o180 (by decide +kernel)
theorem dX12_keeps_14 : decode cX12_keeps 14 = .ok (.iconst 1, 1) := dk_o4 (by decide +kernel)
theorem dX12_keeps_15 : decode cX12_keeps 15 = .ok (.iadd, 1) := dk_o96 (by decide +kernel)
theorem dX12_keeps_16 : decode cX12_keeps 16 = .ok (.bipush 20, 2) := dk_o16 (by decide +kernel)
theorem dX12_keeps_18 : decode cX12_keeps 18 = .ok (.irem, 1) := dk_o112 (by decide +kernel)
theorem dX12_keeps_19 : decode cX12_keeps 19 = .ok (.putfield 195, 3) := dk_o181 (by decide +kernel)
theorem dX12_keeps_22 : decode cX12_keeps 22 = .ok (.aload_n 0, 1) := dk_o42 (by decide +kernel)
theorem dX12_keeps_23 : decode cX12_keeps 23 = .ok (.dup, 1) := dk_o89 (by decide +kernel)
theorem dX12_keeps_24 : decode cX12_keeps 24 = .ok (.getfield 198, 3) := dk_o180 (by decide +kernel)
theorem dX12_keeps_27 : decode cX12_keeps 27 = .ok (.iconst 1, 1) := dk_o4 (by decide +kernel)
theorem dX12_keeps_28 : decode cX12_keeps 28 = .ok (.isub, 1) := dk_o100 (by decide +kernel)
theorem dX12_keeps_29 : decode cX12_keeps 29 = .ok (.putfield 198, 3) := dk_o181 (by decide +kernel)
theorem dX12_keeps_32 : decode cX12_keeps 32 = .ok (.aload_n 0, 1) := dk_o42 (by decide +kernel)
theorem dX12_keeps_33 : decode cX12_keeps 33 = .ok (.aload_n 0, 1) := dk_o42 (by decide +kernel)
theorem dX12_keeps_34 : decode cX12_keeps 34 = .ok (.aload_n 0, 1) := dk_o42 (by decide +kernel)
theorem dX12_keeps_35 : decode cX12_keeps 35 = .ok (.getfield 198, 3) := dk_o180 (by decide +kernel)
theorem dX12_keeps_38 : decode cX12_keeps 38 = .ok (.invokevirtual 430, 3) := dk_o182 (by decide +kernel)
theorem dX12_keeps_41 : decode cX12_keeps 41 = .ok (.iconst 0, 1) := dk_o3 (by decide +kernel)
theorem dX12_keeps_42 : decode cX12_keeps 42 = .ok (.invokevirtual 433, 3) := dk_o182 (by decide +kernel)
theorem dX12_keeps_45 : decode cX12_keeps 45 = .ok (.aload_n 0, 1) := dk_o42 (by decide +kernel)
theorem dX12_keeps_46 : decode cX12_keeps 46 = .ok (.dup, 1) := dk_o89 (by decide +kernel)
theorem dX12_keeps_47 : decode cX12_keeps 47 = .ok (.getfield 198, 3) := dk_o180 (by decide +kernel)
theorem dX12_keeps_50 : decode cX12_keeps 50 = .ok (.iconst 1, 1) := dk_o4 (by decide +kernel)
theorem dX12_keeps_51 : decode cX12_keeps 51 = .ok (.iadd, 1) := dk_o96 (by decide +kernel)
theorem dX12_keeps_52 : decode cX12_keeps 52 = .ok (.putfield 198, 3) := dk_o181 (by decide +kernel)
theorem dX12_keeps_55 : decode cX12_keeps 55 = .ok (.return_, 1) := dk_o177 (by decide +kernel)
theorem dX12_undo_0 : decode cX12_undo 0 = .ok (.aload_n 0, 1) := dk_o42 (by decide +kernel)
theorem dX12_undo_1 : decode cX12_undo 1 = .ok (.getfield 198, 3) := dk_o180 (by decide +kernel)
theorem dX12_undo_4 : decode cX12_undo 4 = .ok (.ifCond .ne 17, 3) := dk_o154 (by decide +kernel)
theorem dX12_undo_7 : decode cX12_undo 7 = .ok (.aload_n 0, 1) := dk_o42 (by decide +kernel)
theorem dX12_undo_8 : decode cX12_undo 8 = .ok (.iconst 4, 1) := dk_o7 (by decide +kernel)
theorem dX12_undo_9 : decode cX12_undo 9 = .ok (.invokevirtual 247, 3) := dk_o182 (by decide +kernel)
theorem dX12_undo_12 : decode cX12_undo 12 = .ok (.ifCond .lt 7, 3) := dk_o155 (by decide +kernel)
theorem dX12_undo_19 : decode cX12_undo 19 = .ok (.iconst 0, 1) := dk_o3 (by decide +kernel)
theorem dX12_undo_20 : decode cX12_undo 20 = .ok (.ireturn, 1) := dk_o172 (by decide +kernel)
theorem dX12_undo_21 : decode cX12_undo 21 = .ok (.aload_n 0, 1) := dk_o42 (by decide +kernel)
theorem dX12_undo_22 : decode cX12_undo 22 = .ok (.dup, 1) := dk_o89 (by decide +kernel)
theorem dX12_undo_23 : decode cX12_undo 23 = .ok (.getfield 198, 3) := dk_o180 (by decide +kernel)
theorem dX12_undo_26 : decode cX12_undo 26 = .ok (.iconst 1, 1) := dk_o4 (by decide +kernel)
theorem dX12_undo_27 : decode cX12_undo 27 = .ok (.isub, 1) := dk_o100 (by decide +kernel)
theorem dX12_undo_28 : decode cX12_undo 28 = .ok (.putfield 198, 3) := dk_o181 (by decide +kernel)
theorem dX12_undo_31 : decode cX12_undo 31 = .ok (.aload_n 0, 1) := dk_o42 (by decide +kernel)
theorem dX12_undo_32 : decode cX12_undo 32 = .ok (.iconst 0, 1) := dk_o3 (by decide +kernel)
theorem dX12_undo_33 : decode cX12_undo 33 = .ok (.aload_n 0, 1) := dk_o42 (by decide +kernel)
theorem dX12_undo_34 : decode cX12_undo 34 = .ok (.aload_n 0, 1) := dk_o42 (by decide +kernel)
theorem dX12_undo_35 : decode cX12_undo 35 = .ok (.getfield 198, 3) := dk_o180 (by decide +kernel)
theorem dX12_undo_38 : decode cX12_undo 38 = .ok (.invokevirtual 430, 3) := dk_o182 (by decide +kernel)
theorem dX12_undo_41 : decode cX12_undo 41 = .ok (.invokevirtual 433, 3) := dk_o182 (by decide +kernel)
theorem dX12_undo_44 : decode cX12_undo 44 = .ok (.iconst 1, 1) := dk_o4 (by decide +kernel)
theorem dX12_undo_45 : decode cX12_undo 45 = .ok (.ireturn, 1) := dk_o172 (by decide +kernel)
theorem dX12_runsOn_0 : decode cX12_runsOn 0 = .ok (.iconst 0, 1) := dk_o3 (by decide +kernel)
theorem dX12_runsOn_1 : decode cX12_runsOn 1 = .ok (.istore_n 2, 1) := dk_o61 (by decide +kernel)
theorem dX12_runsOn_2 : decode cX12_runsOn 2 = .ok (.iload_n 2, 1) := dk_o28 (by decide +kernel)
theorem dX12_runsOn_3 : decode cX12_runsOn 3 = .ok (.iload_n 1, 1) := dk_o27 (by decide +kernel)
theorem dX12_runsOn_4 : decode cX12_runsOn 4 = .ok (.if_icmp .ge 15, 3) := dk_o162 (by decide +kernel)
theorem dX12_runsOn_7 : decode cX12_runsOn 7 = .ok (.aload_n 0, 1) := dk_o42 (by decide +kernel)
theorem dX12_runsOn_8 : decode cX12_runsOn 8 = .ok (.iconst 1, 1) := dk_o4 (by decide +kernel)
theorem dX12_runsOn_9 : decode cX12_runsOn 9 = .ok (.invokevirtual 538, 3) := dk_o182 (by decide +kernel)
theorem dX12_runsOn_12 : decode cX12_runsOn 12 = .ok (.pop, 1) := dk_o87 (by decide +kernel)
theorem dX12_runsOn_13 : decode cX12_runsOn 13 = .ok (.iinc 2 1, 3) := dk_o132 (by decide +kernel)
theorem dX12_runsOn_16 : decode cX12_runsOn 16 = .ok (.goto (-14), 3) := dk_o167 (by decide +kernel)
theorem dX12_runsOn_19 : decode cX12_runsOn 19 = .ok (.return_, 1) := dk_o177 (by decide +kernel)
theorem dX12_later_0 : decode cX12_later 0 = .ok (.aload_n 0, 1) := dk_o42 (by decide +kernel)
theorem dX12_later_1 : decode cX12_later 1 = .ok (.iload_n 1, 1) := dk_o27 (by decide +kernel)
theorem dX12_later_2 : decode cX12_later 2 = .ok (.iload_n 2, 1) := dk_o28 (by decide +kernel)
theorem dX12_later_3 : decode cX12_later 3 = .ok (.invokevirtual 452, 3) := dk_o182 (by decide +kernel)
theorem dX12_later_6 : decode cX12_later 6 = .ok (.ifCond .eq 14, 3) := dk_o153 (by decide +kernel)
theorem dX12_later_9 : decode cX12_later 9 = .ok (.aload_n 0, 1) := dk_o42 (by decide +kernel)
theorem dX12_later_10 : decode cX12_later 10 = .ok (.iload_n 3, 1) := dk_o29 (by decide +kernel)
theorem dX12_later_11 : decode cX12_later 11 = .ok (.iconst 0, 1) := dk_o3 (by decide +kernel)
theorem dX12_later_12 : decode cX12_later 12 = .ok (.bipush 40, 2) := dk_o16 (by decide +kernel)
theorem dX12_later_14 : decode cX12_later 14 = .ok (.invokevirtual 541, 3) := dk_o182 (by decide +kernel)
theorem dX12_later_17 : decode cX12_later 17 = .ok (.ifCond .ne 5, 3) := dk_o154 (by decide +kernel)
theorem dX12_later_20 : decode cX12_later 20 = .ok (.iconst (-1), 1) := dk_o2 (by decide +kernel)
theorem dX12_later_21 : decode cX12_later 21 = .ok (.ireturn, 1) := dk_o172 (by decide +kernel)
theorem dX12_later_22 : decode cX12_later 22 = .ok (.aload_n 0, 1) := dk_o42 (by decide +kernel)
theorem dX12_later_23 : decode cX12_later 23 = .ok (.iconst 1, 1) := dk_o4 (by decide +kernel)
theorem dX12_later_24 : decode cX12_later 24 = .ok (.iconst 0, 1) := dk_o3 (by decide +kernel)
theorem dX12_later_25 : decode cX12_later 25 = .ok (.invokevirtual 433, 3) := dk_o182 (by decide +kernel)
theorem dX12_later_28 : decode cX12_later 28 = .ok (.aload_n 0, 1) := dk_o42 (by decide +kernel)
theorem dX12_later_29 : decode cX12_later 29 = .ok (.iload_n 3, 1) := dk_o29 (by decide +kernel)
theorem dX12_later_30 : decode cX12_later 30 = .ok (.invokevirtual 544, 3) := dk_o182 (by decide +kernel)
theorem dX12_later_33 : decode cX12_later 33 = .ok (.aload_n 0, 1) := dk_o42 (by decide +kernel)
theorem dX12_later_34 : decode cX12_later 34 = .ok (.getfield 168, 3) := dk_o180 (by decide +kernel)
theorem dX12_later_37 : decode cX12_later 37 = .ok (.bipush 64, 2) := dk_o16 (by decide +kernel)
theorem dX12_later_39 : decode cX12_later 39 = .ok (.bipush 8, 2) := dk_o16 (by decide +kernel)
theorem dX12_later_41 : decode cX12_later 41 = .ok (.iload_n 2, 1) := dk_o28 (by decide +kernel)
theorem dX12_later_42 : decode cX12_later 42 = .ok (.imul, 1) := dk_o104 (by decide +kernel)
theorem dX12_later_43 : decode cX12_later 43 = .ok (.iadd, 1) := dk_o96 (by decide +kernel)
theorem dX12_later_44 : decode cX12_later 44 = .ok (.iload_n 1, 1) := dk_o27 (by decide +kernel)
theorem dX12_later_45 : decode cX12_later 45 = .ok (.iadd, 1) := dk_o96 (by decide +kernel)
theorem dX12_later_46 : decode cX12_later 46 = .ok (.iaload, 1) := dk_o46 (by decide +kernel)
theorem dX12_later_47 : decode cX12_later 47 = .ok (.ireturn, 1) := dk_o172 (by decide +kernel)
theorem dX12_worth_0 : decode cX12_worth 0 = .ok (.aload_n 0, 1) := dk_o42 (by decide +kernel)
theorem dX12_worth_1 : decode cX12_worth 1 = .ok (.iload_n 1, 1) := dk_o27 (by decide +kernel)
theorem dX12_worth_2 : decode cX12_worth 2 = .ok (.iconst 0, 1) := dk_o3 (by decide +kernel)
theorem dX12_worth_3 : decode cX12_worth 3 = .ok (.bipush 40, 2) := dk_o16 (by decide +kernel)
theorem dX12_worth_5 : decode cX12_worth 5 = .ok (.invokevirtual 541, 3) := dk_o182 (by decide +kernel)
theorem dX12_worth_8 : decode cX12_worth 8 = .ok (.ifCond .ne 5, 3) := dk_o154 (by decide +kernel)
theorem dX12_worth_11 : decode cX12_worth 11 = .ok (.iconst (-1), 1) := dk_o2 (by decide +kernel)
theorem dX12_worth_12 : decode cX12_worth 12 = .ok (.ireturn, 1) := dk_o172 (by decide +kernel)
theorem dX12_worth_13 : decode cX12_worth 13 = .ok (.aload_n 0, 1) := dk_o42 (by decide +kernel)
theorem dX12_worth_14 : decode cX12_worth 14 = .ok (.iconst 1, 1) := dk_o4 (by decide +kernel)
theorem dX12_worth_15 : decode cX12_worth 15 = .ok (.iconst 0, 1) := dk_o3 (by decide +kernel)
theorem dX12_worth_16 : decode cX12_worth 16 = .ok (.invokevirtual 433, 3) := dk_o182 (by decide +kernel)
theorem dX12_worth_19 : decode cX12_worth 19 = .ok (.aload_n 0, 1) := dk_o42 (by decide +kernel)
theorem dX12_worth_20 : decode cX12_worth 20 = .ok (.iload_n 1, 1) := dk_o27 (by decide +kernel)
theorem dX12_worth_21 : decode cX12_worth 21 = .ok (.invokevirtual 544, 3) := dk_o182 (by decide +kernel)
theorem dX12_worth_24 : decode cX12_worth 24 = .ok (.aload_n 0, 1) := dk_o42 (by decide +kernel)
theorem dX12_worth_25 : decode cX12_worth 25 = .ok (.iconst 1, 1) := dk_o4 (by decide +kernel)
theorem dX12_worth_26 : decode cX12_worth 26 = .ok (.invokevirtual 518, 3) := dk_o182 (by decide +kernel)
theorem dX12_worth_29 : decode cX12_worth 29 = .ok (.ireturn, 1) := dk_o172 (by decide +kernel)
theorem dX12_shade_0 : decode cX12_shade 0 = .ok (.aload_n 0, 1) := dk_o42 (by decide +kernel)
theorem dX12_shade_1 : decode cX12_shade 1 = .ok (.iload_n 1, 1) := dk_o27 (by decide +kernel)
theorem dX12_shade_2 : decode cX12_shade 2 = .ok (.iconst 1, 1) := dk_o4 (by decide +kernel)
theorem dX12_shade_3 : decode cX12_shade 3 = .ok (.bipush 20, 2) := dk_o16 (by decide +kernel)
theorem dX12_shade_5 : decode cX12_shade 5 = .ok (.invokevirtual 541, 3) := dk_o182 (by decide +kernel)
theorem dX12_shade_8 : decode cX12_shade 8 = .ok (.ifCond .eq 12, 3) := dk_o153 (by decide +kernel)
theorem dX12_shade_11 : decode cX12_shade 11 = .ok (.iload_n 2, 1) := dk_o28 (by decide +kernel)
theorem dX12_shade_12 : decode cX12_shade 12 = .ok (.iconst 0, 1) := dk_o3 (by decide +kernel)
theorem dX12_shade_13 : decode cX12_shade 13 = .ok (.iconst 2, 1) := dk_o5 (by decide +kernel)
theorem dX12_shade_14 : decode cX12_shade 14 = .ok (.invokestatic 333, 3) := dk_o184 (by decide +kernel)
theorem dX12_shade_17 : decode cX12_shade 17 = .ok (.ifCond .ne 5, 3) := dk_o154 (by decide +kernel)
theorem dX12_shade_20 : decode cX12_shade 20 = .ok (.iconst (-1), 1) := dk_o2 (by decide +kernel)
theorem dX12_shade_21 : decode cX12_shade 21 = .ok (.ireturn, 1) := dk_o172 (by decide +kernel)
theorem dX12_shade_22 : decode cX12_shade 22 = .ok (.iconst (-1), 1) := dk_o2 (by decide +kernel)
theorem dX12_shade_23 : decode cX12_shade 23 = .ok (.istore_n 3, 1) := dk_o62 (by decide +kernel)
theorem dX12_shade_24 : decode cX12_shade 24 = .ok (.iconst (-1), 1) := dk_o2 (by decide +kernel)
theorem dX12_shade_25 : decode cX12_shade 25 = .ok (.istore 4, 2) := dk_o54 (by decide +kernel)
theorem dX12_shade_27 : decode cX12_shade 27 = .ok (.iconst 0, 1) := dk_o3 (by decide +kernel)
theorem dX12_shade_28 : decode cX12_shade 28 = .ok (.istore 5, 2) := dk_o54 (by decide +kernel)
theorem dX12_shade_30 : decode cX12_shade 30 = .ok (.iload 5, 2) := dk_o21 (by decide +kernel)
theorem dX12_shade_32 : decode cX12_shade 32 = .ok (.bipush 64, 2) := dk_o16 (by decide +kernel)
theorem dX12_shade_34 : decode cX12_shade 34 = .ok (.if_icmp .ge 77, 3) := dk_o162 (by decide +kernel)
theorem dX12_shade_37 : decode cX12_shade 37 = .ok (.aload_n 0, 1) := dk_o42 (by decide +kernel)
theorem dX12_shade_38 : decode cX12_shade 38 = .ok (.iload 5, 2) := dk_o21 (by decide +kernel)
theorem dX12_shade_40 : decode cX12_shade 40 = .ok (.invokevirtual 547, 3) := dk_o182 (by decide +kernel)
theorem dX12_shade_43 : decode cX12_shade 43 = .ok (.ifCond .eq 62, 3) := dk_o153 (by decide +kernel)
theorem dX12_shade_46 : decode cX12_shade 46 = .ok (.aload_n 0, 1) := dk_o42 (by decide +kernel)
theorem dX12_shade_47 : decode cX12_shade 47 = .ok (.getfield 171, 3) := dk_o180 (by decide +kernel)
theorem dX12_shade_50 : decode cX12_shade 50 = .ok (.iload 5, 2) := dk_o21 (by decide +kernel)
theorem dX12_shade_52 : decode cX12_shade 52 = .ok (.iaload, 1) := dk_o46 (by decide +kernel)
theorem dX12_shade_53 : decode cX12_shade 53 = .ok (.iconst 1, 1) := dk_o4 (by decide +kernel)
theorem dX12_shade_54 : decode cX12_shade 54 = .ok (.if_icmp .ne 6, 3) := dk_o160 (by decide +kernel)
theorem dX12_shade_57 : decode cX12_shade 57 = .ok (.goto 48, 3) := dk_o167 (by decide +kernel)
theorem dX12_shade_60 : decode cX12_shade 60 = .ok (.aload_n 0, 1) := dk_o42 (by decide +kernel)
theorem dX12_shade_61 : decode cX12_shade 61 = .ok (.iconst 1, 1) := dk_o4 (by decide +kernel)
theorem dX12_shade_62 : decode cX12_shade 62 = .ok (.iconst 0, 1) := dk_o3 (by decide +kernel)
theorem dX12_shade_63 : decode cX12_shade 63 = .ok (.invokevirtual 433, 3) := dk_o182 (by decide +kernel)
theorem dX12_shade_66 : decode cX12_shade 66 = .ok (.aload_n 0, 1) := dk_o42 (by decide +kernel)
theorem dX12_shade_67 : decode cX12_shade 67 = .ok (.getfield 171, 3) := dk_o180 (by decide +kernel)
theorem dX12_shade_70 : decode cX12_shade 70 = .ok (.bipush 64, 2) := dk_o16 (by decide +kernel)
theorem dX12_shade_72 : decode cX12_shade 72 = .ok (.iload 5, 2) := dk_o21 (by decide +kernel)
theorem dX12_shade_74 : decode cX12_shade 74 = .ok (.iadd, 1) := dk_o96 (by decide +kernel)
theorem dX12_shade_75 : decode cX12_shade 75 = .ok (.iconst 1, 1) := dk_o4 (by decide +kernel)
theorem dX12_shade_76 : decode cX12_shade 76 = .ok (.iastore, 1) := dk_o79 (by decide +kernel)
theorem dX12_shade_77 : decode cX12_shade 77 = .ok (.aload_n 0, 1) := dk_o42 (by decide +kernel)
theorem dX12_shade_78 : decode cX12_shade 78 = .ok (.iload_n 1, 1) := dk_o27 (by decide +kernel)
theorem dX12_shade_79 : decode cX12_shade 79 = .ok (.invokevirtual 544, 3) := dk_o182 (by decide +kernel)
theorem dX12_shade_82 : decode cX12_shade 82 = .ok (.aload_n 0, 1) := dk_o42 (by decide +kernel)
theorem dX12_shade_83 : decode cX12_shade 83 = .ok (.iconst 1, 1) := dk_o4 (by decide +kernel)
theorem dX12_shade_84 : decode cX12_shade 84 = .ok (.invokevirtual 518, 3) := dk_o182 (by decide +kernel)
theorem dX12_shade_87 : decode cX12_shade 87 = .ok (.iload 4, 2) := dk_o21 (by decide +kernel)
theorem dX12_shade_89 : decode cX12_shade 89 = .ok (.if_icmp .gt 6, 3) := dk_o163 (by decide +kernel)
theorem dX12_shade_92 : decode cX12_shade 92 = .ok (.goto 13, 3) := dk_o167 (by decide +kernel)
theorem dX12_shade_95 : decode cX12_shade 95 = .ok (.aload_n 0, 1) := dk_o42 (by decide +kernel)
theorem dX12_shade_96 : decode cX12_shade 96 = .ok (.iconst 1, 1) := dk_o4 (by decide +kernel)
theorem dX12_shade_97 : decode cX12_shade 97 = .ok (.invokevirtual 518, 3) := dk_o182 (by decide +kernel)
theorem dX12_shade_100 : decode cX12_shade 100 = .ok (.istore 4, 2) := dk_o54 (by decide +kernel)
theorem dX12_shade_102 : decode cX12_shade 102 = .ok (.iload 5, 2) := dk_o21 (by decide +kernel)
theorem dX12_shade_104 : decode cX12_shade 104 = .ok (.istore_n 3, 1) := dk_o62 (by decide +kernel)
theorem dX12_shade_105 : decode cX12_shade 105 = .ok (.iinc 5 1, 3) := dk_o132 (by decide +kernel)
theorem dX12_shade_108 : decode cX12_shade 108 = .ok (.goto (-78), 3) := dk_o167 (by decide +kernel)
theorem dX12_shade_111 : decode cX12_shade 111 = .ok (.iload_n 3, 1) := dk_o29 (by decide +kernel)
theorem dX12_shade_112 : decode cX12_shade 112 = .ok (.iconst (-1), 1) := dk_o2 (by decide +kernel)
theorem dX12_shade_113 : decode cX12_shade 113 = .ok (.if_icmp .eq 8, 3) := dk_o159 (by decide +kernel)
theorem dX12_shade_116 : decode cX12_shade 116 = .ok (.iload_n 2, 1) := dk_o28 (by decide +kernel)
theorem dX12_shade_117 : decode cX12_shade 117 = .ok (.iconst 2, 1) := dk_o5 (by decide +kernel)
theorem dX12_shade_118 : decode cX12_shade 118 = .ok (.if_icmp .ne 8, 3) := dk_o160 (by decide +kernel)
theorem dX12_shade_121 : decode cX12_shade 121 = .ok (.iload 4, 2) := dk_o21 (by decide +kernel)
theorem dX12_shade_123 : decode cX12_shade 123 = .ok (.goto 8, 3) := dk_o167 (by decide +kernel)
theorem dX12_shade_126 : decode cX12_shade 126 = .ok (.iload_n 3, 1) := dk_o29 (by decide +kernel)
theorem dX12_shade_127 : decode cX12_shade 127 = .ok (.iload_n 2, 1) := dk_o28 (by decide +kernel)
theorem dX12_shade_128 : decode cX12_shade 128 = .ok (.invokestatic 529, 3) := dk_o184 (by decide +kernel)
theorem dX12_shade_131 : decode cX12_shade 131 = .ok (.ireturn, 1) := dk_o172 (by decide +kernel)
theorem dX12_changes_0 : decode cX12_changes 0 = .ok (.aload_n 0, 1) := dk_o42 (by decide +kernel)
theorem dX12_changes_1 : decode cX12_changes 1 = .ok (.iconst 1, 1) := dk_o4 (by decide +kernel)
theorem dX12_changes_2 : decode cX12_changes 2 = .ok (.iconst 0, 1) := dk_o3 (by decide +kernel)
theorem dX12_changes_3 : decode cX12_changes 3 = .ok (.invokevirtual 433, 3) := dk_o182 (by decide +kernel)
theorem dX12_changes_6 : decode cX12_changes 6 = .ok (.aload_n 0, 1) := dk_o42 (by decide +kernel)
theorem dX12_changes_7 : decode cX12_changes 7 = .ok (.getfield 180, 3) := dk_o180 (by decide +kernel)
theorem dX12_changes_10 : decode cX12_changes 10 = .ok (.bipush 16, 2) := dk_o16 (by decide +kernel)
theorem dX12_changes_12 : decode cX12_changes 12 = .ok (.iload_n 1, 1) := dk_o27 (by decide +kernel)
theorem dX12_changes_13 : decode cX12_changes 13 = .ok (.iadd, 1) := dk_o96 (by decide +kernel)
theorem dX12_changes_14 : decode cX12_changes 14 = .ok (.aload_n 0, 1) := dk_o42 (by decide +kernel)
theorem dX12_changes_15 : decode cX12_changes 15 = .ok (.getfield 180, 3) := dk_o180 (by decide +kernel)
theorem dX12_changes_18 : decode cX12_changes 18 = .ok (.iload_n 2, 1) := dk_o28 (by decide +kernel)
theorem dX12_changes_19 : decode cX12_changes 19 = .ok (.iaload, 1) := dk_o46 (by decide +kernel)
theorem dX12_changes_20 : decode cX12_changes 20 = .ok (.iastore, 1) := dk_o79 (by decide +kernel)
theorem dX12_changes_21 : decode cX12_changes 21 = .ok (.aload_n 0, 1) := dk_o42 (by decide +kernel)
theorem dX12_changes_22 : decode cX12_changes 22 = .ok (.getfield 183, 3) := dk_o180 (by decide +kernel)
theorem dX12_changes_25 : decode cX12_changes 25 = .ok (.bipush 16, 2) := dk_o16 (by decide +kernel)
theorem dX12_changes_27 : decode cX12_changes 27 = .ok (.iload_n 1, 1) := dk_o27 (by decide +kernel)
theorem dX12_changes_28 : decode cX12_changes 28 = .ok (.iadd, 1) := dk_o96 (by decide +kernel)
theorem dX12_changes_29 : decode cX12_changes 29 = .ok (.aload_n 0, 1) := dk_o42 (by decide +kernel)
theorem dX12_changes_30 : decode cX12_changes 30 = .ok (.getfield 183, 3) := dk_o180 (by decide +kernel)
theorem dX12_changes_33 : decode cX12_changes 33 = .ok (.iload_n 2, 1) := dk_o28 (by decide +kernel)
theorem dX12_changes_34 : decode cX12_changes 34 = .ok (.iaload, 1) := dk_o46 (by decide +kernel)
theorem dX12_changes_35 : decode cX12_changes 35 = .ok (.iastore, 1) := dk_o79 (by decide +kernel)
theorem dX12_changes_36 : decode cX12_changes 36 = .ok (.aload_n 0, 1) := dk_o42 (by decide +kernel)
theorem dX12_changes_37 : decode cX12_changes 37 = .ok (.getfield 180, 3) := dk_o180 (by decide +kernel)
theorem dX12_changes_40 : decode cX12_changes 40 = .ok (.bipush 16, 2) := dk_o16 (by decide +kernel)
theorem dX12_changes_42 : decode cX12_changes 42 = .ok (.iload_n 2, 1) := dk_o28 (by decide +kernel)
theorem dX12_changes_43 : decode cX12_changes 43 = .ok (.iadd, 1) := dk_o96 (by decide +kernel)
theorem dX12_changes_44 : decode cX12_changes 44 = .ok (.aload_n 0, 1) := dk_o42 (by decide +kernel)
theorem dX12_changes_45 : decode cX12_changes 45 = .ok (.getfield 180, 3) := dk_o180 (by decide +kernel)
theorem dX12_changes_48 : decode cX12_changes 48 = .ok (.iload_n 1, 1) := dk_o27 (by decide +kernel)
theorem dX12_changes_49 : decode cX12_changes 49 = .ok (.iaload, 1) := dk_o46 (by decide +kernel)
theorem dX12_changes_50 : decode cX12_changes 50 = .ok (.iastore, 1) := dk_o79 (by decide +kernel)
theorem dX12_changes_51 : decode cX12_changes 51 = .ok (.aload_n 0, 1) := dk_o42 (by decide +kernel)
theorem dX12_changes_52 : decode cX12_changes 52 = .ok (.getfield 183, 3) := dk_o180 (by decide +kernel)
theorem dX12_changes_55 : decode cX12_changes 55 = .ok (.bipush 16, 2) := dk_o16 (by decide +kernel)
theorem dX12_changes_57 : decode cX12_changes 57 = .ok (.iload_n 2, 1) := dk_o28 (by decide +kernel)
theorem dX12_changes_58 : decode cX12_changes 58 = .ok (.iadd, 1) := dk_o96 (by decide +kernel)
theorem dX12_changes_59 : decode cX12_changes 59 = .ok (.aload_n 0, 1) := dk_o42 (by decide +kernel)
theorem dX12_changes_60 : decode cX12_changes 60 = .ok (.getfield 183, 3) := dk_o180 (by decide +kernel)
theorem dX12_changes_63 : decode cX12_changes 63 = .ok (.iload_n 1, 1) := dk_o27 (by decide +kernel)
theorem dX12_changes_64 : decode cX12_changes 64 = .ok (.iaload, 1) := dk_o46 (by decide +kernel)
theorem dX12_changes_65 : decode cX12_changes 65 = .ok (.iastore, 1) := dk_o79 (by decide +kernel)
theorem dX12_changes_66 : decode cX12_changes 66 = .ok (.return_, 1) := dk_o177 (by decide +kernel)
theorem dX12_change_0 : decode cX12_change 0 = .ok (.aload_n 0, 1) := dk_o42 (by decide +kernel)
theorem dX12_change_1 : decode cX12_change 1 = .ok (.iload_n 1, 1) := dk_o27 (by decide +kernel)
theorem dX12_change_2 : decode cX12_change 2 = .ok (.iconst 1, 1) := dk_o4 (by decide +kernel)
theorem dX12_change_3 : decode cX12_change 3 = .ok (.bipush 20, 2) := dk_o16 (by decide +kernel)
theorem dX12_change_5 : decode cX12_change 5 = .ok (.invokevirtual 541, 3) := dk_o182 (by decide +kernel)
theorem dX12_change_8 : decode cX12_change 8 = .ok (.ifCond .eq 12, 3) := dk_o153 (by decide +kernel)
theorem dX12_change_11 : decode cX12_change 11 = .ok (.iload_n 2, 1) := dk_o28 (by decide +kernel)
theorem dX12_change_12 : decode cX12_change 12 = .ok (.iconst 0, 1) := dk_o3 (by decide +kernel)
theorem dX12_change_13 : decode cX12_change 13 = .ok (.iconst 2, 1) := dk_o5 (by decide +kernel)
theorem dX12_change_14 : decode cX12_change 14 = .ok (.invokestatic 333, 3) := dk_o184 (by decide +kernel)
theorem dX12_change_17 : decode cX12_change 17 = .ok (.ifCond .ne 5, 3) := dk_o154 (by decide +kernel)
theorem dX12_change_20 : decode cX12_change 20 = .ok (.iconst (-1), 1) := dk_o2 (by decide +kernel)
theorem dX12_change_21 : decode cX12_change 21 = .ok (.ireturn, 1) := dk_o172 (by decide +kernel)
theorem dX12_change_22 : decode cX12_change 22 = .ok (.aload_n 0, 1) := dk_o42 (by decide +kernel)
theorem dX12_change_23 : decode cX12_change 23 = .ok (.iconst 1, 1) := dk_o4 (by decide +kernel)
theorem dX12_change_24 : decode cX12_change 24 = .ok (.iconst 0, 1) := dk_o3 (by decide +kernel)
theorem dX12_change_25 : decode cX12_change 25 = .ok (.invokevirtual 433, 3) := dk_o182 (by decide +kernel)
theorem dX12_change_28 : decode cX12_change 28 = .ok (.aload_n 0, 1) := dk_o42 (by decide +kernel)
theorem dX12_change_29 : decode cX12_change 29 = .ok (.iload_n 1, 1) := dk_o27 (by decide +kernel)
theorem dX12_change_30 : decode cX12_change 30 = .ok (.invokevirtual 544, 3) := dk_o182 (by decide +kernel)
theorem dX12_change_33 : decode cX12_change 33 = .ok (.aload_n 0, 1) := dk_o42 (by decide +kernel)
theorem dX12_change_34 : decode cX12_change 34 = .ok (.iconst 1, 1) := dk_o4 (by decide +kernel)
theorem dX12_change_35 : decode cX12_change 35 = .ok (.invokevirtual 512, 3) := dk_o182 (by decide +kernel)
theorem dX12_change_38 : decode cX12_change 38 = .ok (.istore_n 3, 1) := dk_o62 (by decide +kernel)
theorem dX12_change_39 : decode cX12_change 39 = .ok (.iconst (-1), 1) := dk_o2 (by decide +kernel)
theorem dX12_change_40 : decode cX12_change 40 = .ok (.istore 4, 2) := dk_o54 (by decide +kernel)
theorem dX12_change_42 : decode cX12_change 42 = .ok (.iconst (-1), 1) := dk_o2 (by decide +kernel)
theorem dX12_change_43 : decode cX12_change 43 = .ok (.istore 5, 2) := dk_o54 (by decide +kernel)
theorem dX12_change_45 : decode cX12_change 45 = .ok (.iconst 0, 1) := dk_o3 (by decide +kernel)
theorem dX12_change_46 : decode cX12_change 46 = .ok (.istore 6, 2) := dk_o54 (by decide +kernel)
theorem dX12_change_48 : decode cX12_change 48 = .ok (.iload 6, 2) := dk_o21 (by decide +kernel)
theorem dX12_change_50 : decode cX12_change 50 = .ok (.aload_n 0, 1) := dk_o42 (by decide +kernel)
theorem dX12_change_51 : decode cX12_change 51 = .ok (.getfield 75, 3) := dk_o180 (by decide +kernel)
theorem dX12_change_54 : decode cX12_change 54 = .ok (.aload_n 0, 1) := dk_o42 (by decide +kernel)
theorem dX12_change_55 : decode cX12_change 55 = .ok (.getfield 51, 3) := dk_o180 (by decide +kernel)
theorem dX12_change_58 : decode cX12_change 58 = .ok (.iaload, 1) := dk_o46 (by decide +kernel)
theorem dX12_change_59 : decode cX12_change 59 = .ok (.if_icmp .ge 74, 3) := dk_o162 (by decide +kernel)
theorem dX12_change_62 : decode cX12_change 62 = .ok (.iload 6, 2) := dk_o21 (by decide +kernel)
theorem dX12_change_64 : decode cX12_change 64 = .ok (.iconst 1, 1) := dk_o4 (by decide +kernel)
theorem dX12_change_65 : decode cX12_change 65 = .ok (.iadd, 1) := dk_o96 (by decide +kernel)
theorem dX12_change_66 : decode cX12_change 66 = .ok (.istore 7, 2) := dk_o54 (by decide +kernel)
theorem dX12_change_68 : decode cX12_change 68 = .ok (.iload 7, 2) := dk_o21 (by decide +kernel)
theorem dX12_change_70 : decode cX12_change 70 = .ok (.aload_n 0, 1) := dk_o42 (by decide +kernel)
theorem dX12_change_71 : decode cX12_change 71 = .ok (.getfield 75, 3) := dk_o180 (by decide +kernel)
theorem dX12_change_74 : decode cX12_change 74 = .ok (.aload_n 0, 1) := dk_o42 (by decide +kernel)
theorem dX12_change_75 : decode cX12_change 75 = .ok (.getfield 51, 3) := dk_o180 (by decide +kernel)
theorem dX12_change_78 : decode cX12_change 78 = .ok (.iaload, 1) := dk_o46 (by decide +kernel)
theorem dX12_change_79 : decode cX12_change 79 = .ok (.if_icmp .ge 48, 3) := dk_o162 (by decide +kernel)
theorem dX12_change_82 : decode cX12_change 82 = .ok (.aload_n 0, 1) := dk_o42 (by decide +kernel)
theorem dX12_change_83 : decode cX12_change 83 = .ok (.iload 6, 2) := dk_o21 (by decide +kernel)
theorem dX12_change_85 : decode cX12_change 85 = .ok (.iload 7, 2) := dk_o21 (by decide +kernel)
theorem dX12_change_87 : decode cX12_change 87 = .ok (.invokevirtual 550, 3) := dk_o182 (by decide +kernel)
theorem dX12_change_90 : decode cX12_change 90 = .ok (.aload_n 0, 1) := dk_o42 (by decide +kernel)
theorem dX12_change_91 : decode cX12_change 91 = .ok (.iload_n 1, 1) := dk_o27 (by decide +kernel)
theorem dX12_change_92 : decode cX12_change 92 = .ok (.invokevirtual 544, 3) := dk_o182 (by decide +kernel)
theorem dX12_change_95 : decode cX12_change 95 = .ok (.aload_n 0, 1) := dk_o42 (by decide +kernel)
theorem dX12_change_96 : decode cX12_change 96 = .ok (.iconst 1, 1) := dk_o4 (by decide +kernel)
theorem dX12_change_97 : decode cX12_change 97 = .ok (.invokevirtual 512, 3) := dk_o182 (by decide +kernel)
theorem dX12_change_100 : decode cX12_change 100 = .ok (.iload_n 3, 1) := dk_o29 (by decide +kernel)
theorem dX12_change_101 : decode cX12_change 101 = .ok (.if_icmp .gt 6, 3) := dk_o163 (by decide +kernel)
theorem dX12_change_104 : decode cX12_change 104 = .ok (.goto 17, 3) := dk_o167 (by decide +kernel)
theorem dX12_change_107 : decode cX12_change 107 = .ok (.aload_n 0, 1) := dk_o42 (by decide +kernel)
theorem dX12_change_108 : decode cX12_change 108 = .ok (.iconst 1, 1) := dk_o4 (by decide +kernel)
theorem dX12_change_109 : decode cX12_change 109 = .ok (.invokevirtual 512, 3) := dk_o182 (by decide +kernel)
theorem dX12_change_112 : decode cX12_change 112 = .ok (.istore_n 3, 1) := dk_o62 (by decide +kernel)
theorem dX12_change_113 : decode cX12_change 113 = .ok (.iload 6, 2) := dk_o21 (by decide +kernel)
theorem dX12_change_115 : decode cX12_change 115 = .ok (.istore 4, 2) := dk_o54 (by decide +kernel)
theorem dX12_change_117 : decode cX12_change 117 = .ok (.iload 7, 2) := dk_o21 (by decide +kernel)
theorem dX12_change_119 : decode cX12_change 119 = .ok (.istore 5, 2) := dk_o54 (by decide +kernel)
theorem dX12_change_121 : decode cX12_change 121 = .ok (.iinc 7 1, 3) := dk_o132 (by decide +kernel)
theorem dX12_change_124 : decode cX12_change 124 = .ok (.goto (-56), 3) := dk_o167 (by decide +kernel)
theorem dX12_change_127 : decode cX12_change 127 = .ok (.iinc 6 1, 3) := dk_o132 (by decide +kernel)
theorem dX12_change_130 : decode cX12_change 130 = .ok (.goto (-82), 3) := dk_o167 (by decide +kernel)
theorem dX12_change_133 : decode cX12_change 133 = .ok (.iload 4, 2) := dk_o21 (by decide +kernel)
theorem dX12_change_135 : decode cX12_change 135 = .ok (.iconst (-1), 1) := dk_o2 (by decide +kernel)
theorem dX12_change_136 : decode cX12_change 136 = .ok (.if_icmp .ne 7, 3) := dk_o160 (by decide +kernel)
theorem dX12_change_139 : decode cX12_change 139 = .ok (.iconst (-1), 1) := dk_o2 (by decide +kernel)
theorem dX12_change_140 : decode cX12_change 140 = .ok (.goto 23, 3) := dk_o167 (by decide +kernel)
theorem dX12_change_143 : decode cX12_change 143 = .ok (.iload_n 2, 1) := dk_o28 (by decide +kernel)
theorem dX12_change_144 : decode cX12_change 144 = .ok (.ifCond .ne 8, 3) := dk_o154 (by decide +kernel)
theorem dX12_change_147 : decode cX12_change 147 = .ok (.iload 4, 2) := dk_o21 (by decide +kernel)
theorem dX12_change_149 : decode cX12_change 149 = .ok (.goto 14, 3) := dk_o167 (by decide +kernel)
theorem dX12_change_152 : decode cX12_change 152 = .ok (.iload_n 2, 1) := dk_o28 (by decide +kernel)
theorem dX12_change_153 : decode cX12_change 153 = .ok (.iconst 1, 1) := dk_o4 (by decide +kernel)
theorem dX12_change_154 : decode cX12_change 154 = .ok (.if_icmp .ne 8, 3) := dk_o160 (by decide +kernel)
theorem dX12_change_157 : decode cX12_change 157 = .ok (.iload 5, 2) := dk_o21 (by decide +kernel)
theorem dX12_change_159 : decode cX12_change 159 = .ok (.goto 4, 3) := dk_o167 (by decide +kernel)
theorem dX12_change_162 : decode cX12_change 162 = .ok (.iload_n 3, 1) := dk_o29 (by decide +kernel)
theorem dX12_change_163 : decode cX12_change 163 = .ok (.ireturn, 1) := dk_o172 (by decide +kernel)
theorem dX12_areTubs_0 : decode cX12_areTubs 0 = .ok (.iconst 0, 1) := dk_o3 (by decide +kernel)
theorem dX12_areTubs_1 : decode cX12_areTubs 1 = .ok (.istore_n 2, 1) := dk_o61 (by decide +kernel)
theorem dX12_areTubs_2 : decode cX12_areTubs 2 = .ok (.iload_n 2, 1) := dk_o28 (by decide +kernel)
theorem dX12_areTubs_3 : decode cX12_areTubs 3 = .ok (.bipush 10, 2) := dk_o16 (by decide +kernel)
theorem dX12_areTubs_5 : decode cX12_areTubs 5 = .ok (.if_icmp .ge 94, 3) := dk_o162 (by decide +kernel)
theorem dX12_areTubs_8 : decode cX12_areTubs 8 = .ok (.iconst 0, 1) := dk_o3 (by decide +kernel)
theorem dX12_areTubs_9 : decode cX12_areTubs 9 = .ok (.istore_n 3, 1) := dk_o62 (by decide +kernel)
theorem dX12_areTubs_10 : decode cX12_areTubs 10 = .ok (.iconst 0, 1) := dk_o3 (by decide +kernel)
theorem dX12_areTubs_11 : decode cX12_areTubs 11 = .ok (.istore 4, 2) := dk_o54 (by decide +kernel)
theorem dX12_areTubs_13 : decode cX12_areTubs 13 = .ok (.iload 4, 2) := dk_o21 (by decide +kernel)
theorem dX12_areTubs_15 : decode cX12_areTubs 15 = .ok (.aload_n 0, 1) := dk_o42 (by decide +kernel)
theorem dX12_areTubs_16 : decode cX12_areTubs 16 = .ok (.getfield 84, 3) := dk_o180 (by decide +kernel)
theorem dX12_areTubs_19 : decode cX12_areTubs 19 = .ok (.aload_n 0, 1) := dk_o42 (by decide +kernel)
theorem dX12_areTubs_20 : decode cX12_areTubs 20 = .ok (.getfield 51, 3) := dk_o180 (by decide +kernel)
theorem dX12_areTubs_23 : decode cX12_areTubs 23 = .ok (.iaload, 1) := dk_o46 (by decide +kernel)
theorem dX12_areTubs_24 : decode cX12_areTubs 24 = .ok (.if_icmp .ge 57, 3) := dk_o162 (by decide +kernel)
theorem dX12_areTubs_27 : decode cX12_areTubs 27 = .ok (.iload_n 3, 1) := dk_o29 (by decide +kernel)
theorem dX12_areTubs_28 : decode cX12_areTubs 28 = .ok (.iload_n 1, 1) := dk_o27 (by decide +kernel)
theorem dX12_areTubs_29 : decode cX12_areTubs 29 = .ok (.iload 4, 2) := dk_o21 (by decide +kernel)
theorem dX12_areTubs_31 : decode cX12_areTubs 31 = .ok (.invokestatic 487, 3) := dk_o184 (by decide +kernel)
theorem dX12_areTubs_34 : decode cX12_areTubs 34 = .ok (.ifCond .eq 38, 3) := dk_o153 (by decide +kernel)
theorem dX12_areTubs_37 : decode cX12_areTubs 37 = .ok (.aload_n 0, 1) := dk_o42 (by decide +kernel)
theorem dX12_areTubs_38 : decode cX12_areTubs 38 = .ok (.getfield 87, 3) := dk_o180 (by decide +kernel)
theorem dX12_areTubs_41 : decode cX12_areTubs 41 = .ok (.iconst 5, 1) := dk_o8 (by decide +kernel)
theorem dX12_areTubs_42 : decode cX12_areTubs 42 = .ok (.aload_n 0, 1) := dk_o42 (by decide +kernel)
theorem dX12_areTubs_43 : decode cX12_areTubs 43 = .ok (.getfield 51, 3) := dk_o180 (by decide +kernel)
theorem dX12_areTubs_46 : decode cX12_areTubs 46 = .ok (.imul, 1) := dk_o104 (by decide +kernel)
theorem dX12_areTubs_47 : decode cX12_areTubs 47 = .ok (.iload 4, 2) := dk_o21 (by decide +kernel)
theorem dX12_areTubs_49 : decode cX12_areTubs 49 = .ok (.iadd, 1) := dk_o96 (by decide +kernel)
theorem dX12_areTubs_50 : decode cX12_areTubs 50 = .ok (.iaload, 1) := dk_o46 (by decide +kernel)
theorem dX12_areTubs_51 : decode cX12_areTubs 51 = .ok (.iload_n 2, 1) := dk_o28 (by decide +kernel)
theorem dX12_areTubs_52 : decode cX12_areTubs 52 = .ok (.if_icmp .lt 20, 3) := dk_o161 (by decide +kernel)
theorem dX12_areTubs_55 : decode cX12_areTubs 55 = .ok (.aload_n 0, 1) := dk_o42 (by decide +kernel)
theorem dX12_areTubs_56 : decode cX12_areTubs 56 = .ok (.getfield 90, 3) := dk_o180 (by decide +kernel)
theorem dX12_areTubs_59 : decode cX12_areTubs 59 = .ok (.iconst 5, 1) := dk_o8 (by decide +kernel)
theorem dX12_areTubs_60 : decode cX12_areTubs 60 = .ok (.aload_n 0, 1) := dk_o42 (by decide +kernel)
theorem dX12_areTubs_61 : decode cX12_areTubs 61 = .ok (.getfield 51, 3) := dk_o180 (by decide +kernel)
theorem dX12_areTubs_64 : decode cX12_areTubs 64 = .ok (.imul, 1) := dk_o104 (by decide +kernel)
theorem dX12_areTubs_65 : decode cX12_areTubs 65 = .ok (.iload 4, 2) := dk_o21 (by decide +kernel)
theorem dX12_areTubs_67 : decode cX12_areTubs 67 = .ok (.iadd, 1) := dk_o96 (by decide +kernel)
theorem dX12_areTubs_68 : decode cX12_areTubs 68 = .ok (.iaload, 1) := dk_o46 (by decide +kernel)
theorem dX12_areTubs_69 : decode cX12_areTubs 69 = .ok (.goto 4, 3) := dk_o167 (by decide +kernel)
theorem dX12_areTubs_72 : decode cX12_areTubs 72 = .ok (.iconst 0, 1) := dk_o3 (by decide +kernel)
theorem dX12_areTubs_73 : decode cX12_areTubs 73 = .ok (.iadd, 1) := dk_o96 (by decide +kernel)
theorem dX12_areTubs_74 : decode cX12_areTubs 74 = .ok (.istore_n 3, 1) := dk_o62 (by decide +kernel)
theorem dX12_areTubs_75 : decode cX12_areTubs 75 = .ok (.iinc 4 1, 3) := dk_o132 (by decide +kernel)
theorem dX12_areTubs_78 : decode cX12_areTubs 78 = .ok (.goto (-65), 3) := dk_o167 (by decide +kernel)
theorem dX12_areTubs_81 : decode cX12_areTubs 81 = .ok (.iload_n 3, 1) := dk_o29 (by decide +kernel)
theorem dX12_areTubs_82 : decode cX12_areTubs 82 = .ok (.aload_n 0, 1) := dk_o42 (by decide +kernel)
theorem dX12_areTubs_83 : decode cX12_areTubs 83 = .ok (.iconst 0, 1) := dk_o3 (by decide +kernel)
theorem dX12_areTubs_84 : decode cX12_areTubs 84 = .ok (.iload_n 2, 1) := dk_o28 (by decide +kernel)
theorem dX12_areTubs_85 : decode cX12_areTubs 85 = .ok (.invokevirtual 532, 3) := dk_o182 (by decide +kernel)
theorem dX12_areTubs_88 : decode cX12_areTubs 88 = .ok (.if_icmp .le 5, 3) := dk_o164 (by decide +kernel)
theorem dX12_areTubs_91 : decode cX12_areTubs 91 = .ok (.iconst 0, 1) := dk_o3 (by decide +kernel)
theorem dX12_areTubs_92 : decode cX12_areTubs 92 = .ok (.ireturn, 1) := dk_o172 (by decide +kernel)
theorem dX12_areTubs_93 : decode cX12_areTubs 93 = .ok (.iinc 2 1, 3) := dk_o132 (by decide +kernel)
theorem dX12_areTubs_96 : decode cX12_areTubs 96 = .ok (.goto (-94), 3) := dk_o167 (by decide +kernel)
theorem dX12_areTubs_99 : decode cX12_areTubs 99 = .ok (.iconst 1, 1) := dk_o4 (by decide +kernel)
theorem dX12_areTubs_100 : decode cX12_areTubs 100 = .ok (.ireturn, 1) := dk_o172 (by decide +kernel)
theorem dX12_sale_0 : decode cX12_sale 0 = .ok (.iload_n 1, 1) := dk_o27 (by decide +kernel)
theorem dX12_sale_1 : decode cX12_sale 1 = .ok (.iconst 0, 1) := dk_o3 (by decide +kernel)
theorem dX12_sale_2 : decode cX12_sale 2 = .ok (.iconst 1, 1) := dk_o4 (by decide +kernel)
theorem dX12_sale_3 : decode cX12_sale 3 = .ok (.invokestatic 333, 3) := dk_o184 (by decide +kernel)
theorem dX12_sale_6 : decode cX12_sale 6 = .ok (.ifCond .ne 5, 3) := dk_o154 (by decide +kernel)
theorem dX12_sale_9 : decode cX12_sale 9 = .ok (.iconst (-1), 1) := dk_o2 (by decide +kernel)
theorem dX12_sale_10 : decode cX12_sale 10 = .ok (.ireturn, 1) := dk_o172 (by decide +kernel)
theorem dX12_sale_11 : decode cX12_sale 11 = .ok (.iconst 0, 1) := dk_o3 (by decide +kernel)
theorem dX12_sale_12 : decode cX12_sale 12 = .ok (.istore_n 2, 1) := dk_o61 (by decide +kernel)
theorem dX12_sale_13 : decode cX12_sale 13 = .ok (.iconst 0, 1) := dk_o3 (by decide +kernel)
theorem dX12_sale_14 : decode cX12_sale 14 = .ok (.istore_n 3, 1) := dk_o62 (by decide +kernel)
theorem dX12_sale_15 : decode cX12_sale 15 = .ok (.iconst 1, 1) := dk_o4 (by decide +kernel)
theorem dX12_sale_16 : decode cX12_sale 16 = .ok (.istore 4, 2) := dk_o54 (by decide +kernel)
theorem dX12_sale_18 : decode cX12_sale 18 = .ok (.iload 4, 2) := dk_o21 (by decide +kernel)
theorem dX12_sale_20 : decode cX12_sale 20 = .ok (.iconst 1, 1) := dk_o4 (by decide +kernel)
theorem dX12_sale_21 : decode cX12_sale 21 = .ok (.aload_n 0, 1) := dk_o42 (by decide +kernel)
theorem dX12_sale_22 : decode cX12_sale 22 = .ok (.getfield 84, 3) := dk_o180 (by decide +kernel)
theorem dX12_sale_25 : decode cX12_sale 25 = .ok (.aload_n 0, 1) := dk_o42 (by decide +kernel)
theorem dX12_sale_26 : decode cX12_sale 26 = .ok (.getfield 51, 3) := dk_o180 (by decide +kernel)
theorem dX12_sale_29 : decode cX12_sale 29 = .ok (.iaload, 1) := dk_o46 (by decide +kernel)
theorem dX12_sale_30 : decode cX12_sale 30 = .ok (.ishl, 1) := dk_o120 (by decide +kernel)
theorem dX12_sale_31 : decode cX12_sale 31 = .ok (.if_icmp .ge 125, 3) := dk_o162 (by decide +kernel)
theorem dX12_sale_34 : decode cX12_sale 34 = .ok (.iload 4, 2) := dk_o21 (by decide +kernel)
theorem dX12_sale_36 : decode cX12_sale 36 = .ok (.aload_n 0, 1) := dk_o42 (by decide +kernel)
theorem dX12_sale_37 : decode cX12_sale 37 = .ok (.getfield 177, 3) := dk_o180 (by decide +kernel)
theorem dX12_sale_40 : decode cX12_sale 40 = .ok (.iconst 0, 1) := dk_o3 (by decide +kernel)
theorem dX12_sale_41 : decode cX12_sale 41 = .ok (.iaload, 1) := dk_o46 (by decide +kernel)
theorem dX12_sale_42 : decode cX12_sale 42 = .ok (.iand, 1) := dk_o126 (by decide +kernel)
theorem dX12_sale_43 : decode cX12_sale 43 = .ok (.ifCond .ne 107, 3) := dk_o154 (by decide +kernel)
theorem dX12_sale_46 : decode cX12_sale 46 = .ok (.aload_n 0, 1) := dk_o42 (by decide +kernel)
theorem dX12_sale_47 : decode cX12_sale 47 = .ok (.iload 4, 2) := dk_o21 (by decide +kernel)
theorem dX12_sale_49 : decode cX12_sale 49 = .ok (.invokevirtual 553, 3) := dk_o182 (by decide +kernel)
theorem dX12_sale_52 : decode cX12_sale 52 = .ok (.ifCond .ne 6, 3) := dk_o154 (by decide +kernel)
theorem dX12_sale_55 : decode cX12_sale 55 = .ok (.goto 95, 3) := dk_o167 (by decide +kernel)
theorem dX12_sale_58 : decode cX12_sale 58 = .ok (.iconst 0, 1) := dk_o3 (by decide +kernel)
theorem dX12_sale_59 : decode cX12_sale 59 = .ok (.istore 5, 2) := dk_o54 (by decide +kernel)
theorem dX12_sale_61 : decode cX12_sale 61 = .ok (.iconst 0, 1) := dk_o3 (by decide +kernel)
theorem dX12_sale_62 : decode cX12_sale 62 = .ok (.istore 6, 2) := dk_o54 (by decide +kernel)
theorem dX12_sale_64 : decode cX12_sale 64 = .ok (.iload 6, 2) := dk_o21 (by decide +kernel)
theorem dX12_sale_66 : decode cX12_sale 66 = .ok (.aload_n 0, 1) := dk_o42 (by decide +kernel)
theorem dX12_sale_67 : decode cX12_sale 67 = .ok (.getfield 84, 3) := dk_o180 (by decide +kernel)
theorem dX12_sale_70 : decode cX12_sale 70 = .ok (.aload_n 0, 1) := dk_o42 (by decide +kernel)
theorem dX12_sale_71 : decode cX12_sale 71 = .ok (.getfield 51, 3) := dk_o180 (by decide +kernel)
theorem dX12_sale_74 : decode cX12_sale 74 = .ok (.iaload, 1) := dk_o46 (by decide +kernel)
theorem dX12_sale_75 : decode cX12_sale 75 = .ok (.if_icmp .ge 42, 3) := dk_o162 (by decide +kernel)
theorem dX12_sale_78 : decode cX12_sale 78 = .ok (.iload 5, 2) := dk_o21 (by decide +kernel)
theorem dX12_sale_80 : decode cX12_sale 80 = .ok (.iload 4, 2) := dk_o21 (by decide +kernel)
theorem dX12_sale_82 : decode cX12_sale 82 = .ok (.iload 6, 2) := dk_o21 (by decide +kernel)
theorem dX12_sale_84 : decode cX12_sale 84 = .ok (.invokestatic 487, 3) := dk_o184 (by decide +kernel)
theorem dX12_sale_87 : decode cX12_sale 87 = .ok (.ifCond .eq 20, 3) := dk_o153 (by decide +kernel)
theorem dX12_sale_90 : decode cX12_sale 90 = .ok (.aload_n 0, 1) := dk_o42 (by decide +kernel)
theorem dX12_sale_91 : decode cX12_sale 91 = .ok (.getfield 93, 3) := dk_o180 (by decide +kernel)
theorem dX12_sale_94 : decode cX12_sale 94 = .ok (.iconst 5, 1) := dk_o8 (by decide +kernel)
theorem dX12_sale_95 : decode cX12_sale 95 = .ok (.aload_n 0, 1) := dk_o42 (by decide +kernel)
theorem dX12_sale_96 : decode cX12_sale 96 = .ok (.getfield 51, 3) := dk_o180 (by decide +kernel)
theorem dX12_sale_99 : decode cX12_sale 99 = .ok (.imul, 1) := dk_o104 (by decide +kernel)
theorem dX12_sale_100 : decode cX12_sale 100 = .ok (.iload 6, 2) := dk_o21 (by decide +kernel)
theorem dX12_sale_102 : decode cX12_sale 102 = .ok (.iadd, 1) := dk_o96 (by decide +kernel)
theorem dX12_sale_103 : decode cX12_sale 103 = .ok (.iaload, 1) := dk_o46 (by decide +kernel)
theorem dX12_sale_104 : decode cX12_sale 104 = .ok (.goto 4, 3) := dk_o167 (by decide +kernel)
theorem dX12_sale_107 : decode cX12_sale 107 = .ok (.iconst 0, 1) := dk_o3 (by decide +kernel)
theorem dX12_sale_108 : decode cX12_sale 108 = .ok (.iadd, 1) := dk_o96 (by decide +kernel)
theorem dX12_sale_109 : decode cX12_sale 109 = .ok (.istore 5, 2) := dk_o54 (by decide +kernel)
theorem dX12_sale_111 : decode cX12_sale 111 = .ok (.iinc 6 1, 3) := dk_o132 (by decide +kernel)
theorem dX12_sale_114 : decode cX12_sale 114 = .ok (.goto (-50), 3) := dk_o167 (by decide +kernel)
theorem dX12_sale_117 : decode cX12_sale 117 = .ok (.iload 5, 2) := dk_o21 (by decide +kernel)
theorem dX12_sale_119 : decode cX12_sale 119 = .ok (.iload_n 3, 1) := dk_o29 (by decide +kernel)
theorem dX12_sale_120 : decode cX12_sale 120 = .ok (.if_icmp .lt 30, 3) := dk_o161 (by decide +kernel)
theorem dX12_sale_123 : decode cX12_sale 123 = .ok (.iload 5, 2) := dk_o21 (by decide +kernel)
theorem dX12_sale_125 : decode cX12_sale 125 = .ok (.iload_n 3, 1) := dk_o29 (by decide +kernel)
theorem dX12_sale_126 : decode cX12_sale 126 = .ok (.if_icmp .ne 18, 3) := dk_o160 (by decide +kernel)
theorem dX12_sale_129 : decode cX12_sale 129 = .ok (.iload 4, 2) := dk_o21 (by decide +kernel)
theorem dX12_sale_131 : decode cX12_sale 131 = .ok (.invokestatic 515, 3) := dk_o184 (by decide +kernel)
theorem dX12_sale_134 : decode cX12_sale 134 = .ok (.iload_n 2, 1) := dk_o28 (by decide +kernel)
theorem dX12_sale_135 : decode cX12_sale 135 = .ok (.invokestatic 515, 3) := dk_o184 (by decide +kernel)
theorem dX12_sale_138 : decode cX12_sale 138 = .ok (.if_icmp .lt 6, 3) := dk_o161 (by decide +kernel)
theorem dX12_sale_141 : decode cX12_sale 141 = .ok (.goto 9, 3) := dk_o167 (by decide +kernel)
theorem dX12_sale_144 : decode cX12_sale 144 = .ok (.iload 5, 2) := dk_o21 (by decide +kernel)
theorem dX12_sale_146 : decode cX12_sale 146 = .ok (.istore_n 3, 1) := dk_o62 (by decide +kernel)
theorem dX12_sale_147 : decode cX12_sale 147 = .ok (.iload 4, 2) := dk_o21 (by decide +kernel)
theorem dX12_sale_149 : decode cX12_sale 149 = .ok (.istore_n 2, 1) := dk_o61 (by decide +kernel)
theorem dX12_sale_150 : decode cX12_sale 150 = .ok (.iinc 4 1, 3) := dk_o132 (by decide +kernel)
theorem dX12_sale_153 : decode cX12_sale 153 = .ok (.goto (-135), 3) := dk_o167 (by decide +kernel)
theorem dX12_sale_156 : decode cX12_sale 156 = .ok (.iload_n 1, 1) := dk_o27 (by decide +kernel)
theorem dX12_sale_157 : decode cX12_sale 157 = .ok (.ifCond .ne 7, 3) := dk_o154 (by decide +kernel)
theorem dX12_sale_160 : decode cX12_sale 160 = .ok (.iload_n 2, 1) := dk_o28 (by decide +kernel)
theorem dX12_sale_161 : decode cX12_sale 161 = .ok (.goto 4, 3) := dk_o167 (by decide +kernel)
theorem dX12_sale_164 : decode cX12_sale 164 = .ok (.iload_n 3, 1) := dk_o29 (by decide +kernel)
theorem dX12_sale_165 : decode cX12_sale 165 = .ok (.ireturn, 1) := dk_o172 (by decide +kernel)
theorem wB_1222 : Cond.code yX12_slot cX12_slot 2 (some .int) ∈ dgB := List.mem_filter.mpr ⟨tbl_8 _ (List.mem_of_getElem? (i := 122) rfl), rfl⟩
theorem wB_1223 : Cond.methodLink RX12 430 yX12_slot ∈ dgB := List.mem_filter.mpr ⟨tbl_8 _ (List.mem_of_getElem? (i := 119) (by decide +kernel)), by decide +kernel⟩
theorem wB_1224 : Cond.instanceMethod yX12_slot ∈ dgB := List.mem_filter.mpr ⟨tbl_8 _ (List.mem_of_getElem? (i := 121) (by decide +kernel)), by decide +kernel⟩
theorem wB_1225 : Cond.selects RX12 yX12_slot yX12_slot ∈ dgB := List.mem_filter.mpr ⟨List.mem_of_getElem? (i := 115) (by decide +kernel), by decide +kernel⟩
theorem wB_1226 : Cond.code yX12_copies cX12_copies 4 none ∈ dgB := List.mem_filter.mpr ⟨tbl_8 _ (List.mem_of_getElem? (i := 126) rfl), rfl⟩
theorem wB_1227 : Cond.methodLink RX12 433 yX12_copies ∈ dgB := List.mem_filter.mpr ⟨tbl_8 _ (List.mem_of_getElem? (i := 123) (by decide +kernel)), by decide +kernel⟩
theorem wB_1228 : Cond.instanceMethod yX12_copies ∈ dgB := List.mem_filter.mpr ⟨tbl_8 _ (List.mem_of_getElem? (i := 125) (by decide +kernel)), by decide +kernel⟩
theorem wB_1229 : Cond.selects RX12 yX12_copies yX12_copies ∈ dgB := List.mem_filter.mpr ⟨List.mem_of_getElem? (i := 116) (by decide +kernel), by decide +kernel⟩
theorem wB_1230 : Cond.code yX12_ticks cX12_ticks 3 (some .int) ∈ dgB := List.mem_filter.mpr ⟨tbl_9 _ (List.mem_of_getElem? (i := 28) rfl), rfl⟩
theorem wB_1231 : Cond.methodLink RX12 538 yX12_ticks ∈ dgB := List.mem_filter.mpr ⟨tbl_9 _ (List.mem_of_getElem? (i := 25) (by decide +kernel)), by decide +kernel⟩
theorem wB_1232 : Cond.instanceMethod yX12_ticks ∈ dgB := List.mem_filter.mpr ⟨tbl_9 _ (List.mem_of_getElem? (i := 27) (by decide +kernel)), by decide +kernel⟩
theorem wB_1233 : Cond.selects RX12 yX12_ticks yX12_ticks ∈ dgB := List.mem_filter.mpr ⟨List.mem_of_getElem? (i := 138) (by decide +kernel), by decide +kernel⟩
theorem wB_1234 : Cond.code yX12_isAhead cX12_isAhead 4 (some .boolean) ∈ dgB := List.mem_filter.mpr ⟨tbl_9 _ (List.mem_of_getElem? (i := 20) rfl), rfl⟩
theorem wB_1235 : Cond.methodLink RX12 541 yX12_isAhead ∈ dgB := List.mem_filter.mpr ⟨tbl_9 _ (List.mem_of_getElem? (i := 17) (by decide +kernel)), by decide +kernel⟩
theorem wB_1236 : Cond.instanceMethod yX12_isAhead ∈ dgB := List.mem_filter.mpr ⟨tbl_9 _ (List.mem_of_getElem? (i := 19) (by decide +kernel)), by decide +kernel⟩
theorem wB_1237 : Cond.selects RX12 yX12_isAhead yX12_isAhead ∈ dgB := List.mem_filter.mpr ⟨List.mem_of_getElem? (i := 136) (by decide +kernel), by decide +kernel⟩
theorem wB_1238 : Cond.code yX12_runsOn cX12_runsOn 3 none ∈ dgB := List.mem_filter.mpr ⟨tbl_9 _ (List.mem_of_getElem? (i := 24) rfl), rfl⟩
theorem wB_1239 : Cond.methodLink RX12 544 yX12_runsOn ∈ dgB := List.mem_filter.mpr ⟨tbl_9 _ (List.mem_of_getElem? (i := 21) (by decide +kernel)), by decide +kernel⟩
theorem wB_1240 : Cond.instanceMethod yX12_runsOn ∈ dgB := List.mem_filter.mpr ⟨tbl_9 _ (List.mem_of_getElem? (i := 23) (by decide +kernel)), by decide +kernel⟩
theorem wB_1241 : Cond.selects RX12 yX12_runsOn yX12_runsOn ∈ dgB := List.mem_filter.mpr ⟨List.mem_of_getElem? (i := 137) (by decide +kernel), by decide +kernel⟩
theorem wB_1242 : Cond.code yX12_canHang cX12_canHang 2 (some .boolean) ∈ dgB := List.mem_filter.mpr ⟨tbl_9 _ (List.mem_of_getElem? (i := 61) rfl), rfl⟩
theorem wB_1243 : Cond.methodLink RX12 547 yX12_canHang ∈ dgB := List.mem_filter.mpr ⟨tbl_9 _ (List.mem_of_getElem? (i := 58) (by decide +kernel)), by decide +kernel⟩
theorem wB_1244 : Cond.instanceMethod yX12_canHang ∈ dgB := List.mem_filter.mpr ⟨tbl_9 _ (List.mem_of_getElem? (i := 60) (by decide +kernel)), by decide +kernel⟩
theorem wB_1245 : Cond.selects RX12 yX12_canHang yX12_canHang ∈ dgB := List.mem_filter.mpr ⟨List.mem_of_getElem? (i := 143) (by decide +kernel), by decide +kernel⟩
theorem wB_1246 : Cond.code yX12_changes cX12_changes 3 none ∈ dgB := List.mem_filter.mpr ⟨tbl_9 _ (List.mem_of_getElem? (i := 69) rfl), rfl⟩
theorem wB_1247 : Cond.methodLink RX12 550 yX12_changes ∈ dgB := List.mem_filter.mpr ⟨tbl_9 _ (List.mem_of_getElem? (i := 66) (by decide +kernel)), by decide +kernel⟩
theorem wB_1248 : Cond.instanceMethod yX12_changes ∈ dgB := List.mem_filter.mpr ⟨tbl_9 _ (List.mem_of_getElem? (i := 68) (by decide +kernel)), by decide +kernel⟩
theorem wB_1249 : Cond.selects RX12 yX12_changes yX12_changes ∈ dgB := List.mem_filter.mpr ⟨List.mem_of_getElem? (i := 144) (by decide +kernel), by decide +kernel⟩
theorem wB_1250 : Cond.code yX12_areTubs cX12_areTubs 5 (some .boolean) ∈ dgB := List.mem_filter.mpr ⟨tbl_9 _ (List.mem_of_getElem? (i := 77) rfl), rfl⟩
theorem wB_1251 : Cond.methodLink RX12 553 yX12_areTubs ∈ dgB := List.mem_filter.mpr ⟨tbl_9 _ (List.mem_of_getElem? (i := 74) (by decide +kernel)), by decide +kernel⟩
theorem wB_1252 : Cond.instanceMethod yX12_areTubs ∈ dgB := List.mem_filter.mpr ⟨tbl_9 _ (List.mem_of_getElem? (i := 76) (by decide +kernel)), by decide +kernel⟩
theorem wB_1253 : Cond.selects RX12 yX12_areTubs yX12_areTubs ∈ dgB := List.mem_filter.mpr ⟨List.mem_of_getElem? (i := 145) (by decide +kernel), by decide +kernel⟩
noncomputable def F_m_keeps_J1 (o : Nat) (S_23 : dg_S) (x_9 : Int32) : dg_S := let x_25 : Int32 := F_m_slot o S_23 x_9; let S_28 : dg_S := F_m_copies o S_23 x_25 (0 : Int32); let x_32 : Int32 := S_28.2.1 29 (0 : Int32).toNatClampNeg; let x_30 : Int32 := S_28.2.1 29 (x_25 : Int32).toNatClampNeg; let x_35 : Int32 := x_9 + (1 : Int32); let S_36 : dg_S := dg_uF S_28 0 61 (.int x_35); (S_36)
noncomputable def F_m_keeps (o : Nat) (S : dg_S) : dg_S := let z0 : Int32 := S.2.1 29 (0 : Int32).toNatClampNeg; let x_1 : Int32 := zI S 0 61; (if x_1 = (20 : Int32) then let x_38 : Int32 := zI S 0 60; let x_39 : Int32 := x_38 + (1 : Int32); let x_40 : Int32 := x_39 - x_39 / (20 : Int32) * (20 : Int32); let S_41 : dg_S := dg_uF S 0 60 (.int x_40); let x_42 : Int32 := x_1 - (1 : Int32); let S_43 : dg_S := dg_uF S_41 0 61 (.int x_42); (F_m_keeps_J1 o S_43 x_42) else (F_m_keeps_J1 o S x_1))
theorem F_m_keeps_p0 {o : Nat} {S_23 : dg_S} {x_9 : Int32} {S_36 : dg_S} {x_25 : Int32} {S_28 : dg_S} {x_35 : Int32} (h0 : x_25 = F_m_slot o S_23 x_9) (h1 : S_28 = F_m_copies o S_23 x_25 (0 : Int32)) (h2 : x_35 = x_9 + (1 : Int32)) (h3 : S_36 = dg_uF S_28 0 61 (.int x_35)) : F_m_keeps_J1 o S_23 x_9 = S_36 := by
  replace h0 := Eq.symm h0
  subst h0
  replace h1 := Eq.symm h1
  subst h1
  replace h2 := Eq.symm h2
  subst h2
  replace h3 := Eq.symm h3
  subst h3
  exact rfl
theorem F_m_keeps_p1 {o : Nat} {S : dg_S} {x_1 : Int32} (h0 : x_1 = zI S 0 61) (h1 : ¬ (x_1 = (20 : Int32))) : F_m_keeps o S = F_m_keeps_J1 o S x_1 := by
  replace h0 := Eq.symm h0
  subst h0
  exact (Eq.trans (if_neg h1) rfl)
theorem F_m_keeps_p2 {o : Nat} {S : dg_S} {S_43 : dg_S} {x_42 : Int32} {x_1 : Int32} {x_38 : Int32} {x_39 : Int32} {x_40 : Int32} {S_41 : dg_S} (h0 : x_1 = zI S 0 61) (h1 : x_1 = (20 : Int32)) (h2 : x_38 = zI S 0 60) (h3 : x_39 = x_38 + (1 : Int32)) (h4 : x_40 = x_39 - x_39 / (20 : Int32) * (20 : Int32)) (h5 : S_41 = dg_uF S 0 60 (.int x_40)) (h6 : x_42 = x_1 - (1 : Int32)) (h7 : S_43 = dg_uF S_41 0 61 (.int x_42)) : F_m_keeps o S = F_m_keeps_J1 o S_43 x_42 := by
  replace h0 := Eq.symm h0
  subst h0
  replace h2 := Eq.symm h2
  subst h2
  replace h3 := Eq.symm h3
  subst h3
  replace h4 := Eq.symm h4
  subst h4
  replace h5 := Eq.symm h5
  subst h5
  replace h6 := Eq.symm h6
  subst h6
  replace h7 := Eq.symm h7
  subst h7
  exact (Eq.trans (if_pos h1) rfl)
set_option maxHeartbeats 8000000 in
set_option maxRecDepth 100000 in
theorem c_m_keeps (l : Launch) (g : Nat → ClassId) (D : va_G) (o : Nat) (S : dg_S) (z0 : Int32) (f_z0 : S.2.1 29 (0 : Int32).toNatClampNeg = z0) (b_z0 : 0 ≤ (z0).toInt ∧ (z0).toInt ≤ 999) (ZB : ZBM S) (ZS : ZSM S) (I : CM o S) (sz : Nat) : Met l yX12_keeps (bw yX12_keeps cX12_keeps 1 none) ({ frames := 2, cells := 0, slots := 0, locals := 55 } : Room) (dk_Pc g D (dg_w g shM o rfM S) sz [.ref (o + 0)]) (va_Qv (fun S' => CM o S' ∧ dg_sm shM [(0, 60), (0, 61)] [29, 30, 31, 32, 33, 34, 35, 36, 37, 38, 39] S S' ∧ (∀ x9 : Int32, S'.2.1 29 (0 : Int32).toNatClampNeg = x9 → ((x9).toInt = (z0).toInt)) ∧ ZSM S' ∧ (S' = F_m_keeps o S) ∧ True) (dg_B g D shM o rfM) (dg_A o shM.length sz)) 0 0 (dg_A o shM.length sz) := by
  refine dg_met (cc := cX12_keeps) (maxL := 1) (ret := none) (dk_dq rfl) rfl (Nat.le_of_ble_eq_true rfl) ?_
  intro p e s m args below meth c A hAe harg hx hb hr hml hts hown hlocks hin hP K hS hA1 hA ST hsz ls hl
  rw [← hAe]
  have F : CallFix p m c cX12_keeps 1 s args (bw yX12_keeps cX12_keeps 1 none) RX12 := ⟨hx, hb, hml, hown, hts⟩
  have hl : lv_has ls 1 [(0, .ref (o + 0))] := hl
  have M_0 : dg_sm shM [(0, 60), (0, 61)] [29, 30, 31, 32, 33, 34, 35, 36, 37, 38, 39] S S := dg_sm.rf
  refine lv_aload_n hx hb dX12_keeps_0 rfl (lv_at hl 0 rfl) ?_
  obtain ⟨x_1, f_x_1, b_x_1⟩ := dg_I.int (i := 0) (k := 61) (lo := 0) (hi := 20) I sM_0 (by decide +kernel)
  refine dg_get (C := RX12) (T := TX12) (N := 77) hx hb hts (fun w h => bw_mem (wU_X12 w h)) hown K hP sM_0 rfl 61 (dk_dq rfl) (hts _ (bw_mem wB_1192)) (fun _ h9 => h9) (v := .int x_1) f_x_1 dX12_keeps_1 ?_
  refine lv_bipush (v := 20) hx hb dX12_keeps_4 (by decide +kernel) ?_
  have J_24 : ∀ (x_9 : Int32), (0 ≤ (x_9).toInt ∧ (x_9).toInt ≤ 19) → ∀ S_23 : dg_S, CM o S_23 → dg_sm shM [(0, 60), (0, 61)] [29, 30, 31, 32, 33, 34, 35, 36, 37, 38, 39] S S_23 → S_23.1 0 61 = .int x_9 → S_23.2.1 29 (0 : Int32).toNatClampNeg = z0 → ZSM S_23 → (F_m_keeps o S = F_m_keeps_J1 o S_23 x_9) → ∀ (H : Heap) (locs : List Loc), va_P D vwCl (dg_w g shM o rfM S_23) H → va_S A s.heap H locs → ∀ ls : Array Slot, lv_has ls 1 [(0, .ref (o + 0))] → W p l e ({ frames := 2, cells := 0, slots := 0, locals := 55 } : Room) s m args below meth c H locs 0 0 (MQ below (va_Qv (fun S' => CM o S' ∧ dg_sm shM [(0, 60), (0, 61)] [29, 30, 31, 32, 33, 34, 35, 36, 37, 38, 39] S S' ∧ (∀ x9 : Int32, S'.2.1 29 (0 : Int32).toNatClampNeg = x9 → ((x9).toInt = (z0).toInt)) ∧ ZSM S' ∧ (S' = F_m_keeps o S) ∧ True) (dg_B g D shM o rfM) A) args s 0 0 A) (F0 m 32 ls []) := by
    as_aux_lemma =>
      intro x_9 b_x_9 S_23 I_23 M_23 ff_23_61_0 frw_23_0 ZS_23 hF_1 H locs hP hS ls hl
      refine lv_aload_n hx hb dX12_keeps_32 rfl (lv_at hl 0 rfl) ?_
      refine lv_aload_n hx hb dX12_keeps_33 rfl (lv_at hl 0 rfl) ?_
      refine lv_aload_n hx hb dX12_keeps_34 rfl (lv_at hl 0 rfl) ?_
      refine dg_get (C := RX12) (T := TX12) (N := 77) hx hb hts (fun w h => bw_mem (wU_X12 w h)) hown K hP sM_0 rfl 61 (dk_dq rfl) (hts _ (bw_mem wB_1192)) (fun _ h9 => h9) (v := .int x_9) ff_23_61_0 dX12_keeps_35 ?_
      refine dg_calli hS hA1 hA (va_runV (As := [.int x_9]) (rest := [.ref (o + 0)]) F (c_m_slot l g D o S_23 x_9 (by omega) I_23 H.size) (cwV 1 hts (bw_V wB_1223 wB_1224 wB_1225 wB_297 wB_1222) rfl rfl rfl (by decide +kernel) ⟨Nat.le_of_ble_eq_true rfl, Nat.le_of_ble_eq_true rfl⟩) (dg_preV sM_0 rfl K ST hP hS hA1 hA) rfl rfl hl.1 rfl (lv_room (Nat.le_of_ble_eq_true rfl)) dX12_keeps_38 ⟨Nat.le_of_ble_eq_true rfl, Nat.le_of_ble_eq_true rfl⟩) (fun x_25 S_26 hw_26 H locs hP hS => ?_)
      rw [hw_26.1] at hP
      obtain ⟨hq_26, w_26_0, w_26_1, -⟩ := hw_26
      have w_26_0 : 2 ≤ (x_25).toInt ∧ (x_25).toInt ≤ 21 := w_26_0
      refine lv_iconst (v := 0) hx hb dX12_keeps_41 (by decide +kernel) ?_
      have hz_27 : (0 : Int32).toInt = 0 := by decide +kernel
      refine dg_callv hS hA1 hA (va_runV (As := [.int x_25, .int 0]) (rest := []) F (c_m_copies l g D o S_23 x_25 (by omega) 0 (by decide +kernel) z0 frw_23_0 (by omega) z0 frw_23_0 (by omega) (by omega) ZS_23 I_23 H.size) (cwV 2 hts (bw_V wB_1227 wB_1228 wB_1229 wB_297 wB_1226) rfl rfl rfl (by decide +kernel) ⟨Nat.le_of_ble_eq_true rfl, Nat.le_of_ble_eq_true rfl⟩) (dg_preV sM_0 rfl K ST hP hS hA1 hA) rfl rfl hl.1 rfl (lv_room (Nat.le_of_ble_eq_true rfl)) dX12_keeps_42 ⟨Nat.le_of_ble_eq_true rfl, Nat.le_of_ble_eq_true rfl⟩) (fun S_28 hw_28 H locs hP hS => ?_)
      obtain ⟨I_28, m_28, w_28_0, w_28_1, w_28_2, w_28_3, -⟩ := hw_28
      have M_28 := dg_sm.tr M_23 m_28 (dk_dq rfl) (dk_dq rfl)
      have hz_29 : (0 : Int32).toInt = 0 := by decide +kernel
      obtain ⟨x_30, f_x_30⟩ : ∃ x, S_28.2.1 29 (x_25 : Int32).toNatClampNeg = x := ⟨_, rfl⟩
      have hin_31 : vp_in (x_25 : Int32) 22 := (dk_inv2 (by omega))
      have b_x_30 := dk_all_at (dg_I.row (lo := 0) (hi := 2000) I_28 sM_29 (by decide +kernel)) hin_31 f_x_30.symm
      have ex_30 := f_x_30.symm
      have zs_x_30 : (x_25 : Int32).toInt ≠ 1 → (x_30).toInt ≤ 999 := fun h => by rw [ex_30]; exact w_28_2 _ (dk_inT hin_31).2 (fun q => by have h9 := (dk_inT hin_31).1; omega)
      have w_28_0 : (x_30).toInt = (z0).toInt := w_28_0 x_30 f_x_30
      obtain ⟨x_32, f_x_32⟩ : ∃ x, S_28.2.1 29 (0 : Int32).toNatClampNeg = x := ⟨_, rfl⟩
      have hin_33 : vp_in (0 : Int32) 22 := (dk_in (by decide +kernel))
      have b_x_32 := dk_all_at (dg_I.row (lo := 0) (hi := 2000) I_28 sM_29 (by decide +kernel)) hin_33 f_x_32.symm
      have ex_32 := f_x_32.symm
      have hz_34 : (0 : Int32).toInt = 0 := by decide +kernel
      have zs_x_32 : (0 : Int32).toInt ≠ 1 → (x_32).toInt ≤ 999 := fun h => by rw [ex_32]; exact w_28_2 _ (dk_inT hin_33).2 (fun q => by have h9 := (dk_inT hin_33).1; omega)
      have w_28_1 : (x_25).toInt ≠ 0 → (x_32).toInt = (z0).toInt := w_28_1 x_32 f_x_32
      refine lv_aload_n hx hb dX12_keeps_45 rfl (lv_at hl 0 rfl) ?_
      refine lv_dup hx hb dX12_keeps_46 rfl ?_
      refine dg_get (C := RX12) (T := TX12) (N := 77) hx hb hts (fun w h => bw_mem (wU_X12 w h)) hown K hP sM_0 rfl 61 (dk_dq rfl) (hts _ (bw_mem wB_1192)) (fun _ h9 => h9) (v := .int x_9) ((m_28.1 0 61 _ sM_0 (dk_dq rfl)).trans ff_23_61_0) dX12_keeps_47 ?_
      refine lv_iconst (v := 1) hx hb dX12_keeps_50 (by decide +kernel) ?_
      refine lv_iadd hx hb dX12_keeps_51 ?_
      refine lv_topi (fun x_35 ex_35 => ?_)
      have jx_35 : (x_35).toInt = (x_9).toInt + 1 := by rw [ex_35]; exact dk_addT2 rfl (by decide +kernel) (by omega)
      refine dg_put (ci := 12) (v := .int x_35) (ty := tyX12 61) (C := RX12) (T := TX12) (N := 77) hx hb hts (fun w h => bw_mem (wU_X12 w h)) tyX12 tyX12_ok nmX12 hown K hP hS hA1 sM_0 rfl 61 (dk_dq rfl) (hts _ (bw_mem wB_1192)) (fun _ h9 => h9) rfl (by decide +kernel) rfl rfl dX12_keeps_52 (fun S_36 e_36 H locs hP hS => ?_)
      have I_36 := dg_I.uFi (lo := 0) (hi := 20) I_28 e_36 sM_0 (by decide +kernel) (show 0 ≤ (x_35).toInt ∧ (x_35).toInt ≤ 20 from (by omega))
      have M_36 := dg_sm.uF M_28 e_36 sM_0 (dk_dq rfl)
      refine W.widen (k := 0) (n := 0) (Nat.le_of_ble_eq_true rfl) (Nat.le_of_ble_eq_true rfl) ?_
      exact dg_vret hx hb hr hlocks hP hS ⟨I_36, M_36, (fun x9 h9 => by obtain rfl := (((congrFun (dg_uF_f e_36 29) _).trans f_x_32)).symm.trans h9; omega), (ZSM.keep w_28_2 (dg_sm.uF (WF := [(0, 61)]) (WA := []) dg_sm.rf e_36 sM_0 (dk_dq rfl)) (dk_dq rfl)), (Eq.symm (Eq.trans hF_1 (F_m_keeps_p0 w_26_1 w_28_3 ex_35 e_36))), trivial⟩ dX12_keeps_55
  refine lv_icmp_ne (tgt := 32) hx hb dX12_keeps_6 (dk_dq rfl) (fun c_37 => ?_) (fun c_37 => ?_)
  · have jc_37 := dk_neqc (k := 20) (by decide +kernel) c_37
    exact J_24 x_1 (by omega) S I M_0 f_x_1 f_z0 ZS (F_m_keeps_p1 (zI_eq f_x_1) c_37) _ _ hP hS _ (lv_sub hl [0] rfl)
  · as_aux_lemma =>
      have jc_37 := dk_eqc (k := 20) (by decide +kernel) c_37
      refine lv_aload_n hx hb dX12_keeps_9 rfl (lv_at hl 0 rfl) ?_
      refine lv_aload_n hx hb dX12_keeps_10 rfl (lv_at hl 0 rfl) ?_
      obtain ⟨x_38, f_x_38, b_x_38⟩ := dg_I.int (i := 0) (k := 60) (lo := 0) (hi := 19) I sM_0 (by decide +kernel)
      refine dg_get (C := RX12) (T := TX12) (N := 77) hx hb hts (fun w h => bw_mem (wU_X12 w h)) hown K hP sM_0 rfl 60 (dk_dq rfl) (hts _ (bw_mem wB_1126)) (fun _ h9 => h9) (v := .int x_38) f_x_38 dX12_keeps_11 ?_
      refine lv_iconst (v := 1) hx hb dX12_keeps_14 (by decide +kernel) ?_
      refine lv_iadd hx hb dX12_keeps_15 ?_
      refine lv_topi (fun x_39 ex_39 => ?_)
      have jx_39 : (x_39).toInt = (x_38).toInt + 1 := by rw [ex_39]; exact dk_addT2 rfl (by decide +kernel) (by omega)
      refine lv_bipush (v := 20) hx hb dX12_keeps_16 (by decide +kernel) ?_
      refine lv_irem hx hb dX12_keeps_18 (by decide +kernel) ?_
      refine lv_topi (fun x_40 ex_40 => ?_)
      have jx_40 : (x_40).toInt = (x_39).toInt % 20 := by rw [ex_40]; exact dk_remL (by omega) (by decide +kernel) (dk_dq rfl)
      refine dg_put (ci := 12) (v := .int x_40) (ty := tyX12 60) (C := RX12) (T := TX12) (N := 77) hx hb hts (fun w h => bw_mem (wU_X12 w h)) tyX12 tyX12_ok nmX12 hown K hP hS hA1 sM_0 rfl 60 (dk_dq rfl) (hts _ (bw_mem wB_1126)) (fun _ h9 => h9) rfl (by decide +kernel) rfl rfl dX12_keeps_19 (fun S_41 e_41 H locs hP hS => ?_)
      have I_41 := dg_I.uFi (lo := 0) (hi := 19) I e_41 sM_0 (by decide +kernel) (show 0 ≤ (x_40).toInt ∧ (x_40).toInt ≤ 19 from (by omega))
      have M_41 := dg_sm.uF M_0 e_41 sM_0 (dk_dq rfl)
      refine lv_aload_n hx hb dX12_keeps_22 rfl (lv_at hl 0 rfl) ?_
      refine lv_dup hx hb dX12_keeps_23 rfl ?_
      refine dg_get (C := RX12) (T := TX12) (N := 77) hx hb hts (fun w h => bw_mem (wU_X12 w h)) hown K hP sM_0 rfl 61 (dk_dq rfl) (hts _ (bw_mem wB_1192)) (fun _ h9 => h9) (v := .int x_1) ((dg_uF_ne e_41 (fun z => absurd z.2 (dk_dq rfl))).trans f_x_1) dX12_keeps_24 ?_
      refine lv_iconst (v := 1) hx hb dX12_keeps_27 (by decide +kernel) ?_
      refine lv_isub hx hb dX12_keeps_28 ?_
      refine lv_topi (fun x_42 ex_42 => ?_)
      have jx_42 : (x_42).toInt = (x_1).toInt - 1 := by rw [ex_42]; exact dk_subT2 rfl (by decide +kernel) (by omega)
      refine dg_put (ci := 12) (v := .int x_42) (ty := tyX12 61) (C := RX12) (T := TX12) (N := 77) hx hb hts (fun w h => bw_mem (wU_X12 w h)) tyX12 tyX12_ok nmX12 hown K hP hS hA1 sM_0 rfl 61 (dk_dq rfl) (hts _ (bw_mem wB_1192)) (fun _ h9 => h9) rfl (by decide +kernel) rfl rfl dX12_keeps_29 (fun S_43 e_43 H locs hP hS => ?_)
      have I_43 := dg_I.uFi (lo := 0) (hi := 20) I_41 e_43 sM_0 (by decide +kernel) (show 0 ≤ (x_42).toInt ∧ (x_42).toInt ≤ 20 from (by omega))
      have M_43 := dg_sm.uF M_41 e_43 sM_0 (dk_dq rfl)
      exact J_24 x_42 (by omega) S_43 I_43 M_43 (dg_uF_at e_43) ((congrFun ((dg_uF_f e_43 29).trans (dg_uF_f e_41 29)) _).trans f_z0) (ZSM.keep (ZSM.keep ZS (dg_sm.uF (WF := [(0, 60)]) (WA := []) dg_sm.rf e_41 sM_0 (dk_dq rfl)) (dk_dq rfl)) (dg_sm.uF (WF := [(0, 61)]) (WA := []) dg_sm.rf e_43 sM_0 (dk_dq rfl)) (dk_dq rfl)) (F_m_keeps_p2 (zI_eq f_x_1) c_37 (zI_eq f_x_38) ex_39 ex_40 e_41 ex_42 e_43) _ _ hP hS _ (lv_sub hl [0] rfl)
noncomputable def F_m_undo (o : Nat) (S : dg_S) : dg_S × Int32 := let x_1 : Int32 := zI S 0 61; (if x_1 = (0 : Int32) then let S_23 : dg_S := (F_m_refuses o S (4 : Int32)).1; let x_22 : Int32 := (F_m_refuses o S (4 : Int32)).2; (S_23, (0 : Int32)) else let x_3 : Int32 := x_1 - (1 : Int32); let S_4 : dg_S := dg_uF S 0 61 (.int x_3); let x_5 : Int32 := F_m_slot o S_4 x_3; let x_8 : Int32 := S_4.2.1 29 (x_5 : Int32).toNatClampNeg; let x_10 : Int32 := S_4.2.1 29 (0 : Int32).toNatClampNeg; let S_13 : dg_S := F_m_copies o S_4 (0 : Int32) x_5; let x_15 : Int32 := S_13.2.1 29 (0 : Int32).toNatClampNeg; (S_13, (1 : Int32)))
theorem F_m_undo_p0 {o : Nat} {S : dg_S} {S_13 : dg_S} {x_1 : Int32} {x_3 : Int32} {S_4 : dg_S} {x_5 : Int32} (h0 : x_1 = zI S 0 61) (h1 : ¬ (x_1 = (0 : Int32))) (h2 : x_3 = x_1 - (1 : Int32)) (h3 : S_4 = dg_uF S 0 61 (.int x_3)) (h4 : x_5 = F_m_slot o S_4 x_3) (h5 : S_13 = F_m_copies o S_4 (0 : Int32) x_5) : F_m_undo o S = (S_13, (1 : Int32)) := by
  replace h0 := Eq.symm h0
  subst h0
  replace h2 := Eq.symm h2
  subst h2
  replace h3 := Eq.symm h3
  subst h3
  replace h4 := Eq.symm h4
  subst h4
  replace h5 := Eq.symm h5
  subst h5
  exact (Eq.trans (if_neg h1) rfl)
theorem F_m_undo_p1 {o : Nat} {S : dg_S} {S_23 : dg_S} {x_1 : Int32} (h0 : x_1 = zI S 0 61) (h1 : x_1 = (0 : Int32)) (h2 : S_23 = (F_m_refuses o S (4 : Int32)).1) : F_m_undo o S = (S_23, (0 : Int32)) := by
  replace h0 := Eq.symm h0
  subst h0
  replace h2 := Eq.symm h2
  subst h2
  exact (Eq.trans (if_pos h1) rfl)
set_option maxHeartbeats 8000000 in
set_option maxRecDepth 100000 in
theorem c_m_undo (l : Launch) (g : Nat → ClassId) (D : va_G) (o : Nat) (S : dg_S) (ZB : ZBM S) (ZS : ZSM S) (I : CM o S) (sz : Nat) : Met l yX12_undo (bw yX12_undo cX12_undo 1 (some .boolean)) ({ frames := 2, cells := 0, slots := 0, locals := 55 } : Room) (dk_Pc g D (dg_w g shM o rfM S) sz [.ref (o + 0)]) (va_Qi (fun (r : Int32) S' => CM o S' ∧ dg_sm shM [(0, 61)] [28, 29, 30, 31, 32, 33, 34, 35, 36, 37, 38, 39] S S' ∧ (0 ≤ (r).toInt ∧ (r).toInt ≤ 1) ∧ (m_hid ((S' = (F_m_refuses o S (4 : Int32)).1 ∧ (r).toInt = 0) ∨ (S'.2.1 28 = S.2.1 28 ∧ (r).toInt ≠ 0))) ∧ ZSM S' ∧ (S' = (F_m_undo o S).1 ∧ r = (F_m_undo o S).2) ∧ True) (dg_B g D shM o rfM) (dg_A o shM.length sz)) 0 0 (dg_A o shM.length sz) := by
  refine dg_met (cc := cX12_undo) (maxL := 1) (ret := (some .boolean)) (dk_dq rfl) rfl (Nat.le_of_ble_eq_true rfl) ?_
  intro p e s m args below meth c A hAe harg hx hb hr hml hts hown hlocks hin hP K hS hA1 hA ST hsz ls hl
  rw [← hAe]
  have F : CallFix p m c cX12_undo 1 s args (bw yX12_undo cX12_undo 1 (some .boolean)) RX12 := ⟨hx, hb, hml, hown, hts⟩
  have hl : lv_has ls 1 [(0, .ref (o + 0))] := hl
  have M_0 : dg_sm shM [(0, 61)] [28, 29, 30, 31, 32, 33, 34, 35, 36, 37, 38, 39] S S := dg_sm.rf
  refine lv_aload_n hx hb dX12_undo_0 rfl (lv_at hl 0 rfl) ?_
  obtain ⟨x_1, f_x_1, b_x_1⟩ := dg_I.int (i := 0) (k := 61) (lo := 0) (hi := 20) I sM_0 (by decide +kernel)
  refine dg_get (C := RX12) (T := TX12) (N := 77) hx hb hts (fun w h => bw_mem (wU_X12 w h)) hown K hP sM_0 rfl 61 (dk_dq rfl) (hts _ (bw_mem wB_1192)) (fun _ h9 => h9) (v := .int x_1) f_x_1 dX12_undo_1 ?_
  refine lv_if_ne (tgt := 21) hx hb dX12_undo_4 (dk_dq rfl) (fun c_2 => ?_) (fun c_2 => ?_)
  · as_aux_lemma =>
      have jc_2 := dk_neqc (k := 0) (by decide +kernel) c_2
      refine lv_aload_n hx hb dX12_undo_21 rfl (lv_at hl 0 rfl) ?_
      refine lv_dup hx hb dX12_undo_22 rfl ?_
      refine dg_get (C := RX12) (T := TX12) (N := 77) hx hb hts (fun w h => bw_mem (wU_X12 w h)) hown K hP sM_0 rfl 61 (dk_dq rfl) (hts _ (bw_mem wB_1192)) (fun _ h9 => h9) (v := .int x_1) f_x_1 dX12_undo_23 ?_
      refine lv_iconst (v := 1) hx hb dX12_undo_26 (by decide +kernel) ?_
      refine lv_isub hx hb dX12_undo_27 ?_
      refine lv_topi (fun x_3 ex_3 => ?_)
      have jx_3 : (x_3).toInt = (x_1).toInt - 1 := by rw [ex_3]; exact dk_subT2 rfl (by decide +kernel) (by omega)
      refine dg_put (ci := 12) (v := .int x_3) (ty := tyX12 61) (C := RX12) (T := TX12) (N := 77) hx hb hts (fun w h => bw_mem (wU_X12 w h)) tyX12 tyX12_ok nmX12 hown K hP hS hA1 sM_0 rfl 61 (dk_dq rfl) (hts _ (bw_mem wB_1192)) (fun _ h9 => h9) rfl (by decide +kernel) rfl rfl dX12_undo_28 (fun S_4 e_4 H locs hP hS => ?_)
      have I_4 := dg_I.uFi (lo := 0) (hi := 20) I e_4 sM_0 (by decide +kernel) (show 0 ≤ (x_3).toInt ∧ (x_3).toInt ≤ 20 from (by omega))
      have M_4 := dg_sm.uF M_0 e_4 sM_0 (dk_dq rfl)
      refine lv_aload_n hx hb dX12_undo_31 rfl (lv_at hl 0 rfl) ?_
      refine lv_iconst (v := 0) hx hb dX12_undo_32 (by decide +kernel) ?_
      refine lv_aload_n hx hb dX12_undo_33 rfl (lv_at hl 0 rfl) ?_
      refine lv_aload_n hx hb dX12_undo_34 rfl (lv_at hl 0 rfl) ?_
      refine dg_get (C := RX12) (T := TX12) (N := 77) hx hb hts (fun w h => bw_mem (wU_X12 w h)) hown K hP sM_0 rfl 61 (dk_dq rfl) (hts _ (bw_mem wB_1192)) (fun _ h9 => h9) (v := .int x_3) (dg_uF_at e_4) dX12_undo_35 ?_
      refine dg_calli hS hA1 hA (va_runV (As := [.int x_3]) (rest := [.int 0, .ref (o + 0)]) F (c_m_slot l g D o S_4 x_3 (by omega) I_4 H.size) (cwV 1 hts (bw_V wB_1223 wB_1224 wB_1225 wB_297 wB_1222) rfl rfl rfl (by decide +kernel) ⟨Nat.le_of_ble_eq_true rfl, Nat.le_of_ble_eq_true rfl⟩) (dg_preV sM_0 rfl K ST hP hS hA1 hA) rfl rfl hl.1 rfl (lv_room (Nat.le_of_ble_eq_true rfl)) dX12_undo_38 ⟨Nat.le_of_ble_eq_true rfl, Nat.le_of_ble_eq_true rfl⟩) (fun x_5 S_6 hw_6 H locs hP hS => ?_)
      rw [hw_6.1] at hP
      obtain ⟨hq_6, w_6_0, w_6_1, -⟩ := hw_6
      have w_6_0 : 2 ≤ (x_5).toInt ∧ (x_5).toInt ≤ 21 := w_6_0
      have hz_7 : (0 : Int32).toInt = 0 := by decide +kernel
      obtain ⟨x_8, f_x_8⟩ : ∃ x, S_4.2.1 29 (x_5 : Int32).toNatClampNeg = x := ⟨_, rfl⟩
      have hin_9 : vp_in (x_5 : Int32) 22 := (dk_inv2 (by omega))
      have b_x_8 := dk_all_at (dg_I.row (lo := 0) (hi := 2000) I_4 sM_29 (by decide +kernel)) hin_9 f_x_8.symm
      have ex_8 := f_x_8.symm
      have zs_x_8 : (x_5 : Int32).toInt ≠ 1 → (x_8).toInt ≤ 999 := fun h => by rw [ex_8]; exact (ZSM.keep ZS (dg_sm.uF (WF := [(0, 61)]) (WA := []) dg_sm.rf e_4 sM_0 (dk_dq rfl)) (dk_dq rfl)) _ (dk_inT hin_9).2 (fun q => by have h9 := (dk_inT hin_9).1; omega)
      obtain ⟨x_10, f_x_10⟩ : ∃ x, S_4.2.1 29 (0 : Int32).toNatClampNeg = x := ⟨_, rfl⟩
      have hin_11 : vp_in (0 : Int32) 22 := (dk_in (by decide +kernel))
      have b_x_10 := dk_all_at (dg_I.row (lo := 0) (hi := 2000) I_4 sM_29 (by decide +kernel)) hin_11 f_x_10.symm
      have ex_10 := f_x_10.symm
      have hz_12 : (0 : Int32).toInt = 0 := by decide +kernel
      have zs_x_10 : (0 : Int32).toInt ≠ 1 → (x_10).toInt ≤ 999 := fun h => by rw [ex_10]; exact (ZSM.keep ZS (dg_sm.uF (WF := [(0, 61)]) (WA := []) dg_sm.rf e_4 sM_0 (dk_dq rfl)) (dk_dq rfl)) _ (dk_inT hin_11).2 (fun q => by have h9 := (dk_inT hin_11).1; omega)
      refine dg_callv hS hA1 hA (va_runV (As := [.int 0, .int x_5]) (rest := []) F (c_m_copies l g D o S_4 0 (by decide +kernel) x_5 (by omega) x_8 f_x_8 (by omega) x_10 f_x_10 (by omega) (by omega) (ZSM.keep ZS (dg_sm.uF (WF := [(0, 61)]) (WA := []) dg_sm.rf e_4 sM_0 (dk_dq rfl)) (dk_dq rfl)) I_4 H.size) (cwV 2 hts (bw_V wB_1227 wB_1228 wB_1229 wB_297 wB_1226) rfl rfl rfl (by decide +kernel) ⟨Nat.le_of_ble_eq_true rfl, Nat.le_of_ble_eq_true rfl⟩) (dg_preV sM_0 rfl K ST hP hS hA1 hA) rfl rfl hl.1 rfl (lv_room (Nat.le_of_ble_eq_true rfl)) dX12_undo_41 ⟨Nat.le_of_ble_eq_true rfl, Nat.le_of_ble_eq_true rfl⟩) (fun S_13 hw_13 H locs hP hS => ?_)
      obtain ⟨I_13, m_13, w_13_0, w_13_1, w_13_2, w_13_3, -⟩ := hw_13
      have M_13 := dg_sm.tr M_4 m_13 (dk_dq rfl) (dk_dq rfl)
      have hz_14 : (0 : Int32).toInt = 0 := by decide +kernel
      obtain ⟨x_15, f_x_15⟩ : ∃ x, S_13.2.1 29 (0 : Int32).toNatClampNeg = x := ⟨_, rfl⟩
      have hin_16 : vp_in (0 : Int32) 22 := (dk_in (by decide +kernel))
      have b_x_15 := dk_all_at (dg_I.row (lo := 0) (hi := 2000) I_13 sM_29 (by decide +kernel)) hin_16 f_x_15.symm
      have ex_15 := f_x_15.symm
      have hz_17 : (0 : Int32).toInt = 0 := by decide +kernel
      have zs_x_15 : (0 : Int32).toInt ≠ 1 → (x_15).toInt ≤ 999 := fun h => by rw [ex_15]; exact w_13_2 _ (dk_inT hin_16).2 (fun q => by have h9 := (dk_inT hin_16).1; omega)
      have w_13_0 : (x_15).toInt = (x_8).toInt := w_13_0 x_15 f_x_15
      have w_13_1 : ((0 : Int32)).toInt ≠ 0 → (x_15).toInt = (x_10).toInt := w_13_1 x_15 f_x_15
      refine lv_iconst (v := 1) hx hb dX12_undo_44 (by decide +kernel) ?_
      have hz_18 : (1 : Int32).toInt = 1 := by decide +kernel
      have hz_19 : (1 : Int32).toInt = 1 := by decide +kernel
      have hz_20 : (1 : Int32).toInt = 1 := by decide +kernel
      refine W.widen (k := 0) (n := 0) (Nat.le_of_ble_eq_true rfl) (Nat.le_of_ble_eq_true rfl) ?_
      exact dg_iret hx hb hr hlocks (by decide +kernel) hP hS ⟨I_13, M_13, (by decide +kernel), (m_hid.mk (Or.inr ⟨((m_13.2 28 _ sM_28 (dk_dq rfl)).1.trans (dg_uF_f e_4 28)), by first | omega | decide +kernel⟩)), w_13_2, ⟨congrArg Prod.fst (Eq.symm (F_m_undo_p0 (zI_eq f_x_1) c_2 ex_3 e_4 w_6_1 w_13_3)), congrArg Prod.snd (Eq.symm (F_m_undo_p0 (zI_eq f_x_1) c_2 ex_3 e_4 w_6_1 w_13_3))⟩, trivial⟩ dX12_undo_45
  · have jc_2 := dk_eqc (k := 0) (by decide +kernel) c_2
    refine lv_aload_n hx hb dX12_undo_7 rfl (lv_at hl 0 rfl) ?_
    refine lv_iconst (v := 4) hx hb dX12_undo_8 (by decide +kernel) ?_
    have hz_21 : (4 : Int32).toInt = 4 := by decide +kernel
    refine dg_calli hS hA1 hA (va_runV (As := [.int 4]) (rest := []) F (c_m_refuses l g D o S 4 (by decide +kernel) I s.heap.size) (cwV 1 hts (bw_V wB_1079 wB_1080 wB_1081 wB_297 wB_1078) rfl rfl rfl (by decide +kernel) ⟨Nat.le_of_ble_eq_true rfl, Nat.le_of_ble_eq_true rfl⟩) (dg_preV sM_0 rfl K ST hP hS hA1 hA) rfl rfl hl.1 rfl (lv_room (Nat.le_of_ble_eq_true rfl)) dX12_undo_9 ⟨Nat.le_of_ble_eq_true rfl, Nat.le_of_ble_eq_true rfl⟩) (fun x_22 S_23 hw_23 H locs hP hS => ?_)
    obtain ⟨I_23, m_23, w_23_0, w_23_1, -⟩ := hw_23
    have M_23 := dg_sm.tr M_0 m_23 (dk_dq rfl) (dk_dq rfl)
    have w_23_0 : (-1) ≤ (x_22).toInt ∧ (x_22).toInt ≤ (-1) := w_23_0
    refine lv_if_lt (tgt := 19) hx hb dX12_undo_12 (dk_dq rfl) (fun _ => ?_) (fun c => absurd (dk_ltp (k := 0) (by decide +kernel) (by omega)) c)
    refine lv_iconst (v := 0) hx hb dX12_undo_19 (by decide +kernel) ?_
    have hz_24 : (0 : Int32).toInt = 0 := by decide +kernel
    have hz_25 : (0 : Int32).toInt = 0 := by decide +kernel
    have hz_26 : (0 : Int32).toInt = 0 := by decide +kernel
    refine W.widen (k := 0) (n := 0) (Nat.le_of_ble_eq_true rfl) (Nat.le_of_ble_eq_true rfl) ?_
    exact dg_iret hx hb hr hlocks (by decide +kernel) hP hS ⟨I_23, M_23, (by decide +kernel), (m_hid.mk (Or.inl ⟨w_23_1.1, by first | omega | decide +kernel⟩)), (ZSM.keep ZS m_23 (dk_dq rfl)), ⟨congrArg Prod.fst (Eq.symm (F_m_undo_p1 (zI_eq f_x_1) c_2 w_23_1.1)), congrArg Prod.snd (Eq.symm (F_m_undo_p1 (zI_eq f_x_1) c_2 w_23_1.1))⟩, trivial⟩ dX12_undo_20
noncomputable def F_m_runsOn_B1 (a1 : Int32) (o : Nat) : (Int32 × Int32 × dg_S) → (Int32 × Int32 × dg_S) ⊕ (dg_S) := fun w9 => match w9 with | (x_55, rw_56_0, S_56) => (if a1 ≤ x_55 then (Sum.inr ((S_56))) else let S_61 : dg_S := (F_m_ticks o S_56 (1 : Int32)).1; let x_60 : Int32 := (F_m_ticks o S_56 (1 : Int32)).2; let x_63 : Int32 := S_61.2.1 29 (1 : Int32).toNatClampNeg; let x_66 : Int32 := x_55 + 1; (Sum.inl (x_66, x_63, S_61)))
noncomputable def F_m_runsOn (o : Nat) (S : dg_S) (a1 : Int32) : dg_S := let s1 : Int32 := S.2.1 29 (1 : Int32).toNatClampNeg; (lp (F_m_runsOn_B1 a1 o) S ((41 - ((0 : Int32)).toInt).toNat + 1) ((0 : Int32), s1, S))
theorem F_m_runsOn_p0 {a1 : Int32} {o : Nat} {x_55 : Int32} {rw_56_0 : Int32} {S_56 : dg_S} (h0 : a1 ≤ x_55) : (F_m_runsOn_B1 a1 o) (x_55, rw_56_0, S_56) = Sum.inr (S_56) := (Eq.trans (if_pos h0) rfl)
theorem F_m_runsOn_p1 {a1 : Int32} {o : Nat} {x_55 : Int32} {rw_56_0 : Int32} {S_56 : dg_S} {x_66 : Int32} {x_63 : Int32} {S_61 : dg_S} (h0 : ¬ (a1 ≤ x_55)) (h1 : S_61 = (F_m_ticks o S_56 (1 : Int32)).1) (h2 : x_63 = S_61.2.1 29 (1 : Int32).toNatClampNeg) (h3 : x_66 = x_55 + 1) : (F_m_runsOn_B1 a1 o) (x_55, rw_56_0, S_56) = Sum.inl (x_66, x_63, S_61) := by
  replace h1 := Eq.symm h1
  subst h1
  replace h2 := Eq.symm h2
  subst h2
  replace h3 := Eq.symm h3
  subst h3
  exact (Eq.trans (if_neg h0) rfl)
theorem F_m_runsOn_p2 {o : Nat} {S : dg_S} {a1 : Int32} {s1 : Int32} (h0 : s1 = S.2.1 29 (1 : Int32).toNatClampNeg) : F_m_runsOn o S a1 = lp (F_m_runsOn_B1 a1 o) S ((41 - ((0 : Int32)).toInt).toNat + 1) ((0 : Int32), s1, S) := by
  replace h0 := Eq.symm h0
  subst h0
  exact rfl
set_option maxHeartbeats 8000000 in
set_option maxRecDepth 100000 in
theorem c_m_runsOn (l : Launch) (g : Nat → ClassId) (D : va_G) (o : Nat) (S : dg_S) (a1 : Int32) (b_a1 : 0 ≤ (a1).toInt ∧ (a1).toInt ≤ 40) (s1 : Int32) (f_s1 : S.2.1 29 (1 : Int32).toNatClampNeg = s1) (b_s1 : 0 ≤ (s1).toInt ∧ (s1).toInt ≤ 999) (ZB : ZBM S) (ZS : ZSM S) (ZW : ZWM S) (I : CM o S) (sz : Nat) : Met l yX12_runsOn (bw yX12_runsOn cX12_runsOn 3 none) ({ frames := 9, cells := 0, slots := 0, locals := 217 } : Room) (dk_Pc g D (dg_w g shM o rfM S) sz [.ref (o + 0), .int a1]) (va_Qv (fun S' => CM o S' ∧ dg_sm shM [] [29, 31, 33, 37, 38, 39, 40, 41, 42, 43, 44] S S' ∧ ZSM S' ∧ (S' = F_m_runsOn o S a1) ∧ True) (dg_B g D shM o rfM) (dg_A o shM.length sz)) 0 0 (dg_A o shM.length sz) := by
  refine dg_met (cc := cX12_runsOn) (maxL := 3) (ret := none) (dk_dq rfl) rfl (Nat.le_of_ble_eq_true rfl) ?_
  intro p e s m args below meth c A hAe harg hx hb hr hml hts hown hlocks hin hP K hS hA1 hA ST hsz ls hl
  rw [← hAe]
  have F : CallFix p m c cX12_runsOn 3 s args (bw yX12_runsOn cX12_runsOn 3 none) RX12 := ⟨hx, hb, hml, hown, hts⟩
  have hl : lv_has ls 3 [(0, .ref (o + 0)), (1, .int a1)] := hl
  have M_0 : dg_sm shM [] [29, 31, 33, 37, 38, 39, 40, 41, 42, 43, 44] S S := dg_sm.rf
  refine lv_iconst (v := 0) hx hb dX12_runsOn_0 (by decide +kernel) ?_
  refine lv_istore_n (lv' := [(2, .int 0), (0, .ref (o + 0)), (1, .int a1)]) hx hb dX12_runsOn_1 rfl hl (dk_dq rfl) rfl (fun ls hl => ?_)
  have L_57 : ∀ (n : Nat) (x_55 : Int32), (0 ≤ (x_55).toInt ∧ (x_55).toInt ≤ 40) → ((41 - (x_55).toInt).toNat < n) → ∀ S_56 : dg_S, CM o S_56 → dg_sm shM [] [29, 31, 33, 37, 38, 39, 40, 41, 42, 43, 44] S S_56 → ∀ rw_56_0 : Int32, S_56.2.1 29 (1 : Int32).toNatClampNeg = rw_56_0 → (0 ≤ (rw_56_0).toInt ∧ (rw_56_0).toInt ≤ 2000) → ZSM S_56 → ((rw_56_0).toInt = (s1).toInt + (x_55).toInt ∧ (x_55).toInt ≤ (a1).toInt) → (F_m_runsOn o S a1 = lp (F_m_runsOn_B1 a1 o) S n (x_55, rw_56_0, S_56)) → ∀ (H : Heap) (locs : List Loc), va_P D vwCl (dg_w g shM o rfM S_56) H → va_S A s.heap H locs → ∀ ls : Array Slot, lv_has ls 3 [(2, .int x_55), (0, .ref (o + 0)), (1, .int a1)] → W p l e ({ frames := 9, cells := 0, slots := 0, locals := 217 } : Room) s m args below meth c H locs 0 0 (MQ below (va_Qv (fun S' => CM o S' ∧ dg_sm shM [] [29, 31, 33, 37, 38, 39, 40, 41, 42, 43, 44] S S' ∧ ZSM S' ∧ (S' = F_m_runsOn o S a1) ∧ True) (dg_B g D shM o rfM) A) args s 0 0 A) (F0 m 2 ls []) := by
    as_aux_lemma =>
      intro n
      induction n with
      | zero =>
        intro x_55 b_x_55 hmu S_56 I_56 M_56 rw_56_0 frw_56_0 brw_56_0 ZS_56 srel_56_0 hF_1 H locs hP hS ls hl
        omega
      | succ n ih =>
        as_aux_lemma =>
          intro x_55 b_x_55 hmu S_56 I_56 M_56 rw_56_0 frw_56_0 brw_56_0 ZS_56 srel_56_0 hF_1 H locs hP hS ls hl
          refine lv_iload_n hx hb dX12_runsOn_2 rfl (lv_at hl 0 rfl) ?_
          refine lv_iload_n hx hb dX12_runsOn_3 rfl (lv_at hl 2 rfl) ?_
          refine lv_icmp_ge (tgt := 19) hx hb dX12_runsOn_4 (dk_dq rfl) (fun c_58 => ?_) (fun c_58 => ?_)
          · have jc_58 := dk_gec (k := (a1).toInt) rfl c_58
            refine W.widen (k := 0) (n := 0) (Nat.le_of_ble_eq_true rfl) (Nat.le_of_ble_eq_true rfl) ?_
            exact dg_vret hx hb hr hlocks hP hS ⟨I_56, M_56, ZS_56, (Eq.symm (lp_r hF_1 (F_m_runsOn_p0 c_58))), trivial⟩ dX12_runsOn_19
          · as_aux_lemma =>
              have jc_58 := dk_ngec (k := (a1).toInt) rfl c_58
              refine lv_aload_n hx hb dX12_runsOn_7 rfl (lv_at hl 1 rfl) ?_
              refine lv_iconst (v := 1) hx hb dX12_runsOn_8 (by decide +kernel) ?_
              have hz_59 : (1 : Int32).toInt = 1 := by decide +kernel
              refine dg_calli hS hA1 hA (va_runV (As := [.int 1]) (rest := []) F (c_m_ticks l g D o S_56 1 (by decide +kernel) rw_56_0 frw_56_0 (by omega) (by omega) (ZBM.keep ZB M_56 (dk_dq rfl) (dk_dq rfl) (dk_dq rfl) (dk_dq rfl) (dk_dq rfl)) ZS_56 (ZWM.keep ZW M_56 (dk_dq rfl) (dk_dq rfl) (dk_dq rfl) (dk_dq rfl)) I_56 H.size) (cwV 1 hts (bw_V wB_1231 wB_1232 wB_1233 wB_297 wB_1230) rfl rfl rfl (by decide +kernel) ⟨Nat.le_of_ble_eq_true rfl, Nat.le_of_ble_eq_true rfl⟩) (dg_preV sM_0 rfl K ST hP hS hA1 hA) rfl rfl hl.1 rfl (lv_room (Nat.le_of_ble_eq_true rfl)) dX12_runsOn_9 ⟨Nat.le_of_ble_eq_true rfl, Nat.le_of_ble_eq_true rfl⟩) (fun x_60 S_61 hw_61 H locs hP hS => ?_)
              obtain ⟨I_61, m_61, w_61_0, w_61_1, w_61_2, w_61_3, -⟩ := hw_61
              have M_61 := dg_sm.tr M_56 m_61 (dk_dq rfl) (dk_dq rfl)
              have hz_62 : (1 : Int32).toInt = 1 := by decide +kernel
              have w_61_0 : 0 ≤ (x_60).toInt ∧ (x_60).toInt ≤ 1 := w_61_0
              obtain ⟨x_63, f_x_63⟩ : ∃ x, S_61.2.1 29 (1 : Int32).toNatClampNeg = x := ⟨_, rfl⟩
              have hin_64 : vp_in (1 : Int32) 22 := (dk_in (by decide +kernel))
              have b_x_63 := dk_all_at (dg_I.row (lo := 0) (hi := 2000) I_61 sM_29 (by decide +kernel)) hin_64 f_x_63.symm
              have ex_63 := f_x_63.symm
              have hz_65 : (1 : Int32).toInt = 1 := by decide +kernel
              have zs_x_63 : (1 : Int32).toInt ≠ 1 → (x_63).toInt ≤ 999 := fun h => by rw [ex_63]; exact w_61_2 _ (dk_inT hin_64).2 (fun q => by have h9 := (dk_inT hin_64).1; omega)
              have w_61_1 : (x_63).toInt = (rw_56_0).toInt + 1 := w_61_1 x_63 f_x_63
              refine lv_pop hx hb dX12_runsOn_12 rfl ?_
              obtain ⟨x_66, ex_66⟩ : ∃ z, z = x_55 + 1 := ⟨_, rfl⟩
              have jx_66 : (x_66).toInt = (x_55).toInt + 1 := by rw [ex_66]; exact dk_addT2 rfl (by decide +kernel) (by omega)
              refine lv_iinc (v := x_66) (lv' := [(2, .int x_66), (0, .ref (o + 0)), (1, .int a1)]) hx hb dX12_runsOn_13 hl (k := 0) rfl (by rw [ex_66]; rfl) (dk_dq rfl) rfl (fun ls hl => ?_)
              refine lv_goto (tgt := 2) hx hb dX12_runsOn_16 (dk_dq rfl) ?_
              exact ih x_66 (by omega) (by first | exact mu_lt hmu (by omega) (by omega) | omega) S_61 I_61 M_61 x_63 f_x_63 (by omega) w_61_2 (by omega) (lp_l hF_1 (F_m_runsOn_p1 c_58 w_61_3.1 (Eq.symm f_x_63) ex_66)) _ _ hP hS _ (lv_sub hl [0, 1, 2] rfl)
  have hz_67 : (0 : Int32).toInt = 0 := by decide +kernel
  have hz_68 : (0 : Int32).toInt = 0 := by decide +kernel
  exact L_57 ((41 - ((0 : Int32)).toInt).toNat + 1) 0 (by decide +kernel) (by first | exact mu_lt hmu (by omega) (by omega) | omega) S I M_0 s1 f_s1 (by omega) ZS (by omega) (F_m_runsOn_p2 (Eq.symm f_s1)) _ _ hP hS _ (lv_sub hl [0, 1, 2] rfl)
noncomputable def F_m_later (o : Nat) (S : dg_S) (a1 : Int32) (a2 : Int32) (a3 : Int32) : dg_S × Int32 := let x_1 : Int32 := zI S 0 13; let x_2 : Int32 := zI S 0 47; let x_3 : Int32 := S.2.1 2 (x_1 : Int32).toNatClampNeg; let x_5 : Int32 := S.2.1 3 (x_1 : Int32).toNatClampNeg; let x_7 : Int32 := F_m_isCell o S a1 a2; (if x_7 = (0 : Int32) then (S, (-1 : Int32)) else let x_13 : Int32 := S.2.1 29 (0 : Int32).toNatClampNeg; let x_16 : Int32 := F_m_isAhead o S a3 (0 : Int32) (40 : Int32); (if x_16 = (0 : Int32) then (S, (-1 : Int32)) else let S_23 : dg_S := F_m_copies o S (1 : Int32) (0 : Int32); let x_29 : Int32 := S_23.2.1 29 (0 : Int32).toNatClampNeg; let x_26 : Int32 := S_23.2.1 29 (1 : Int32).toNatClampNeg; let S_32 : dg_S := F_m_runsOn o S_23 a3; let x_33 : Int32 := (8 : Int32) * a2; let x_34 : Int32 := (64 : Int32) + x_33; let x_35 : Int32 := x_34 + a1; let x_37 : Int32 := S_32.2.1 31 (x_35 : Int32).toNatClampNeg; (S_32, x_37)))
theorem F_m_later_p0 {o : Nat} {S : dg_S} {a1 : Int32} {a2 : Int32} {a3 : Int32} {x_7 : Int32} (h0 : x_7 = F_m_isCell o S a1 a2) (h1 : x_7 = (0 : Int32)) : F_m_later o S a1 a2 a3 = (S, (-1 : Int32)) := by
  replace h0 := Eq.symm h0
  subst h0
  exact (Eq.trans (if_pos h1) rfl)
theorem F_m_later_p1 {o : Nat} {S : dg_S} {a1 : Int32} {a2 : Int32} {a3 : Int32} {S_32 : dg_S} {x_37 : Int32} {x_7 : Int32} {x_16 : Int32} {S_23 : dg_S} {x_33 : Int32} {x_34 : Int32} {x_35 : Int32} (h0 : x_7 = F_m_isCell o S a1 a2) (h1 : ¬ (x_7 = (0 : Int32))) (h2 : x_16 = F_m_isAhead o S a3 (0 : Int32) (40 : Int32)) (h3 : ¬ (x_16 = (0 : Int32))) (h4 : S_23 = F_m_copies o S (1 : Int32) (0 : Int32)) (h5 : S_32 = F_m_runsOn o S_23 a3) (h6 : x_33 = (8 : Int32) * a2) (h7 : x_34 = (64 : Int32) + x_33) (h8 : x_35 = x_34 + a1) (h9 : x_37 = S_32.2.1 31 (x_35 : Int32).toNatClampNeg) : F_m_later o S a1 a2 a3 = (S_32, x_37) := by
  replace h0 := Eq.symm h0
  subst h0
  replace h2 := Eq.symm h2
  subst h2
  replace h4 := Eq.symm h4
  subst h4
  replace h5 := Eq.symm h5
  subst h5
  replace h6 := Eq.symm h6
  subst h6
  replace h7 := Eq.symm h7
  subst h7
  replace h8 := Eq.symm h8
  subst h8
  replace h9 := Eq.symm h9
  subst h9
  exact (Eq.trans (if_neg h1) (Eq.trans (if_neg h3) rfl))
theorem F_m_later_p2 {o : Nat} {S : dg_S} {a1 : Int32} {a2 : Int32} {a3 : Int32} {x_7 : Int32} {x_16 : Int32} (h0 : x_7 = F_m_isCell o S a1 a2) (h1 : ¬ (x_7 = (0 : Int32))) (h2 : x_16 = F_m_isAhead o S a3 (0 : Int32) (40 : Int32)) (h3 : x_16 = (0 : Int32)) : F_m_later o S a1 a2 a3 = (S, (-1 : Int32)) := by
  replace h0 := Eq.symm h0
  subst h0
  replace h2 := Eq.symm h2
  subst h2
  exact (Eq.trans (if_neg h1) (Eq.trans (if_pos h3) rfl))
set_option maxHeartbeats 8000000 in
set_option maxRecDepth 100000 in
theorem c_m_later (l : Launch) (g : Nat → ClassId) (D : va_G) (o : Nat) (S : dg_S) (a1 : Int32) (a2 : Int32) (a3 : Int32) (ZB : ZBM S) (ZS : ZSM S) (ZW : ZWM S) (I : CM o S) (sz : Nat) : Met l yX12_later (bw yX12_later cX12_later 4 (some .int)) ({ frames := 10, cells := 0, slots := 0, locals := 239 } : Room) (dk_Pc g D (dg_w g shM o rfM S) sz [.ref (o + 0), .int a1, .int a2, .int a3]) (va_Qi (fun (r : Int32) S' => CM o S' ∧ dg_sm shM [] [29, 30, 31, 32, 33, 34, 35, 36, 37, 38, 39, 40, 41, 42, 43, 44] S S' ∧ ((-1) ≤ (r).toInt ∧ (r).toInt ≤ 9) ∧ ZSM S' ∧ (S' = (F_m_later o S a1 a2 a3).1 ∧ r = (F_m_later o S a1 a2 a3).2) ∧ True) (dg_B g D shM o rfM) (dg_A o shM.length sz)) 0 0 (dg_A o shM.length sz) := by
  refine dg_met (cc := cX12_later) (maxL := 4) (ret := (some .int)) (dk_dq rfl) rfl (Nat.le_of_ble_eq_true rfl) ?_
  intro p e s m args below meth c A hAe harg hx hb hr hml hts hown hlocks hin hP K hS hA1 hA ST hsz ls hl
  rw [← hAe]
  have F : CallFix p m c cX12_later 4 s args (bw yX12_later cX12_later 4 (some .int)) RX12 := ⟨hx, hb, hml, hown, hts⟩
  have hl : lv_has ls 4 [(0, .ref (o + 0)), (1, .int a1), (2, .int a2), (3, .int a3)] := hl
  have M_0 : dg_sm shM [] [29, 30, 31, 32, 33, 34, 35, 36, 37, 38, 39, 40, 41, 42, 43, 44] S S := dg_sm.rf
  refine lv_aload_n hx hb dX12_later_0 rfl (lv_at hl 0 rfl) ?_
  refine lv_iload_n hx hb dX12_later_1 rfl (lv_at hl 1 rfl) ?_
  refine lv_iload_n hx hb dX12_later_2 rfl (lv_at hl 2 rfl) ?_
  obtain ⟨x_1, f_x_1, b_x_1⟩ := dg_I.int (i := 0) (k := 13) (lo := 0) (hi := 1) I sM_0 (by decide +kernel)
  obtain ⟨x_2, f_x_2, b_x_2⟩ := dg_I.int (i := 0) (k := 47) (lo := 0) (hi := 1) I sM_0 (by decide +kernel)
  obtain ⟨x_3, f_x_3⟩ : ∃ x, S.2.1 2 (x_1 : Int32).toNatClampNeg = x := ⟨_, rfl⟩
  have hin_4 : vp_in (x_1 : Int32) 2 := (dk_inv2 (by omega))
  have b_x_3 := dk_all_at (dg_I.row (lo := 0) (hi := 9999) I sM_2 (by decide +kernel)) hin_4 f_x_3.symm
  have ex_3 := f_x_3.symm
  have zb_x_3 : (x_3).toInt ≤ 7 ∧ ((x_2 : Int32).toInt = 1 → 3 ≤ (x_3).toInt) := by rw [ex_3]; exact ⟨(ZB x_1 x_2 f_x_1 f_x_2).1, fun h9 => ((ZB x_1 x_2 f_x_1 f_x_2).2.2.2 h9).1⟩
  obtain ⟨x_5, f_x_5⟩ : ∃ x, S.2.1 3 (x_1 : Int32).toNatClampNeg = x := ⟨_, rfl⟩
  have hin_6 : vp_in (x_1 : Int32) 2 := (dk_inv2 (by omega))
  have b_x_5 := dk_all_at (dg_I.row (lo := 0) (hi := 9999) I sM_3 (by decide +kernel)) hin_6 f_x_5.symm
  have ex_5 := f_x_5.symm
  have zb_x_5 : (x_5).toInt ≤ 7 ∧ ((x_2 : Int32).toInt = 1 → 3 ≤ (x_5).toInt) := by rw [ex_5]; exact ⟨(ZB x_1 x_2 f_x_1 f_x_2).2.1, fun h9 => ((ZB x_1 x_2 f_x_1 f_x_2).2.2.2 h9).2⟩
  refine dg_calli hS hA1 hA (va_runV (As := [.int a1, .int a2]) (rest := []) F (c_m_isCell l g D o S a1 a2 x_1 f_x_1 (by omega) x_2 f_x_2 (by omega) x_3 f_x_3 (by omega) x_5 f_x_5 (by omega) ZB I s.heap.size) (cwV 2 hts (bw_V wB_1087 wB_1088 wB_1089 wB_297 wB_1086) rfl rfl rfl (by decide +kernel) ⟨Nat.le_of_ble_eq_true rfl, Nat.le_of_ble_eq_true rfl⟩) (dg_preV sM_0 rfl K ST hP hS hA1 hA) rfl rfl hl.1 rfl (lv_room (Nat.le_of_ble_eq_true rfl)) dX12_later_3 ⟨Nat.le_of_ble_eq_true rfl, Nat.le_of_ble_eq_true rfl⟩) (fun x_7 S_8 hw_8 H locs hP hS => ?_)
  rw [hw_8.1] at hP
  obtain ⟨hq_8, w_8_0, w_8_1, w_8_2, w_8_3, -⟩ := hw_8
  have w_8_0 : 0 ≤ (x_7).toInt ∧ (x_7).toInt ≤ 1 := w_8_0
  have w_8_1 : (x_7).toInt = 1 → (0 ≤ (a1).toInt ∧ (a1).toInt ≤ 6 ∧ 0 ≤ (a2).toInt ∧ (a2).toInt ≤ 6) := w_8_1
  have w_8_2 : (x_7).toInt = 1 ↔ ((x_2).toInt = 1 ∧ 0 ≤ (a1).toInt ∧ (a1).toInt < (x_3).toInt ∧ 0 ≤ (a2).toInt ∧ (a2).toInt < (x_5).toInt) := w_8_2
  refine lv_if_eq (tgt := 20) hx hb dX12_later_6 (dk_dq rfl) (fun c_9 => ?_) (fun c_9 => ?_)
  · have jc_9 := dk_eqc (k := 0) (by decide +kernel) c_9
    refine lv_iconst (v := (-1)) hx hb dX12_later_20 (by decide +kernel) ?_
    have hz_10 : (-1 : Int32).toInt = (-1) := by decide +kernel
    refine W.widen (k := 0) (n := 0) (Nat.le_of_ble_eq_true rfl) (Nat.le_of_ble_eq_true rfl) ?_
    exact dg_iret hx hb hr hlocks rfl hP hS ⟨I, M_0, (by decide +kernel), ZS, ⟨congrArg Prod.fst (Eq.symm (F_m_later_p0 w_8_3 c_9)), congrArg Prod.snd (Eq.symm (F_m_later_p0 w_8_3 c_9))⟩, trivial⟩ dX12_later_21
  · as_aux_lemma =>
      have jc_9 := dk_neqc (k := 0) (by decide +kernel) c_9
      refine lv_aload_n hx hb dX12_later_9 rfl (lv_at hl 0 rfl) ?_
      refine lv_iload_n hx hb dX12_later_10 rfl (lv_at hl 3 rfl) ?_
      refine lv_iconst (v := 0) hx hb dX12_later_11 (by decide +kernel) ?_
      refine lv_bipush (v := 40) hx hb dX12_later_12 (by decide +kernel) ?_
      have hz_11 : (0 : Int32).toInt = 0 := by decide +kernel
      have hz_12 : (40 : Int32).toInt = 40 := by decide +kernel
      obtain ⟨x_13, f_x_13⟩ : ∃ x, S.2.1 29 (0 : Int32).toNatClampNeg = x := ⟨_, rfl⟩
      have hin_14 : vp_in (0 : Int32) 22 := (dk_in (by decide +kernel))
      have b_x_13 := dk_all_at (dg_I.row (lo := 0) (hi := 2000) I sM_29 (by decide +kernel)) hin_14 f_x_13.symm
      have ex_13 := f_x_13.symm
      have hz_15 : (0 : Int32).toInt = 0 := by decide +kernel
      have zs_x_13 : (0 : Int32).toInt ≠ 1 → (x_13).toInt ≤ 999 := fun h => by rw [ex_13]; exact ZS _ (dk_inT hin_14).2 (fun q => by have h9 := (dk_inT hin_14).1; omega)
      refine dg_calli hS hA1 hA (va_runV (As := [.int a3, .int 0, .int 40]) (rest := []) F (c_m_isAhead l g D o S a3 0 (by decide +kernel) 40 (by decide +kernel) x_2 f_x_2 (by omega) x_13 f_x_13 (by omega) I H.size) (cwV 3 hts (bw_V wB_1235 wB_1236 wB_1237 wB_297 wB_1234) rfl rfl rfl (by decide +kernel) ⟨Nat.le_of_ble_eq_true rfl, Nat.le_of_ble_eq_true rfl⟩) (dg_preV sM_0 rfl K ST hP hS hA1 hA) rfl rfl hl.1 rfl (lv_room (Nat.le_of_ble_eq_true rfl)) dX12_later_14 ⟨Nat.le_of_ble_eq_true rfl, Nat.le_of_ble_eq_true rfl⟩) (fun x_16 S_17 hw_17 H locs hP hS => ?_)
      rw [hw_17.1] at hP
      obtain ⟨hq_17, w_17_0, w_17_1, w_17_2, -⟩ := hw_17
      have hz_18 : (0 : Int32).toInt = 0 := by decide +kernel
      have hz_19 : (40 : Int32).toInt = 40 := by decide +kernel
      have w_17_0 : 0 ≤ (x_16).toInt ∧ (x_16).toInt ≤ 1 := w_17_0
      have w_17_1 : (x_16).toInt = 1 → ((x_2).toInt = 1 ∧ ((0 : Int32)).toInt ≤ (a3).toInt ∧ (a3).toInt ≤ ((40 : Int32)).toInt ∧ (x_13).toInt ≤ 999 - (a3).toInt) := w_17_1
      refine lv_if_ne (tgt := 22) hx hb dX12_later_17 (dk_dq rfl) (fun c_20 => ?_) (fun c_20 => ?_)
      · as_aux_lemma =>
          have jc_20 := dk_neqc (k := 0) (by decide +kernel) c_20
          refine lv_aload_n hx hb dX12_later_22 rfl (lv_at hl 0 rfl) ?_
          refine lv_iconst (v := 1) hx hb dX12_later_23 (by decide +kernel) ?_
          refine lv_iconst (v := 0) hx hb dX12_later_24 (by decide +kernel) ?_
          have hz_21 : (1 : Int32).toInt = 1 := by decide +kernel
          have hz_22 : (0 : Int32).toInt = 0 := by decide +kernel
          refine dg_callv hS hA1 hA (va_runV (As := [.int 1, .int 0]) (rest := []) F (c_m_copies l g D o S 1 (by decide +kernel) 0 (by decide +kernel) x_13 f_x_13 (by omega) x_13 f_x_13 (by omega) (by omega) ZS I H.size) (cwV 2 hts (bw_V wB_1227 wB_1228 wB_1229 wB_297 wB_1226) rfl rfl rfl (by decide +kernel) ⟨Nat.le_of_ble_eq_true rfl, Nat.le_of_ble_eq_true rfl⟩) (dg_preV sM_0 rfl K ST hP hS hA1 hA) rfl rfl hl.1 rfl (lv_room (Nat.le_of_ble_eq_true rfl)) dX12_later_25 ⟨Nat.le_of_ble_eq_true rfl, Nat.le_of_ble_eq_true rfl⟩) (fun S_23 hw_23 H locs hP hS => ?_)
          obtain ⟨I_23, m_23, w_23_0, w_23_1, w_23_2, w_23_3, -⟩ := hw_23
          have M_23 := dg_sm.tr M_0 m_23 (dk_dq rfl) (dk_dq rfl)
          have hz_24 : (1 : Int32).toInt = 1 := by decide +kernel
          have hz_25 : (0 : Int32).toInt = 0 := by decide +kernel
          obtain ⟨x_26, f_x_26⟩ : ∃ x, S_23.2.1 29 (1 : Int32).toNatClampNeg = x := ⟨_, rfl⟩
          have hin_27 : vp_in (1 : Int32) 22 := (dk_in (by decide +kernel))
          have b_x_26 := dk_all_at (dg_I.row (lo := 0) (hi := 2000) I_23 sM_29 (by decide +kernel)) hin_27 f_x_26.symm
          have ex_26 := f_x_26.symm
          have hz_28 : (1 : Int32).toInt = 1 := by decide +kernel
          have zs_x_26 : (1 : Int32).toInt ≠ 1 → (x_26).toInt ≤ 999 := fun h => by rw [ex_26]; exact w_23_2 _ (dk_inT hin_27).2 (fun q => by have h9 := (dk_inT hin_27).1; omega)
          have w_23_0 : (x_26).toInt = (x_13).toInt := w_23_0 x_26 f_x_26
          obtain ⟨x_29, f_x_29⟩ : ∃ x, S_23.2.1 29 (0 : Int32).toNatClampNeg = x := ⟨_, rfl⟩
          have hin_30 : vp_in (0 : Int32) 22 := (dk_in (by decide +kernel))
          have b_x_29 := dk_all_at (dg_I.row (lo := 0) (hi := 2000) I_23 sM_29 (by decide +kernel)) hin_30 f_x_29.symm
          have ex_29 := f_x_29.symm
          have hz_31 : (0 : Int32).toInt = 0 := by decide +kernel
          have zs_x_29 : (0 : Int32).toInt ≠ 1 → (x_29).toInt ≤ 999 := fun h => by rw [ex_29]; exact w_23_2 _ (dk_inT hin_30).2 (fun q => by have h9 := (dk_inT hin_30).1; omega)
          have w_23_1 : ((1 : Int32)).toInt ≠ 0 → (x_29).toInt = (x_13).toInt := w_23_1 x_29 f_x_29
          refine lv_aload_n hx hb dX12_later_28 rfl (lv_at hl 0 rfl) ?_
          refine lv_iload_n hx hb dX12_later_29 rfl (lv_at hl 3 rfl) ?_
          refine dg_callv hS hA1 hA (va_runV (As := [.int a3]) (rest := []) F (c_m_runsOn l g D o S_23 a3 (by omega) x_26 f_x_26 (by omega) (ZBM.keep ZB m_23 (dk_dq rfl) (dk_dq rfl) (dk_dq rfl) (dk_dq rfl) (dk_dq rfl)) w_23_2 (ZWM.keep ZW m_23 (dk_dq rfl) (dk_dq rfl) (dk_dq rfl) (dk_dq rfl)) I_23 H.size) (cwV 1 hts (bw_V wB_1239 wB_1240 wB_1241 wB_297 wB_1238) rfl rfl rfl (by decide +kernel) ⟨Nat.le_of_ble_eq_true rfl, Nat.le_of_ble_eq_true rfl⟩) (dg_preV sM_0 rfl K ST hP hS hA1 hA) rfl rfl hl.1 rfl (lv_room (Nat.le_of_ble_eq_true rfl)) dX12_later_30 ⟨Nat.le_of_ble_eq_true rfl, Nat.le_of_ble_eq_true rfl⟩) (fun S_32 hw_32 H locs hP hS => ?_)
          obtain ⟨I_32, m_32, w_32_0, w_32_1, -⟩ := hw_32
          have M_32 := dg_sm.tr M_23 m_32 (dk_dq rfl) (dk_dq rfl)
          refine lv_aload_n hx hb dX12_later_33 rfl (lv_at hl 0 rfl) ?_
          refine dg_get (C := RX12) (T := TX12) (N := 77) hx hb hts (fun w h => bw_mem (wU_X12 w h)) hown K hP sM_0 rfl 51 (dk_dq rfl) (hts _ (bw_mem wB_1090)) (fun _ h9 => h9) (v := .ref (o + 31)) (show S_32.1 0 51 = .ref (o + 31) from dg_I.rel (d := 31) I_32 sM_0 (by decide +kernel)) dX12_later_34 ?_
          refine lv_bipush (v := 64) hx hb dX12_later_37 (by decide +kernel) ?_
          refine lv_bipush (v := 8) hx hb dX12_later_39 (by decide +kernel) ?_
          refine lv_iload_n hx hb dX12_later_41 rfl (lv_at hl 2 rfl) ?_
          refine lv_imul hx hb dX12_later_42 ?_
          refine lv_topi (fun x_33 ex_33 => ?_)
          have jx_33 : (x_33).toInt = 8 * (a2).toInt := by rw [ex_33]; exact dk_mulT2 (by decide +kernel) rfl (by omega)
          refine lv_iadd hx hb dX12_later_43 ?_
          refine lv_topi (fun x_34 ex_34 => ?_)
          have jx_34 : (x_34).toInt = 64 + (x_33).toInt := by rw [ex_34]; exact dk_addT2 (by decide +kernel) rfl (by omega)
          refine lv_iload_n hx hb dX12_later_44 rfl (lv_at hl 1 rfl) ?_
          refine lv_iadd hx hb dX12_later_45 ?_
          refine lv_topi (fun x_35 ex_35 => ?_)
          have jx_35 : (x_35).toInt = (x_34).toInt + (a1).toInt := by rw [ex_35]; exact dk_addT2 rfl rfl (by omega)
          have hin_36 : vp_in x_35 1408 := (dk_inv2 (by omega))
          refine dg_iald hx hb K hP sM_31 hin_36 dX12_later_46 (fun x_37 ex_37 => ?_)
          have b_x_37 := dk_all_at (dg_I.row (lo := (-1)) (hi := 9) I_32 sM_31 (by decide +kernel)) hin_36 ex_37
          refine W.widen (k := 0) (n := 0) (Nat.le_of_ble_eq_true rfl) (Nat.le_of_ble_eq_true rfl) ?_
          exact dg_iret hx hb hr hlocks rfl hP hS ⟨I_32, M_32, (by omega), w_32_0, ⟨congrArg Prod.fst (Eq.symm (F_m_later_p1 w_8_3 c_9 w_17_2 c_20 w_23_3 w_32_1 ex_33 ex_34 ex_35 (Eq.symm ex_37.symm))), congrArg Prod.snd (Eq.symm (F_m_later_p1 w_8_3 c_9 w_17_2 c_20 w_23_3 w_32_1 ex_33 ex_34 ex_35 (Eq.symm ex_37.symm)))⟩, trivial⟩ dX12_later_47
      · have jc_20 := dk_eqc (k := 0) (by decide +kernel) c_20
        refine lv_iconst (v := (-1)) hx hb dX12_later_20 (by decide +kernel) ?_
        have hz_38 : (-1 : Int32).toInt = (-1) := by decide +kernel
        refine W.widen (k := 0) (n := 0) (Nat.le_of_ble_eq_true rfl) (Nat.le_of_ble_eq_true rfl) ?_
        exact dg_iret hx hb hr hlocks rfl hP hS ⟨I, M_0, (by decide +kernel), ZS, ⟨congrArg Prod.fst (Eq.symm (F_m_later_p2 w_8_3 c_9 w_17_2 c_20)), congrArg Prod.snd (Eq.symm (F_m_later_p2 w_8_3 c_9 w_17_2 c_20))⟩, trivial⟩ dX12_later_21
noncomputable def F_m_worth (o : Nat) (S : dg_S) (a1 : Int32) : dg_S × Int32 := let x_3 : Int32 := zI S 0 47; let x_4 : Int32 := S.2.1 29 (0 : Int32).toNatClampNeg; let x_7 : Int32 := F_m_isAhead o S a1 (0 : Int32) (40 : Int32); (if x_7 = (0 : Int32) then (S, (-1 : Int32)) else let S_14 : dg_S := F_m_copies o S (1 : Int32) (0 : Int32); let x_20 : Int32 := S_14.2.1 29 (0 : Int32).toNatClampNeg; let x_17 : Int32 := S_14.2.1 29 (1 : Int32).toNatClampNeg; let S_23 : dg_S := F_m_runsOn o S_14 a1; let x_25 : Int32 := F_m_worthOf o S_23 (1 : Int32); (S_23, x_25))
theorem F_m_worth_p0 {o : Nat} {S : dg_S} {a1 : Int32} {S_23 : dg_S} {x_25 : Int32} {x_7 : Int32} {S_14 : dg_S} (h0 : x_7 = F_m_isAhead o S a1 (0 : Int32) (40 : Int32)) (h1 : ¬ (x_7 = (0 : Int32))) (h2 : S_14 = F_m_copies o S (1 : Int32) (0 : Int32)) (h3 : S_23 = F_m_runsOn o S_14 a1) (h4 : x_25 = F_m_worthOf o S_23 (1 : Int32)) : F_m_worth o S a1 = (S_23, x_25) := by
  replace h0 := Eq.symm h0
  subst h0
  replace h2 := Eq.symm h2
  subst h2
  replace h3 := Eq.symm h3
  subst h3
  replace h4 := Eq.symm h4
  subst h4
  exact (Eq.trans (if_neg h1) rfl)
theorem F_m_worth_p1 {o : Nat} {S : dg_S} {a1 : Int32} {x_7 : Int32} (h0 : x_7 = F_m_isAhead o S a1 (0 : Int32) (40 : Int32)) (h1 : x_7 = (0 : Int32)) : F_m_worth o S a1 = (S, (-1 : Int32)) := by
  replace h0 := Eq.symm h0
  subst h0
  exact (Eq.trans (if_pos h1) rfl)
set_option maxHeartbeats 8000000 in
set_option maxRecDepth 100000 in
theorem c_m_worth (l : Launch) (g : Nat → ClassId) (D : va_G) (o : Nat) (S : dg_S) (a1 : Int32) (ZB : ZBM S) (ZS : ZSM S) (ZW : ZWM S) (I : CM o S) (sz : Nat) : Met l yX12_worth (bw yX12_worth cX12_worth 2 (some .int)) ({ frames := 10, cells := 0, slots := 0, locals := 239 } : Room) (dk_Pc g D (dg_w g shM o rfM S) sz [.ref (o + 0), .int a1]) (va_Qi (fun (r : Int32) S' => CM o S' ∧ dg_sm shM [] [29, 30, 31, 32, 33, 34, 35, 36, 37, 38, 39, 40, 41, 42, 43, 44] S S' ∧ ZSM S' ∧ (S' = (F_m_worth o S a1).1 ∧ r = (F_m_worth o S a1).2) ∧ True) (dg_B g D shM o rfM) (dg_A o shM.length sz)) 0 0 (dg_A o shM.length sz) := by
  refine dg_met (cc := cX12_worth) (maxL := 2) (ret := (some .int)) (dk_dq rfl) rfl (Nat.le_of_ble_eq_true rfl) ?_
  intro p e s m args below meth c A hAe harg hx hb hr hml hts hown hlocks hin hP K hS hA1 hA ST hsz ls hl
  rw [← hAe]
  have F : CallFix p m c cX12_worth 2 s args (bw yX12_worth cX12_worth 2 (some .int)) RX12 := ⟨hx, hb, hml, hown, hts⟩
  have hl : lv_has ls 2 [(0, .ref (o + 0)), (1, .int a1)] := hl
  have M_0 : dg_sm shM [] [29, 30, 31, 32, 33, 34, 35, 36, 37, 38, 39, 40, 41, 42, 43, 44] S S := dg_sm.rf
  refine lv_aload_n hx hb dX12_worth_0 rfl (lv_at hl 0 rfl) ?_
  refine lv_iload_n hx hb dX12_worth_1 rfl (lv_at hl 1 rfl) ?_
  refine lv_iconst (v := 0) hx hb dX12_worth_2 (by decide +kernel) ?_
  refine lv_bipush (v := 40) hx hb dX12_worth_3 (by decide +kernel) ?_
  have hz_1 : (0 : Int32).toInt = 0 := by decide +kernel
  have hz_2 : (40 : Int32).toInt = 40 := by decide +kernel
  obtain ⟨x_3, f_x_3, b_x_3⟩ := dg_I.int (i := 0) (k := 47) (lo := 0) (hi := 1) I sM_0 (by decide +kernel)
  obtain ⟨x_4, f_x_4⟩ : ∃ x, S.2.1 29 (0 : Int32).toNatClampNeg = x := ⟨_, rfl⟩
  have hin_5 : vp_in (0 : Int32) 22 := (dk_in (by decide +kernel))
  have b_x_4 := dk_all_at (dg_I.row (lo := 0) (hi := 2000) I sM_29 (by decide +kernel)) hin_5 f_x_4.symm
  have ex_4 := f_x_4.symm
  have hz_6 : (0 : Int32).toInt = 0 := by decide +kernel
  have zs_x_4 : (0 : Int32).toInt ≠ 1 → (x_4).toInt ≤ 999 := fun h => by rw [ex_4]; exact ZS _ (dk_inT hin_5).2 (fun q => by have h9 := (dk_inT hin_5).1; omega)
  refine dg_calli hS hA1 hA (va_runV (As := [.int a1, .int 0, .int 40]) (rest := []) F (c_m_isAhead l g D o S a1 0 (by decide +kernel) 40 (by decide +kernel) x_3 f_x_3 (by omega) x_4 f_x_4 (by omega) I s.heap.size) (cwV 3 hts (bw_V wB_1235 wB_1236 wB_1237 wB_297 wB_1234) rfl rfl rfl (by decide +kernel) ⟨Nat.le_of_ble_eq_true rfl, Nat.le_of_ble_eq_true rfl⟩) (dg_preV sM_0 rfl K ST hP hS hA1 hA) rfl rfl hl.1 rfl (lv_room (Nat.le_of_ble_eq_true rfl)) dX12_worth_5 ⟨Nat.le_of_ble_eq_true rfl, Nat.le_of_ble_eq_true rfl⟩) (fun x_7 S_8 hw_8 H locs hP hS => ?_)
  rw [hw_8.1] at hP
  obtain ⟨hq_8, w_8_0, w_8_1, w_8_2, -⟩ := hw_8
  have hz_9 : (0 : Int32).toInt = 0 := by decide +kernel
  have hz_10 : (40 : Int32).toInt = 40 := by decide +kernel
  have w_8_0 : 0 ≤ (x_7).toInt ∧ (x_7).toInt ≤ 1 := w_8_0
  have w_8_1 : (x_7).toInt = 1 → ((x_3).toInt = 1 ∧ ((0 : Int32)).toInt ≤ (a1).toInt ∧ (a1).toInt ≤ ((40 : Int32)).toInt ∧ (x_4).toInt ≤ 999 - (a1).toInt) := w_8_1
  refine lv_if_ne (tgt := 13) hx hb dX12_worth_8 (dk_dq rfl) (fun c_11 => ?_) (fun c_11 => ?_)
  · as_aux_lemma =>
      have jc_11 := dk_neqc (k := 0) (by decide +kernel) c_11
      refine lv_aload_n hx hb dX12_worth_13 rfl (lv_at hl 0 rfl) ?_
      refine lv_iconst (v := 1) hx hb dX12_worth_14 (by decide +kernel) ?_
      refine lv_iconst (v := 0) hx hb dX12_worth_15 (by decide +kernel) ?_
      have hz_12 : (1 : Int32).toInt = 1 := by decide +kernel
      have hz_13 : (0 : Int32).toInt = 0 := by decide +kernel
      refine dg_callv hS hA1 hA (va_runV (As := [.int 1, .int 0]) (rest := []) F (c_m_copies l g D o S 1 (by decide +kernel) 0 (by decide +kernel) x_4 f_x_4 (by omega) x_4 f_x_4 (by omega) (by omega) ZS I H.size) (cwV 2 hts (bw_V wB_1227 wB_1228 wB_1229 wB_297 wB_1226) rfl rfl rfl (by decide +kernel) ⟨Nat.le_of_ble_eq_true rfl, Nat.le_of_ble_eq_true rfl⟩) (dg_preV sM_0 rfl K ST hP hS hA1 hA) rfl rfl hl.1 rfl (lv_room (Nat.le_of_ble_eq_true rfl)) dX12_worth_16 ⟨Nat.le_of_ble_eq_true rfl, Nat.le_of_ble_eq_true rfl⟩) (fun S_14 hw_14 H locs hP hS => ?_)
      obtain ⟨I_14, m_14, w_14_0, w_14_1, w_14_2, w_14_3, -⟩ := hw_14
      have M_14 := dg_sm.tr M_0 m_14 (dk_dq rfl) (dk_dq rfl)
      have hz_15 : (1 : Int32).toInt = 1 := by decide +kernel
      have hz_16 : (0 : Int32).toInt = 0 := by decide +kernel
      obtain ⟨x_17, f_x_17⟩ : ∃ x, S_14.2.1 29 (1 : Int32).toNatClampNeg = x := ⟨_, rfl⟩
      have hin_18 : vp_in (1 : Int32) 22 := (dk_in (by decide +kernel))
      have b_x_17 := dk_all_at (dg_I.row (lo := 0) (hi := 2000) I_14 sM_29 (by decide +kernel)) hin_18 f_x_17.symm
      have ex_17 := f_x_17.symm
      have hz_19 : (1 : Int32).toInt = 1 := by decide +kernel
      have zs_x_17 : (1 : Int32).toInt ≠ 1 → (x_17).toInt ≤ 999 := fun h => by rw [ex_17]; exact w_14_2 _ (dk_inT hin_18).2 (fun q => by have h9 := (dk_inT hin_18).1; omega)
      have w_14_0 : (x_17).toInt = (x_4).toInt := w_14_0 x_17 f_x_17
      obtain ⟨x_20, f_x_20⟩ : ∃ x, S_14.2.1 29 (0 : Int32).toNatClampNeg = x := ⟨_, rfl⟩
      have hin_21 : vp_in (0 : Int32) 22 := (dk_in (by decide +kernel))
      have b_x_20 := dk_all_at (dg_I.row (lo := 0) (hi := 2000) I_14 sM_29 (by decide +kernel)) hin_21 f_x_20.symm
      have ex_20 := f_x_20.symm
      have hz_22 : (0 : Int32).toInt = 0 := by decide +kernel
      have zs_x_20 : (0 : Int32).toInt ≠ 1 → (x_20).toInt ≤ 999 := fun h => by rw [ex_20]; exact w_14_2 _ (dk_inT hin_21).2 (fun q => by have h9 := (dk_inT hin_21).1; omega)
      have w_14_1 : ((1 : Int32)).toInt ≠ 0 → (x_20).toInt = (x_4).toInt := w_14_1 x_20 f_x_20
      refine lv_aload_n hx hb dX12_worth_19 rfl (lv_at hl 0 rfl) ?_
      refine lv_iload_n hx hb dX12_worth_20 rfl (lv_at hl 1 rfl) ?_
      refine dg_callv hS hA1 hA (va_runV (As := [.int a1]) (rest := []) F (c_m_runsOn l g D o S_14 a1 (by omega) x_17 f_x_17 (by omega) (ZBM.keep ZB m_14 (dk_dq rfl) (dk_dq rfl) (dk_dq rfl) (dk_dq rfl) (dk_dq rfl)) w_14_2 (ZWM.keep ZW m_14 (dk_dq rfl) (dk_dq rfl) (dk_dq rfl) (dk_dq rfl)) I_14 H.size) (cwV 1 hts (bw_V wB_1239 wB_1240 wB_1241 wB_297 wB_1238) rfl rfl rfl (by decide +kernel) ⟨Nat.le_of_ble_eq_true rfl, Nat.le_of_ble_eq_true rfl⟩) (dg_preV sM_0 rfl K ST hP hS hA1 hA) rfl rfl hl.1 rfl (lv_room (Nat.le_of_ble_eq_true rfl)) dX12_worth_21 ⟨Nat.le_of_ble_eq_true rfl, Nat.le_of_ble_eq_true rfl⟩) (fun S_23 hw_23 H locs hP hS => ?_)
      obtain ⟨I_23, m_23, w_23_0, w_23_1, -⟩ := hw_23
      have M_23 := dg_sm.tr M_14 m_23 (dk_dq rfl) (dk_dq rfl)
      refine lv_aload_n hx hb dX12_worth_24 rfl (lv_at hl 0 rfl) ?_
      refine lv_iconst (v := 1) hx hb dX12_worth_25 (by decide +kernel) ?_
      have hz_24 : (1 : Int32).toInt = 1 := by decide +kernel
      refine dg_calli hS hA1 hA (va_runV (As := [.int 1]) (rest := []) F (c_m_worthOf l g D o S_23 1 (by decide +kernel) (ZBM.keep (ZBM.keep ZB m_14 (dk_dq rfl) (dk_dq rfl) (dk_dq rfl) (dk_dq rfl) (dk_dq rfl)) m_23 (dk_dq rfl) (dk_dq rfl) (dk_dq rfl) (dk_dq rfl) (dk_dq rfl)) I_23 H.size) (cwV 1 hts (bw_V wB_1198 wB_1199 wB_1200 wB_297 wB_1197) rfl rfl rfl (by decide +kernel) ⟨Nat.le_of_ble_eq_true rfl, Nat.le_of_ble_eq_true rfl⟩) (dg_preV sM_0 rfl K ST hP hS hA1 hA) rfl rfl hl.1 rfl (lv_room (Nat.le_of_ble_eq_true rfl)) dX12_worth_26 ⟨Nat.le_of_ble_eq_true rfl, Nat.le_of_ble_eq_true rfl⟩) (fun x_25 S_26 hw_26 H locs hP hS => ?_)
      rw [hw_26.1] at hP
      obtain ⟨hq_26, w_26_0, -⟩ := hw_26
      refine W.widen (k := 0) (n := 0) (Nat.le_of_ble_eq_true rfl) (Nat.le_of_ble_eq_true rfl) ?_
      exact dg_iret hx hb hr hlocks rfl hP hS ⟨I_23, M_23, w_23_0, ⟨congrArg Prod.fst (Eq.symm (F_m_worth_p0 w_8_2 c_11 w_14_3 w_23_1 w_26_0)), congrArg Prod.snd (Eq.symm (F_m_worth_p0 w_8_2 c_11 w_14_3 w_23_1 w_26_0))⟩, trivial⟩ dX12_worth_29
  · have jc_11 := dk_eqc (k := 0) (by decide +kernel) c_11
    refine lv_iconst (v := (-1)) hx hb dX12_worth_11 (by decide +kernel) ?_
    refine W.widen (k := 0) (n := 0) (Nat.le_of_ble_eq_true rfl) (Nat.le_of_ble_eq_true rfl) ?_
    exact dg_iret hx hb hr hlocks rfl hP hS ⟨I, M_0, ZS, ⟨congrArg Prod.fst (Eq.symm (F_m_worth_p1 w_8_2 c_11)), congrArg Prod.snd (Eq.symm (F_m_worth_p1 w_8_2 c_11))⟩, trivial⟩ dX12_worth_12
noncomputable def F_m_shade_J1 (x_275 : Int32) (S_281 : dg_S) (x_274 : Int32) (a2 : Int32) (o : Nat) : dg_S × Int32 := (if x_275 = (-1 : Int32) then (S_281, x_274) else (if a2 = (2 : Int32) then (S_281, x_274) else let x_285 : Int32 := F_m_partOf o S_281 x_275 a2; (S_281, x_285)))
noncomputable def F_m_shade_J3 (x_502 : Int32) (x_546 : Int32) (x_547 : Int32) (S_551 : dg_S) : (Int32 × Int32 × Int32 × dg_S) ⊕ (dg_S × Int32) := let x_553 : Int32 := x_502 + 1; (Sum.inl (x_553, x_546, x_547, S_551))
noncomputable def F_m_shade_B2 (a2 : Int32) (o : Nat) (a1 : Int32) : (Int32 × Int32 × Int32 × dg_S) → (Int32 × Int32 × Int32 × dg_S) ⊕ (dg_S × Int32) := fun w9 => match w9 with | (x_502, x_503, x_504, S_505) => (if (64 : Int32) ≤ x_502 then (Sum.inr ((F_m_shade_J1 x_504 S_505 x_503 a2 o))) else let x_510 : Int32 := F_m_canHang o S_505 x_502; (if x_510 = (0 : Int32) then (F_m_shade_J3 x_502 x_503 x_504 S_505) else let x_558 : Int32 := S_505.2.1 32 (x_502 : Int32).toNatClampNeg; (if x_558 = (1 : Int32) then (F_m_shade_J3 x_502 x_503 x_504 S_505) else let x_562 : Int32 := S_505.2.1 29 (0 : Int32).toNatClampNeg; let S_565 : dg_S := F_m_copies o S_505 (1 : Int32) (0 : Int32); let x_571 : Int32 := S_565.2.1 29 (0 : Int32).toNatClampNeg; let x_568 : Int32 := S_565.2.1 29 (1 : Int32).toNatClampNeg; let x_574 : Int32 := (64 : Int32) + x_502; let S_576 : dg_S := dg_uf S_565 32 (upd (S_565.2.1 32) (x_574 : Int32).toNatClampNeg (1 : Int32)); let S_578 : dg_S := F_m_runsOn o S_576 a1; let x_580 : Int32 := F_m_worthOf o S_578 (1 : Int32); (if x_503 < x_580 then let x_586 : Int32 := F_m_worthOf o S_578 (1 : Int32); (F_m_shade_J3 x_502 x_586 x_502 S_578) else (F_m_shade_J3 x_502 x_503 x_504 S_578)))))
noncomputable def F_m_shade (o : Nat) (S : dg_S) (a1 : Int32) (a2 : Int32) : dg_S × Int32 := let x_3 : Int32 := zI S 0 47; let x_4 : Int32 := S.2.1 29 (0 : Int32).toNatClampNeg; let x_7 : Int32 := F_m_isAhead o S a1 (1 : Int32) (20 : Int32); (if x_7 = (0 : Int32) then (S, (-1 : Int32)) else let x_12 : Int32 := F_m_is o S a2 (0 : Int32) (2 : Int32); (if x_12 = (0 : Int32) then (S, (-1 : Int32)) else (lp (F_m_shade_B2 a2 o a1) (S, (0 : Int32)) ((65 - ((0 : Int32)).toInt).toNat + 1) ((0 : Int32), (-1 : Int32), (-1 : Int32), S))))
theorem F_m_shade_p0 {o : Nat} {S : dg_S} {a1 : Int32} {a2 : Int32} {x_7 : Int32} (h0 : x_7 = F_m_isAhead o S a1 (1 : Int32) (20 : Int32)) (h1 : x_7 = (0 : Int32)) : F_m_shade o S a1 a2 = (S, (-1 : Int32)) := by
  replace h0 := Eq.symm h0
  subst h0
  exact (Eq.trans (if_pos h1) rfl)
theorem F_m_shade_p1 {x_275 : Int32} {S_281 : dg_S} {x_274 : Int32} {a2 : Int32} {o : Nat} (h0 : x_275 = (-1 : Int32)) : F_m_shade_J1 x_275 S_281 x_274 a2 o = (S_281, x_274) := (Eq.trans (if_pos h0) rfl)
theorem F_m_shade_p2 {x_275 : Int32} {S_281 : dg_S} {x_274 : Int32} {a2 : Int32} {o : Nat} {x_285 : Int32} (h0 : ¬ (x_275 = (-1 : Int32))) (h1 : ¬ (a2 = (2 : Int32))) (h2 : x_285 = F_m_partOf o S_281 x_275 a2) : F_m_shade_J1 x_275 S_281 x_274 a2 o = (S_281, x_285) := by
  replace h2 := Eq.symm h2
  subst h2
  exact (Eq.trans (if_neg h0) (Eq.trans (if_neg h1) rfl))
theorem F_m_shade_p3 {x_275 : Int32} {S_281 : dg_S} {x_274 : Int32} {a2 : Int32} {o : Nat} (h0 : ¬ (x_275 = (-1 : Int32))) (h1 : a2 = (2 : Int32)) : F_m_shade_J1 x_275 S_281 x_274 a2 o = (S_281, x_274) := (Eq.trans (if_neg h0) (Eq.trans (if_pos h1) rfl))
theorem F_m_shade_p4 {a2 : Int32} {o : Nat} {a1 : Int32} {x_502 : Int32} {x_503 : Int32} {x_504 : Int32} {S_505 : dg_S} (h0 : (64 : Int32) ≤ x_502) : (F_m_shade_B2 a2 o a1) (x_502, x_503, x_504, S_505) = Sum.inr (F_m_shade_J1 x_504 S_505 x_503 a2 o) := (Eq.trans (if_pos h0) rfl)
theorem F_m_shade_p5 {x_502 : Int32} {x_546 : Int32} {x_547 : Int32} {S_551 : dg_S} {x_553 : Int32} (h0 : x_553 = x_502 + 1) : F_m_shade_J3 x_502 x_546 x_547 S_551 = Sum.inl (x_553, x_546, x_547, S_551) := by
  replace h0 := Eq.symm h0
  subst h0
  exact rfl
theorem F_m_shade_p6 {a2 : Int32} {o : Nat} {a1 : Int32} {x_502 : Int32} {x_503 : Int32} {x_504 : Int32} {S_505 : dg_S} {x_510 : Int32} (h0 : ¬ ((64 : Int32) ≤ x_502)) (h1 : x_510 = F_m_canHang o S_505 x_502) (h2 : x_510 = (0 : Int32)) : (F_m_shade_B2 a2 o a1) (x_502, x_503, x_504, S_505) = F_m_shade_J3 x_502 x_503 x_504 S_505 := by
  replace h1 := Eq.symm h1
  subst h1
  exact (Eq.trans (if_neg h0) (Eq.trans (if_pos h2) rfl))
theorem F_m_shade_p7 {a2 : Int32} {o : Nat} {a1 : Int32} {x_502 : Int32} {x_503 : Int32} {x_504 : Int32} {S_505 : dg_S} {x_586 : Int32} {S_578 : dg_S} {x_510 : Int32} {x_558 : Int32} {S_565 : dg_S} {x_574 : Int32} {S_576 : dg_S} {x_580 : Int32} (h0 : ¬ ((64 : Int32) ≤ x_502)) (h1 : x_510 = F_m_canHang o S_505 x_502) (h2 : ¬ (x_510 = (0 : Int32))) (h3 : x_558 = S_505.2.1 32 (x_502 : Int32).toNatClampNeg) (h4 : ¬ (x_558 = (1 : Int32))) (h5 : S_565 = F_m_copies o S_505 (1 : Int32) (0 : Int32)) (h6 : x_574 = (64 : Int32) + x_502) (h7 : S_576 = dg_uf S_565 32 (upd (S_565.2.1 32) (x_574 : Int32).toNatClampNeg (1 : Int32))) (h8 : S_578 = F_m_runsOn o S_576 a1) (h9 : x_580 = F_m_worthOf o S_578 (1 : Int32)) (h10 : x_503 < x_580) (h11 : x_586 = F_m_worthOf o S_578 (1 : Int32)) : (F_m_shade_B2 a2 o a1) (x_502, x_503, x_504, S_505) = F_m_shade_J3 x_502 x_586 x_502 S_578 := by
  replace h1 := Eq.symm h1
  subst h1
  replace h3 := Eq.symm h3
  subst h3
  replace h5 := Eq.symm h5
  subst h5
  replace h6 := Eq.symm h6
  subst h6
  replace h7 := Eq.symm h7
  subst h7
  replace h8 := Eq.symm h8
  subst h8
  replace h9 := Eq.symm h9
  subst h9
  replace h11 := Eq.symm h11
  subst h11
  exact (Eq.trans (if_neg h0) (Eq.trans (if_neg h2) (Eq.trans (if_neg h4) (Eq.trans (if_pos h10) rfl))))
theorem F_m_shade_p8 {a2 : Int32} {o : Nat} {a1 : Int32} {x_502 : Int32} {x_503 : Int32} {x_504 : Int32} {S_505 : dg_S} {S_578 : dg_S} {x_510 : Int32} {x_558 : Int32} {S_565 : dg_S} {x_574 : Int32} {S_576 : dg_S} {x_580 : Int32} (h0 : ¬ ((64 : Int32) ≤ x_502)) (h1 : x_510 = F_m_canHang o S_505 x_502) (h2 : ¬ (x_510 = (0 : Int32))) (h3 : x_558 = S_505.2.1 32 (x_502 : Int32).toNatClampNeg) (h4 : ¬ (x_558 = (1 : Int32))) (h5 : S_565 = F_m_copies o S_505 (1 : Int32) (0 : Int32)) (h6 : x_574 = (64 : Int32) + x_502) (h7 : S_576 = dg_uf S_565 32 (upd (S_565.2.1 32) (x_574 : Int32).toNatClampNeg (1 : Int32))) (h8 : S_578 = F_m_runsOn o S_576 a1) (h9 : x_580 = F_m_worthOf o S_578 (1 : Int32)) (h10 : ¬ (x_503 < x_580)) : (F_m_shade_B2 a2 o a1) (x_502, x_503, x_504, S_505) = F_m_shade_J3 x_502 x_503 x_504 S_578 := by
  replace h1 := Eq.symm h1
  subst h1
  replace h3 := Eq.symm h3
  subst h3
  replace h5 := Eq.symm h5
  subst h5
  replace h6 := Eq.symm h6
  subst h6
  replace h7 := Eq.symm h7
  subst h7
  replace h8 := Eq.symm h8
  subst h8
  replace h9 := Eq.symm h9
  subst h9
  exact (Eq.trans (if_neg h0) (Eq.trans (if_neg h2) (Eq.trans (if_neg h4) (Eq.trans (if_neg h10) rfl))))
theorem F_m_shade_p9 {a2 : Int32} {o : Nat} {a1 : Int32} {x_502 : Int32} {x_503 : Int32} {x_504 : Int32} {S_505 : dg_S} {x_510 : Int32} {x_558 : Int32} (h0 : ¬ ((64 : Int32) ≤ x_502)) (h1 : x_510 = F_m_canHang o S_505 x_502) (h2 : ¬ (x_510 = (0 : Int32))) (h3 : x_558 = S_505.2.1 32 (x_502 : Int32).toNatClampNeg) (h4 : x_558 = (1 : Int32)) : (F_m_shade_B2 a2 o a1) (x_502, x_503, x_504, S_505) = F_m_shade_J3 x_502 x_503 x_504 S_505 := by
  replace h1 := Eq.symm h1
  subst h1
  replace h3 := Eq.symm h3
  subst h3
  exact (Eq.trans (if_neg h0) (Eq.trans (if_neg h2) (Eq.trans (if_pos h4) rfl)))
theorem F_m_shade_p10 {o : Nat} {S : dg_S} {a1 : Int32} {a2 : Int32} {x_7 : Int32} {x_12 : Int32} (h0 : x_7 = F_m_isAhead o S a1 (1 : Int32) (20 : Int32)) (h1 : ¬ (x_7 = (0 : Int32))) (h2 : x_12 = F_m_is o S a2 (0 : Int32) (2 : Int32)) (h3 : ¬ (x_12 = (0 : Int32))) : F_m_shade o S a1 a2 = lp (F_m_shade_B2 a2 o a1) (S, (0 : Int32)) ((65 - ((0 : Int32)).toInt).toNat + 1) ((0 : Int32), (-1 : Int32), (-1 : Int32), S) := by
  replace h0 := Eq.symm h0
  subst h0
  replace h2 := Eq.symm h2
  subst h2
  exact (Eq.trans (if_neg h1) (Eq.trans (if_neg h3) rfl))
theorem F_m_shade_p11 {o : Nat} {S : dg_S} {a1 : Int32} {a2 : Int32} {x_7 : Int32} {x_12 : Int32} (h0 : x_7 = F_m_isAhead o S a1 (1 : Int32) (20 : Int32)) (h1 : ¬ (x_7 = (0 : Int32))) (h2 : x_12 = F_m_is o S a2 (0 : Int32) (2 : Int32)) (h3 : x_12 = (0 : Int32)) : F_m_shade o S a1 a2 = (S, (-1 : Int32)) := by
  replace h0 := Eq.symm h0
  subst h0
  replace h2 := Eq.symm h2
  subst h2
  exact (Eq.trans (if_neg h1) (Eq.trans (if_pos h3) rfl))
set_option maxHeartbeats 8000000 in
set_option maxRecDepth 100000 in
theorem c_m_shade (l : Launch) (g : Nat → ClassId) (D : va_G) (o : Nat) (S : dg_S) (a1 : Int32) (a2 : Int32) (ZB : ZBM S) (ZS : ZSM S) (ZW : ZWM S) (I : CM o S) (sz : Nat) : Met l yX12_shade (bw yX12_shade cX12_shade 6 (some .int)) ({ frames := 10, cells := 0, slots := 0, locals := 239 } : Room) (dk_Pc g D (dg_w g shM o rfM S) sz [.ref (o + 0), .int a1, .int a2]) (va_Qi (fun (r : Int32) S' => CM o S' ∧ dg_sm shM [] [29, 30, 31, 32, 33, 34, 35, 36, 37, 38, 39, 40, 41, 42, 43, 44] S S' ∧ ZSM S' ∧ (S' = (F_m_shade o S a1 a2).1 ∧ r = (F_m_shade o S a1 a2).2) ∧ True) (dg_B g D shM o rfM) (dg_A o shM.length sz)) 0 0 (dg_A o shM.length sz) := by
  refine dg_met (cc := cX12_shade) (maxL := 6) (ret := (some .int)) (dk_dq rfl) rfl (Nat.le_of_ble_eq_true rfl) ?_
  intro p e s m args below meth c A hAe harg hx hb hr hml hts hown hlocks hin hP K hS hA1 hA ST hsz ls hl
  rw [← hAe]
  have F : CallFix p m c cX12_shade 6 s args (bw yX12_shade cX12_shade 6 (some .int)) RX12 := ⟨hx, hb, hml, hown, hts⟩
  have hl : lv_has ls 6 [(0, .ref (o + 0)), (1, .int a1), (2, .int a2)] := hl
  have M_0 : dg_sm shM [] [29, 30, 31, 32, 33, 34, 35, 36, 37, 38, 39, 40, 41, 42, 43, 44] S S := dg_sm.rf
  refine lv_aload_n hx hb dX12_shade_0 rfl (lv_at hl 0 rfl) ?_
  refine lv_iload_n hx hb dX12_shade_1 rfl (lv_at hl 1 rfl) ?_
  refine lv_iconst (v := 1) hx hb dX12_shade_2 (by decide +kernel) ?_
  refine lv_bipush (v := 20) hx hb dX12_shade_3 (by decide +kernel) ?_
  have hz_1 : (1 : Int32).toInt = 1 := by decide +kernel
  have hz_2 : (20 : Int32).toInt = 20 := by decide +kernel
  obtain ⟨x_3, f_x_3, b_x_3⟩ := dg_I.int (i := 0) (k := 47) (lo := 0) (hi := 1) I sM_0 (by decide +kernel)
  obtain ⟨x_4, f_x_4⟩ : ∃ x, S.2.1 29 (0 : Int32).toNatClampNeg = x := ⟨_, rfl⟩
  have hin_5 : vp_in (0 : Int32) 22 := (dk_in (by decide +kernel))
  have b_x_4 := dk_all_at (dg_I.row (lo := 0) (hi := 2000) I sM_29 (by decide +kernel)) hin_5 f_x_4.symm
  have ex_4 := f_x_4.symm
  have hz_6 : (0 : Int32).toInt = 0 := by decide +kernel
  have zs_x_4 : (0 : Int32).toInt ≠ 1 → (x_4).toInt ≤ 999 := fun h => by rw [ex_4]; exact ZS _ (dk_inT hin_5).2 (fun q => by have h9 := (dk_inT hin_5).1; omega)
  refine dg_calli hS hA1 hA (va_runV (As := [.int a1, .int 1, .int 20]) (rest := []) F (c_m_isAhead l g D o S a1 1 (by decide +kernel) 20 (by decide +kernel) x_3 f_x_3 (by omega) x_4 f_x_4 (by omega) I s.heap.size) (cwV 3 hts (bw_V wB_1235 wB_1236 wB_1237 wB_297 wB_1234) rfl rfl rfl (by decide +kernel) ⟨Nat.le_of_ble_eq_true rfl, Nat.le_of_ble_eq_true rfl⟩) (dg_preV sM_0 rfl K ST hP hS hA1 hA) rfl rfl hl.1 rfl (lv_room (Nat.le_of_ble_eq_true rfl)) dX12_shade_5 ⟨Nat.le_of_ble_eq_true rfl, Nat.le_of_ble_eq_true rfl⟩) (fun x_7 S_8 hw_8 H locs hP hS => ?_)
  rw [hw_8.1] at hP
  obtain ⟨hq_8, w_8_0, w_8_1, w_8_2, -⟩ := hw_8
  have hz_9 : (1 : Int32).toInt = 1 := by decide +kernel
  have hz_10 : (20 : Int32).toInt = 20 := by decide +kernel
  have w_8_0 : 0 ≤ (x_7).toInt ∧ (x_7).toInt ≤ 1 := w_8_0
  have w_8_1 : (x_7).toInt = 1 → ((x_3).toInt = 1 ∧ ((1 : Int32)).toInt ≤ (a1).toInt ∧ (a1).toInt ≤ ((20 : Int32)).toInt ∧ (x_4).toInt ≤ 999 - (a1).toInt) := w_8_1
  refine lv_if_eq (tgt := 20) hx hb dX12_shade_8 (dk_dq rfl) (fun c_11 => ?_) (fun c_11 => ?_)
  · have jc_11 := dk_eqc (k := 0) (by decide +kernel) c_11
    refine lv_iconst (v := (-1)) hx hb dX12_shade_20 (by decide +kernel) ?_
    refine W.widen (k := 0) (n := 0) (Nat.le_of_ble_eq_true rfl) (Nat.le_of_ble_eq_true rfl) ?_
    exact dg_iret hx hb hr hlocks rfl hP hS ⟨I, M_0, ZS, ⟨congrArg Prod.fst (Eq.symm (F_m_shade_p0 w_8_2 c_11)), congrArg Prod.snd (Eq.symm (F_m_shade_p0 w_8_2 c_11))⟩, trivial⟩ dX12_shade_21
  · as_aux_lemma =>
      have jc_11 := dk_neqc (k := 0) (by decide +kernel) c_11
      refine lv_iload_n hx hb dX12_shade_11 rfl (lv_at hl 2 rfl) ?_
      refine lv_iconst (v := 0) hx hb dX12_shade_12 (by decide +kernel) ?_
      refine lv_iconst (v := 2) hx hb dX12_shade_13 (by decide +kernel) ?_
      refine dg_calli hS hA1 hA (va_runS (As := [.int a2, .int 0, .int 2]) (rest := []) F (c_m_isR l g D o S a2 0 2 I H.size) (va_cwS 3 hts (bw_S wB_362 wB_363 wB_297 wB_361) rfl rfl rfl (by decide +kernel) ⟨Nat.le_of_ble_eq_true rfl, Nat.le_of_ble_eq_true rfl⟩) (dg_preS K ST hP hS hA1 hA) rfl rfl hl.1 rfl (lv_room (Nat.le_of_ble_eq_true rfl)) dX12_shade_14 ⟨Nat.le_of_ble_eq_true rfl, Nat.le_of_ble_eq_true rfl⟩) (fun x_12 S_13 hw_13 H locs hP hS => ?_)
      rw [hw_13.1] at hP
      obtain ⟨hq_13, w_13_0, w_13_1, w_13_2, -⟩ := hw_13
      have hz_14 : (0 : Int32).toInt = 0 := by decide +kernel
      have hz_15 : (2 : Int32).toInt = 2 := by decide +kernel
      have w_13_0 : 0 ≤ (x_12).toInt ∧ (x_12).toInt ≤ 1 := w_13_0
      have w_13_1 : (x_12).toInt = 1 ↔ (((0 : Int32)).toInt ≤ (a2).toInt ∧ (a2).toInt ≤ ((2 : Int32)).toInt) := w_13_1
      refine lv_if_ne (tgt := 22) hx hb dX12_shade_17 (dk_dq rfl) (fun c_16 => ?_) (fun c_16 => ?_)
      · as_aux_lemma =>
          have jc_16 := dk_neqc (k := 0) (by decide +kernel) c_16
          refine lv_iconst (v := (-1)) hx hb dX12_shade_22 (by decide +kernel) ?_
          refine lv_istore_n (lv' := [(3, .int (-1)), (0, .ref (o + 0)), (1, .int a1), (2, .int a2)]) hx hb dX12_shade_23 rfl hl (dk_dq rfl) rfl (fun ls hl => ?_)
          refine lv_iconst (v := (-1)) hx hb dX12_shade_24 (by decide +kernel) ?_
          refine lv_istore (lv' := [(4, .int (-1)), (3, .int (-1)), (0, .ref (o + 0)), (1, .int a1), (2, .int a2)]) hx hb dX12_shade_25 hl (dk_dq rfl) rfl (fun ls hl => ?_)
          refine lv_iconst (v := 0) hx hb dX12_shade_27 (by decide +kernel) ?_
          refine lv_istore (lv' := [(5, .int 0), (4, .int (-1)), (3, .int (-1)), (0, .ref (o + 0)), (1, .int a1), (2, .int a2)]) hx hb dX12_shade_28 hl (dk_dq rfl) rfl (fun ls hl => ?_)
          have J_282 : ∀ (x_273 : Int32) (x_274 : Int32) (x_275 : Int32), (64 ≤ (x_273).toInt ∧ (x_273).toInt ≤ 2147483647) → ((-1) ≤ (x_275).toInt ∧ (x_275).toInt ≤ 2147483647) → ∀ S_281 : dg_S, CM o S_281 → dg_sm shM [] [29, 30, 31, 32, 33, 34, 35, 36, 37, 38, 39, 40, 41, 42, 43, 44] S S_281 → ZSM S_281 → (F_m_shade o S a1 a2 = F_m_shade_J1 x_275 S_281 x_274 a2 o) → ∀ (H : Heap) (locs : List Loc), va_P D vwCl (dg_w g shM o rfM S_281) H → va_S A s.heap H locs → ∀ ls : Array Slot, lv_has ls 6 [(5, .int x_273), (4, .int x_274), (3, .int x_275), (0, .ref (o + 0)), (1, .int a1), (2, .int a2)] → W p l e ({ frames := 10, cells := 0, slots := 0, locals := 239 } : Room) s m args below meth c H locs 0 0 (MQ below (va_Qi (fun (r : Int32) S' => CM o S' ∧ dg_sm shM [] [29, 30, 31, 32, 33, 34, 35, 36, 37, 38, 39, 40, 41, 42, 43, 44] S S' ∧ ZSM S' ∧ (S' = (F_m_shade o S a1 a2).1 ∧ r = (F_m_shade o S a1 a2).2) ∧ True) (dg_B g D shM o rfM) A) args s 0 0 A) (F0 m 111 ls []) := by
            as_aux_lemma =>
              intro x_273 x_274 x_275 b_x_273 b_x_275 S_281 I_281 M_281 ZS_281 hF_1 H locs hP hS ls hl
              refine lv_iload_n hx hb dX12_shade_111 rfl (lv_at hl 2 rfl) ?_
              refine lv_iconst (v := (-1)) hx hb dX12_shade_112 (by decide +kernel) ?_
              refine lv_icmp_eq (tgt := 121) hx hb dX12_shade_113 (dk_dq rfl) (fun c_283 => ?_) (fun c_283 => ?_)
              · have jc_283 := dk_eqc (k := (-1)) (by decide +kernel) c_283
                refine lv_iload hx hb dX12_shade_121 (lv_at hl 1 rfl) ?_
                refine lv_goto (tgt := 131) hx hb dX12_shade_123 (dk_dq rfl) ?_
                refine W.widen (k := 0) (n := 0) (Nat.le_of_ble_eq_true rfl) (Nat.le_of_ble_eq_true rfl) ?_
                exact dg_iret hx hb hr hlocks rfl hP hS ⟨I_281, M_281, ZS_281, ⟨congrArg Prod.fst (Eq.symm (Eq.trans hF_1 (F_m_shade_p1 c_283))), congrArg Prod.snd (Eq.symm (Eq.trans hF_1 (F_m_shade_p1 c_283)))⟩, trivial⟩ dX12_shade_131
              · as_aux_lemma =>
                  have jc_283 := dk_neqc (k := (-1)) (by decide +kernel) c_283
                  refine lv_iload_n hx hb dX12_shade_116 rfl (lv_at hl 5 rfl) ?_
                  refine lv_iconst (v := 2) hx hb dX12_shade_117 (by decide +kernel) ?_
                  refine lv_icmp_ne (tgt := 126) hx hb dX12_shade_118 (dk_dq rfl) (fun c_284 => ?_) (fun c_284 => ?_)
                  · have jc_284 := dk_neqc (k := 2) (by decide +kernel) c_284
                    refine lv_iload_n hx hb dX12_shade_126 rfl (lv_at hl 2 rfl) ?_
                    refine lv_iload_n hx hb dX12_shade_127 rfl (lv_at hl 5 rfl) ?_
                    refine dg_calli hS hA1 hA (va_runS (As := [.int x_275, .int a2]) (rest := []) F (c_m_partOf l g D o S_281 x_275 a2 I_281 H.size) (va_cwS 2 hts (bw_S wB_1212 wB_1213 wB_297 wB_1211) rfl rfl rfl (by decide +kernel) ⟨Nat.le_of_ble_eq_true rfl, Nat.le_of_ble_eq_true rfl⟩) (dg_preS K ST hP hS hA1 hA) rfl rfl hl.1 rfl (lv_room (Nat.le_of_ble_eq_true rfl)) dX12_shade_128 ⟨Nat.le_of_ble_eq_true rfl, Nat.le_of_ble_eq_true rfl⟩) (fun x_285 S_286 hw_286 H locs hP hS => ?_)
                    rw [hw_286.1] at hP
                    obtain ⟨hq_286, w_286_0, -⟩ := hw_286
                    refine W.widen (k := 0) (n := 0) (Nat.le_of_ble_eq_true rfl) (Nat.le_of_ble_eq_true rfl) ?_
                    exact dg_iret hx hb hr hlocks rfl hP hS ⟨I_281, M_281, ZS_281, ⟨congrArg Prod.fst (Eq.symm (Eq.trans hF_1 (F_m_shade_p2 c_283 c_284 w_286_0))), congrArg Prod.snd (Eq.symm (Eq.trans hF_1 (F_m_shade_p2 c_283 c_284 w_286_0)))⟩, trivial⟩ dX12_shade_131
                  · have jc_284 := dk_eqc (k := 2) (by decide +kernel) c_284
                    refine lv_iload hx hb dX12_shade_121 (lv_at hl 1 rfl) ?_
                    refine lv_goto (tgt := 131) hx hb dX12_shade_123 (dk_dq rfl) ?_
                    refine W.widen (k := 0) (n := 0) (Nat.le_of_ble_eq_true rfl) (Nat.le_of_ble_eq_true rfl) ?_
                    exact dg_iret hx hb hr hlocks rfl hP hS ⟨I_281, M_281, ZS_281, ⟨congrArg Prod.fst (Eq.symm (Eq.trans hF_1 (F_m_shade_p3 c_283 c_284))), congrArg Prod.snd (Eq.symm (Eq.trans hF_1 (F_m_shade_p3 c_283 c_284)))⟩, trivial⟩ dX12_shade_131
          have L_506 : ∀ (n : Nat) (x_502 : Int32) (x_503 : Int32) (x_504 : Int32), (0 ≤ (x_502).toInt ∧ (x_502).toInt ≤ 64) → ((-1) ≤ (x_504).toInt ∧ (x_504).toInt ≤ 2147483647) → ((65 - (x_502).toInt).toNat < n) → ∀ S_505 : dg_S, CM o S_505 → dg_sm shM [] [29, 30, 31, 32, 33, 34, 35, 36, 37, 38, 39, 40, 41, 42, 43, 44] S S_505 → ZSM S_505 → (F_m_shade o S a1 a2 = lp (F_m_shade_B2 a2 o a1) (S, (0 : Int32)) n (x_502, x_503, x_504, S_505)) → ∀ (H : Heap) (locs : List Loc), va_P D vwCl (dg_w g shM o rfM S_505) H → va_S A s.heap H locs → ∀ ls : Array Slot, lv_has ls 6 [(5, .int x_502), (4, .int x_503), (3, .int x_504), (0, .ref (o + 0)), (1, .int a1), (2, .int a2)] → W p l e ({ frames := 10, cells := 0, slots := 0, locals := 239 } : Room) s m args below meth c H locs 0 0 (MQ below (va_Qi (fun (r : Int32) S' => CM o S' ∧ dg_sm shM [] [29, 30, 31, 32, 33, 34, 35, 36, 37, 38, 39, 40, 41, 42, 43, 44] S S' ∧ ZSM S' ∧ (S' = (F_m_shade o S a1 a2).1 ∧ r = (F_m_shade o S a1 a2).2) ∧ True) (dg_B g D shM o rfM) A) args s 0 0 A) (F0 m 30 ls []) := by
            as_aux_lemma =>
              intro n
              induction n with
              | zero =>
                intro x_502 x_503 x_504 b_x_502 b_x_504 hmu S_505 I_505 M_505 ZS_505 hF_2 H locs hP hS ls hl
                omega
              | succ n ih =>
                as_aux_lemma =>
                  intro x_502 x_503 x_504 b_x_502 b_x_504 hmu S_505 I_505 M_505 ZS_505 hF_2 H locs hP hS ls hl
                  refine lv_iload hx hb dX12_shade_30 (lv_at hl 0 rfl) ?_
                  refine lv_bipush (v := 64) hx hb dX12_shade_32 (by decide +kernel) ?_
                  refine lv_icmp_ge (tgt := 111) hx hb dX12_shade_34 (dk_dq rfl) (fun c_507 => ?_) (fun c_507 => ?_)
                  · have jc_507 := dk_gec (k := 64) (by decide +kernel) c_507
                    have hf_507 := dk_full x_502
                    have hf_508 := dk_full x_504
                    exact J_282 x_502 x_503 x_504 (by omega) (by omega) S_505 I_505 M_505 ZS_505 (lp_r hF_2 (F_m_shade_p4 c_507)) _ _ hP hS _ (lv_sub hl [0, 1, 2, 3, 4, 5] rfl)
                  · as_aux_lemma =>
                      have jc_507 := dk_ngec (k := 64) (by decide +kernel) c_507
                      refine lv_aload_n hx hb dX12_shade_37 rfl (lv_at hl 3 rfl) ?_
                      refine lv_iload hx hb dX12_shade_38 (lv_at hl 0 rfl) ?_
                      refine dg_calli hS hA1 hA (va_runV (As := [.int x_502]) (rest := []) F (c_m_canHang l g D o S_505 x_502 (by omega) (ZBM.keep ZB M_505 (dk_dq rfl) (dk_dq rfl) (dk_dq rfl) (dk_dq rfl) (dk_dq rfl)) I_505 H.size) (cwV 1 hts (bw_V wB_1243 wB_1244 wB_1245 wB_297 wB_1242) rfl rfl rfl (by decide +kernel) ⟨Nat.le_of_ble_eq_true rfl, Nat.le_of_ble_eq_true rfl⟩) (dg_preV sM_0 rfl K ST hP hS hA1 hA) rfl rfl hl.1 rfl (lv_room (Nat.le_of_ble_eq_true rfl)) dX12_shade_40 ⟨Nat.le_of_ble_eq_true rfl, Nat.le_of_ble_eq_true rfl⟩) (fun x_510 S_511 hw_511 H locs hP hS => ?_)
                      rw [hw_511.1] at hP
                      obtain ⟨hq_511, w_511_0, w_511_1, -⟩ := hw_511
                      have w_511_0 : 0 ≤ (x_510).toInt ∧ (x_510).toInt ≤ 1 := w_511_0
                      have J_552 : ∀ (x_546 : Int32) (x_547 : Int32), ((-1) ≤ (x_547).toInt ∧ (x_547).toInt ≤ 2147483647) → ∀ S_551 : dg_S, CM o S_551 → dg_sm shM [] [29, 30, 31, 32, 33, 34, 35, 36, 37, 38, 39, 40, 41, 42, 43, 44] S S_551 → ZSM S_551 → ((F_m_shade_B2 a2 o a1) (x_502, x_503, x_504, S_505) = F_m_shade_J3 x_502 x_546 x_547 S_551) → ∀ (H : Heap) (locs : List Loc), va_P D vwCl (dg_w g shM o rfM S_551) H → va_S A s.heap H locs → ∀ ls : Array Slot, lv_has ls 6 [(5, .int x_502), (4, .int x_546), (3, .int x_547), (0, .ref (o + 0)), (1, .int a1), (2, .int a2)] → W p l e ({ frames := 10, cells := 0, slots := 0, locals := 239 } : Room) s m args below meth c H locs 0 0 (MQ below (va_Qi (fun (r : Int32) S' => CM o S' ∧ dg_sm shM [] [29, 30, 31, 32, 33, 34, 35, 36, 37, 38, 39, 40, 41, 42, 43, 44] S S' ∧ ZSM S' ∧ (S' = (F_m_shade o S a1 a2).1 ∧ r = (F_m_shade o S a1 a2).2) ∧ True) (dg_B g D shM o rfM) A) args s 0 0 A) (F0 m 105 ls []) := by
                        intro x_546 x_547 b_x_547 S_551 I_551 M_551 ZS_551 hF_3 H locs hP hS ls hl
                        obtain ⟨x_553, ex_553⟩ : ∃ z, z = x_502 + 1 := ⟨_, rfl⟩
                        have jx_553 : (x_553).toInt = (x_502).toInt + 1 := by rw [ex_553]; exact dk_addT2 rfl (by decide +kernel) (by omega)
                        refine lv_iinc (v := x_553) (lv' := [(5, .int x_553), (4, .int x_546), (3, .int x_547), (0, .ref (o + 0)), (1, .int a1), (2, .int a2)]) hx hb dX12_shade_105 hl (k := 0) rfl (by rw [ex_553]; rfl) (dk_dq rfl) rfl (fun ls hl => ?_)
                        refine lv_goto (tgt := 30) hx hb dX12_shade_108 (dk_dq rfl) ?_
                        have hf_553 := dk_full x_547
                        exact ih x_553 x_546 x_547 (by omega) (by omega) (by first | exact mu_lt hmu (by omega) (by omega) | omega) S_551 I_551 M_551 ZS_551 (lp_l hF_2 (Eq.trans hF_3 (F_m_shade_p5 ex_553))) _ _ hP hS _ (lv_sub hl [0, 1, 2, 3, 4, 5] rfl)
                      refine lv_if_eq (tgt := 105) hx hb dX12_shade_43 (dk_dq rfl) (fun c_555 => ?_) (fun c_555 => ?_)
                      · have jc_555 := dk_eqc (k := 0) (by decide +kernel) c_555
                        have hf_555 := dk_full x_504
                        exact J_552 x_503 x_504 (by omega) S_505 I_505 M_505 ZS_505 (F_m_shade_p6 c_507 w_511_1 c_555) _ _ hP hS _ (lv_sub hl [0, 1, 2, 3, 4, 5] rfl)
                      · as_aux_lemma =>
                          have jc_555 := dk_neqc (k := 0) (by decide +kernel) c_555
                          refine lv_aload_n hx hb dX12_shade_46 rfl (lv_at hl 3 rfl) ?_
                          refine dg_get (C := RX12) (T := TX12) (N := 77) hx hb hts (fun w h => bw_mem (wU_X12 w h)) hown K hP sM_0 rfl 52 (dk_dq rfl) (hts _ (bw_mem wB_1097)) (fun _ h9 => h9) (v := .ref (o + 32)) (show S_505.1 0 52 = .ref (o + 32) from dg_I.rel (d := 32) I_505 sM_0 (by decide +kernel)) dX12_shade_47 ?_
                          refine lv_iload hx hb dX12_shade_50 (lv_at hl 0 rfl) ?_
                          have hin_557 : vp_in x_502 1408 := (dk_inv2 (by omega))
                          refine dg_iald hx hb K hP sM_32 hin_557 dX12_shade_52 (fun x_558 ex_558 => ?_)
                          refine lv_iconst (v := 1) hx hb dX12_shade_53 (by decide +kernel) ?_
                          refine lv_icmp_ne (tgt := 60) hx hb dX12_shade_54 (dk_dq rfl) (fun c_559 => ?_) (fun c_559 => ?_)
                          · as_aux_lemma =>
                              have jc_559 := dk_neqc (k := 1) (by decide +kernel) c_559
                              refine lv_aload_n hx hb dX12_shade_60 rfl (lv_at hl 3 rfl) ?_
                              refine lv_iconst (v := 1) hx hb dX12_shade_61 (by decide +kernel) ?_
                              refine lv_iconst (v := 0) hx hb dX12_shade_62 (by decide +kernel) ?_
                              have hz_560 : (1 : Int32).toInt = 1 := by decide +kernel
                              have hz_561 : (0 : Int32).toInt = 0 := by decide +kernel
                              obtain ⟨x_562, f_x_562⟩ : ∃ x, S_505.2.1 29 (0 : Int32).toNatClampNeg = x := ⟨_, rfl⟩
                              have hin_563 : vp_in (0 : Int32) 22 := (dk_in (by decide +kernel))
                              have b_x_562 := dk_all_at (dg_I.row (lo := 0) (hi := 2000) I_505 sM_29 (by decide +kernel)) hin_563 f_x_562.symm
                              have ex_562 := f_x_562.symm
                              have hz_564 : (0 : Int32).toInt = 0 := by decide +kernel
                              have zs_x_562 : (0 : Int32).toInt ≠ 1 → (x_562).toInt ≤ 999 := fun h => by rw [ex_562]; exact ZS_505 _ (dk_inT hin_563).2 (fun q => by have h9 := (dk_inT hin_563).1; omega)
                              refine dg_callv hS hA1 hA (va_runV (As := [.int 1, .int 0]) (rest := []) F (c_m_copies l g D o S_505 1 (by decide +kernel) 0 (by decide +kernel) x_562 f_x_562 (by omega) x_562 f_x_562 (by omega) (by omega) ZS_505 I_505 H.size) (cwV 2 hts (bw_V wB_1227 wB_1228 wB_1229 wB_297 wB_1226) rfl rfl rfl (by decide +kernel) ⟨Nat.le_of_ble_eq_true rfl, Nat.le_of_ble_eq_true rfl⟩) (dg_preV sM_0 rfl K ST hP hS hA1 hA) rfl rfl hl.1 rfl (lv_room (Nat.le_of_ble_eq_true rfl)) dX12_shade_63 ⟨Nat.le_of_ble_eq_true rfl, Nat.le_of_ble_eq_true rfl⟩) (fun S_565 hw_565 H locs hP hS => ?_)
                              obtain ⟨I_565, m_565, w_565_0, w_565_1, w_565_2, w_565_3, -⟩ := hw_565
                              have M_565 := dg_sm.tr M_505 m_565 (dk_dq rfl) (dk_dq rfl)
                              have hz_566 : (1 : Int32).toInt = 1 := by decide +kernel
                              have hz_567 : (0 : Int32).toInt = 0 := by decide +kernel
                              obtain ⟨x_568, f_x_568⟩ : ∃ x, S_565.2.1 29 (1 : Int32).toNatClampNeg = x := ⟨_, rfl⟩
                              have hin_569 : vp_in (1 : Int32) 22 := (dk_in (by decide +kernel))
                              have b_x_568 := dk_all_at (dg_I.row (lo := 0) (hi := 2000) I_565 sM_29 (by decide +kernel)) hin_569 f_x_568.symm
                              have ex_568 := f_x_568.symm
                              have hz_570 : (1 : Int32).toInt = 1 := by decide +kernel
                              have zs_x_568 : (1 : Int32).toInt ≠ 1 → (x_568).toInt ≤ 999 := fun h => by rw [ex_568]; exact w_565_2 _ (dk_inT hin_569).2 (fun q => by have h9 := (dk_inT hin_569).1; omega)
                              have w_565_0 : (x_568).toInt = (x_562).toInt := w_565_0 x_568 f_x_568
                              obtain ⟨x_571, f_x_571⟩ : ∃ x, S_565.2.1 29 (0 : Int32).toNatClampNeg = x := ⟨_, rfl⟩
                              have hin_572 : vp_in (0 : Int32) 22 := (dk_in (by decide +kernel))
                              have b_x_571 := dk_all_at (dg_I.row (lo := 0) (hi := 2000) I_565 sM_29 (by decide +kernel)) hin_572 f_x_571.symm
                              have ex_571 := f_x_571.symm
                              have hz_573 : (0 : Int32).toInt = 0 := by decide +kernel
                              have zs_x_571 : (0 : Int32).toInt ≠ 1 → (x_571).toInt ≤ 999 := fun h => by rw [ex_571]; exact w_565_2 _ (dk_inT hin_572).2 (fun q => by have h9 := (dk_inT hin_572).1; omega)
                              have w_565_1 : ((1 : Int32)).toInt ≠ 0 → (x_571).toInt = (x_562).toInt := w_565_1 x_571 f_x_571
                              refine lv_aload_n hx hb dX12_shade_66 rfl (lv_at hl 3 rfl) ?_
                              refine dg_get (C := RX12) (T := TX12) (N := 77) hx hb hts (fun w h => bw_mem (wU_X12 w h)) hown K hP sM_0 rfl 52 (dk_dq rfl) (hts _ (bw_mem wB_1097)) (fun _ h9 => h9) (v := .ref (o + 32)) (show S_565.1 0 52 = .ref (o + 32) from dg_I.rel (d := 32) I_565 sM_0 (by decide +kernel)) dX12_shade_67 ?_
                              refine lv_bipush (v := 64) hx hb dX12_shade_70 (by decide +kernel) ?_
                              refine lv_iload hx hb dX12_shade_72 (lv_at hl 0 rfl) ?_
                              refine lv_iadd hx hb dX12_shade_74 ?_
                              refine lv_topi (fun x_574 ex_574 => ?_)
                              have jx_574 : (x_574).toInt = 64 + (x_502).toInt := by rw [ex_574]; exact dk_addT2 (by decide +kernel) rfl (by omega)
                              refine lv_iconst (v := 1) hx hb dX12_shade_75 (by decide +kernel) ?_
                              have hin_575 : vp_in x_574 1408 := (dk_inv2 (by omega))
                              have hz_577 : (1 : Int32).toInt = 1 := by decide +kernel
                              as_aux_lemma =>
                                refine dg_iast hx hb K hP hS hA1 sM_32 hin_575 dX12_shade_76 (fun S_576 e_576 H locs hP hS => ?_)
                                have I_576 := dg_I.uf0 I_565 e_576 sM_32 (by decide +kernel)
                                have M_576 := dg_sm.uf M_565 e_576 sM_32 (dk_dq rfl)
                                refine lv_aload_n hx hb dX12_shade_77 rfl (lv_at hl 3 rfl) ?_
                                refine lv_iload_n hx hb dX12_shade_78 rfl (lv_at hl 4 rfl) ?_
                                refine dg_callv hS hA1 hA (va_runV (As := [.int a1]) (rest := []) F (c_m_runsOn l g D o S_576 a1 (by omega) x_568 ((congrFun (dg_uf_ne e_576 (dk_dq rfl)) _).trans f_x_568) (by omega) (ZBM.keep (ZBM.keep (ZBM.keep ZB M_505 (dk_dq rfl) (dk_dq rfl) (dk_dq rfl) (dk_dq rfl) (dk_dq rfl)) m_565 (dk_dq rfl) (dk_dq rfl) (dk_dq rfl) (dk_dq rfl) (dk_dq rfl)) (dg_sm.uf (WF := []) (WA := [32]) dg_sm.rf e_576 sM_32 (dk_dq rfl)) (dk_dq rfl) (dk_dq rfl) (dk_dq rfl) (dk_dq rfl) (dk_dq rfl)) (ZSM.keep w_565_2 (dg_sm.uf (WF := []) (WA := [32]) dg_sm.rf e_576 sM_32 (dk_dq rfl)) (dk_dq rfl)) (ZWM.keep (ZWM.keep (ZWM.keep ZW M_505 (dk_dq rfl) (dk_dq rfl) (dk_dq rfl) (dk_dq rfl)) m_565 (dk_dq rfl) (dk_dq rfl) (dk_dq rfl) (dk_dq rfl)) (dg_sm.uf (WF := []) (WA := [32]) dg_sm.rf e_576 sM_32 (dk_dq rfl)) (dk_dq rfl) (dk_dq rfl) (dk_dq rfl) (dk_dq rfl)) I_576 H.size) (cwV 1 hts (bw_V wB_1239 wB_1240 wB_1241 wB_297 wB_1238) rfl rfl rfl (by decide +kernel) ⟨Nat.le_of_ble_eq_true rfl, Nat.le_of_ble_eq_true rfl⟩) (dg_preV sM_0 rfl K ST hP hS hA1 hA) rfl rfl hl.1 rfl (lv_room (Nat.le_of_ble_eq_true rfl)) dX12_shade_79 ⟨Nat.le_of_ble_eq_true rfl, Nat.le_of_ble_eq_true rfl⟩) (fun S_578 hw_578 H locs hP hS => ?_)
                                obtain ⟨I_578, m_578, w_578_0, w_578_1, -⟩ := hw_578
                                have M_578 := dg_sm.tr M_576 m_578 (dk_dq rfl) (dk_dq rfl)
                                refine lv_aload_n hx hb dX12_shade_82 rfl (lv_at hl 3 rfl) ?_
                                refine lv_iconst (v := 1) hx hb dX12_shade_83 (by decide +kernel) ?_
                                have hz_579 : (1 : Int32).toInt = 1 := by decide +kernel
                                refine dg_calli hS hA1 hA (va_runV (As := [.int 1]) (rest := []) F (c_m_worthOf l g D o S_578 1 (by decide +kernel) (ZBM.keep (ZBM.keep (ZBM.keep (ZBM.keep ZB M_505 (dk_dq rfl) (dk_dq rfl) (dk_dq rfl) (dk_dq rfl) (dk_dq rfl)) m_565 (dk_dq rfl) (dk_dq rfl) (dk_dq rfl) (dk_dq rfl) (dk_dq rfl)) (dg_sm.uf (WF := []) (WA := [32]) dg_sm.rf e_576 sM_32 (dk_dq rfl)) (dk_dq rfl) (dk_dq rfl) (dk_dq rfl) (dk_dq rfl) (dk_dq rfl)) m_578 (dk_dq rfl) (dk_dq rfl) (dk_dq rfl) (dk_dq rfl) (dk_dq rfl)) I_578 H.size) (cwV 1 hts (bw_V wB_1198 wB_1199 wB_1200 wB_297 wB_1197) rfl rfl rfl (by decide +kernel) ⟨Nat.le_of_ble_eq_true rfl, Nat.le_of_ble_eq_true rfl⟩) (dg_preV sM_0 rfl K ST hP hS hA1 hA) rfl rfl hl.1 rfl (lv_room (Nat.le_of_ble_eq_true rfl)) dX12_shade_84 ⟨Nat.le_of_ble_eq_true rfl, Nat.le_of_ble_eq_true rfl⟩) (fun x_580 S_581 hw_581 H locs hP hS => ?_)
                                rw [hw_581.1] at hP
                                obtain ⟨hq_581, w_581_0, -⟩ := hw_581
                                refine lv_iload hx hb dX12_shade_87 (lv_at hl 1 rfl) ?_
                                refine lv_icmp_gt (tgt := 95) hx hb dX12_shade_89 (dk_dq rfl) (fun c_582 => ?_) (fun c_582 => ?_)
                                · have hf_582 := dk_full x_580
                                  have hf_583 := dk_full x_503
                                  have jc_582 := dk_gtc (k := (x_503).toInt) rfl c_582
                                  refine lv_aload_n hx hb dX12_shade_95 rfl (lv_at hl 3 rfl) ?_
                                  refine lv_iconst (v := 1) hx hb dX12_shade_96 (by decide +kernel) ?_
                                  have hz_585 : (1 : Int32).toInt = 1 := by decide +kernel
                                  refine dg_calli hS hA1 hA (va_runV (As := [.int 1]) (rest := []) F (c_m_worthOf l g D o S_578 1 (by decide +kernel) (ZBM.keep (ZBM.keep (ZBM.keep (ZBM.keep ZB M_505 (dk_dq rfl) (dk_dq rfl) (dk_dq rfl) (dk_dq rfl) (dk_dq rfl)) m_565 (dk_dq rfl) (dk_dq rfl) (dk_dq rfl) (dk_dq rfl) (dk_dq rfl)) (dg_sm.uf (WF := []) (WA := [32]) dg_sm.rf e_576 sM_32 (dk_dq rfl)) (dk_dq rfl) (dk_dq rfl) (dk_dq rfl) (dk_dq rfl) (dk_dq rfl)) m_578 (dk_dq rfl) (dk_dq rfl) (dk_dq rfl) (dk_dq rfl) (dk_dq rfl)) I_578 H.size) (cwV 1 hts (bw_V wB_1198 wB_1199 wB_1200 wB_297 wB_1197) rfl rfl rfl (by decide +kernel) ⟨Nat.le_of_ble_eq_true rfl, Nat.le_of_ble_eq_true rfl⟩) (dg_preV sM_0 rfl K ST hP hS hA1 hA) rfl rfl hl.1 rfl (lv_room (Nat.le_of_ble_eq_true rfl)) dX12_shade_97 ⟨Nat.le_of_ble_eq_true rfl, Nat.le_of_ble_eq_true rfl⟩) (fun x_586 S_587 hw_587 H locs hP hS => ?_)
                                  rw [hw_587.1] at hP
                                  obtain ⟨hq_587, w_587_0, -⟩ := hw_587
                                  refine lv_istore (lv' := [(4, .int x_586), (5, .int x_502), (3, .int x_504), (0, .ref (o + 0)), (1, .int a1), (2, .int a2)]) hx hb dX12_shade_100 hl (dk_dq rfl) rfl (fun ls hl => ?_)
                                  refine lv_iload hx hb dX12_shade_102 (lv_at hl 1 rfl) ?_
                                  refine lv_istore_n (lv' := [(3, .int x_502), (4, .int x_586), (5, .int x_502), (0, .ref (o + 0)), (1, .int a1), (2, .int a2)]) hx hb dX12_shade_104 rfl hl (dk_dq rfl) rfl (fun ls hl => ?_)
                                  have hf_587 := dk_full x_502
                                  exact J_552 x_586 x_502 (by omega) S_578 I_578 M_578 w_578_0 (F_m_shade_p7 c_507 w_511_1 c_555 (Eq.symm ex_558.symm) c_559 w_565_3 ex_574 e_576 w_578_1 w_581_0 c_582 w_587_0) _ _ hP hS _ (lv_sub hl [2, 1, 0, 3, 4, 5] rfl)
                                · have hf_588 := dk_full x_580
                                  have hf_589 := dk_full x_503
                                  have jc_582 := dk_ngtc (k := (x_503).toInt) rfl c_582
                                  refine lv_goto (tgt := 105) hx hb dX12_shade_92 (dk_dq rfl) ?_
                                  have hf_590 := dk_full x_504
                                  exact J_552 x_503 x_504 (by omega) S_578 I_578 M_578 w_578_0 (F_m_shade_p8 c_507 w_511_1 c_555 (Eq.symm ex_558.symm) c_559 w_565_3 ex_574 e_576 w_578_1 w_581_0 c_582) _ _ hP hS _ (lv_sub hl [0, 1, 2, 3, 4, 5] rfl)
                          · have jc_559 := dk_eqc (k := 1) (by decide +kernel) c_559
                            refine lv_goto (tgt := 105) hx hb dX12_shade_57 (dk_dq rfl) ?_
                            have hf_591 := dk_full x_504
                            exact J_552 x_503 x_504 (by omega) S_505 I_505 M_505 ZS_505 (F_m_shade_p9 c_507 w_511_1 c_555 (Eq.symm ex_558.symm) c_559) _ _ hP hS _ (lv_sub hl [0, 1, 2, 3, 4, 5] rfl)
          have hz_593 : (0 : Int32).toInt = 0 := by decide +kernel
          have hz_594 : (-1 : Int32).toInt = (-1) := by decide +kernel
          have hz_595 : (0 : Int32).toInt = 0 := by decide +kernel
          have hz_596 : (-1 : Int32).toInt = (-1) := by decide +kernel
          have hz_597 : (-1 : Int32).toInt = (-1) := by decide +kernel
          exact L_506 ((65 - ((0 : Int32)).toInt).toNat + 1) 0 (-1) (-1) (by decide +kernel) (by decide +kernel) (by first | exact mu_lt hmu (by omega) (by omega) | omega) S I M_0 ZS (F_m_shade_p10 w_8_2 c_11 w_13_2 c_16) _ _ hP hS _ (lv_sub hl [0, 1, 2, 3, 4, 5] rfl)
      · have jc_16 := dk_eqc (k := 0) (by decide +kernel) c_16
        refine lv_iconst (v := (-1)) hx hb dX12_shade_20 (by decide +kernel) ?_
        refine W.widen (k := 0) (n := 0) (Nat.le_of_ble_eq_true rfl) (Nat.le_of_ble_eq_true rfl) ?_
        exact dg_iret hx hb hr hlocks rfl hP hS ⟨I, M_0, ZS, ⟨congrArg Prod.fst (Eq.symm (F_m_shade_p11 w_8_2 c_11 w_13_2 c_16)), congrArg Prod.snd (Eq.symm (F_m_shade_p11 w_8_2 c_11 w_13_2 c_16))⟩, trivial⟩ dX12_shade_21
noncomputable def F_m_changes_J1 (a2 : Int32) (S_26 : dg_S) (a1 : Int32) : dg_S := let x_27 : Int32 := (16 : Int32) + a2; let x_29 : Int32 := S_26.2.1 36 (a1 : Int32).toNatClampNeg; let S_31 : dg_S := dg_uf S_26 36 (upd (S_26.2.1 36) (x_27 : Int32).toNatClampNeg x_29); (S_31)
noncomputable def F_m_changes (o : Nat) (S : dg_S) (a1 : Int32) (a2 : Int32) : dg_S := let s0 : Int32 := S.2.1 29 (0 : Int32).toNatClampNeg; let S_3 : dg_S := F_m_copies o S (1 : Int32) (0 : Int32); let x_9 : Int32 := S_3.2.1 29 (0 : Int32).toNatClampNeg; let x_6 : Int32 := S_3.2.1 29 (1 : Int32).toNatClampNeg; let x_12 : Int32 := (16 : Int32) + a1; let x_14 : Int32 := S_3.2.1 35 (a2 : Int32).toNatClampNeg; let S_16 : dg_S := dg_uf S_3 35 (upd (S_3.2.1 35) (x_12 : Int32).toNatClampNeg x_14); let x_17 : Int32 := (16 : Int32) + a1; let x_19 : Int32 := S_16.2.1 36 (a2 : Int32).toNatClampNeg; let S_21 : dg_S := dg_uf S_16 36 (upd (S_16.2.1 36) (x_17 : Int32).toNatClampNeg x_19); let x_22 : Int32 := (16 : Int32) + a2; let x_24 : Int32 := S_21.2.1 35 (a1 : Int32).toNatClampNeg; let S_26 : dg_S := dg_uf S_21 35 (upd (S_21.2.1 35) (x_22 : Int32).toNatClampNeg x_24); (F_m_changes_J1 a2 S_26 a1)
theorem F_m_changes_p0 {a2 : Int32} {S_26 : dg_S} {a1 : Int32} {S_31 : dg_S} {x_27 : Int32} {x_29 : Int32} (h0 : x_27 = (16 : Int32) + a2) (h1 : x_29 = S_26.2.1 36 (a1 : Int32).toNatClampNeg) (h2 : S_31 = dg_uf S_26 36 (upd (S_26.2.1 36) (x_27 : Int32).toNatClampNeg x_29)) : F_m_changes_J1 a2 S_26 a1 = S_31 := by
  replace h0 := Eq.symm h0
  subst h0
  replace h1 := Eq.symm h1
  subst h1
  replace h2 := Eq.symm h2
  subst h2
  exact rfl
theorem F_m_changes_p1 {o : Nat} {S : dg_S} {a1 : Int32} {a2 : Int32} {S_26 : dg_S} {S_3 : dg_S} {x_12 : Int32} {x_14 : Int32} {S_16 : dg_S} {x_17 : Int32} {x_19 : Int32} {S_21 : dg_S} {x_22 : Int32} {x_24 : Int32} (h0 : S_3 = F_m_copies o S (1 : Int32) (0 : Int32)) (h1 : x_12 = (16 : Int32) + a1) (h2 : x_14 = S_3.2.1 35 (a2 : Int32).toNatClampNeg) (h3 : S_16 = dg_uf S_3 35 (upd (S_3.2.1 35) (x_12 : Int32).toNatClampNeg x_14)) (h4 : x_17 = (16 : Int32) + a1) (h5 : x_19 = S_16.2.1 36 (a2 : Int32).toNatClampNeg) (h6 : S_21 = dg_uf S_16 36 (upd (S_16.2.1 36) (x_17 : Int32).toNatClampNeg x_19)) (h7 : x_22 = (16 : Int32) + a2) (h8 : x_24 = S_21.2.1 35 (a1 : Int32).toNatClampNeg) (h9 : S_26 = dg_uf S_21 35 (upd (S_21.2.1 35) (x_22 : Int32).toNatClampNeg x_24)) : F_m_changes o S a1 a2 = F_m_changes_J1 a2 S_26 a1 := by
  replace h0 := Eq.symm h0
  subst h0
  replace h1 := Eq.symm h1
  subst h1
  replace h2 := Eq.symm h2
  subst h2
  replace h3 := Eq.symm h3
  subst h3
  replace h4 := Eq.symm h4
  subst h4
  replace h5 := Eq.symm h5
  subst h5
  replace h6 := Eq.symm h6
  subst h6
  replace h7 := Eq.symm h7
  subst h7
  replace h8 := Eq.symm h8
  subst h8
  replace h9 := Eq.symm h9
  subst h9
  exact rfl
set_option maxHeartbeats 8000000 in
set_option maxRecDepth 100000 in
theorem c_m_changes (l : Launch) (g : Nat → ClassId) (D : va_G) (o : Nat) (S : dg_S) (a1 : Int32) (b_a1 : 0 ≤ (a1).toInt ∧ (a1).toInt ≤ 15) (a2 : Int32) (b_a2 : 0 ≤ (a2).toInt ∧ (a2).toInt ≤ 15) (s0 : Int32) (f_s0 : S.2.1 29 (0 : Int32).toNatClampNeg = s0) (b_s0 : 0 ≤ (s0).toInt ∧ (s0).toInt ≤ 999) (ZB : ZBM S) (ZS : ZSM S) (ZW : ZWM S) (I : CM o S) (sz : Nat) : Met l yX12_changes (bw yX12_changes cX12_changes 3 none) ({ frames := 2, cells := 0, slots := 0, locals := 55 } : Room) (dk_Pc g D (dg_w g shM o rfM S) sz [.ref (o + 0), .int a1, .int a2]) (va_Qv (fun S' => CM o S' ∧ dg_sm shM [] [29, 30, 31, 32, 33, 34, 35, 36, 37, 38, 39] S S' ∧ (∀ x9 : Int32, S'.2.1 29 (1 : Int32).toNatClampNeg = x9 → ((x9).toInt = (s0).toInt)) ∧ ZSM S' ∧ (S' = F_m_changes o S a1 a2) ∧ True) (dg_B g D shM o rfM) (dg_A o shM.length sz)) 0 0 (dg_A o shM.length sz) := by
  refine dg_met (cc := cX12_changes) (maxL := 3) (ret := none) (dk_dq rfl) rfl (Nat.le_of_ble_eq_true rfl) ?_
  intro p e s m args below meth c A hAe harg hx hb hr hml hts hown hlocks hin hP K hS hA1 hA ST hsz ls hl
  rw [← hAe]
  have F : CallFix p m c cX12_changes 3 s args (bw yX12_changes cX12_changes 3 none) RX12 := ⟨hx, hb, hml, hown, hts⟩
  have hl : lv_has ls 3 [(0, .ref (o + 0)), (1, .int a1), (2, .int a2)] := hl
  have M_0 : dg_sm shM [] [29, 30, 31, 32, 33, 34, 35, 36, 37, 38, 39] S S := dg_sm.rf
  refine lv_aload_n hx hb dX12_changes_0 rfl (lv_at hl 0 rfl) ?_
  refine lv_iconst (v := 1) hx hb dX12_changes_1 (by decide +kernel) ?_
  refine lv_iconst (v := 0) hx hb dX12_changes_2 (by decide +kernel) ?_
  have hz_1 : (1 : Int32).toInt = 1 := by decide +kernel
  have hz_2 : (0 : Int32).toInt = 0 := by decide +kernel
  refine dg_callv hS hA1 hA (va_runV (As := [.int 1, .int 0]) (rest := []) F (c_m_copies l g D o S 1 (by decide +kernel) 0 (by decide +kernel) s0 f_s0 (by omega) s0 f_s0 (by omega) (by omega) ZS I s.heap.size) (cwV 2 hts (bw_V wB_1227 wB_1228 wB_1229 wB_297 wB_1226) rfl rfl rfl (by decide +kernel) ⟨Nat.le_of_ble_eq_true rfl, Nat.le_of_ble_eq_true rfl⟩) (dg_preV sM_0 rfl K ST hP hS hA1 hA) rfl rfl hl.1 rfl (lv_room (Nat.le_of_ble_eq_true rfl)) dX12_changes_3 ⟨Nat.le_of_ble_eq_true rfl, Nat.le_of_ble_eq_true rfl⟩) (fun S_3 hw_3 H locs hP hS => ?_)
  obtain ⟨I_3, m_3, w_3_0, w_3_1, w_3_2, w_3_3, -⟩ := hw_3
  have M_3 := dg_sm.tr M_0 m_3 (dk_dq rfl) (dk_dq rfl)
  have hz_4 : (1 : Int32).toInt = 1 := by decide +kernel
  have hz_5 : (0 : Int32).toInt = 0 := by decide +kernel
  obtain ⟨x_6, f_x_6⟩ : ∃ x, S_3.2.1 29 (1 : Int32).toNatClampNeg = x := ⟨_, rfl⟩
  have hin_7 : vp_in (1 : Int32) 22 := (dk_in (by decide +kernel))
  have b_x_6 := dk_all_at (dg_I.row (lo := 0) (hi := 2000) I_3 sM_29 (by decide +kernel)) hin_7 f_x_6.symm
  have ex_6 := f_x_6.symm
  have hz_8 : (1 : Int32).toInt = 1 := by decide +kernel
  have zs_x_6 : (1 : Int32).toInt ≠ 1 → (x_6).toInt ≤ 999 := fun h => by rw [ex_6]; exact w_3_2 _ (dk_inT hin_7).2 (fun q => by have h9 := (dk_inT hin_7).1; omega)
  have w_3_0 : (x_6).toInt = (s0).toInt := w_3_0 x_6 f_x_6
  obtain ⟨x_9, f_x_9⟩ : ∃ x, S_3.2.1 29 (0 : Int32).toNatClampNeg = x := ⟨_, rfl⟩
  have hin_10 : vp_in (0 : Int32) 22 := (dk_in (by decide +kernel))
  have b_x_9 := dk_all_at (dg_I.row (lo := 0) (hi := 2000) I_3 sM_29 (by decide +kernel)) hin_10 f_x_9.symm
  have ex_9 := f_x_9.symm
  have hz_11 : (0 : Int32).toInt = 0 := by decide +kernel
  have zs_x_9 : (0 : Int32).toInt ≠ 1 → (x_9).toInt ≤ 999 := fun h => by rw [ex_9]; exact w_3_2 _ (dk_inT hin_10).2 (fun q => by have h9 := (dk_inT hin_10).1; omega)
  have w_3_1 : ((1 : Int32)).toInt ≠ 0 → (x_9).toInt = (s0).toInt := w_3_1 x_9 f_x_9
  refine lv_aload_n hx hb dX12_changes_6 rfl (lv_at hl 0 rfl) ?_
  refine dg_get (C := RX12) (T := TX12) (N := 77) hx hb hts (fun w h => bw_mem (wU_X12 w h)) hown K hP sM_0 rfl 55 (dk_dq rfl) (hts _ (bw_mem wB_1132)) (fun _ h9 => h9) (v := .ref (o + 35)) (show S_3.1 0 55 = .ref (o + 35) from dg_I.rel (d := 35) I_3 sM_0 (by decide +kernel)) dX12_changes_7 ?_
  refine lv_bipush (v := 16) hx hb dX12_changes_10 (by decide +kernel) ?_
  refine lv_iload_n hx hb dX12_changes_12 rfl (lv_at hl 1 rfl) ?_
  refine lv_iadd hx hb dX12_changes_13 ?_
  refine lv_topi (fun x_12 ex_12 => ?_)
  have jx_12 : (x_12).toInt = 16 + (a1).toInt := by rw [ex_12]; exact dk_addT2 (by decide +kernel) rfl (by omega)
  refine lv_aload_n hx hb dX12_changes_14 rfl (lv_at hl 0 rfl) ?_
  refine dg_get (C := RX12) (T := TX12) (N := 77) hx hb hts (fun w h => bw_mem (wU_X12 w h)) hown K hP sM_0 rfl 55 (dk_dq rfl) (hts _ (bw_mem wB_1132)) (fun _ h9 => h9) (v := .ref (o + 35)) (show S_3.1 0 55 = .ref (o + 35) from dg_I.rel (d := 35) I_3 sM_0 (by decide +kernel)) dX12_changes_15 ?_
  refine lv_iload_n hx hb dX12_changes_18 rfl (lv_at hl 2 rfl) ?_
  have hin_13 : vp_in a2 352 := (dk_inv2 (by omega))
  as_aux_lemma =>
    refine dg_iald hx hb K hP sM_35 hin_13 dX12_changes_19 (fun x_14 ex_14 => ?_)
    have hin_15 : vp_in x_12 352 := (dk_inv2 (by omega))
    refine dg_iast hx hb K hP hS hA1 sM_35 hin_15 dX12_changes_20 (fun S_16 e_16 H locs hP hS => ?_)
    have I_16 := dg_I.uf0 I_3 e_16 sM_35 (by decide +kernel)
    have M_16 := dg_sm.uf M_3 e_16 sM_35 (dk_dq rfl)
    refine lv_aload_n hx hb dX12_changes_21 rfl (lv_at hl 0 rfl) ?_
    refine dg_get (C := RX12) (T := TX12) (N := 77) hx hb hts (fun w h => bw_mem (wU_X12 w h)) hown K hP sM_0 rfl 56 (dk_dq rfl) (hts _ (bw_mem wB_1133)) (fun _ h9 => h9) (v := .ref (o + 36)) (show S_16.1 0 56 = .ref (o + 36) from dg_I.rel (d := 36) I_16 sM_0 (by decide +kernel)) dX12_changes_22 ?_
    refine lv_bipush (v := 16) hx hb dX12_changes_25 (by decide +kernel) ?_
    refine lv_iload_n hx hb dX12_changes_27 rfl (lv_at hl 1 rfl) ?_
    refine lv_iadd hx hb dX12_changes_28 ?_
    refine lv_topi (fun x_17 ex_17 => ?_)
    have jx_17 : (x_17).toInt = 16 + (a1).toInt := by rw [ex_17]; exact dk_addT2 (by decide +kernel) rfl (by omega)
    refine lv_aload_n hx hb dX12_changes_29 rfl (lv_at hl 0 rfl) ?_
    refine dg_get (C := RX12) (T := TX12) (N := 77) hx hb hts (fun w h => bw_mem (wU_X12 w h)) hown K hP sM_0 rfl 56 (dk_dq rfl) (hts _ (bw_mem wB_1133)) (fun _ h9 => h9) (v := .ref (o + 36)) (show S_16.1 0 56 = .ref (o + 36) from dg_I.rel (d := 36) I_16 sM_0 (by decide +kernel)) dX12_changes_30 ?_
    refine lv_iload_n hx hb dX12_changes_33 rfl (lv_at hl 2 rfl) ?_
    have hin_18 : vp_in a2 352 := (dk_inv2 (by omega))
    refine dg_iald hx hb K hP sM_36 hin_18 dX12_changes_34 (fun x_19 ex_19 => ?_)
    have b_x_19 := dk_all_at (dg_I.row (lo := 0) (hi := 63) I_16 sM_36 (by decide +kernel)) hin_18 ex_19
    have hin_20 : vp_in x_17 352 := (dk_inv2 (by omega))
    refine dg_iast hx hb K hP hS hA1 sM_36 hin_20 dX12_changes_35 (fun S_21 e_21 H locs hP hS => ?_)
    have I_21 := dg_I.ufu (lo := 0) (hi := 63) I_16 e_21 sM_36 (by decide +kernel) (show 0 ≤ (x_19).toInt ∧ (x_19).toInt ≤ 63 from (by omega))
    have M_21 := dg_sm.uf M_16 e_21 sM_36 (dk_dq rfl)
    refine lv_aload_n hx hb dX12_changes_36 rfl (lv_at hl 0 rfl) ?_
    refine dg_get (C := RX12) (T := TX12) (N := 77) hx hb hts (fun w h => bw_mem (wU_X12 w h)) hown K hP sM_0 rfl 55 (dk_dq rfl) (hts _ (bw_mem wB_1132)) (fun _ h9 => h9) (v := .ref (o + 35)) (show S_21.1 0 55 = .ref (o + 35) from dg_I.rel (d := 35) I_21 sM_0 (by decide +kernel)) dX12_changes_37 ?_
    refine lv_bipush (v := 16) hx hb dX12_changes_40 (by decide +kernel) ?_
    refine lv_iload_n hx hb dX12_changes_42 rfl (lv_at hl 2 rfl) ?_
    refine lv_iadd hx hb dX12_changes_43 ?_
    refine lv_topi (fun x_22 ex_22 => ?_)
    have jx_22 : (x_22).toInt = 16 + (a2).toInt := by rw [ex_22]; exact dk_addT2 (by decide +kernel) rfl (by omega)
    refine lv_aload_n hx hb dX12_changes_44 rfl (lv_at hl 0 rfl) ?_
    refine dg_get (C := RX12) (T := TX12) (N := 77) hx hb hts (fun w h => bw_mem (wU_X12 w h)) hown K hP sM_0 rfl 55 (dk_dq rfl) (hts _ (bw_mem wB_1132)) (fun _ h9 => h9) (v := .ref (o + 35)) (show S_21.1 0 55 = .ref (o + 35) from dg_I.rel (d := 35) I_21 sM_0 (by decide +kernel)) dX12_changes_45 ?_
    refine lv_iload_n hx hb dX12_changes_48 rfl (lv_at hl 1 rfl) ?_
    have hin_23 : vp_in a1 352 := (dk_inv2 (by omega))
    refine dg_iald hx hb K hP sM_35 hin_23 dX12_changes_49 (fun x_24 ex_24 => ?_)
    have hin_25 : vp_in x_22 352 := (dk_inv2 (by omega))
    refine dg_iast hx hb K hP hS hA1 sM_35 hin_25 dX12_changes_50 (fun S_26 e_26 H locs hP hS => ?_)
    have I_26 := dg_I.uf0 I_21 e_26 sM_35 (by decide +kernel)
    have M_26 := dg_sm.uf M_21 e_26 sM_35 (dk_dq rfl)
    have hF_1 : F_m_changes o S a1 a2 = F_m_changes_J1 a2 S_26 a1 := (F_m_changes_p1 w_3_3 ex_12 (Eq.symm ex_14.symm) e_16 ex_17 (Eq.symm ex_19.symm) e_21 ex_22 (Eq.symm ex_24.symm) e_26)
    refine lv_aload_n hx hb dX12_changes_51 rfl (lv_at hl 0 rfl) ?_
    as_aux_lemma =>
      refine dg_get (C := RX12) (T := TX12) (N := 77) hx hb hts (fun w h => bw_mem (wU_X12 w h)) hown K hP sM_0 rfl 56 (dk_dq rfl) (hts _ (bw_mem wB_1133)) (fun _ h9 => h9) (v := .ref (o + 36)) (show S_26.1 0 56 = .ref (o + 36) from dg_I.rel (d := 36) I_26 sM_0 (by decide +kernel)) dX12_changes_52 ?_
      refine lv_bipush (v := 16) hx hb dX12_changes_55 (by decide +kernel) ?_
      refine lv_iload_n hx hb dX12_changes_57 rfl (lv_at hl 2 rfl) ?_
      refine lv_iadd hx hb dX12_changes_58 ?_
      refine lv_topi (fun x_27 ex_27 => ?_)
      have jx_27 : (x_27).toInt = 16 + (a2).toInt := by rw [ex_27]; exact dk_addT2 (by decide +kernel) rfl (by omega)
      refine lv_aload_n hx hb dX12_changes_59 rfl (lv_at hl 0 rfl) ?_
      refine dg_get (C := RX12) (T := TX12) (N := 77) hx hb hts (fun w h => bw_mem (wU_X12 w h)) hown K hP sM_0 rfl 56 (dk_dq rfl) (hts _ (bw_mem wB_1133)) (fun _ h9 => h9) (v := .ref (o + 36)) (show S_26.1 0 56 = .ref (o + 36) from dg_I.rel (d := 36) I_26 sM_0 (by decide +kernel)) dX12_changes_60 ?_
      refine lv_iload_n hx hb dX12_changes_63 rfl (lv_at hl 1 rfl) ?_
      have hin_28 : vp_in a1 352 := (dk_inv2 (by omega))
      refine dg_iald hx hb K hP sM_36 hin_28 dX12_changes_64 (fun x_29 ex_29 => ?_)
      have b_x_29 := dk_all_at (dg_I.row (lo := 0) (hi := 63) I_26 sM_36 (by decide +kernel)) hin_28 ex_29
      have hin_30 : vp_in x_27 352 := (dk_inv2 (by omega))
      refine dg_iast hx hb K hP hS hA1 sM_36 hin_30 dX12_changes_65 (fun S_31 e_31 H locs hP hS => ?_)
      have I_31 := dg_I.ufu (lo := 0) (hi := 63) I_26 e_31 sM_36 (by decide +kernel) (show 0 ≤ (x_29).toInt ∧ (x_29).toInt ≤ 63 from (by omega))
      have M_31 := dg_sm.uf M_26 e_31 sM_36 (dk_dq rfl)
      refine W.widen (k := 0) (n := 0) (Nat.le_of_ble_eq_true rfl) (Nat.le_of_ble_eq_true rfl) ?_
      exact dg_vret hx hb hr hlocks hP hS ⟨I_31, M_31, (fun x9 h9 => by obtain rfl := (((congrFun ((dg_uf_ne e_31 (dk_dq rfl)).trans ((dg_uf_ne e_26 (dk_dq rfl)).trans ((dg_uf_ne e_21 (dk_dq rfl)).trans (dg_uf_ne e_16 (dk_dq rfl))))) _).trans f_x_6)).symm.trans h9; omega), (ZSM.keep (ZSM.keep (ZSM.keep (ZSM.keep w_3_2 (dg_sm.uf (WF := []) (WA := [35]) dg_sm.rf e_16 sM_35 (dk_dq rfl)) (dk_dq rfl)) (dg_sm.uf (WF := []) (WA := [36]) dg_sm.rf e_21 sM_36 (dk_dq rfl)) (dk_dq rfl)) (dg_sm.uf (WF := []) (WA := [35]) dg_sm.rf e_26 sM_35 (dk_dq rfl)) (dk_dq rfl)) (dg_sm.uf (WF := []) (WA := [36]) dg_sm.rf e_31 sM_36 (dk_dq rfl)) (dk_dq rfl)), (Eq.symm (Eq.trans hF_1 (F_m_changes_p0 ex_27 (Eq.symm ex_29.symm) e_31))), trivial⟩ dX12_changes_66
noncomputable def F_m_change_J1 (x_951 : Int32) (S_957 : dg_S) (a2 : Int32) (x_950 : Int32) (x_952 : Int32) : dg_S × Int32 := (if x_951 = (-1 : Int32) then (S_957, (-1 : Int32)) else (if a2 = (0 : Int32) then (S_957, x_951) else (if a2 = (1 : Int32) then (S_957, x_950) else (S_957, x_952))))
noncomputable def F_m_change_J3 (x_1790 : Int32) (x_1893 : Int32) (x_1894 : Int32) (x_1895 : Int32) (S_1900 : dg_S) : (Int32 × Int32 × Int32 × Int32 × dg_S) ⊕ (dg_S × Int32) := let x_1902 : Int32 := x_1790 + 1; (Sum.inl (x_1902, x_1893, x_1894, x_1895, S_1900))
noncomputable def F_m_change_J5 (x_1966 : Int32) (x_1996 : Int32) (x_1997 : Int32) (x_1998 : Int32) (S_1984 : dg_S) : (Int32 × Int32 × Int32 × Int32 × dg_S) ⊕ ((Int32 × Int32 × Int32 × Int32 × dg_S) ⊕ (dg_S × Int32)) := let x_2003 : Int32 := x_1966 + 1; (Sum.inl (x_2003, x_1996, x_1997, x_1998, S_1984))
noncomputable def F_m_change_B4 (x_1796 : Int32) (x_1790 : Int32) (o : Nat) (a1 : Int32) : (Int32 × Int32 × Int32 × Int32 × dg_S) → (Int32 × Int32 × Int32 × Int32 × dg_S) ⊕ ((Int32 × Int32 × Int32 × Int32 × dg_S) ⊕ (dg_S × Int32)) := fun w9 => match w9 with | (x_1966, x_1967, x_1968, x_1969, S_1970) => let x_1973 : Int32 := S_1970.2.1 9 (x_1796 : Int32).toNatClampNeg; (if x_1973 ≤ x_1966 then (Sum.inr ((F_m_change_J3 x_1790 x_1967 x_1968 x_1969 S_1970))) else let x_1977 : Int32 := S_1970.2.1 29 (0 : Int32).toNatClampNeg; let S_1980 : dg_S := F_m_changes o S_1970 x_1790 x_1966; let x_1981 : Int32 := S_1980.2.1 29 (1 : Int32).toNatClampNeg; let S_1984 : dg_S := F_m_runsOn o S_1980 a1; let x_1986 : Int32 := F_m_tubGrades o S_1984 (1 : Int32); (if x_1969 < x_1986 then let x_2010 : Int32 := F_m_tubGrades o S_1984 (1 : Int32); (F_m_change_J5 x_1966 x_1966 x_1790 x_2010 S_1984) else (F_m_change_J5 x_1966 x_1967 x_1968 x_1969 S_1984)))
noncomputable def F_m_change_B2 (S : dg_S) (a2 : Int32) (o : Nat) (a1 : Int32) : (Int32 × Int32 × Int32 × Int32 × dg_S) → (Int32 × Int32 × Int32 × Int32 × dg_S) ⊕ (dg_S × Int32) := fun w9 => match w9 with | (x_1790, x_1791, x_1792, x_1793, S_1794) => let x_1796 : Int32 := zI S 0 13; let x_1798 : Int32 := S_1794.2.1 9 (x_1796 : Int32).toNatClampNeg; (if x_1798 ≤ x_1790 then (Sum.inr ((F_m_change_J1 x_1792 S_1794 a2 x_1791 x_1793))) else let x_1803 : Int32 := x_1790 + (1 : Int32); (lp (F_m_change_B4 x_1796 x_1790 o a1) (Sum.inr (S, (0 : Int32))) ((17 - ((x_1803 : Int32)).toInt).toNat + 1) (x_1803, x_1791, x_1792, x_1793, S_1794)))
noncomputable def F_m_change (o : Nat) (S : dg_S) (a1 : Int32) (a2 : Int32) : dg_S × Int32 := let x_3 : Int32 := zI S 0 47; let x_4 : Int32 := S.2.1 29 (0 : Int32).toNatClampNeg; let x_7 : Int32 := F_m_isAhead o S a1 (1 : Int32) (20 : Int32); (if x_7 = (0 : Int32) then (S, (-1 : Int32)) else let x_12 : Int32 := F_m_is o S a2 (0 : Int32) (2 : Int32); (if x_12 = (0 : Int32) then (S, (-1 : Int32)) else let S_19 : dg_S := F_m_copies o S (1 : Int32) (0 : Int32); let x_25 : Int32 := S_19.2.1 29 (0 : Int32).toNatClampNeg; let x_22 : Int32 := S_19.2.1 29 (1 : Int32).toNatClampNeg; let S_28 : dg_S := F_m_runsOn o S_19 a1; let x_30 : Int32 := F_m_tubGrades o S_28 (1 : Int32); (lp (F_m_change_B2 S a2 o a1) (S, (0 : Int32)) ((17 - ((0 : Int32)).toInt).toNat + 1) ((0 : Int32), (-1 : Int32), (-1 : Int32), x_30, S_28))))
theorem F_m_change_p0 {o : Nat} {S : dg_S} {a1 : Int32} {a2 : Int32} {x_7 : Int32} (h0 : x_7 = F_m_isAhead o S a1 (1 : Int32) (20 : Int32)) (h1 : x_7 = (0 : Int32)) : F_m_change o S a1 a2 = (S, (-1 : Int32)) := by
  replace h0 := Eq.symm h0
  subst h0
  exact (Eq.trans (if_pos h1) rfl)
theorem F_m_change_p1 {x_951 : Int32} {S_957 : dg_S} {a2 : Int32} {x_950 : Int32} {x_952 : Int32} (h0 : ¬ (x_951 = (-1 : Int32))) (h1 : ¬ (a2 = (0 : Int32))) (h2 : ¬ (a2 = (1 : Int32))) : F_m_change_J1 x_951 S_957 a2 x_950 x_952 = (S_957, x_952) := (Eq.trans (if_neg h0) (Eq.trans (if_neg h1) (Eq.trans (if_neg h2) rfl)))
theorem F_m_change_p2 {x_951 : Int32} {S_957 : dg_S} {a2 : Int32} {x_950 : Int32} {x_952 : Int32} (h0 : ¬ (x_951 = (-1 : Int32))) (h1 : ¬ (a2 = (0 : Int32))) (h2 : a2 = (1 : Int32)) : F_m_change_J1 x_951 S_957 a2 x_950 x_952 = (S_957, x_950) := (Eq.trans (if_neg h0) (Eq.trans (if_neg h1) (Eq.trans (if_pos h2) rfl)))
theorem F_m_change_p3 {x_951 : Int32} {S_957 : dg_S} {a2 : Int32} {x_950 : Int32} {x_952 : Int32} (h0 : ¬ (x_951 = (-1 : Int32))) (h1 : a2 = (0 : Int32)) : F_m_change_J1 x_951 S_957 a2 x_950 x_952 = (S_957, x_951) := (Eq.trans (if_neg h0) (Eq.trans (if_pos h1) rfl))
theorem F_m_change_p4 {x_951 : Int32} {S_957 : dg_S} {a2 : Int32} {x_950 : Int32} {x_952 : Int32} (h0 : x_951 = (-1 : Int32)) : F_m_change_J1 x_951 S_957 a2 x_950 x_952 = (S_957, (-1 : Int32)) := (Eq.trans (if_pos h0) rfl)
theorem F_m_change_p5 {S : dg_S} {a2 : Int32} {o : Nat} {a1 : Int32} {x_1790 : Int32} {x_1791 : Int32} {x_1792 : Int32} {x_1793 : Int32} {S_1794 : dg_S} {x_1796 : Int32} {x_1798 : Int32} (h0 : x_1796 = zI S 0 13) (h1 : x_1798 = S_1794.2.1 9 (x_1796 : Int32).toNatClampNeg) (h2 : x_1798 ≤ x_1790) : (F_m_change_B2 S a2 o a1) (x_1790, x_1791, x_1792, x_1793, S_1794) = Sum.inr (F_m_change_J1 x_1792 S_1794 a2 x_1791 x_1793) := by
  replace h0 := Eq.symm h0
  subst h0
  replace h1 := Eq.symm h1
  subst h1
  exact (Eq.trans (if_pos h2) rfl)
theorem F_m_change_p6 {x_1790 : Int32} {x_1893 : Int32} {x_1894 : Int32} {x_1895 : Int32} {S_1900 : dg_S} {x_1902 : Int32} (h0 : x_1902 = x_1790 + 1) : F_m_change_J3 x_1790 x_1893 x_1894 x_1895 S_1900 = Sum.inl (x_1902, x_1893, x_1894, x_1895, S_1900) := by
  replace h0 := Eq.symm h0
  subst h0
  exact rfl
theorem F_m_change_p7 {x_1796 : Int32} {x_1790 : Int32} {o : Nat} {a1 : Int32} {x_1966 : Int32} {x_1967 : Int32} {x_1968 : Int32} {x_1969 : Int32} {S_1970 : dg_S} {x_1973 : Int32} (h0 : x_1973 = S_1970.2.1 9 (x_1796 : Int32).toNatClampNeg) (h1 : x_1973 ≤ x_1966) : (F_m_change_B4 x_1796 x_1790 o a1) (x_1966, x_1967, x_1968, x_1969, S_1970) = Sum.inr (F_m_change_J3 x_1790 x_1967 x_1968 x_1969 S_1970) := by
  replace h0 := Eq.symm h0
  subst h0
  exact (Eq.trans (if_pos h1) rfl)
theorem F_m_change_p8 {x_1966 : Int32} {x_1996 : Int32} {x_1997 : Int32} {x_1998 : Int32} {S_1984 : dg_S} {x_2003 : Int32} (h0 : x_2003 = x_1966 + 1) : F_m_change_J5 x_1966 x_1996 x_1997 x_1998 S_1984 = Sum.inl (x_2003, x_1996, x_1997, x_1998, S_1984) := by
  replace h0 := Eq.symm h0
  subst h0
  exact rfl
theorem F_m_change_p9 {x_1796 : Int32} {x_1790 : Int32} {o : Nat} {a1 : Int32} {x_1966 : Int32} {x_1967 : Int32} {x_1968 : Int32} {x_1969 : Int32} {S_1970 : dg_S} {x_2010 : Int32} {S_1984 : dg_S} {x_1973 : Int32} {S_1980 : dg_S} {x_1986 : Int32} (h0 : x_1973 = S_1970.2.1 9 (x_1796 : Int32).toNatClampNeg) (h1 : ¬ (x_1973 ≤ x_1966)) (h2 : S_1980 = F_m_changes o S_1970 x_1790 x_1966) (h3 : S_1984 = F_m_runsOn o S_1980 a1) (h4 : x_1986 = F_m_tubGrades o S_1984 (1 : Int32)) (h5 : x_1969 < x_1986) (h6 : x_2010 = F_m_tubGrades o S_1984 (1 : Int32)) : (F_m_change_B4 x_1796 x_1790 o a1) (x_1966, x_1967, x_1968, x_1969, S_1970) = F_m_change_J5 x_1966 x_1966 x_1790 x_2010 S_1984 := by
  replace h0 := Eq.symm h0
  subst h0
  replace h2 := Eq.symm h2
  subst h2
  replace h3 := Eq.symm h3
  subst h3
  replace h4 := Eq.symm h4
  subst h4
  replace h6 := Eq.symm h6
  subst h6
  exact (Eq.trans (if_neg h1) (Eq.trans (if_pos h5) rfl))
theorem F_m_change_p10 {x_1796 : Int32} {x_1790 : Int32} {o : Nat} {a1 : Int32} {x_1966 : Int32} {x_1967 : Int32} {x_1968 : Int32} {x_1969 : Int32} {S_1970 : dg_S} {S_1984 : dg_S} {x_1973 : Int32} {S_1980 : dg_S} {x_1986 : Int32} (h0 : x_1973 = S_1970.2.1 9 (x_1796 : Int32).toNatClampNeg) (h1 : ¬ (x_1973 ≤ x_1966)) (h2 : S_1980 = F_m_changes o S_1970 x_1790 x_1966) (h3 : S_1984 = F_m_runsOn o S_1980 a1) (h4 : x_1986 = F_m_tubGrades o S_1984 (1 : Int32)) (h5 : ¬ (x_1969 < x_1986)) : (F_m_change_B4 x_1796 x_1790 o a1) (x_1966, x_1967, x_1968, x_1969, S_1970) = F_m_change_J5 x_1966 x_1967 x_1968 x_1969 S_1984 := by
  replace h0 := Eq.symm h0
  subst h0
  replace h2 := Eq.symm h2
  subst h2
  replace h3 := Eq.symm h3
  subst h3
  replace h4 := Eq.symm h4
  subst h4
  exact (Eq.trans (if_neg h1) (Eq.trans (if_neg h5) rfl))
theorem F_m_change_p11 {S : dg_S} {a2 : Int32} {o : Nat} {a1 : Int32} {x_1790 : Int32} {x_1791 : Int32} {x_1792 : Int32} {x_1793 : Int32} {S_1794 : dg_S} {x_1796 : Int32} {x_1803 : Int32} {x_1798 : Int32} (h0 : x_1796 = zI S 0 13) (h1 : x_1798 = S_1794.2.1 9 (x_1796 : Int32).toNatClampNeg) (h2 : ¬ (x_1798 ≤ x_1790)) (h3 : x_1803 = x_1790 + (1 : Int32)) : (F_m_change_B2 S a2 o a1) (x_1790, x_1791, x_1792, x_1793, S_1794) = lp (F_m_change_B4 x_1796 x_1790 o a1) (Sum.inr (S, (0 : Int32))) ((17 - ((x_1803 : Int32)).toInt).toNat + 1) (x_1803, x_1791, x_1792, x_1793, S_1794) := by
  replace h0 := Eq.symm h0
  subst h0
  replace h1 := Eq.symm h1
  subst h1
  replace h3 := Eq.symm h3
  subst h3
  exact (Eq.trans (if_neg h2) rfl)
theorem F_m_change_p12 {o : Nat} {S : dg_S} {a1 : Int32} {a2 : Int32} {x_30 : Int32} {S_28 : dg_S} {x_7 : Int32} {x_12 : Int32} {S_19 : dg_S} (h0 : x_7 = F_m_isAhead o S a1 (1 : Int32) (20 : Int32)) (h1 : ¬ (x_7 = (0 : Int32))) (h2 : x_12 = F_m_is o S a2 (0 : Int32) (2 : Int32)) (h3 : ¬ (x_12 = (0 : Int32))) (h4 : S_19 = F_m_copies o S (1 : Int32) (0 : Int32)) (h5 : S_28 = F_m_runsOn o S_19 a1) (h6 : x_30 = F_m_tubGrades o S_28 (1 : Int32)) : F_m_change o S a1 a2 = lp (F_m_change_B2 S a2 o a1) (S, (0 : Int32)) ((17 - ((0 : Int32)).toInt).toNat + 1) ((0 : Int32), (-1 : Int32), (-1 : Int32), x_30, S_28) := by
  replace h0 := Eq.symm h0
  subst h0
  replace h2 := Eq.symm h2
  subst h2
  replace h4 := Eq.symm h4
  subst h4
  replace h5 := Eq.symm h5
  subst h5
  replace h6 := Eq.symm h6
  subst h6
  exact (Eq.trans (if_neg h1) (Eq.trans (if_neg h3) rfl))
theorem F_m_change_p13 {o : Nat} {S : dg_S} {a1 : Int32} {a2 : Int32} {x_7 : Int32} {x_12 : Int32} (h0 : x_7 = F_m_isAhead o S a1 (1 : Int32) (20 : Int32)) (h1 : ¬ (x_7 = (0 : Int32))) (h2 : x_12 = F_m_is o S a2 (0 : Int32) (2 : Int32)) (h3 : x_12 = (0 : Int32)) : F_m_change o S a1 a2 = (S, (-1 : Int32)) := by
  replace h0 := Eq.symm h0
  subst h0
  replace h2 := Eq.symm h2
  subst h2
  exact (Eq.trans (if_neg h1) (Eq.trans (if_pos h3) rfl))
set_option maxHeartbeats 8000000 in
set_option maxRecDepth 100000 in
theorem c_m_change (l : Launch) (g : Nat → ClassId) (D : va_G) (o : Nat) (S : dg_S) (a1 : Int32) (a2 : Int32) (ZB : ZBM S) (ZS : ZSM S) (ZW : ZWM S) (I : CM o S) (sz : Nat) : Met l yX12_change (bw yX12_change cX12_change 8 (some .int)) ({ frames := 10, cells := 0, slots := 0, locals := 239 } : Room) (dk_Pc g D (dg_w g shM o rfM S) sz [.ref (o + 0), .int a1, .int a2]) (va_Qi (fun (r : Int32) S' => CM o S' ∧ dg_sm shM [] [29, 30, 31, 32, 33, 34, 35, 36, 37, 38, 39, 40, 41, 42, 43, 44] S S' ∧ ZSM S' ∧ (S' = (F_m_change o S a1 a2).1 ∧ r = (F_m_change o S a1 a2).2) ∧ True) (dg_B g D shM o rfM) (dg_A o shM.length sz)) 0 0 (dg_A o shM.length sz) := by
  refine dg_met (cc := cX12_change) (maxL := 8) (ret := (some .int)) (dk_dq rfl) rfl (Nat.le_of_ble_eq_true rfl) ?_
  intro p e s m args below meth c A hAe harg hx hb hr hml hts hown hlocks hin hP K hS hA1 hA ST hsz ls hl
  rw [← hAe]
  have F : CallFix p m c cX12_change 8 s args (bw yX12_change cX12_change 8 (some .int)) RX12 := ⟨hx, hb, hml, hown, hts⟩
  have hl : lv_has ls 8 [(0, .ref (o + 0)), (1, .int a1), (2, .int a2)] := hl
  have M_0 : dg_sm shM [] [29, 30, 31, 32, 33, 34, 35, 36, 37, 38, 39, 40, 41, 42, 43, 44] S S := dg_sm.rf
  refine lv_aload_n hx hb dX12_change_0 rfl (lv_at hl 0 rfl) ?_
  refine lv_iload_n hx hb dX12_change_1 rfl (lv_at hl 1 rfl) ?_
  refine lv_iconst (v := 1) hx hb dX12_change_2 (by decide +kernel) ?_
  refine lv_bipush (v := 20) hx hb dX12_change_3 (by decide +kernel) ?_
  have hz_1 : (1 : Int32).toInt = 1 := by decide +kernel
  have hz_2 : (20 : Int32).toInt = 20 := by decide +kernel
  obtain ⟨x_3, f_x_3, b_x_3⟩ := dg_I.int (i := 0) (k := 47) (lo := 0) (hi := 1) I sM_0 (by decide +kernel)
  obtain ⟨x_4, f_x_4⟩ : ∃ x, S.2.1 29 (0 : Int32).toNatClampNeg = x := ⟨_, rfl⟩
  have hin_5 : vp_in (0 : Int32) 22 := (dk_in (by decide +kernel))
  have b_x_4 := dk_all_at (dg_I.row (lo := 0) (hi := 2000) I sM_29 (by decide +kernel)) hin_5 f_x_4.symm
  have ex_4 := f_x_4.symm
  have hz_6 : (0 : Int32).toInt = 0 := by decide +kernel
  have zs_x_4 : (0 : Int32).toInt ≠ 1 → (x_4).toInt ≤ 999 := fun h => by rw [ex_4]; exact ZS _ (dk_inT hin_5).2 (fun q => by have h9 := (dk_inT hin_5).1; omega)
  refine dg_calli hS hA1 hA (va_runV (As := [.int a1, .int 1, .int 20]) (rest := []) F (c_m_isAhead l g D o S a1 1 (by decide +kernel) 20 (by decide +kernel) x_3 f_x_3 (by omega) x_4 f_x_4 (by omega) I s.heap.size) (cwV 3 hts (bw_V wB_1235 wB_1236 wB_1237 wB_297 wB_1234) rfl rfl rfl (by decide +kernel) ⟨Nat.le_of_ble_eq_true rfl, Nat.le_of_ble_eq_true rfl⟩) (dg_preV sM_0 rfl K ST hP hS hA1 hA) rfl rfl hl.1 rfl (lv_room (Nat.le_of_ble_eq_true rfl)) dX12_change_5 ⟨Nat.le_of_ble_eq_true rfl, Nat.le_of_ble_eq_true rfl⟩) (fun x_7 S_8 hw_8 H locs hP hS => ?_)
  rw [hw_8.1] at hP
  obtain ⟨hq_8, w_8_0, w_8_1, w_8_2, -⟩ := hw_8
  have hz_9 : (1 : Int32).toInt = 1 := by decide +kernel
  have hz_10 : (20 : Int32).toInt = 20 := by decide +kernel
  have w_8_0 : 0 ≤ (x_7).toInt ∧ (x_7).toInt ≤ 1 := w_8_0
  have w_8_1 : (x_7).toInt = 1 → ((x_3).toInt = 1 ∧ ((1 : Int32)).toInt ≤ (a1).toInt ∧ (a1).toInt ≤ ((20 : Int32)).toInt ∧ (x_4).toInt ≤ 999 - (a1).toInt) := w_8_1
  refine lv_if_eq (tgt := 20) hx hb dX12_change_8 (dk_dq rfl) (fun c_11 => ?_) (fun c_11 => ?_)
  · have jc_11 := dk_eqc (k := 0) (by decide +kernel) c_11
    refine lv_iconst (v := (-1)) hx hb dX12_change_20 (by decide +kernel) ?_
    refine W.widen (k := 0) (n := 0) (Nat.le_of_ble_eq_true rfl) (Nat.le_of_ble_eq_true rfl) ?_
    exact dg_iret hx hb hr hlocks rfl hP hS ⟨I, M_0, ZS, ⟨congrArg Prod.fst (Eq.symm (F_m_change_p0 w_8_2 c_11)), congrArg Prod.snd (Eq.symm (F_m_change_p0 w_8_2 c_11))⟩, trivial⟩ dX12_change_21
  · as_aux_lemma =>
      have jc_11 := dk_neqc (k := 0) (by decide +kernel) c_11
      refine lv_iload_n hx hb dX12_change_11 rfl (lv_at hl 2 rfl) ?_
      refine lv_iconst (v := 0) hx hb dX12_change_12 (by decide +kernel) ?_
      refine lv_iconst (v := 2) hx hb dX12_change_13 (by decide +kernel) ?_
      refine dg_calli hS hA1 hA (va_runS (As := [.int a2, .int 0, .int 2]) (rest := []) F (c_m_isR l g D o S a2 0 2 I H.size) (va_cwS 3 hts (bw_S wB_362 wB_363 wB_297 wB_361) rfl rfl rfl (by decide +kernel) ⟨Nat.le_of_ble_eq_true rfl, Nat.le_of_ble_eq_true rfl⟩) (dg_preS K ST hP hS hA1 hA) rfl rfl hl.1 rfl (lv_room (Nat.le_of_ble_eq_true rfl)) dX12_change_14 ⟨Nat.le_of_ble_eq_true rfl, Nat.le_of_ble_eq_true rfl⟩) (fun x_12 S_13 hw_13 H locs hP hS => ?_)
      rw [hw_13.1] at hP
      obtain ⟨hq_13, w_13_0, w_13_1, w_13_2, -⟩ := hw_13
      have hz_14 : (0 : Int32).toInt = 0 := by decide +kernel
      have hz_15 : (2 : Int32).toInt = 2 := by decide +kernel
      have w_13_0 : 0 ≤ (x_12).toInt ∧ (x_12).toInt ≤ 1 := w_13_0
      have w_13_1 : (x_12).toInt = 1 ↔ (((0 : Int32)).toInt ≤ (a2).toInt ∧ (a2).toInt ≤ ((2 : Int32)).toInt) := w_13_1
      refine lv_if_ne (tgt := 22) hx hb dX12_change_17 (dk_dq rfl) (fun c_16 => ?_) (fun c_16 => ?_)
      · as_aux_lemma =>
          have jc_16 := dk_neqc (k := 0) (by decide +kernel) c_16
          refine lv_aload_n hx hb dX12_change_22 rfl (lv_at hl 0 rfl) ?_
          refine lv_iconst (v := 1) hx hb dX12_change_23 (by decide +kernel) ?_
          refine lv_iconst (v := 0) hx hb dX12_change_24 (by decide +kernel) ?_
          have hz_17 : (1 : Int32).toInt = 1 := by decide +kernel
          have hz_18 : (0 : Int32).toInt = 0 := by decide +kernel
          refine dg_callv hS hA1 hA (va_runV (As := [.int 1, .int 0]) (rest := []) F (c_m_copies l g D o S 1 (by decide +kernel) 0 (by decide +kernel) x_4 f_x_4 (by omega) x_4 f_x_4 (by omega) (by omega) ZS I H.size) (cwV 2 hts (bw_V wB_1227 wB_1228 wB_1229 wB_297 wB_1226) rfl rfl rfl (by decide +kernel) ⟨Nat.le_of_ble_eq_true rfl, Nat.le_of_ble_eq_true rfl⟩) (dg_preV sM_0 rfl K ST hP hS hA1 hA) rfl rfl hl.1 rfl (lv_room (Nat.le_of_ble_eq_true rfl)) dX12_change_25 ⟨Nat.le_of_ble_eq_true rfl, Nat.le_of_ble_eq_true rfl⟩) (fun S_19 hw_19 H locs hP hS => ?_)
          obtain ⟨I_19, m_19, w_19_0, w_19_1, w_19_2, w_19_3, -⟩ := hw_19
          have M_19 := dg_sm.tr M_0 m_19 (dk_dq rfl) (dk_dq rfl)
          have hz_20 : (1 : Int32).toInt = 1 := by decide +kernel
          have hz_21 : (0 : Int32).toInt = 0 := by decide +kernel
          obtain ⟨x_22, f_x_22⟩ : ∃ x, S_19.2.1 29 (1 : Int32).toNatClampNeg = x := ⟨_, rfl⟩
          have hin_23 : vp_in (1 : Int32) 22 := (dk_in (by decide +kernel))
          have b_x_22 := dk_all_at (dg_I.row (lo := 0) (hi := 2000) I_19 sM_29 (by decide +kernel)) hin_23 f_x_22.symm
          have ex_22 := f_x_22.symm
          have hz_24 : (1 : Int32).toInt = 1 := by decide +kernel
          have zs_x_22 : (1 : Int32).toInt ≠ 1 → (x_22).toInt ≤ 999 := fun h => by rw [ex_22]; exact w_19_2 _ (dk_inT hin_23).2 (fun q => by have h9 := (dk_inT hin_23).1; omega)
          have w_19_0 : (x_22).toInt = (x_4).toInt := w_19_0 x_22 f_x_22
          obtain ⟨x_25, f_x_25⟩ : ∃ x, S_19.2.1 29 (0 : Int32).toNatClampNeg = x := ⟨_, rfl⟩
          have hin_26 : vp_in (0 : Int32) 22 := (dk_in (by decide +kernel))
          have b_x_25 := dk_all_at (dg_I.row (lo := 0) (hi := 2000) I_19 sM_29 (by decide +kernel)) hin_26 f_x_25.symm
          have ex_25 := f_x_25.symm
          have hz_27 : (0 : Int32).toInt = 0 := by decide +kernel
          have zs_x_25 : (0 : Int32).toInt ≠ 1 → (x_25).toInt ≤ 999 := fun h => by rw [ex_25]; exact w_19_2 _ (dk_inT hin_26).2 (fun q => by have h9 := (dk_inT hin_26).1; omega)
          have w_19_1 : ((1 : Int32)).toInt ≠ 0 → (x_25).toInt = (x_4).toInt := w_19_1 x_25 f_x_25
          refine lv_aload_n hx hb dX12_change_28 rfl (lv_at hl 0 rfl) ?_
          refine lv_iload_n hx hb dX12_change_29 rfl (lv_at hl 1 rfl) ?_
          refine dg_callv hS hA1 hA (va_runV (As := [.int a1]) (rest := []) F (c_m_runsOn l g D o S_19 a1 (by omega) x_22 f_x_22 (by omega) (ZBM.keep ZB m_19 (dk_dq rfl) (dk_dq rfl) (dk_dq rfl) (dk_dq rfl) (dk_dq rfl)) w_19_2 (ZWM.keep ZW m_19 (dk_dq rfl) (dk_dq rfl) (dk_dq rfl) (dk_dq rfl)) I_19 H.size) (cwV 1 hts (bw_V wB_1239 wB_1240 wB_1241 wB_297 wB_1238) rfl rfl rfl (by decide +kernel) ⟨Nat.le_of_ble_eq_true rfl, Nat.le_of_ble_eq_true rfl⟩) (dg_preV sM_0 rfl K ST hP hS hA1 hA) rfl rfl hl.1 rfl (lv_room (Nat.le_of_ble_eq_true rfl)) dX12_change_30 ⟨Nat.le_of_ble_eq_true rfl, Nat.le_of_ble_eq_true rfl⟩) (fun S_28 hw_28 H locs hP hS => ?_)
          obtain ⟨I_28, m_28, w_28_0, w_28_1, -⟩ := hw_28
          have M_28 := dg_sm.tr M_19 m_28 (dk_dq rfl) (dk_dq rfl)
          refine lv_aload_n hx hb dX12_change_33 rfl (lv_at hl 0 rfl) ?_
          refine lv_iconst (v := 1) hx hb dX12_change_34 (by decide +kernel) ?_
          have hz_29 : (1 : Int32).toInt = 1 := by decide +kernel
          refine dg_calli hS hA1 hA (va_runV (As := [.int 1]) (rest := []) F (c_m_tubGrades l g D o S_28 1 (by decide +kernel) I_28 H.size) (cwV 1 hts (bw_V wB_1119 wB_1120 wB_1121 wB_297 wB_1118) rfl rfl rfl (by decide +kernel) ⟨Nat.le_of_ble_eq_true rfl, Nat.le_of_ble_eq_true rfl⟩) (dg_preV sM_0 rfl K ST hP hS hA1 hA) rfl rfl hl.1 rfl (lv_room (Nat.le_of_ble_eq_true rfl)) dX12_change_35 ⟨Nat.le_of_ble_eq_true rfl, Nat.le_of_ble_eq_true rfl⟩) (fun x_30 S_31 hw_31 H locs hP hS => ?_)
          rw [hw_31.1] at hP
          obtain ⟨hq_31, w_31_0, -⟩ := hw_31
          refine lv_istore_n (lv' := [(3, .int x_30), (0, .ref (o + 0)), (1, .int a1), (2, .int a2)]) hx hb dX12_change_38 rfl hl (dk_dq rfl) rfl (fun ls hl => ?_)
          refine lv_iconst (v := (-1)) hx hb dX12_change_39 (by decide +kernel) ?_
          refine lv_istore (lv' := [(4, .int (-1)), (3, .int x_30), (0, .ref (o + 0)), (1, .int a1), (2, .int a2)]) hx hb dX12_change_40 hl (dk_dq rfl) rfl (fun ls hl => ?_)
          refine lv_iconst (v := (-1)) hx hb dX12_change_42 (by decide +kernel) ?_
          as_aux_lemma =>
            refine lv_istore (lv' := [(5, .int (-1)), (4, .int (-1)), (3, .int x_30), (0, .ref (o + 0)), (1, .int a1), (2, .int a2)]) hx hb dX12_change_43 hl (dk_dq rfl) rfl (fun ls hl => ?_)
            refine lv_iconst (v := 0) hx hb dX12_change_45 (by decide +kernel) ?_
            refine lv_istore (lv' := [(6, .int 0), (5, .int (-1)), (4, .int (-1)), (3, .int x_30), (0, .ref (o + 0)), (1, .int a1), (2, .int a2)]) hx hb dX12_change_46 hl (dk_dq rfl) rfl (fun ls hl => ?_)
            have J_958 : ∀ (x_949 : Int32) (x_950 : Int32) (x_951 : Int32) (x_952 : Int32), (0 ≤ (x_949).toInt ∧ (x_949).toInt ≤ 2147483647) → ((-1) ≤ (x_950).toInt ∧ (x_950).toInt ≤ 2147483647) → ((-1) ≤ (x_951).toInt ∧ (x_951).toInt ≤ 2147483647) → ∀ S_957 : dg_S, CM o S_957 → dg_sm shM [] [29, 30, 31, 32, 33, 34, 35, 36, 37, 38, 39, 40, 41, 42, 43, 44] S S_957 → ZSM S_957 → (F_m_change o S a1 a2 = F_m_change_J1 x_951 S_957 a2 x_950 x_952) → ∀ (H : Heap) (locs : List Loc), va_P D vwCl (dg_w g shM o rfM S_957) H → va_S A s.heap H locs → ∀ ls : Array Slot, lv_has ls 8 [(6, .int x_949), (5, .int x_950), (4, .int x_951), (3, .int x_952), (0, .ref (o + 0)), (1, .int a1), (2, .int a2)] → W p l e ({ frames := 10, cells := 0, slots := 0, locals := 239 } : Room) s m args below meth c H locs 0 0 (MQ below (va_Qi (fun (r : Int32) S' => CM o S' ∧ dg_sm shM [] [29, 30, 31, 32, 33, 34, 35, 36, 37, 38, 39, 40, 41, 42, 43, 44] S S' ∧ ZSM S' ∧ (S' = (F_m_change o S a1 a2).1 ∧ r = (F_m_change o S a1 a2).2) ∧ True) (dg_B g D shM o rfM) A) args s 0 0 A) (F0 m 133 ls []) := by
              as_aux_lemma =>
                intro x_949 x_950 x_951 x_952 b_x_949 b_x_950 b_x_951 S_957 I_957 M_957 ZS_957 hF_1 H locs hP hS ls hl
                refine lv_iload hx hb dX12_change_133 (lv_at hl 2 rfl) ?_
                refine lv_iconst (v := (-1)) hx hb dX12_change_135 (by decide +kernel) ?_
                refine lv_icmp_ne (tgt := 143) hx hb dX12_change_136 (dk_dq rfl) (fun c_959 => ?_) (fun c_959 => ?_)
                · as_aux_lemma =>
                    have jc_959 := dk_neqc (k := (-1)) (by decide +kernel) c_959
                    refine lv_iload_n hx hb dX12_change_143 rfl (lv_at hl 6 rfl) ?_
                    refine lv_if_ne (tgt := 152) hx hb dX12_change_144 (dk_dq rfl) (fun c_960 => ?_) (fun c_960 => ?_)
                    · have jc_960 := dk_neqc (k := 0) (by decide +kernel) c_960
                      refine lv_iload_n hx hb dX12_change_152 rfl (lv_at hl 6 rfl) ?_
                      refine lv_iconst (v := 1) hx hb dX12_change_153 (by decide +kernel) ?_
                      refine lv_icmp_ne (tgt := 162) hx hb dX12_change_154 (dk_dq rfl) (fun c_961 => ?_) (fun c_961 => ?_)
                      · have jc_961 := dk_neqc (k := 1) (by decide +kernel) c_961
                        refine lv_iload_n hx hb dX12_change_162 rfl (lv_at hl 3 rfl) ?_
                        refine W.widen (k := 0) (n := 0) (Nat.le_of_ble_eq_true rfl) (Nat.le_of_ble_eq_true rfl) ?_
                        exact dg_iret hx hb hr hlocks rfl hP hS ⟨I_957, M_957, ZS_957, ⟨congrArg Prod.fst (Eq.symm (Eq.trans hF_1 (F_m_change_p1 c_959 c_960 c_961))), congrArg Prod.snd (Eq.symm (Eq.trans hF_1 (F_m_change_p1 c_959 c_960 c_961)))⟩, trivial⟩ dX12_change_163
                      · have jc_961 := dk_eqc (k := 1) (by decide +kernel) c_961
                        refine lv_iload hx hb dX12_change_157 (lv_at hl 1 rfl) ?_
                        refine lv_goto (tgt := 163) hx hb dX12_change_159 (dk_dq rfl) ?_
                        refine W.widen (k := 0) (n := 0) (Nat.le_of_ble_eq_true rfl) (Nat.le_of_ble_eq_true rfl) ?_
                        exact dg_iret hx hb hr hlocks rfl hP hS ⟨I_957, M_957, ZS_957, ⟨congrArg Prod.fst (Eq.symm (Eq.trans hF_1 (F_m_change_p2 c_959 c_960 c_961))), congrArg Prod.snd (Eq.symm (Eq.trans hF_1 (F_m_change_p2 c_959 c_960 c_961)))⟩, trivial⟩ dX12_change_163
                    · have jc_960 := dk_eqc (k := 0) (by decide +kernel) c_960
                      refine lv_iload hx hb dX12_change_147 (lv_at hl 2 rfl) ?_
                      refine lv_goto (tgt := 163) hx hb dX12_change_149 (dk_dq rfl) ?_
                      refine W.widen (k := 0) (n := 0) (Nat.le_of_ble_eq_true rfl) (Nat.le_of_ble_eq_true rfl) ?_
                      exact dg_iret hx hb hr hlocks rfl hP hS ⟨I_957, M_957, ZS_957, ⟨congrArg Prod.fst (Eq.symm (Eq.trans hF_1 (F_m_change_p3 c_959 c_960))), congrArg Prod.snd (Eq.symm (Eq.trans hF_1 (F_m_change_p3 c_959 c_960)))⟩, trivial⟩ dX12_change_163
                · have jc_959 := dk_eqc (k := (-1)) (by decide +kernel) c_959
                  refine lv_iconst (v := (-1)) hx hb dX12_change_139 (by decide +kernel) ?_
                  refine lv_goto (tgt := 163) hx hb dX12_change_140 (dk_dq rfl) ?_
                  refine W.widen (k := 0) (n := 0) (Nat.le_of_ble_eq_true rfl) (Nat.le_of_ble_eq_true rfl) ?_
                  exact dg_iret hx hb hr hlocks rfl hP hS ⟨I_957, M_957, ZS_957, ⟨congrArg Prod.fst (Eq.symm (Eq.trans hF_1 (F_m_change_p4 c_959))), congrArg Prod.snd (Eq.symm (Eq.trans hF_1 (F_m_change_p4 c_959)))⟩, trivial⟩ dX12_change_163
            have L_1795 : ∀ (n : Nat) (x_1790 : Int32) (x_1791 : Int32) (x_1792 : Int32) (x_1793 : Int32), (0 ≤ (x_1790).toInt ∧ (x_1790).toInt ≤ 16) → ((-1) ≤ (x_1791).toInt ∧ (x_1791).toInt ≤ 2147483647) → ((-1) ≤ (x_1792).toInt ∧ (x_1792).toInt ≤ 2147483647) → ((17 - (x_1790).toInt).toNat < n) → ∀ S_1794 : dg_S, CM o S_1794 → dg_sm shM [] [29, 30, 31, 32, 33, 34, 35, 36, 37, 38, 39, 40, 41, 42, 43, 44] S S_1794 → ZSM S_1794 → (F_m_change o S a1 a2 = lp (F_m_change_B2 S a2 o a1) (S, (0 : Int32)) n (x_1790, x_1791, x_1792, x_1793, S_1794)) → ∀ (H : Heap) (locs : List Loc), va_P D vwCl (dg_w g shM o rfM S_1794) H → va_S A s.heap H locs → ∀ ls : Array Slot, lv_has ls 8 [(6, .int x_1790), (5, .int x_1791), (4, .int x_1792), (3, .int x_1793), (0, .ref (o + 0)), (1, .int a1), (2, .int a2)] → W p l e ({ frames := 10, cells := 0, slots := 0, locals := 239 } : Room) s m args below meth c H locs 0 0 (MQ below (va_Qi (fun (r : Int32) S' => CM o S' ∧ dg_sm shM [] [29, 30, 31, 32, 33, 34, 35, 36, 37, 38, 39, 40, 41, 42, 43, 44] S S' ∧ ZSM S' ∧ (S' = (F_m_change o S a1 a2).1 ∧ r = (F_m_change o S a1 a2).2) ∧ True) (dg_B g D shM o rfM) A) args s 0 0 A) (F0 m 48 ls []) := by
              as_aux_lemma =>
                intro n
                induction n with
                | zero =>
                  intro x_1790 x_1791 x_1792 x_1793 b_x_1790 b_x_1791 b_x_1792 hmu S_1794 I_1794 M_1794 ZS_1794 hF_2 H locs hP hS ls hl
                  omega
                | succ n ih =>
                  as_aux_lemma =>
                    intro x_1790 x_1791 x_1792 x_1793 b_x_1790 b_x_1791 b_x_1792 hmu S_1794 I_1794 M_1794 ZS_1794 hF_2 H locs hP hS ls hl
                    refine lv_iload hx hb dX12_change_48 (lv_at hl 0 rfl) ?_
                    refine lv_aload_n hx hb dX12_change_50 rfl (lv_at hl 4 rfl) ?_
                    refine dg_get (C := RX12) (T := TX12) (N := 77) hx hb hts (fun w h => bw_mem (wU_X12 w h)) hown K hP sM_0 rfl 21 (dk_dq rfl) (hts _ (bw_mem wB_391)) (fun _ h9 => h9) (v := .ref (o + 9)) (show S_1794.1 0 21 = .ref (o + 9) from dg_I.rel (d := 9) I_1794 sM_0 (by decide +kernel)) dX12_change_51 ?_
                    refine lv_aload_n hx hb dX12_change_54 rfl (lv_at hl 4 rfl) ?_
                    obtain ⟨x_1796, f_x_1796, b_x_1796⟩ := dg_I.int (i := 0) (k := 13) (lo := 0) (hi := 1) I sM_0 (by decide +kernel)
                    refine dg_get (C := RX12) (T := TX12) (N := 77) hx hb hts (fun w h => bw_mem (wU_X12 w h)) hown K hP sM_0 rfl 13 (dk_dq rfl) (hts _ (bw_mem wB_1085)) (fun _ h9 => h9) (v := .int x_1796) ((M_1794.1 0 13 _ sM_0 (dk_dq rfl)).trans f_x_1796) dX12_change_55 ?_
                    have hin_1797 : vp_in x_1796 2 := (dk_inv2 (by omega))
                    refine dg_iald hx hb K hP sM_9 hin_1797 dX12_change_58 (fun x_1798 ex_1798 => ?_)
                    have b_x_1798 := dk_all_at (dg_I.row (lo := 0) (hi := 16) I_1794 sM_9 (by decide +kernel)) hin_1797 ex_1798
                    refine lv_icmp_ge (tgt := 133) hx hb dX12_change_59 (dk_dq rfl) (fun c_1799 => ?_) (fun c_1799 => ?_)
                    · have jc_1799 := dk_gec (k := (x_1798).toInt) rfl c_1799
                      have hf_1799 := dk_full x_1790
                      have hf_1800 := dk_full x_1791
                      have hf_1801 := dk_full x_1792
                      exact J_958 x_1790 x_1791 x_1792 x_1793 (by omega) (by omega) (by omega) S_1794 I_1794 M_1794 ZS_1794 (lp_r hF_2 (F_m_change_p5 (zI_eq f_x_1796) (Eq.symm ex_1798.symm) c_1799)) _ _ hP hS _ (lv_sub hl [0, 1, 2, 3, 4, 5, 6] rfl)
                    · as_aux_lemma =>
                        have jc_1799 := dk_ngec (k := (x_1798).toInt) rfl c_1799
                        refine lv_iload hx hb dX12_change_62 (lv_at hl 0 rfl) ?_
                        refine lv_iconst (v := 1) hx hb dX12_change_64 (by decide +kernel) ?_
                        refine lv_iadd hx hb dX12_change_65 ?_
                        refine lv_topi (fun x_1803 ex_1803 => ?_)
                        have jx_1803 : (x_1803).toInt = (x_1790).toInt + 1 := by rw [ex_1803]; exact dk_addT2 rfl (by decide +kernel) (by omega)
                        refine lv_istore (lv' := [(7, .int x_1803), (6, .int x_1790), (5, .int x_1791), (4, .int x_1792), (3, .int x_1793), (0, .ref (o + 0)), (1, .int a1), (2, .int a2)]) hx hb dX12_change_66 hl (dk_dq rfl) rfl (fun ls hl => ?_)
                        have J_1901 : ∀ (x_1892 : Int32) (x_1893 : Int32) (x_1894 : Int32) (x_1895 : Int32), (1 ≤ (x_1892).toInt ∧ (x_1892).toInt ≤ 16) → ((-1) ≤ (x_1893).toInt ∧ (x_1893).toInt ≤ 2147483647) → ((-1) ≤ (x_1894).toInt ∧ (x_1894).toInt ≤ 2147483647) → ∀ S_1900 : dg_S, CM o S_1900 → dg_sm shM [] [29, 30, 31, 32, 33, 34, 35, 36, 37, 38, 39, 40, 41, 42, 43, 44] S S_1900 → ZSM S_1900 → ((F_m_change_B2 S a2 o a1) (x_1790, x_1791, x_1792, x_1793, S_1794) = F_m_change_J3 x_1790 x_1893 x_1894 x_1895 S_1900) → ∀ (H : Heap) (locs : List Loc), va_P D vwCl (dg_w g shM o rfM S_1900) H → va_S A s.heap H locs → ∀ ls : Array Slot, lv_has ls 8 [(7, .int x_1892), (6, .int x_1790), (5, .int x_1893), (4, .int x_1894), (3, .int x_1895), (0, .ref (o + 0)), (1, .int a1), (2, .int a2)] → W p l e ({ frames := 10, cells := 0, slots := 0, locals := 239 } : Room) s m args below meth c H locs 0 0 (MQ below (va_Qi (fun (r : Int32) S' => CM o S' ∧ dg_sm shM [] [29, 30, 31, 32, 33, 34, 35, 36, 37, 38, 39, 40, 41, 42, 43, 44] S S' ∧ ZSM S' ∧ (S' = (F_m_change o S a1 a2).1 ∧ r = (F_m_change o S a1 a2).2) ∧ True) (dg_B g D shM o rfM) A) args s 0 0 A) (F0 m 127 ls []) := by
                          intro x_1892 x_1893 x_1894 x_1895 b_x_1892 b_x_1893 b_x_1894 S_1900 I_1900 M_1900 ZS_1900 hF_3 H locs hP hS ls hl
                          obtain ⟨x_1902, ex_1902⟩ : ∃ z, z = x_1790 + 1 := ⟨_, rfl⟩
                          have jx_1902 : (x_1902).toInt = (x_1790).toInt + 1 := by rw [ex_1902]; exact dk_addT2 rfl (by decide +kernel) (by omega)
                          refine lv_iinc (v := x_1902) (lv' := [(6, .int x_1902), (7, .int x_1892), (5, .int x_1893), (4, .int x_1894), (3, .int x_1895), (0, .ref (o + 0)), (1, .int a1), (2, .int a2)]) hx hb dX12_change_127 hl (k := 1) rfl (by rw [ex_1902]; rfl) (dk_dq rfl) rfl (fun ls hl => ?_)
                          refine lv_goto (tgt := 48) hx hb dX12_change_130 (dk_dq rfl) ?_
                          have hf_1902 := dk_full x_1893
                          have hf_1903 := dk_full x_1894
                          exact ih x_1902 x_1893 x_1894 x_1895 (by omega) (by omega) (by omega) (by first | exact mu_lt hmu (by omega) (by omega) | omega) S_1900 I_1900 M_1900 ZS_1900 (lp_l hF_2 (Eq.trans hF_3 (F_m_change_p6 ex_1902))) _ _ hP hS _ (lv_sub hl [0, 2, 3, 4, 5, 6, 7] rfl)
                        have L_1971 : ∀ (n : Nat) (x_1966 : Int32) (x_1967 : Int32) (x_1968 : Int32) (x_1969 : Int32), (1 ≤ (x_1966).toInt ∧ (x_1966).toInt ≤ 16) → ((-1) ≤ (x_1967).toInt ∧ (x_1967).toInt ≤ 2147483647) → ((-1) ≤ (x_1968).toInt ∧ (x_1968).toInt ≤ 2147483647) → ((17 - (x_1966).toInt).toNat < n) → ∀ S_1970 : dg_S, CM o S_1970 → dg_sm shM [] [29, 30, 31, 32, 33, 34, 35, 36, 37, 38, 39, 40, 41, 42, 43, 44] S S_1970 → ZSM S_1970 → ((F_m_change_B2 S a2 o a1) (x_1790, x_1791, x_1792, x_1793, S_1794) = lp (F_m_change_B4 x_1796 x_1790 o a1) (Sum.inr (S, (0 : Int32))) n (x_1966, x_1967, x_1968, x_1969, S_1970)) → ∀ (H : Heap) (locs : List Loc), va_P D vwCl (dg_w g shM o rfM S_1970) H → va_S A s.heap H locs → ∀ ls : Array Slot, lv_has ls 8 [(7, .int x_1966), (6, .int x_1790), (5, .int x_1967), (4, .int x_1968), (3, .int x_1969), (0, .ref (o + 0)), (1, .int a1), (2, .int a2)] → W p l e ({ frames := 10, cells := 0, slots := 0, locals := 239 } : Room) s m args below meth c H locs 0 0 (MQ below (va_Qi (fun (r : Int32) S' => CM o S' ∧ dg_sm shM [] [29, 30, 31, 32, 33, 34, 35, 36, 37, 38, 39, 40, 41, 42, 43, 44] S S' ∧ ZSM S' ∧ (S' = (F_m_change o S a1 a2).1 ∧ r = (F_m_change o S a1 a2).2) ∧ True) (dg_B g D shM o rfM) A) args s 0 0 A) (F0 m 68 ls []) := by
                          as_aux_lemma =>
                            intro n
                            induction n with
                            | zero =>
                              intro x_1966 x_1967 x_1968 x_1969 b_x_1966 b_x_1967 b_x_1968 hmu S_1970 I_1970 M_1970 ZS_1970 hF_4 H locs hP hS ls hl
                              omega
                            | succ n ih =>
                              as_aux_lemma =>
                                intro x_1966 x_1967 x_1968 x_1969 b_x_1966 b_x_1967 b_x_1968 hmu S_1970 I_1970 M_1970 ZS_1970 hF_4 H locs hP hS ls hl
                                refine lv_iload hx hb dX12_change_68 (lv_at hl 0 rfl) ?_
                                refine lv_aload_n hx hb dX12_change_70 rfl (lv_at hl 5 rfl) ?_
                                refine dg_get (C := RX12) (T := TX12) (N := 77) hx hb hts (fun w h => bw_mem (wU_X12 w h)) hown K hP sM_0 rfl 21 (dk_dq rfl) (hts _ (bw_mem wB_391)) (fun _ h9 => h9) (v := .ref (o + 9)) (show S_1970.1 0 21 = .ref (o + 9) from dg_I.rel (d := 9) I_1970 sM_0 (by decide +kernel)) dX12_change_71 ?_
                                refine lv_aload_n hx hb dX12_change_74 rfl (lv_at hl 5 rfl) ?_
                                refine dg_get (C := RX12) (T := TX12) (N := 77) hx hb hts (fun w h => bw_mem (wU_X12 w h)) hown K hP sM_0 rfl 13 (dk_dq rfl) (hts _ (bw_mem wB_1085)) (fun _ h9 => h9) (v := .int x_1796) ((M_1970.1 0 13 _ sM_0 (dk_dq rfl)).trans f_x_1796) dX12_change_75 ?_
                                have hin_1972 : vp_in x_1796 2 := (dk_inv2 (by omega))
                                refine dg_iald hx hb K hP sM_9 hin_1972 dX12_change_78 (fun x_1973 ex_1973 => ?_)
                                have b_x_1973 := dk_all_at (dg_I.row (lo := 0) (hi := 16) I_1970 sM_9 (by decide +kernel)) hin_1972 ex_1973
                                refine lv_icmp_ge (tgt := 127) hx hb dX12_change_79 (dk_dq rfl) (fun c_1974 => ?_) (fun c_1974 => ?_)
                                · have jc_1974 := dk_gec (k := (x_1973).toInt) rfl c_1974
                                  have hf_1974 := dk_full x_1967
                                  have hf_1975 := dk_full x_1968
                                  exact J_1901 x_1966 x_1967 x_1968 x_1969 (by omega) (by omega) (by omega) S_1970 I_1970 M_1970 ZS_1970 (lp_r hF_4 (F_m_change_p7 (Eq.symm ex_1973.symm) c_1974)) _ _ hP hS _ (lv_sub hl [0, 1, 2, 3, 4, 5, 6, 7] rfl)
                                · as_aux_lemma =>
                                    have jc_1974 := dk_ngec (k := (x_1973).toInt) rfl c_1974
                                    refine lv_aload_n hx hb dX12_change_82 rfl (lv_at hl 5 rfl) ?_
                                    refine lv_iload hx hb dX12_change_83 (lv_at hl 1 rfl) ?_
                                    refine lv_iload hx hb dX12_change_85 (lv_at hl 0 rfl) ?_
                                    obtain ⟨x_1977, f_x_1977⟩ : ∃ x, S_1970.2.1 29 (0 : Int32).toNatClampNeg = x := ⟨_, rfl⟩
                                    have hin_1978 : vp_in (0 : Int32) 22 := (dk_in (by decide +kernel))
                                    have b_x_1977 := dk_all_at (dg_I.row (lo := 0) (hi := 2000) I_1970 sM_29 (by decide +kernel)) hin_1978 f_x_1977.symm
                                    have ex_1977 := f_x_1977.symm
                                    have hz_1979 : (0 : Int32).toInt = 0 := by decide +kernel
                                    have zs_x_1977 : (0 : Int32).toInt ≠ 1 → (x_1977).toInt ≤ 999 := fun h => by rw [ex_1977]; exact ZS_1970 _ (dk_inT hin_1978).2 (fun q => by have h9 := (dk_inT hin_1978).1; omega)
                                    refine dg_callv hS hA1 hA (va_runV (As := [.int x_1790, .int x_1966]) (rest := []) F (c_m_changes l g D o S_1970 x_1790 (by omega) x_1966 (by omega) x_1977 f_x_1977 (by omega) (ZBM.keep ZB M_1970 (dk_dq rfl) (dk_dq rfl) (dk_dq rfl) (dk_dq rfl) (dk_dq rfl)) ZS_1970 (ZWM.keep ZW M_1970 (dk_dq rfl) (dk_dq rfl) (dk_dq rfl) (dk_dq rfl)) I_1970 H.size) (cwV 2 hts (bw_V wB_1247 wB_1248 wB_1249 wB_297 wB_1246) rfl rfl rfl (by decide +kernel) ⟨Nat.le_of_ble_eq_true rfl, Nat.le_of_ble_eq_true rfl⟩) (dg_preV sM_0 rfl K ST hP hS hA1 hA) rfl rfl hl.1 rfl (lv_room (Nat.le_of_ble_eq_true rfl)) dX12_change_87 ⟨Nat.le_of_ble_eq_true rfl, Nat.le_of_ble_eq_true rfl⟩) (fun S_1980 hw_1980 H locs hP hS => ?_)
                                    obtain ⟨I_1980, m_1980, w_1980_0, w_1980_1, w_1980_2, -⟩ := hw_1980
                                    have M_1980 := dg_sm.tr M_1970 m_1980 (dk_dq rfl) (dk_dq rfl)
                                    obtain ⟨x_1981, f_x_1981⟩ : ∃ x, S_1980.2.1 29 (1 : Int32).toNatClampNeg = x := ⟨_, rfl⟩
                                    have hin_1982 : vp_in (1 : Int32) 22 := (dk_in (by decide +kernel))
                                    have b_x_1981 := dk_all_at (dg_I.row (lo := 0) (hi := 2000) I_1980 sM_29 (by decide +kernel)) hin_1982 f_x_1981.symm
                                    have ex_1981 := f_x_1981.symm
                                    have hz_1983 : (1 : Int32).toInt = 1 := by decide +kernel
                                    have zs_x_1981 : (1 : Int32).toInt ≠ 1 → (x_1981).toInt ≤ 999 := fun h => by rw [ex_1981]; exact w_1980_1 _ (dk_inT hin_1982).2 (fun q => by have h9 := (dk_inT hin_1982).1; omega)
                                    have w_1980_0 : (x_1981).toInt = (x_1977).toInt := w_1980_0 x_1981 f_x_1981
                                    refine lv_aload_n hx hb dX12_change_90 rfl (lv_at hl 5 rfl) ?_
                                    refine lv_iload_n hx hb dX12_change_91 rfl (lv_at hl 6 rfl) ?_
                                    refine dg_callv hS hA1 hA (va_runV (As := [.int a1]) (rest := []) F (c_m_runsOn l g D o S_1980 a1 (by omega) x_1981 f_x_1981 (by omega) (ZBM.keep (ZBM.keep ZB M_1970 (dk_dq rfl) (dk_dq rfl) (dk_dq rfl) (dk_dq rfl) (dk_dq rfl)) m_1980 (dk_dq rfl) (dk_dq rfl) (dk_dq rfl) (dk_dq rfl) (dk_dq rfl)) w_1980_1 (ZWM.keep (ZWM.keep ZW M_1970 (dk_dq rfl) (dk_dq rfl) (dk_dq rfl) (dk_dq rfl)) m_1980 (dk_dq rfl) (dk_dq rfl) (dk_dq rfl) (dk_dq rfl)) I_1980 H.size) (cwV 1 hts (bw_V wB_1239 wB_1240 wB_1241 wB_297 wB_1238) rfl rfl rfl (by decide +kernel) ⟨Nat.le_of_ble_eq_true rfl, Nat.le_of_ble_eq_true rfl⟩) (dg_preV sM_0 rfl K ST hP hS hA1 hA) rfl rfl hl.1 rfl (lv_room (Nat.le_of_ble_eq_true rfl)) dX12_change_92 ⟨Nat.le_of_ble_eq_true rfl, Nat.le_of_ble_eq_true rfl⟩) (fun S_1984 hw_1984 H locs hP hS => ?_)
                                    obtain ⟨I_1984, m_1984, w_1984_0, w_1984_1, -⟩ := hw_1984
                                    have M_1984 := dg_sm.tr M_1980 m_1984 (dk_dq rfl) (dk_dq rfl)
                                    refine lv_aload_n hx hb dX12_change_95 rfl (lv_at hl 5 rfl) ?_
                                    refine lv_iconst (v := 1) hx hb dX12_change_96 (by decide +kernel) ?_
                                    have hz_1985 : (1 : Int32).toInt = 1 := by decide +kernel
                                    refine dg_calli hS hA1 hA (va_runV (As := [.int 1]) (rest := []) F (c_m_tubGrades l g D o S_1984 1 (by decide +kernel) I_1984 H.size) (cwV 1 hts (bw_V wB_1119 wB_1120 wB_1121 wB_297 wB_1118) rfl rfl rfl (by decide +kernel) ⟨Nat.le_of_ble_eq_true rfl, Nat.le_of_ble_eq_true rfl⟩) (dg_preV sM_0 rfl K ST hP hS hA1 hA) rfl rfl hl.1 rfl (lv_room (Nat.le_of_ble_eq_true rfl)) dX12_change_97 ⟨Nat.le_of_ble_eq_true rfl, Nat.le_of_ble_eq_true rfl⟩) (fun x_1986 S_1987 hw_1987 H locs hP hS => ?_)
                                    rw [hw_1987.1] at hP
                                    obtain ⟨hq_1987, w_1987_0, -⟩ := hw_1987
                                    refine lv_iload_n hx hb dX12_change_100 rfl (lv_at hl 4 rfl) ?_
                                    have J_2002 : ∀ (x_1996 : Int32) (x_1997 : Int32) (x_1998 : Int32), ((-1) ≤ (x_1996).toInt ∧ (x_1996).toInt ≤ 2147483647) → ((-1) ≤ (x_1997).toInt ∧ (x_1997).toInt ≤ 2147483647) → ((F_m_change_B4 x_1796 x_1790 o a1) (x_1966, x_1967, x_1968, x_1969, S_1970) = F_m_change_J5 x_1966 x_1996 x_1997 x_1998 S_1984) → ∀ (H : Heap) (locs : List Loc), va_P D vwCl (dg_w g shM o rfM S_1984) H → va_S A s.heap H locs → ∀ ls : Array Slot, lv_has ls 8 [(5, .int x_1996), (4, .int x_1997), (3, .int x_1998), (7, .int x_1966), (6, .int x_1790), (0, .ref (o + 0)), (1, .int a1), (2, .int a2)] → W p l e ({ frames := 10, cells := 0, slots := 0, locals := 239 } : Room) s m args below meth c H locs 0 0 (MQ below (va_Qi (fun (r : Int32) S' => CM o S' ∧ dg_sm shM [] [29, 30, 31, 32, 33, 34, 35, 36, 37, 38, 39, 40, 41, 42, 43, 44] S S' ∧ ZSM S' ∧ (S' = (F_m_change o S a1 a2).1 ∧ r = (F_m_change o S a1 a2).2) ∧ True) (dg_B g D shM o rfM) A) args s 0 0 A) (F0 m 121 ls []) := by
                                      intro x_1996 x_1997 x_1998 b_x_1996 b_x_1997 hF_5 H locs hP hS ls hl
                                      obtain ⟨x_2003, ex_2003⟩ : ∃ z, z = x_1966 + 1 := ⟨_, rfl⟩
                                      have jx_2003 : (x_2003).toInt = (x_1966).toInt + 1 := by rw [ex_2003]; exact dk_addT2 rfl (by decide +kernel) (by omega)
                                      refine lv_iinc (v := x_2003) (lv' := [(7, .int x_2003), (5, .int x_1996), (4, .int x_1997), (3, .int x_1998), (6, .int x_1790), (0, .ref (o + 0)), (1, .int a1), (2, .int a2)]) hx hb dX12_change_121 hl (k := 3) rfl (by rw [ex_2003]; rfl) (dk_dq rfl) rfl (fun ls hl => ?_)
                                      refine lv_goto (tgt := 68) hx hb dX12_change_124 (dk_dq rfl) ?_
                                      have hf_2003 := dk_full x_1996
                                      have hf_2004 := dk_full x_1997
                                      exact ih x_2003 x_1996 x_1997 x_1998 (by omega) (by omega) (by omega) (by first | exact mu_lt hmu (by omega) (by omega) | omega) S_1984 I_1984 M_1984 w_1984_0 (lp_l hF_4 (Eq.trans hF_5 (F_m_change_p8 ex_2003))) _ _ hP hS _ (lv_sub hl [0, 4, 1, 2, 3, 5, 6, 7] rfl)
                                    as_aux_lemma =>
                                      refine lv_icmp_gt (tgt := 107) hx hb dX12_change_101 (dk_dq rfl) (fun c_2006 => ?_) (fun c_2006 => ?_)
                                      · as_aux_lemma =>
                                          have hf_2006 := dk_full x_1986
                                          have hf_2007 := dk_full x_1969
                                          have jc_2006 := dk_gtc (k := (x_1969).toInt) rfl c_2006
                                          refine lv_aload_n hx hb dX12_change_107 rfl (lv_at hl 5 rfl) ?_
                                          refine lv_iconst (v := 1) hx hb dX12_change_108 (by decide +kernel) ?_
                                          have hz_2009 : (1 : Int32).toInt = 1 := by decide +kernel
                                          refine dg_calli hS hA1 hA (va_runV (As := [.int 1]) (rest := []) F (c_m_tubGrades l g D o S_1984 1 (by decide +kernel) I_1984 H.size) (cwV 1 hts (bw_V wB_1119 wB_1120 wB_1121 wB_297 wB_1118) rfl rfl rfl (by decide +kernel) ⟨Nat.le_of_ble_eq_true rfl, Nat.le_of_ble_eq_true rfl⟩) (dg_preV sM_0 rfl K ST hP hS hA1 hA) rfl rfl hl.1 rfl (lv_room (Nat.le_of_ble_eq_true rfl)) dX12_change_109 ⟨Nat.le_of_ble_eq_true rfl, Nat.le_of_ble_eq_true rfl⟩) (fun x_2010 S_2011 hw_2011 H locs hP hS => ?_)
                                          rw [hw_2011.1] at hP
                                          obtain ⟨hq_2011, w_2011_0, -⟩ := hw_2011
                                          refine lv_istore_n (lv' := [(3, .int x_2010), (7, .int x_1966), (6, .int x_1790), (5, .int x_1967), (4, .int x_1968), (0, .ref (o + 0)), (1, .int a1), (2, .int a2)]) hx hb dX12_change_112 rfl hl (dk_dq rfl) rfl (fun ls hl => ?_)
                                          refine lv_iload hx hb dX12_change_113 (lv_at hl 2 rfl) ?_
                                          refine lv_istore (lv' := [(4, .int x_1790), (3, .int x_2010), (7, .int x_1966), (6, .int x_1790), (5, .int x_1967), (0, .ref (o + 0)), (1, .int a1), (2, .int a2)]) hx hb dX12_change_115 hl (dk_dq rfl) rfl (fun ls hl => ?_)
                                          refine lv_iload hx hb dX12_change_117 (lv_at hl 2 rfl) ?_
                                          refine lv_istore (lv' := [(5, .int x_1966), (4, .int x_1790), (3, .int x_2010), (7, .int x_1966), (6, .int x_1790), (0, .ref (o + 0)), (1, .int a1), (2, .int a2)]) hx hb dX12_change_119 hl (dk_dq rfl) rfl (fun ls hl => ?_)
                                          have hf_2011 := dk_full x_1966
                                          have hf_2012 := dk_full x_1790
                                          exact J_2002 x_1966 x_1790 x_2010 (by omega) (by omega) (F_m_change_p9 (Eq.symm ex_1973.symm) c_1974 w_1980_2 w_1984_1 w_1987_0 c_2006 w_2011_0) _ _ hP hS _ (lv_sub hl [0, 1, 2, 3, 4, 5, 6, 7] rfl)
                                      · have hf_2013 := dk_full x_1986
                                        have hf_2014 := dk_full x_1969
                                        have jc_2006 := dk_ngtc (k := (x_1969).toInt) rfl c_2006
                                        refine lv_goto (tgt := 121) hx hb dX12_change_104 (dk_dq rfl) ?_
                                        have hf_2015 := dk_full x_1967
                                        have hf_2016 := dk_full x_1968
                                        exact J_2002 x_1967 x_1968 x_1969 (by omega) (by omega) (F_m_change_p10 (Eq.symm ex_1973.symm) c_1974 w_1980_2 w_1984_1 w_1987_0 c_2006) _ _ hP hS _ (lv_sub hl [2, 3, 4, 0, 1, 5, 6, 7] rfl)
                        have hf_2017 := dk_full x_1791
                        have hf_2018 := dk_full x_1792
                        exact L_1971 ((17 - ((x_1803 : Int32)).toInt).toNat + 1) x_1803 x_1791 x_1792 x_1793 (by omega) (by omega) (by omega) (by first | exact mu_lt hmu (by omega) (by omega) | omega) S_1794 I_1794 M_1794 ZS_1794 (F_m_change_p11 (zI_eq f_x_1796) (Eq.symm ex_1798.symm) c_1799 ex_1803) _ _ hP hS _ (lv_sub hl [0, 1, 2, 3, 4, 5, 6, 7] rfl)
            have hz_2020 : (0 : Int32).toInt = 0 := by decide +kernel
            have hz_2021 : (-1 : Int32).toInt = (-1) := by decide +kernel
            have hz_2022 : (-1 : Int32).toInt = (-1) := by decide +kernel
            have hz_2023 : (0 : Int32).toInt = 0 := by decide +kernel
            have hz_2024 : (-1 : Int32).toInt = (-1) := by decide +kernel
            have hz_2025 : (-1 : Int32).toInt = (-1) := by decide +kernel
            exact L_1795 ((17 - ((0 : Int32)).toInt).toNat + 1) 0 (-1) (-1) x_30 (by decide +kernel) (by decide +kernel) (by decide +kernel) (by first | exact mu_lt hmu (by omega) (by omega) | omega) S_28 I_28 M_28 w_28_0 (F_m_change_p12 w_8_2 c_11 w_13_2 c_16 w_19_3 w_28_1 w_31_0) _ _ hP hS _ (lv_sub hl [0, 1, 2, 3, 4, 5, 6] rfl)
      · have jc_16 := dk_eqc (k := 0) (by decide +kernel) c_16
        refine lv_iconst (v := (-1)) hx hb dX12_change_20 (by decide +kernel) ?_
        refine W.widen (k := 0) (n := 0) (Nat.le_of_ble_eq_true rfl) (Nat.le_of_ble_eq_true rfl) ?_
        exact dg_iret hx hb hr hlocks rfl hP hS ⟨I, M_0, ZS, ⟨congrArg Prod.fst (Eq.symm (F_m_change_p13 w_8_2 c_11 w_13_2 c_16)), congrArg Prod.snd (Eq.symm (F_m_change_p13 w_8_2 c_11 w_13_2 c_16))⟩, trivial⟩ dX12_change_21
noncomputable def F_m_areTubs_J2 (o : Nat) (S : dg_S) (x_678 : Int32) (x_806 : Int32) : (Int32) ⊕ (Int32) := let x_819 : Int32 := F_m_tubsFrom o S (0 : Int32) x_678; (if x_806 ≤ x_819 then let x_824 : Int32 := x_678 + 1; (Sum.inl x_824) else (Sum.inr ((0 : Int32))))
noncomputable def F_m_areTubs_J4 (x_936 : Int32) (x_955 : Int32) (x_935 : Int32) : (Int32 × Int32) ⊕ ((Int32) ⊕ (Int32)) := let x_959 : Int32 := x_936 + x_955; let x_960 : Int32 := x_935 + 1; (Sum.inl (x_960, x_959))
noncomputable def F_m_areTubs_J5 (x_936 : Int32) (x_935 : Int32) : (Int32 × Int32) ⊕ ((Int32) ⊕ (Int32)) := (F_m_areTubs_J4 x_936 (0 : Int32) x_935)
noncomputable def F_m_areTubs_B3 (S : dg_S) (o : Nat) (x_678 : Int32) (a1 : Int32) : (Int32 × Int32) → (Int32 × Int32) ⊕ ((Int32) ⊕ (Int32)) := fun w9 => match w9 with | (x_935, x_936) => let x_938 : Int32 := zI S 0 13; let x_940 : Int32 := S.2.1 12 (x_938 : Int32).toNatClampNeg; (if x_940 ≤ x_935 then (Sum.inr ((F_m_areTubs_J2 o S x_678 x_936))) else let x_943 : Int32 := F_m_has2 o S a1 x_935; (if x_943 = (0 : Int32) then (F_m_areTubs_J5 x_936 x_935) else let x_963 : Int32 := (5 : Int32) * x_938; let x_964 : Int32 := x_963 + x_935; let x_966 : Int32 := S.2.1 13 (x_964 : Int32).toNatClampNeg; (if x_966 < x_678 then (F_m_areTubs_J5 x_936 x_935) else let x_968 : Int32 := (5 : Int32) * x_938; let x_969 : Int32 := x_968 + x_935; let x_971 : Int32 := S.2.1 14 (x_969 : Int32).toNatClampNeg; (F_m_areTubs_J4 x_936 x_971 x_935))))
noncomputable def F_m_areTubs_B1 (S : dg_S) (o : Nat) (a1 : Int32) : Int32 → (Int32) ⊕ (Int32) := fun w9 => match w9 with | x_678 => (if (10 : Int32) ≤ x_678 then (Sum.inr ((1 : Int32))) else (lp (F_m_areTubs_B3 S o x_678 a1) (Sum.inr (0 : Int32)) ((6 - ((0 : Int32)).toInt).toNat + 1) ((0 : Int32), (0 : Int32))))
noncomputable def F_m_areTubs (o : Nat) (S : dg_S) (a1 : Int32) : Int32 := (lp (F_m_areTubs_B1 S o a1) (0 : Int32) ((11 - ((0 : Int32)).toInt).toNat + 1) (0 : Int32))
theorem F_m_areTubs_p0 {S : dg_S} {o : Nat} {a1 : Int32} {x_678 : Int32} (h0 : (10 : Int32) ≤ x_678) : (F_m_areTubs_B1 S o a1) x_678 = Sum.inr ((1 : Int32)) := (Eq.trans (if_pos h0) rfl)
theorem F_m_areTubs_p1 {o : Nat} {S : dg_S} {x_678 : Int32} {x_806 : Int32} {x_824 : Int32} {x_819 : Int32} (h0 : x_819 = F_m_tubsFrom o S (0 : Int32) x_678) (h1 : x_806 ≤ x_819) (h2 : x_824 = x_678 + 1) : F_m_areTubs_J2 o S x_678 x_806 = Sum.inl x_824 := by
  replace h0 := Eq.symm h0
  subst h0
  replace h2 := Eq.symm h2
  subst h2
  exact (Eq.trans (if_pos h1) rfl)
theorem F_m_areTubs_p2 {o : Nat} {S : dg_S} {x_678 : Int32} {x_806 : Int32} {x_819 : Int32} (h0 : x_819 = F_m_tubsFrom o S (0 : Int32) x_678) (h1 : ¬ (x_806 ≤ x_819)) : F_m_areTubs_J2 o S x_678 x_806 = Sum.inr ((0 : Int32)) := by
  replace h0 := Eq.symm h0
  subst h0
  exact (Eq.trans (if_neg h1) rfl)
theorem F_m_areTubs_p3 {S : dg_S} {o : Nat} {x_678 : Int32} {a1 : Int32} {x_935 : Int32} {x_936 : Int32} {x_938 : Int32} {x_940 : Int32} (h0 : x_938 = zI S 0 13) (h1 : x_940 = S.2.1 12 (x_938 : Int32).toNatClampNeg) (h2 : x_940 ≤ x_935) : (F_m_areTubs_B3 S o x_678 a1) (x_935, x_936) = Sum.inr (F_m_areTubs_J2 o S x_678 x_936) := by
  replace h0 := Eq.symm h0
  subst h0
  replace h1 := Eq.symm h1
  subst h1
  exact (Eq.trans (if_pos h2) rfl)
theorem F_m_areTubs_p4 {x_936 : Int32} {x_955 : Int32} {x_935 : Int32} {x_960 : Int32} {x_959 : Int32} (h0 : x_959 = x_936 + x_955) (h1 : x_960 = x_935 + 1) : F_m_areTubs_J4 x_936 x_955 x_935 = Sum.inl (x_960, x_959) := by
  replace h0 := Eq.symm h0
  subst h0
  replace h1 := Eq.symm h1
  subst h1
  exact rfl
theorem F_m_areTubs_p5 {x_936 : Int32} {x_935 : Int32}  : F_m_areTubs_J5 x_936 x_935 = F_m_areTubs_J4 x_936 (0 : Int32) x_935 := rfl
theorem F_m_areTubs_p6 {S : dg_S} {o : Nat} {x_678 : Int32} {a1 : Int32} {x_935 : Int32} {x_936 : Int32} {x_938 : Int32} {x_940 : Int32} {x_943 : Int32} (h0 : x_938 = zI S 0 13) (h1 : x_940 = S.2.1 12 (x_938 : Int32).toNatClampNeg) (h2 : ¬ (x_940 ≤ x_935)) (h3 : x_943 = F_m_has2 o S a1 x_935) (h4 : x_943 = (0 : Int32)) : (F_m_areTubs_B3 S o x_678 a1) (x_935, x_936) = F_m_areTubs_J5 x_936 x_935 := by
  replace h0 := Eq.symm h0
  subst h0
  replace h1 := Eq.symm h1
  subst h1
  replace h3 := Eq.symm h3
  subst h3
  exact (Eq.trans (if_neg h2) (Eq.trans (if_pos h4) rfl))
theorem F_m_areTubs_p7 {S : dg_S} {o : Nat} {x_678 : Int32} {a1 : Int32} {x_935 : Int32} {x_936 : Int32} {x_938 : Int32} {x_940 : Int32} {x_943 : Int32} {x_963 : Int32} {x_964 : Int32} {x_966 : Int32} (h0 : x_938 = zI S 0 13) (h1 : x_940 = S.2.1 12 (x_938 : Int32).toNatClampNeg) (h2 : ¬ (x_940 ≤ x_935)) (h3 : x_943 = F_m_has2 o S a1 x_935) (h4 : ¬ (x_943 = (0 : Int32))) (h5 : x_963 = (5 : Int32) * x_938) (h6 : x_964 = x_963 + x_935) (h7 : x_966 = S.2.1 13 (x_964 : Int32).toNatClampNeg) (h8 : x_966 < x_678) : (F_m_areTubs_B3 S o x_678 a1) (x_935, x_936) = F_m_areTubs_J5 x_936 x_935 := by
  replace h0 := Eq.symm h0
  subst h0
  replace h1 := Eq.symm h1
  subst h1
  replace h3 := Eq.symm h3
  subst h3
  replace h5 := Eq.symm h5
  subst h5
  replace h6 := Eq.symm h6
  subst h6
  replace h7 := Eq.symm h7
  subst h7
  exact (Eq.trans (if_neg h2) (Eq.trans (if_neg h4) (Eq.trans (if_pos h8) rfl)))
theorem F_m_areTubs_p8 {S : dg_S} {o : Nat} {x_678 : Int32} {a1 : Int32} {x_935 : Int32} {x_936 : Int32} {x_971 : Int32} {x_938 : Int32} {x_940 : Int32} {x_943 : Int32} {x_963 : Int32} {x_964 : Int32} {x_966 : Int32} {x_968 : Int32} {x_969 : Int32} (h0 : x_938 = zI S 0 13) (h1 : x_940 = S.2.1 12 (x_938 : Int32).toNatClampNeg) (h2 : ¬ (x_940 ≤ x_935)) (h3 : x_943 = F_m_has2 o S a1 x_935) (h4 : ¬ (x_943 = (0 : Int32))) (h5 : x_963 = (5 : Int32) * x_938) (h6 : x_964 = x_963 + x_935) (h7 : x_966 = S.2.1 13 (x_964 : Int32).toNatClampNeg) (h8 : ¬ (x_966 < x_678)) (h9 : x_968 = (5 : Int32) * x_938) (h10 : x_969 = x_968 + x_935) (h11 : x_971 = S.2.1 14 (x_969 : Int32).toNatClampNeg) : (F_m_areTubs_B3 S o x_678 a1) (x_935, x_936) = F_m_areTubs_J4 x_936 x_971 x_935 := by
  replace h0 := Eq.symm h0
  subst h0
  replace h1 := Eq.symm h1
  subst h1
  replace h3 := Eq.symm h3
  subst h3
  replace h5 := Eq.symm h5
  subst h5
  replace h6 := Eq.symm h6
  subst h6
  replace h7 := Eq.symm h7
  subst h7
  replace h9 := Eq.symm h9
  subst h9
  replace h10 := Eq.symm h10
  subst h10
  replace h11 := Eq.symm h11
  subst h11
  exact (Eq.trans (if_neg h2) (Eq.trans (if_neg h4) (Eq.trans (if_neg h8) rfl)))
theorem F_m_areTubs_p9 {S : dg_S} {o : Nat} {a1 : Int32} {x_678 : Int32} (h0 : ¬ ((10 : Int32) ≤ x_678)) : (F_m_areTubs_B1 S o a1) x_678 = lp (F_m_areTubs_B3 S o x_678 a1) (Sum.inr (0 : Int32)) ((6 - ((0 : Int32)).toInt).toNat + 1) ((0 : Int32), (0 : Int32)) := (Eq.trans (if_neg h0) rfl)
theorem F_m_areTubs_p10 {o : Nat} {S : dg_S} {a1 : Int32}  : F_m_areTubs o S a1 = lp (F_m_areTubs_B1 S o a1) (0 : Int32) ((11 - ((0 : Int32)).toInt).toNat + 1) (0 : Int32) := rfl
set_option maxHeartbeats 8000000 in
set_option maxRecDepth 100000 in
theorem c_m_areTubs (l : Launch) (g : Nat → ClassId) (D : va_G) (o : Nat) (S : dg_S) (a1 : Int32) (I : CM o S) (sz : Nat) : Met l yX12_areTubs (bw yX12_areTubs cX12_areTubs 5 (some .boolean)) ({ frames := 2, cells := 0, slots := 0, locals := 56 } : Room) (dk_Pc g D (dg_w g shM o rfM S) sz [.ref (o + 0), .int a1]) (va_Qi (fun (r : Int32) S' => S' = S ∧ (0 ≤ (r).toInt ∧ (r).toInt ≤ 1) ∧ (r = F_m_areTubs o S a1) ∧ True) (dg_B g D shM o rfM) (dg_A o shM.length sz)) 0 0 (dg_A o shM.length sz) := by
  refine dg_met (cc := cX12_areTubs) (maxL := 5) (ret := (some .boolean)) (dk_dq rfl) rfl (Nat.le_of_ble_eq_true rfl) ?_
  intro p e s m args below meth c A hAe harg hx hb hr hml hts hown hlocks hin hP K hS hA1 hA ST hsz ls hl
  rw [← hAe]
  have F : CallFix p m c cX12_areTubs 5 s args (bw yX12_areTubs cX12_areTubs 5 (some .boolean)) RX12 := ⟨hx, hb, hml, hown, hts⟩
  have hl : lv_has ls 5 [(0, .ref (o + 0)), (1, .int a1)] := hl
  have M_0 : dg_sm shM [] [] S S := dg_sm.rf
  refine lv_iconst (v := 0) hx hb dX12_areTubs_0 (by decide +kernel) ?_
  refine lv_istore_n (lv' := [(2, .int 0), (0, .ref (o + 0)), (1, .int a1)]) hx hb dX12_areTubs_1 rfl hl (dk_dq rfl) rfl (fun ls hl => ?_)
  have L_679 : ∀ (n : Nat) (x_678 : Int32), (0 ≤ (x_678).toInt ∧ (x_678).toInt ≤ 10) → ((11 - (x_678).toInt).toNat < n) → (F_m_areTubs o S a1 = lp (F_m_areTubs_B1 S o a1) (0 : Int32) n x_678) → ∀ (H : Heap) (locs : List Loc), va_P D vwCl (dg_w g shM o rfM S) H → va_S A s.heap H locs → ∀ ls : Array Slot, lv_has ls 5 [(2, .int x_678), (0, .ref (o + 0)), (1, .int a1)] → W p l e ({ frames := 2, cells := 0, slots := 0, locals := 56 } : Room) s m args below meth c H locs 0 0 (MQ below (va_Qi (fun (r : Int32) S' => S' = S ∧ (0 ≤ (r).toInt ∧ (r).toInt ≤ 1) ∧ (r = F_m_areTubs o S a1) ∧ True) (dg_B g D shM o rfM) A) args s 0 0 A) (F0 m 2 ls []) := by
    as_aux_lemma =>
      intro n
      induction n with
      | zero =>
        intro x_678 b_x_678 hmu hF_1 H locs hP hS ls hl
        omega
      | succ n ih =>
        as_aux_lemma =>
          intro x_678 b_x_678 hmu hF_1 H locs hP hS ls hl
          refine lv_iload_n hx hb dX12_areTubs_2 rfl (lv_at hl 0 rfl) ?_
          refine lv_bipush (v := 10) hx hb dX12_areTubs_3 (by decide +kernel) ?_
          refine lv_icmp_ge (tgt := 99) hx hb dX12_areTubs_5 (dk_dq rfl) (fun c_680 => ?_) (fun c_680 => ?_)
          · have jc_680 := dk_gec (k := 10) (by decide +kernel) c_680
            refine lv_iconst (v := 1) hx hb dX12_areTubs_99 (by decide +kernel) ?_
            have hz_681 : (1 : Int32).toInt = 1 := by decide +kernel
            refine W.widen (k := 0) (n := 0) (Nat.le_of_ble_eq_true rfl) (Nat.le_of_ble_eq_true rfl) ?_
            exact dg_iret hx hb hr hlocks (by decide +kernel) hP hS ⟨rfl, (by decide +kernel), (Eq.symm (lp_r hF_1 (F_m_areTubs_p0 c_680))), trivial⟩ dX12_areTubs_100
          · as_aux_lemma =>
              have jc_680 := dk_ngec (k := 10) (by decide +kernel) c_680
              refine lv_iconst (v := 0) hx hb dX12_areTubs_8 (by decide +kernel) ?_
              refine lv_istore_n (lv' := [(3, .int 0), (2, .int x_678), (0, .ref (o + 0)), (1, .int a1)]) hx hb dX12_areTubs_9 rfl hl (dk_dq rfl) rfl (fun ls hl => ?_)
              refine lv_iconst (v := 0) hx hb dX12_areTubs_10 (by decide +kernel) ?_
              refine lv_istore (lv' := [(4, .int 0), (3, .int 0), (2, .int x_678), (0, .ref (o + 0)), (1, .int a1)]) hx hb dX12_areTubs_11 hl (dk_dq rfl) rfl (fun ls hl => ?_)
              have J_817 : ∀ (x_805 : Int32) (x_806 : Int32), (0 ≤ (x_805).toInt ∧ (x_805).toInt ≤ 2147483647) → ((F_m_areTubs_B1 S o a1) x_678 = F_m_areTubs_J2 o S x_678 x_806) → ∀ (H : Heap) (locs : List Loc), va_P D vwCl (dg_w g shM o rfM S) H → va_S A s.heap H locs → ∀ ls : Array Slot, lv_has ls 5 [(4, .int x_805), (3, .int x_806), (2, .int x_678), (0, .ref (o + 0)), (1, .int a1)] → W p l e ({ frames := 2, cells := 0, slots := 0, locals := 56 } : Room) s m args below meth c H locs 0 0 (MQ below (va_Qi (fun (r : Int32) S' => S' = S ∧ (0 ≤ (r).toInt ∧ (r).toInt ≤ 1) ∧ (r = F_m_areTubs o S a1) ∧ True) (dg_B g D shM o rfM) A) args s 0 0 A) (F0 m 81 ls []) := by
                as_aux_lemma =>
                  intro x_805 x_806 b_x_805 hF_2 H locs hP hS ls hl
                  refine lv_iload_n hx hb dX12_areTubs_81 rfl (lv_at hl 1 rfl) ?_
                  refine lv_aload_n hx hb dX12_areTubs_82 rfl (lv_at hl 3 rfl) ?_
                  refine lv_iconst (v := 0) hx hb dX12_areTubs_83 (by decide +kernel) ?_
                  refine lv_iload_n hx hb dX12_areTubs_84 rfl (lv_at hl 2 rfl) ?_
                  have hz_818 : (0 : Int32).toInt = 0 := by decide +kernel
                  refine dg_calli hS hA1 hA (va_runV (As := [.int 0, .int x_678]) (rest := [.int x_806]) F (c_m_tubsFrom l g D o S 0 (by decide +kernel) x_678 (by omega) I H.size) (cwV 2 hts (bw_V wB_1215 wB_1216 wB_1217 wB_297 wB_1214) rfl rfl rfl (by decide +kernel) ⟨Nat.le_of_ble_eq_true rfl, Nat.le_of_ble_eq_true rfl⟩) (dg_preV sM_0 rfl K ST hP hS hA1 hA) rfl rfl hl.1 rfl (lv_room (Nat.le_of_ble_eq_true rfl)) dX12_areTubs_85 ⟨Nat.le_of_ble_eq_true rfl, Nat.le_of_ble_eq_true rfl⟩) (fun x_819 S_820 hw_820 H locs hP hS => ?_)
                  rw [hw_820.1] at hP
                  obtain ⟨hq_820, w_820_0, -⟩ := hw_820
                  refine lv_icmp_le (tgt := 93) hx hb dX12_areTubs_88 (dk_dq rfl) (fun c_821 => ?_) (fun c_821 => ?_)
                  · have hf_821 := dk_full x_806
                    have hf_822 := dk_full x_819
                    have jc_821 := dk_lec (k := (x_819).toInt) rfl c_821
                    obtain ⟨x_824, ex_824⟩ : ∃ z, z = x_678 + 1 := ⟨_, rfl⟩
                    have jx_824 : (x_824).toInt = (x_678).toInt + 1 := by rw [ex_824]; exact dk_addT2 rfl (by decide +kernel) (by omega)
                    refine lv_iinc (v := x_824) (lv' := [(2, .int x_824), (4, .int x_805), (3, .int x_806), (0, .ref (o + 0)), (1, .int a1)]) hx hb dX12_areTubs_93 hl (k := 2) rfl (by rw [ex_824]; rfl) (dk_dq rfl) rfl (fun ls hl => ?_)
                    refine lv_goto (tgt := 2) hx hb dX12_areTubs_96 (dk_dq rfl) ?_
                    exact ih x_824 (by omega) (by first | exact mu_lt hmu (by omega) (by omega) | omega) (lp_l hF_1 (Eq.trans hF_2 (F_m_areTubs_p1 w_820_0 c_821 ex_824))) _ _ hP hS _ (lv_sub hl [0, 3, 4] rfl)
                  · have hf_824 := dk_full x_806
                    have hf_825 := dk_full x_819
                    have jc_821 := dk_nlec (k := (x_819).toInt) rfl c_821
                    refine lv_iconst (v := 0) hx hb dX12_areTubs_91 (by decide +kernel) ?_
                    have hz_827 : (0 : Int32).toInt = 0 := by decide +kernel
                    refine W.widen (k := 0) (n := 0) (Nat.le_of_ble_eq_true rfl) (Nat.le_of_ble_eq_true rfl) ?_
                    exact dg_iret hx hb hr hlocks (by decide +kernel) hP hS ⟨rfl, (by decide +kernel), (Eq.symm (lp_r hF_1 (Eq.trans hF_2 (F_m_areTubs_p2 w_820_0 c_821)))), trivial⟩ dX12_areTubs_92
              have L_937 : ∀ (n : Nat) (x_935 : Int32) (x_936 : Int32), (0 ≤ (x_935).toInt ∧ (x_935).toInt ≤ 5) → ((6 - (x_935).toInt).toNat < n) → ((F_m_areTubs_B1 S o a1) x_678 = lp (F_m_areTubs_B3 S o x_678 a1) (Sum.inr (0 : Int32)) n (x_935, x_936)) → ∀ (H : Heap) (locs : List Loc), va_P D vwCl (dg_w g shM o rfM S) H → va_S A s.heap H locs → ∀ ls : Array Slot, lv_has ls 5 [(4, .int x_935), (3, .int x_936), (2, .int x_678), (0, .ref (o + 0)), (1, .int a1)] → W p l e ({ frames := 2, cells := 0, slots := 0, locals := 56 } : Room) s m args below meth c H locs 0 0 (MQ below (va_Qi (fun (r : Int32) S' => S' = S ∧ (0 ≤ (r).toInt ∧ (r).toInt ≤ 1) ∧ (r = F_m_areTubs o S a1) ∧ True) (dg_B g D shM o rfM) A) args s 0 0 A) (F0 m 13 ls []) := by
                as_aux_lemma =>
                  intro n
                  induction n with
                  | zero =>
                    intro x_935 x_936 b_x_935 hmu hF_3 H locs hP hS ls hl
                    omega
                  | succ n ih =>
                    as_aux_lemma =>
                      intro x_935 x_936 b_x_935 hmu hF_3 H locs hP hS ls hl
                      refine lv_iload hx hb dX12_areTubs_13 (lv_at hl 0 rfl) ?_
                      refine lv_aload_n hx hb dX12_areTubs_15 rfl (lv_at hl 3 rfl) ?_
                      refine dg_get (C := RX12) (T := TX12) (N := 77) hx hb hts (fun w h => bw_mem (wU_X12 w h)) hown K hP sM_0 rfl 24 (dk_dq rfl) (hts _ (bw_mem wB_355)) (fun _ h9 => h9) (v := .ref (o + 12)) (show S.1 0 24 = .ref (o + 12) from dg_I.rel (d := 12) I sM_0 (by decide +kernel)) dX12_areTubs_16 ?_
                      refine lv_aload_n hx hb dX12_areTubs_19 rfl (lv_at hl 3 rfl) ?_
                      obtain ⟨x_938, f_x_938, b_x_938⟩ := dg_I.int (i := 0) (k := 13) (lo := 0) (hi := 1) I sM_0 (by decide +kernel)
                      refine dg_get (C := RX12) (T := TX12) (N := 77) hx hb hts (fun w h => bw_mem (wU_X12 w h)) hown K hP sM_0 rfl 13 (dk_dq rfl) (hts _ (bw_mem wB_1085)) (fun _ h9 => h9) (v := .int x_938) f_x_938 dX12_areTubs_20 ?_
                      have hin_939 : vp_in x_938 2 := (dk_inv2 (by omega))
                      refine dg_iald hx hb K hP sM_12 hin_939 dX12_areTubs_23 (fun x_940 ex_940 => ?_)
                      have b_x_940 := dk_all_at (dg_I.row (lo := 0) (hi := 5) I sM_12 (by decide +kernel)) hin_939 ex_940
                      refine lv_icmp_ge (tgt := 81) hx hb dX12_areTubs_24 (dk_dq rfl) (fun c_941 => ?_) (fun c_941 => ?_)
                      · have jc_941 := dk_gec (k := (x_940).toInt) rfl c_941
                        have hf_941 := dk_full x_935
                        exact J_817 x_935 x_936 (by omega) (lp_r hF_3 (F_m_areTubs_p3 (zI_eq f_x_938) (Eq.symm ex_940.symm) c_941)) _ _ hP hS _ (lv_sub hl [0, 1, 2, 3, 4] rfl)
                      · as_aux_lemma =>
                          have jc_941 := dk_ngec (k := (x_940).toInt) rfl c_941
                          refine lv_iload_n hx hb dX12_areTubs_27 rfl (lv_at hl 1 rfl) ?_
                          refine lv_iload_n hx hb dX12_areTubs_28 rfl (lv_at hl 4 rfl) ?_
                          refine lv_iload hx hb dX12_areTubs_29 (lv_at hl 0 rfl) ?_
                          refine dg_calli hS hA1 hA (va_runS (As := [.int a1, .int x_935]) (rest := [.int x_936]) F (c_m_has2 l g D o S a1 x_935 I H.size) (va_cwS 2 hts (bw_S wB_1165 wB_1166 wB_297 wB_1164) rfl rfl rfl (by decide +kernel) ⟨Nat.le_of_ble_eq_true rfl, Nat.le_of_ble_eq_true rfl⟩) (dg_preS K ST hP hS hA1 hA) rfl rfl hl.1 rfl (lv_room (Nat.le_of_ble_eq_true rfl)) dX12_areTubs_31 ⟨Nat.le_of_ble_eq_true rfl, Nat.le_of_ble_eq_true rfl⟩) (fun x_943 S_944 hw_944 H locs hP hS => ?_)
                          rw [hw_944.1] at hP
                          obtain ⟨hq_944, w_944_0, w_944_1, -⟩ := hw_944
                          have w_944_0 : 0 ≤ (x_943).toInt ∧ (x_943).toInt ≤ 1 := w_944_0
                          have J_958 : ∀ (x_955 : Int32), ((F_m_areTubs_B3 S o x_678 a1) (x_935, x_936) = F_m_areTubs_J4 x_936 x_955 x_935) → ∀ (H : Heap) (locs : List Loc), va_P D vwCl (dg_w g shM o rfM S) H → va_S A s.heap H locs → ∀ ls : Array Slot, lv_has ls 5 [(4, .int x_935), (3, .int x_936), (2, .int x_678), (0, .ref (o + 0)), (1, .int a1)] → W p l e ({ frames := 2, cells := 0, slots := 0, locals := 56 } : Room) s m args below meth c H locs 0 0 (MQ below (va_Qi (fun (r : Int32) S' => S' = S ∧ (0 ≤ (r).toInt ∧ (r).toInt ≤ 1) ∧ (r = F_m_areTubs o S a1) ∧ True) (dg_B g D shM o rfM) A) args s 0 0 A) (F0 m 73 ls [.int x_955, .int x_936]) := by
                            intro x_955 hF_4 H locs hP hS ls hl
                            refine lv_iadd hx hb dX12_areTubs_73 ?_
                            refine lv_topi (fun x_959 ex_959 => ?_)
                            refine lv_istore_n (lv' := [(3, .int x_959), (4, .int x_935), (2, .int x_678), (0, .ref (o + 0)), (1, .int a1)]) hx hb dX12_areTubs_74 rfl hl (dk_dq rfl) rfl (fun ls hl => ?_)
                            obtain ⟨x_960, ex_960⟩ : ∃ z, z = x_935 + 1 := ⟨_, rfl⟩
                            have jx_960 : (x_960).toInt = (x_935).toInt + 1 := by rw [ex_960]; exact dk_addT2 rfl (by decide +kernel) (by omega)
                            refine lv_iinc (v := x_960) (lv' := [(4, .int x_960), (3, .int x_959), (2, .int x_678), (0, .ref (o + 0)), (1, .int a1)]) hx hb dX12_areTubs_75 hl (k := 1) rfl (by rw [ex_960]; rfl) (dk_dq rfl) rfl (fun ls hl => ?_)
                            refine lv_goto (tgt := 13) hx hb dX12_areTubs_78 (dk_dq rfl) ?_
                            exact ih x_960 x_959 (by omega) (by first | exact mu_lt hmu (by omega) (by omega) | omega) (lp_l hF_3 (Eq.trans hF_4 (F_m_areTubs_p4 ex_959 ex_960))) _ _ hP hS _ (lv_sub hl [0, 1, 2, 3, 4] rfl)
                          have J_961 : ((F_m_areTubs_B3 S o x_678 a1) (x_935, x_936) = F_m_areTubs_J5 x_936 x_935) → ∀ (H : Heap) (locs : List Loc), va_P D vwCl (dg_w g shM o rfM S) H → va_S A s.heap H locs → ∀ ls : Array Slot, lv_has ls 5 [(4, .int x_935), (3, .int x_936), (2, .int x_678), (0, .ref (o + 0)), (1, .int a1)] → W p l e ({ frames := 2, cells := 0, slots := 0, locals := 56 } : Room) s m args below meth c H locs 0 0 (MQ below (va_Qi (fun (r : Int32) S' => S' = S ∧ (0 ≤ (r).toInt ∧ (r).toInt ≤ 1) ∧ (r = F_m_areTubs o S a1) ∧ True) (dg_B g D shM o rfM) A) args s 0 0 A) (F0 m 72 ls [.int x_936]) := by
                            intro hF_5 H locs hP hS ls hl
                            refine lv_iconst (v := 0) hx hb dX12_areTubs_72 (by decide +kernel) ?_
                            exact J_958 0  (Eq.trans hF_5 (F_m_areTubs_p5)) _ _ hP hS _ (lv_sub hl [0, 1, 2, 3, 4] rfl)
                          refine lv_if_eq (tgt := 72) hx hb dX12_areTubs_34 (dk_dq rfl) (fun c_962 => ?_) (fun c_962 => ?_)
                          · have jc_962 := dk_eqc (k := 0) (by decide +kernel) c_962
                            exact J_961   (F_m_areTubs_p6 (zI_eq f_x_938) (Eq.symm ex_940.symm) c_941 w_944_1 c_962) _ _ hP hS _ (lv_sub hl [0, 1, 2, 3, 4] rfl)
                          · as_aux_lemma =>
                              have jc_962 := dk_neqc (k := 0) (by decide +kernel) c_962
                              refine lv_aload_n hx hb dX12_areTubs_37 rfl (lv_at hl 3 rfl) ?_
                              refine dg_get (C := RX12) (T := TX12) (N := 77) hx hb hts (fun w h => bw_mem (wU_X12 w h)) hown K hP sM_0 rfl 25 (dk_dq rfl) (hts _ (bw_mem wB_398)) (fun _ h9 => h9) (v := .ref (o + 13)) (show S.1 0 25 = .ref (o + 13) from dg_I.rel (d := 13) I sM_0 (by decide +kernel)) dX12_areTubs_38 ?_
                              refine lv_iconst (v := 5) hx hb dX12_areTubs_41 (by decide +kernel) ?_
                              refine lv_aload_n hx hb dX12_areTubs_42 rfl (lv_at hl 3 rfl) ?_
                              refine dg_get (C := RX12) (T := TX12) (N := 77) hx hb hts (fun w h => bw_mem (wU_X12 w h)) hown K hP sM_0 rfl 13 (dk_dq rfl) (hts _ (bw_mem wB_1085)) (fun _ h9 => h9) (v := .int x_938) f_x_938 dX12_areTubs_43 ?_
                              refine lv_imul hx hb dX12_areTubs_46 ?_
                              refine lv_topi (fun x_963 ex_963 => ?_)
                              have jx_963 : (x_963).toInt = 5 * (x_938).toInt := by rw [ex_963]; exact dk_mulT2 (by decide +kernel) rfl (by omega)
                              refine lv_iload hx hb dX12_areTubs_47 (lv_at hl 0 rfl) ?_
                              refine lv_iadd hx hb dX12_areTubs_49 ?_
                              refine lv_topi (fun x_964 ex_964 => ?_)
                              have jx_964 : (x_964).toInt = (x_963).toInt + (x_935).toInt := by rw [ex_964]; exact dk_addT2 rfl rfl (by omega)
                              have hin_965 : vp_in x_964 10 := (dk_inv2 (by omega))
                              refine dg_iald hx hb K hP sM_13 hin_965 dX12_areTubs_50 (fun x_966 ex_966 => ?_)
                              have b_x_966 := dk_all_at (dg_I.row (lo := 0) (hi := 9999) I sM_13 (by decide +kernel)) hin_965 ex_966
                              refine lv_iload_n hx hb dX12_areTubs_51 rfl (lv_at hl 2 rfl) ?_
                              refine lv_icmp_lt (tgt := 72) hx hb dX12_areTubs_52 (dk_dq rfl) (fun c_967 => ?_) (fun c_967 => ?_)
                              · have jc_967 := dk_ltc (k := (x_678).toInt) rfl c_967
                                exact J_961   (F_m_areTubs_p7 (zI_eq f_x_938) (Eq.symm ex_940.symm) c_941 w_944_1 c_962 ex_963 ex_964 (Eq.symm ex_966.symm) c_967) _ _ hP hS _ (lv_sub hl [0, 1, 2, 3, 4] rfl)
                              · as_aux_lemma =>
                                  have jc_967 := dk_nltc (k := (x_678).toInt) rfl c_967
                                  refine lv_aload_n hx hb dX12_areTubs_55 rfl (lv_at hl 3 rfl) ?_
                                  refine dg_get (C := RX12) (T := TX12) (N := 77) hx hb hts (fun w h => bw_mem (wU_X12 w h)) hown K hP sM_0 rfl 26 (dk_dq rfl) (hts _ (bw_mem wB_399)) (fun _ h9 => h9) (v := .ref (o + 14)) (show S.1 0 26 = .ref (o + 14) from dg_I.rel (d := 14) I sM_0 (by decide +kernel)) dX12_areTubs_56 ?_
                                  refine lv_iconst (v := 5) hx hb dX12_areTubs_59 (by decide +kernel) ?_
                                  refine lv_aload_n hx hb dX12_areTubs_60 rfl (lv_at hl 3 rfl) ?_
                                  refine dg_get (C := RX12) (T := TX12) (N := 77) hx hb hts (fun w h => bw_mem (wU_X12 w h)) hown K hP sM_0 rfl 13 (dk_dq rfl) (hts _ (bw_mem wB_1085)) (fun _ h9 => h9) (v := .int x_938) f_x_938 dX12_areTubs_61 ?_
                                  refine lv_imul hx hb dX12_areTubs_64 ?_
                                  refine lv_topi (fun x_968 ex_968 => ?_)
                                  have jx_968 : (x_968).toInt = 5 * (x_938).toInt := by rw [ex_968]; exact dk_mulT2 (by decide +kernel) rfl (by omega)
                                  refine lv_iload hx hb dX12_areTubs_65 (lv_at hl 0 rfl) ?_
                                  refine lv_iadd hx hb dX12_areTubs_67 ?_
                                  refine lv_topi (fun x_969 ex_969 => ?_)
                                  have jx_969 : (x_969).toInt = (x_968).toInt + (x_935).toInt := by rw [ex_969]; exact dk_addT2 rfl rfl (by omega)
                                  have hin_970 : vp_in x_969 10 := (dk_inv2 (by omega))
                                  refine dg_iald hx hb K hP sM_14 hin_970 dX12_areTubs_68 (fun x_971 ex_971 => ?_)
                                  refine lv_goto (tgt := 73) hx hb dX12_areTubs_69 (dk_dq rfl) ?_
                                  exact J_958 x_971  (F_m_areTubs_p8 (zI_eq f_x_938) (Eq.symm ex_940.symm) c_941 w_944_1 c_962 ex_963 ex_964 (Eq.symm ex_966.symm) c_967 ex_968 ex_969 (Eq.symm ex_971.symm)) _ _ hP hS _ (lv_sub hl [0, 1, 2, 3, 4] rfl)
              have hz_972 : (0 : Int32).toInt = 0 := by decide +kernel
              have hz_973 : (0 : Int32).toInt = 0 := by decide +kernel
              have hz_974 : (0 : Int32).toInt = 0 := by decide +kernel
              exact L_937 ((6 - ((0 : Int32)).toInt).toNat + 1) 0 0 (by decide +kernel) (by first | exact mu_lt hmu (by omega) (by omega) | omega) (F_m_areTubs_p9 c_680) _ _ hP hS _ (lv_sub hl [0, 1, 2, 3, 4] rfl)
  have hz_975 : (0 : Int32).toInt = 0 := by decide +kernel
  have hz_976 : (0 : Int32).toInt = 0 := by decide +kernel
  exact L_679 ((11 - ((0 : Int32)).toInt).toNat + 1) 0 (by decide +kernel) (by first | exact mu_lt hmu (by omega) (by omega) | omega) (F_m_areTubs_p10) _ _ hP hS _ (lv_sub hl [0, 1, 2] rfl)
noncomputable def F_m_sale_J2 (x_522 : Int32) (x_654 : Int32) (x_655 : Int32) : (Int32 × Int32 × Int32) ⊕ (Int32) := let x_661 : Int32 := x_522 + 1; (Sum.inl (x_661, x_654, x_655))
noncomputable def F_m_sale_J4 (x_522 : Int32) (x_760 : Int32) : (Int32 × Int32 × Int32) ⊕ (Int32) := (F_m_sale_J2 x_522 x_760 x_522)
noncomputable def F_m_sale_J3 (x_760 : Int32) (x_523 : Int32) (x_522 : Int32) (x_524 : Int32) (o : Nat) (S : dg_S) : (Int32 × Int32 × Int32) ⊕ (Int32) := (if x_760 < x_523 then (F_m_sale_J2 x_522 x_523 x_524) else (if x_760 = x_523 then let x_820 : Int32 := F_m_bits o S x_522; let x_822 : Int32 := F_m_bits o S x_524; (if x_820 < x_822 then (F_m_sale_J4 x_522 x_760) else (F_m_sale_J2 x_522 x_523 x_524)) else (F_m_sale_J4 x_522 x_760)))
noncomputable def F_m_sale_J6 (x_910 : Int32) (x_923 : Int32) (x_909 : Int32) : (Int32 × Int32) ⊕ ((Int32 × Int32 × Int32) ⊕ (Int32)) := let x_927 : Int32 := x_910 + x_923; let x_928 : Int32 := x_909 + 1; (Sum.inl (x_928, x_927))
noncomputable def F_m_sale_B5 (x_528 : Int32) (x_523 : Int32) (x_522 : Int32) (x_524 : Int32) (o : Nat) (S : dg_S) (x_526 : Int32) : (Int32 × Int32) → (Int32 × Int32) ⊕ ((Int32 × Int32 × Int32) ⊕ (Int32)) := fun w9 => match w9 with | (x_909, x_910) => (if x_528 ≤ x_909 then (Sum.inr ((F_m_sale_J3 x_910 x_523 x_522 x_524 o S))) else let x_916 : Int32 := F_m_has2 o S x_522 x_909; (if x_916 = (0 : Int32) then (F_m_sale_J6 x_910 (0 : Int32) x_909) else let x_930 : Int32 := (5 : Int32) * x_526; let x_931 : Int32 := x_930 + x_909; let x_933 : Int32 := S.2.1 15 (x_931 : Int32).toNatClampNeg; (F_m_sale_J6 x_910 x_933 x_909)))
noncomputable def F_m_sale_B1 (S : dg_S) (a1 : Int32) (o : Nat) : (Int32 × Int32 × Int32) → (Int32 × Int32 × Int32) ⊕ (Int32) := fun w9 => match w9 with | (x_522, x_523, x_524) => let x_526 : Int32 := zI S 0 13; let x_528 : Int32 := S.2.1 12 (x_526 : Int32).toNatClampNeg; let x_529 : Int32 := (1 : Int32) <<< (x_528 &&& 31); (if x_529 ≤ x_522 then (Sum.inr ((if a1 = (0 : Int32) then x_524 else x_523))) else let x_539 : Int32 := S.2.1 34 (0 : Int32).toNatClampNeg; let x_540 : Int32 := x_522 &&& x_539; (if x_540 = (0 : Int32) then let x_668 : Int32 := F_m_areTubs o S x_522; (if x_668 = (0 : Int32) then (F_m_sale_J2 x_522 x_523 x_524) else (lp (F_m_sale_B5 x_528 x_523 x_522 x_524 o S x_526) (Sum.inr (0 : Int32)) ((6 - ((0 : Int32)).toInt).toNat + 1) ((0 : Int32), (0 : Int32)))) else (F_m_sale_J2 x_522 x_523 x_524)))
noncomputable def F_m_sale (o : Nat) (S : dg_S) (a1 : Int32) : Int32 := let x_1 : Int32 := F_m_is o S a1 (0 : Int32) (1 : Int32); (if x_1 = (0 : Int32) then (-1 : Int32) else (lp (F_m_sale_B1 S a1 o) (0 : Int32) ((2147483648 - ((1 : Int32)).toInt).toNat + 1) ((1 : Int32), (0 : Int32), (0 : Int32))))
theorem F_m_sale_p0 {S : dg_S} {a1 : Int32} {o : Nat} {x_522 : Int32} {x_523 : Int32} {x_524 : Int32} {x_526 : Int32} {x_528 : Int32} {x_529 : Int32} (h0 : x_526 = zI S 0 13) (h1 : x_528 = S.2.1 12 (x_526 : Int32).toNatClampNeg) (h2 : x_529 = (1 : Int32) <<< (x_528 &&& 31)) (h3 : x_529 ≤ x_522) (h5 : ¬ (a1 = (0 : Int32))) : (F_m_sale_B1 S a1 o) (x_522, x_523, x_524) = Sum.inr (x_523) := by
  replace h0 := Eq.symm h0
  subst h0
  replace h1 := Eq.symm h1
  subst h1
  replace h2 := Eq.symm h2
  subst h2
  exact (Eq.trans (if_pos h3) (congrArg Sum.inr (Eq.trans (if_neg h5) rfl)))
theorem F_m_sale_p1 {S : dg_S} {a1 : Int32} {o : Nat} {x_522 : Int32} {x_523 : Int32} {x_524 : Int32} {x_526 : Int32} {x_528 : Int32} {x_529 : Int32} (h0 : x_526 = zI S 0 13) (h1 : x_528 = S.2.1 12 (x_526 : Int32).toNatClampNeg) (h2 : x_529 = (1 : Int32) <<< (x_528 &&& 31)) (h3 : x_529 ≤ x_522) (h5 : a1 = (0 : Int32)) : (F_m_sale_B1 S a1 o) (x_522, x_523, x_524) = Sum.inr (x_524) := by
  replace h0 := Eq.symm h0
  subst h0
  replace h1 := Eq.symm h1
  subst h1
  replace h2 := Eq.symm h2
  subst h2
  exact (Eq.trans (if_pos h3) (congrArg Sum.inr (Eq.trans (if_pos h5) rfl)))
theorem F_m_sale_p2 {x_522 : Int32} {x_654 : Int32} {x_655 : Int32} {x_661 : Int32} (h0 : x_661 = x_522 + 1) : F_m_sale_J2 x_522 x_654 x_655 = Sum.inl (x_661, x_654, x_655) := by
  replace h0 := Eq.symm h0
  subst h0
  exact rfl
theorem F_m_sale_p3 {S : dg_S} {a1 : Int32} {o : Nat} {x_522 : Int32} {x_523 : Int32} {x_524 : Int32} {x_526 : Int32} {x_528 : Int32} {x_529 : Int32} {x_539 : Int32} {x_540 : Int32} (h0 : x_526 = zI S 0 13) (h1 : x_528 = S.2.1 12 (x_526 : Int32).toNatClampNeg) (h2 : x_529 = (1 : Int32) <<< (x_528 &&& 31)) (h3 : ¬ (x_529 ≤ x_522)) (h4 : x_539 = S.2.1 34 (0 : Int32).toNatClampNeg) (h5 : x_540 = x_522 &&& x_539) (h6 : ¬ (x_540 = (0 : Int32))) : (F_m_sale_B1 S a1 o) (x_522, x_523, x_524) = F_m_sale_J2 x_522 x_523 x_524 := by
  replace h0 := Eq.symm h0
  subst h0
  replace h1 := Eq.symm h1
  subst h1
  replace h2 := Eq.symm h2
  subst h2
  replace h4 := Eq.symm h4
  subst h4
  replace h5 := Eq.symm h5
  subst h5
  exact (Eq.trans (if_neg h3) (Eq.trans (if_neg h6) rfl))
theorem F_m_sale_p4 {x_760 : Int32} {x_523 : Int32} {x_522 : Int32} {x_524 : Int32} {o : Nat} {S : dg_S} (h0 : x_760 < x_523) : F_m_sale_J3 x_760 x_523 x_522 x_524 o S = F_m_sale_J2 x_522 x_523 x_524 := (Eq.trans (if_pos h0) rfl)
theorem F_m_sale_p5 {x_522 : Int32} {x_760 : Int32}  : F_m_sale_J4 x_522 x_760 = F_m_sale_J2 x_522 x_760 x_522 := rfl
theorem F_m_sale_p6 {x_760 : Int32} {x_523 : Int32} {x_522 : Int32} {x_524 : Int32} {o : Nat} {S : dg_S} (h0 : ¬ (x_760 < x_523)) (h1 : ¬ (x_760 = x_523)) : F_m_sale_J3 x_760 x_523 x_522 x_524 o S = F_m_sale_J4 x_522 x_760 := (Eq.trans (if_neg h0) (Eq.trans (if_neg h1) rfl))
theorem F_m_sale_p7 {x_760 : Int32} {x_523 : Int32} {x_522 : Int32} {x_524 : Int32} {o : Nat} {S : dg_S} {x_820 : Int32} {x_822 : Int32} (h0 : ¬ (x_760 < x_523)) (h1 : x_760 = x_523) (h2 : x_820 = F_m_bits o S x_522) (h3 : x_822 = F_m_bits o S x_524) (h4 : x_820 < x_822) : F_m_sale_J3 x_760 x_523 x_522 x_524 o S = F_m_sale_J4 x_522 x_760 := by
  replace h2 := Eq.symm h2
  subst h2
  replace h3 := Eq.symm h3
  subst h3
  exact (Eq.trans (if_neg h0) (Eq.trans (if_pos h1) (Eq.trans (if_pos h4) rfl)))
theorem F_m_sale_p8 {x_760 : Int32} {x_523 : Int32} {x_522 : Int32} {x_524 : Int32} {o : Nat} {S : dg_S} {x_820 : Int32} {x_822 : Int32} (h0 : ¬ (x_760 < x_523)) (h1 : x_760 = x_523) (h2 : x_820 = F_m_bits o S x_522) (h3 : x_822 = F_m_bits o S x_524) (h4 : ¬ (x_820 < x_822)) : F_m_sale_J3 x_760 x_523 x_522 x_524 o S = F_m_sale_J2 x_522 x_523 x_524 := by
  replace h2 := Eq.symm h2
  subst h2
  replace h3 := Eq.symm h3
  subst h3
  exact (Eq.trans (if_neg h0) (Eq.trans (if_pos h1) (Eq.trans (if_neg h4) rfl)))
theorem F_m_sale_p9 {x_528 : Int32} {x_523 : Int32} {x_522 : Int32} {x_524 : Int32} {o : Nat} {S : dg_S} {x_526 : Int32} {x_909 : Int32} {x_910 : Int32} (h0 : x_528 ≤ x_909) : (F_m_sale_B5 x_528 x_523 x_522 x_524 o S x_526) (x_909, x_910) = Sum.inr (F_m_sale_J3 x_910 x_523 x_522 x_524 o S) := (Eq.trans (if_pos h0) rfl)
theorem F_m_sale_p10 {x_910 : Int32} {x_923 : Int32} {x_909 : Int32} {x_928 : Int32} {x_927 : Int32} (h0 : x_927 = x_910 + x_923) (h1 : x_928 = x_909 + 1) : F_m_sale_J6 x_910 x_923 x_909 = Sum.inl (x_928, x_927) := by
  replace h0 := Eq.symm h0
  subst h0
  replace h1 := Eq.symm h1
  subst h1
  exact rfl
theorem F_m_sale_p11 {x_528 : Int32} {x_523 : Int32} {x_522 : Int32} {x_524 : Int32} {o : Nat} {S : dg_S} {x_526 : Int32} {x_909 : Int32} {x_910 : Int32} {x_916 : Int32} (h0 : ¬ (x_528 ≤ x_909)) (h1 : x_916 = F_m_has2 o S x_522 x_909) (h2 : x_916 = (0 : Int32)) : (F_m_sale_B5 x_528 x_523 x_522 x_524 o S x_526) (x_909, x_910) = F_m_sale_J6 x_910 (0 : Int32) x_909 := by
  replace h1 := Eq.symm h1
  subst h1
  exact (Eq.trans (if_neg h0) (Eq.trans (if_pos h2) rfl))
theorem F_m_sale_p12 {x_528 : Int32} {x_523 : Int32} {x_522 : Int32} {x_524 : Int32} {o : Nat} {S : dg_S} {x_526 : Int32} {x_909 : Int32} {x_910 : Int32} {x_933 : Int32} {x_916 : Int32} {x_930 : Int32} {x_931 : Int32} (h0 : ¬ (x_528 ≤ x_909)) (h1 : x_916 = F_m_has2 o S x_522 x_909) (h2 : ¬ (x_916 = (0 : Int32))) (h3 : x_930 = (5 : Int32) * x_526) (h4 : x_931 = x_930 + x_909) (h5 : x_933 = S.2.1 15 (x_931 : Int32).toNatClampNeg) : (F_m_sale_B5 x_528 x_523 x_522 x_524 o S x_526) (x_909, x_910) = F_m_sale_J6 x_910 x_933 x_909 := by
  replace h1 := Eq.symm h1
  subst h1
  replace h3 := Eq.symm h3
  subst h3
  replace h4 := Eq.symm h4
  subst h4
  replace h5 := Eq.symm h5
  subst h5
  exact (Eq.trans (if_neg h0) (Eq.trans (if_neg h2) rfl))
theorem F_m_sale_p13 {S : dg_S} {a1 : Int32} {o : Nat} {x_522 : Int32} {x_523 : Int32} {x_524 : Int32} {x_528 : Int32} {x_526 : Int32} {x_529 : Int32} {x_539 : Int32} {x_540 : Int32} {x_668 : Int32} (h0 : x_526 = zI S 0 13) (h1 : x_528 = S.2.1 12 (x_526 : Int32).toNatClampNeg) (h2 : x_529 = (1 : Int32) <<< (x_528 &&& 31)) (h3 : ¬ (x_529 ≤ x_522)) (h4 : x_539 = S.2.1 34 (0 : Int32).toNatClampNeg) (h5 : x_540 = x_522 &&& x_539) (h6 : x_540 = (0 : Int32)) (h7 : x_668 = F_m_areTubs o S x_522) (h8 : ¬ (x_668 = (0 : Int32))) : (F_m_sale_B1 S a1 o) (x_522, x_523, x_524) = lp (F_m_sale_B5 x_528 x_523 x_522 x_524 o S x_526) (Sum.inr (0 : Int32)) ((6 - ((0 : Int32)).toInt).toNat + 1) ((0 : Int32), (0 : Int32)) := by
  replace h0 := Eq.symm h0
  subst h0
  replace h1 := Eq.symm h1
  subst h1
  replace h2 := Eq.symm h2
  subst h2
  replace h4 := Eq.symm h4
  subst h4
  replace h5 := Eq.symm h5
  subst h5
  replace h7 := Eq.symm h7
  subst h7
  exact (Eq.trans (if_neg h3) (Eq.trans (if_pos h6) (Eq.trans (if_neg h8) rfl)))
theorem F_m_sale_p14 {S : dg_S} {a1 : Int32} {o : Nat} {x_522 : Int32} {x_523 : Int32} {x_524 : Int32} {x_526 : Int32} {x_528 : Int32} {x_529 : Int32} {x_539 : Int32} {x_540 : Int32} {x_668 : Int32} (h0 : x_526 = zI S 0 13) (h1 : x_528 = S.2.1 12 (x_526 : Int32).toNatClampNeg) (h2 : x_529 = (1 : Int32) <<< (x_528 &&& 31)) (h3 : ¬ (x_529 ≤ x_522)) (h4 : x_539 = S.2.1 34 (0 : Int32).toNatClampNeg) (h5 : x_540 = x_522 &&& x_539) (h6 : x_540 = (0 : Int32)) (h7 : x_668 = F_m_areTubs o S x_522) (h8 : x_668 = (0 : Int32)) : (F_m_sale_B1 S a1 o) (x_522, x_523, x_524) = F_m_sale_J2 x_522 x_523 x_524 := by
  replace h0 := Eq.symm h0
  subst h0
  replace h1 := Eq.symm h1
  subst h1
  replace h2 := Eq.symm h2
  subst h2
  replace h4 := Eq.symm h4
  subst h4
  replace h5 := Eq.symm h5
  subst h5
  replace h7 := Eq.symm h7
  subst h7
  exact (Eq.trans (if_neg h3) (Eq.trans (if_pos h6) (Eq.trans (if_pos h8) rfl)))
theorem F_m_sale_p15 {o : Nat} {S : dg_S} {a1 : Int32} {x_1 : Int32} (h0 : x_1 = F_m_is o S a1 (0 : Int32) (1 : Int32)) (h1 : ¬ (x_1 = (0 : Int32))) : F_m_sale o S a1 = lp (F_m_sale_B1 S a1 o) (0 : Int32) ((2147483648 - ((1 : Int32)).toInt).toNat + 1) ((1 : Int32), (0 : Int32), (0 : Int32)) := by
  replace h0 := Eq.symm h0
  subst h0
  exact (Eq.trans (if_neg h1) rfl)
theorem F_m_sale_p16 {o : Nat} {S : dg_S} {a1 : Int32} {x_1 : Int32} (h0 : x_1 = F_m_is o S a1 (0 : Int32) (1 : Int32)) (h1 : x_1 = (0 : Int32)) : F_m_sale o S a1 = (-1 : Int32) := by
  replace h0 := Eq.symm h0
  subst h0
  exact (Eq.trans (if_pos h1) rfl)
set_option maxHeartbeats 8000000 in
set_option maxRecDepth 100000 in
theorem c_m_sale (l : Launch) (g : Nat → ClassId) (D : va_G) (o : Nat) (S : dg_S) (a1 : Int32) (I : CM o S) (sz : Nat) : Met l yX12_sale (bw yX12_sale cX12_sale 7 (some .int)) ({ frames := 3, cells := 0, slots := 0, locals := 80 } : Room) (dk_Pc g D (dg_w g shM o rfM S) sz [.ref (o + 0), .int a1]) (va_Qi (fun (r : Int32) S' => S' = S ∧ ((-1) ≤ (r).toInt ∧ (r).toInt ≤ 2147483647) ∧ (r = F_m_sale o S a1) ∧ True) (dg_B g D shM o rfM) (dg_A o shM.length sz)) 0 0 (dg_A o shM.length sz) := by
  refine dg_met (cc := cX12_sale) (maxL := 7) (ret := (some .int)) (dk_dq rfl) rfl (Nat.le_of_ble_eq_true rfl) ?_
  intro p e s m args below meth c A hAe harg hx hb hr hml hts hown hlocks hin hP K hS hA1 hA ST hsz ls hl
  rw [← hAe]
  have F : CallFix p m c cX12_sale 7 s args (bw yX12_sale cX12_sale 7 (some .int)) RX12 := ⟨hx, hb, hml, hown, hts⟩
  have hl : lv_has ls 7 [(0, .ref (o + 0)), (1, .int a1)] := hl
  have M_0 : dg_sm shM [] [] S S := dg_sm.rf
  refine lv_iload_n hx hb dX12_sale_0 rfl (lv_at hl 1 rfl) ?_
  refine lv_iconst (v := 0) hx hb dX12_sale_1 (by decide +kernel) ?_
  refine lv_iconst (v := 1) hx hb dX12_sale_2 (by decide +kernel) ?_
  refine dg_calli hS hA1 hA (va_runS (As := [.int a1, .int 0, .int 1]) (rest := []) F (c_m_isR l g D o S a1 0 1 I s.heap.size) (va_cwS 3 hts (bw_S wB_362 wB_363 wB_297 wB_361) rfl rfl rfl (by decide +kernel) ⟨Nat.le_of_ble_eq_true rfl, Nat.le_of_ble_eq_true rfl⟩) (dg_preS K ST hP hS hA1 hA) rfl rfl hl.1 rfl (lv_room (Nat.le_of_ble_eq_true rfl)) dX12_sale_3 ⟨Nat.le_of_ble_eq_true rfl, Nat.le_of_ble_eq_true rfl⟩) (fun x_1 S_2 hw_2 H locs hP hS => ?_)
  rw [hw_2.1] at hP
  obtain ⟨hq_2, w_2_0, w_2_1, w_2_2, -⟩ := hw_2
  have hz_3 : (0 : Int32).toInt = 0 := by decide +kernel
  have hz_4 : (1 : Int32).toInt = 1 := by decide +kernel
  have w_2_0 : 0 ≤ (x_1).toInt ∧ (x_1).toInt ≤ 1 := w_2_0
  have w_2_1 : (x_1).toInt = 1 ↔ (((0 : Int32)).toInt ≤ (a1).toInt ∧ (a1).toInt ≤ ((1 : Int32)).toInt) := w_2_1
  refine lv_if_ne (tgt := 11) hx hb dX12_sale_6 (dk_dq rfl) (fun c_5 => ?_) (fun c_5 => ?_)
  · as_aux_lemma =>
      have jc_5 := dk_neqc (k := 0) (by decide +kernel) c_5
      refine lv_iconst (v := 0) hx hb dX12_sale_11 (by decide +kernel) ?_
      refine lv_istore_n (lv' := [(2, .int 0), (0, .ref (o + 0)), (1, .int a1)]) hx hb dX12_sale_12 rfl hl (dk_dq rfl) rfl (fun ls hl => ?_)
      refine lv_iconst (v := 0) hx hb dX12_sale_13 (by decide +kernel) ?_
      refine lv_istore_n (lv' := [(3, .int 0), (2, .int 0), (0, .ref (o + 0)), (1, .int a1)]) hx hb dX12_sale_14 rfl hl (dk_dq rfl) rfl (fun ls hl => ?_)
      refine lv_iconst (v := 1) hx hb dX12_sale_15 (by decide +kernel) ?_
      refine lv_istore (lv' := [(4, .int 1), (3, .int 0), (2, .int 0), (0, .ref (o + 0)), (1, .int a1)]) hx hb dX12_sale_16 hl (dk_dq rfl) rfl (fun ls hl => ?_)
      have L_525 : ∀ (n : Nat) (x_522 : Int32) (x_523 : Int32) (x_524 : Int32), (1 ≤ (x_522).toInt ∧ (x_522).toInt ≤ 2147483647) → (0 ≤ (x_523).toInt ∧ (x_523).toInt ≤ 2147483647) → (0 ≤ (x_524).toInt ∧ (x_524).toInt ≤ 2147483647) → ((2147483648 - (x_522).toInt).toNat < n) → (F_m_sale o S a1 = lp (F_m_sale_B1 S a1 o) (0 : Int32) n (x_522, x_523, x_524)) → ∀ (H : Heap) (locs : List Loc), va_P D vwCl (dg_w g shM o rfM S) H → va_S A s.heap H locs → ∀ ls : Array Slot, lv_has ls 7 [(4, .int x_522), (3, .int x_523), (2, .int x_524), (0, .ref (o + 0)), (1, .int a1)] → W p l e ({ frames := 3, cells := 0, slots := 0, locals := 80 } : Room) s m args below meth c H locs 0 0 (MQ below (va_Qi (fun (r : Int32) S' => S' = S ∧ ((-1) ≤ (r).toInt ∧ (r).toInt ≤ 2147483647) ∧ (r = F_m_sale o S a1) ∧ True) (dg_B g D shM o rfM) A) args s 0 0 A) (F0 m 18 ls []) := by
        as_aux_lemma =>
          intro n
          induction n with
          | zero =>
            intro x_522 x_523 x_524 b_x_522 b_x_523 b_x_524 hmu hF_1 H locs hP hS ls hl
            omega
          | succ n ih =>
            as_aux_lemma =>
              intro x_522 x_523 x_524 b_x_522 b_x_523 b_x_524 hmu hF_1 H locs hP hS ls hl
              refine lv_iload hx hb dX12_sale_18 (lv_at hl 0 rfl) ?_
              refine lv_iconst (v := 1) hx hb dX12_sale_20 (by decide +kernel) ?_
              refine lv_aload_n hx hb dX12_sale_21 rfl (lv_at hl 3 rfl) ?_
              refine dg_get (C := RX12) (T := TX12) (N := 77) hx hb hts (fun w h => bw_mem (wU_X12 w h)) hown K hP sM_0 rfl 24 (dk_dq rfl) (hts _ (bw_mem wB_355)) (fun _ h9 => h9) (v := .ref (o + 12)) (show S.1 0 24 = .ref (o + 12) from dg_I.rel (d := 12) I sM_0 (by decide +kernel)) dX12_sale_22 ?_
              refine lv_aload_n hx hb dX12_sale_25 rfl (lv_at hl 3 rfl) ?_
              obtain ⟨x_526, f_x_526, b_x_526⟩ := dg_I.int (i := 0) (k := 13) (lo := 0) (hi := 1) I sM_0 (by decide +kernel)
              refine dg_get (C := RX12) (T := TX12) (N := 77) hx hb hts (fun w h => bw_mem (wU_X12 w h)) hown K hP sM_0 rfl 13 (dk_dq rfl) (hts _ (bw_mem wB_1085)) (fun _ h9 => h9) (v := .int x_526) f_x_526 dX12_sale_26 ?_
              have hin_527 : vp_in x_526 2 := (dk_inv2 (by omega))
              refine dg_iald hx hb K hP sM_12 hin_527 dX12_sale_29 (fun x_528 ex_528 => ?_)
              have b_x_528 := dk_all_at (dg_I.row (lo := 0) (hi := 5) I sM_12 (by decide +kernel)) hin_527 ex_528
              refine lv_ishl hx hb dX12_sale_30 ?_
              refine lv_topi (fun x_529 ex_529 => ?_)
              refine lv_icmp_ge (tgt := 156) hx hb dX12_sale_31 (dk_dq rfl) (fun c_530 => ?_) (fun c_530 => ?_)
              · as_aux_lemma =>
                  have hf_530 := dk_full x_522
                  have hf_531 := dk_full x_529
                  have jc_530 := dk_gec (k := (x_529).toInt) rfl c_530
                  refine lv_iload_n hx hb dX12_sale_156 rfl (lv_at hl 4 rfl) ?_
                  refine lv_if_ne (tgt := 164) hx hb dX12_sale_157 (dk_dq rfl) (fun c_533 => ?_) (fun c_533 => ?_)
                  · have jc_533 := dk_neqc (k := 0) (by decide +kernel) c_533
                    refine lv_iload_n hx hb dX12_sale_164 rfl (lv_at hl 1 rfl) ?_
                    have hf_533 := dk_full x_523
                    refine W.widen (k := 0) (n := 0) (Nat.le_of_ble_eq_true rfl) (Nat.le_of_ble_eq_true rfl) ?_
                    exact dg_iret hx hb hr hlocks rfl hP hS ⟨rfl, (by omega), (Eq.symm (lp_r hF_1 (F_m_sale_p0 (zI_eq f_x_526) (Eq.symm ex_528.symm) ex_529 c_530 c_533))), trivial⟩ dX12_sale_165
                  · have jc_533 := dk_eqc (k := 0) (by decide +kernel) c_533
                    refine lv_iload_n hx hb dX12_sale_160 rfl (lv_at hl 2 rfl) ?_
                    refine lv_goto (tgt := 165) hx hb dX12_sale_161 (dk_dq rfl) ?_
                    have hf_534 := dk_full x_524
                    refine W.widen (k := 0) (n := 0) (Nat.le_of_ble_eq_true rfl) (Nat.le_of_ble_eq_true rfl) ?_
                    exact dg_iret hx hb hr hlocks rfl hP hS ⟨rfl, (by omega), (Eq.symm (lp_r hF_1 (F_m_sale_p1 (zI_eq f_x_526) (Eq.symm ex_528.symm) ex_529 c_530 c_533))), trivial⟩ dX12_sale_165
              · as_aux_lemma =>
                  have hf_535 := dk_full x_522
                  have hf_536 := dk_full x_529
                  have jc_530 := dk_ngec (k := (x_529).toInt) rfl c_530
                  refine lv_iload hx hb dX12_sale_34 (lv_at hl 0 rfl) ?_
                  refine lv_aload_n hx hb dX12_sale_36 rfl (lv_at hl 3 rfl) ?_
                  refine dg_get (C := RX12) (T := TX12) (N := 77) hx hb hts (fun w h => bw_mem (wU_X12 w h)) hown K hP sM_0 rfl 54 (dk_dq rfl) (hts _ (bw_mem wB_1131)) (fun _ h9 => h9) (v := .ref (o + 34)) (show S.1 0 54 = .ref (o + 34) from dg_I.rel (d := 34) I sM_0 (by decide +kernel)) dX12_sale_37 ?_
                  refine lv_iconst (v := 0) hx hb dX12_sale_40 (by decide +kernel) ?_
                  have hin_538 : vp_in (0 : Int32) 22 := (dk_in (by decide +kernel))
                  refine dg_iald hx hb K hP sM_34 hin_538 dX12_sale_41 (fun x_539 ex_539 => ?_)
                  refine lv_iand hx hb dX12_sale_42 ?_
                  refine lv_topi (fun x_540 ex_540 => ?_)
                  have J_660 : ∀ (x_654 : Int32) (x_655 : Int32), (0 ≤ (x_654).toInt ∧ (x_654).toInt ≤ 2147483647) → (0 ≤ (x_655).toInt ∧ (x_655).toInt ≤ 2147483647) → ((F_m_sale_B1 S a1 o) (x_522, x_523, x_524) = F_m_sale_J2 x_522 x_654 x_655) → ∀ (H : Heap) (locs : List Loc), va_P D vwCl (dg_w g shM o rfM S) H → va_S A s.heap H locs → ∀ ls : Array Slot, lv_has ls 7 [(4, .int x_522), (3, .int x_654), (2, .int x_655), (0, .ref (o + 0)), (1, .int a1)] → W p l e ({ frames := 3, cells := 0, slots := 0, locals := 80 } : Room) s m args below meth c H locs 0 0 (MQ below (va_Qi (fun (r : Int32) S' => S' = S ∧ ((-1) ≤ (r).toInt ∧ (r).toInt ≤ 2147483647) ∧ (r = F_m_sale o S a1) ∧ True) (dg_B g D shM o rfM) A) args s 0 0 A) (F0 m 150 ls []) := by
                    intro x_654 x_655 b_x_654 b_x_655 hF_2 H locs hP hS ls hl
                    obtain ⟨x_661, ex_661⟩ : ∃ z, z = x_522 + 1 := ⟨_, rfl⟩
                    have jx_661 : (x_661).toInt = (x_522).toInt + 1 := by rw [ex_661]; exact dk_addT2 rfl (by decide +kernel) (by omega)
                    refine lv_iinc (v := x_661) (lv' := [(4, .int x_661), (3, .int x_654), (2, .int x_655), (0, .ref (o + 0)), (1, .int a1)]) hx hb dX12_sale_150 hl (k := 0) rfl (by rw [ex_661]; rfl) (dk_dq rfl) rfl (fun ls hl => ?_)
                    refine lv_goto (tgt := 18) hx hb dX12_sale_153 (dk_dq rfl) ?_
                    have hf_661 := dk_full x_661
                    have hf_662 := dk_full x_654
                    have hf_663 := dk_full x_655
                    exact ih x_661 x_654 x_655 (by omega) (by omega) (by omega) (by first | exact mu_lt hmu (by omega) (by omega) | omega) (lp_l hF_1 (Eq.trans hF_2 (F_m_sale_p2 ex_661))) _ _ hP hS _ (lv_sub hl [0, 1, 2, 3, 4] rfl)
                  refine lv_if_ne (tgt := 150) hx hb dX12_sale_43 (dk_dq rfl) (fun c_665 => ?_) (fun c_665 => ?_)
                  · have jc_665 := dk_neqc (k := 0) (by decide +kernel) c_665
                    have hf_665 := dk_full x_523
                    have hf_666 := dk_full x_524
                    exact J_660 x_523 x_524 (by omega) (by omega) (F_m_sale_p3 (zI_eq f_x_526) (Eq.symm ex_528.symm) ex_529 c_530 (Eq.symm ex_539.symm) ex_540 c_665) _ _ hP hS _ (lv_sub hl [0, 1, 2, 3, 4] rfl)
                  · as_aux_lemma =>
                      have jc_665 := dk_eqc (k := 0) (by decide +kernel) c_665
                      refine lv_aload_n hx hb dX12_sale_46 rfl (lv_at hl 3 rfl) ?_
                      refine lv_iload hx hb dX12_sale_47 (lv_at hl 0 rfl) ?_
                      refine dg_calli hS hA1 hA (va_runV (As := [.int x_522]) (rest := []) F (c_m_areTubs l g D o S x_522 I H.size) (cwV 1 hts (bw_V wB_1251 wB_1252 wB_1253 wB_297 wB_1250) rfl rfl rfl (by decide +kernel) ⟨Nat.le_of_ble_eq_true rfl, Nat.le_of_ble_eq_true rfl⟩) (dg_preV sM_0 rfl K ST hP hS hA1 hA) rfl rfl hl.1 rfl (lv_room (Nat.le_of_ble_eq_true rfl)) dX12_sale_49 ⟨Nat.le_of_ble_eq_true rfl, Nat.le_of_ble_eq_true rfl⟩) (fun x_668 S_669 hw_669 H locs hP hS => ?_)
                      rw [hw_669.1] at hP
                      obtain ⟨hq_669, w_669_0, w_669_1, -⟩ := hw_669
                      have w_669_0 : 0 ≤ (x_668).toInt ∧ (x_668).toInt ≤ 1 := w_669_0
                      refine lv_if_ne (tgt := 58) hx hb dX12_sale_52 (dk_dq rfl) (fun c_670 => ?_) (fun c_670 => ?_)
                      · as_aux_lemma =>
                          have jc_670 := dk_neqc (k := 0) (by decide +kernel) c_670
                          refine lv_iconst (v := 0) hx hb dX12_sale_58 (by decide +kernel) ?_
                          refine lv_istore (lv' := [(5, .int 0), (4, .int x_522), (3, .int x_523), (2, .int x_524), (0, .ref (o + 0)), (1, .int a1)]) hx hb dX12_sale_59 hl (dk_dq rfl) rfl (fun ls hl => ?_)
                          refine lv_iconst (v := 0) hx hb dX12_sale_61 (by decide +kernel) ?_
                          refine lv_istore (lv' := [(6, .int 0), (5, .int 0), (4, .int x_522), (3, .int x_523), (2, .int x_524), (0, .ref (o + 0)), (1, .int a1)]) hx hb dX12_sale_62 hl (dk_dq rfl) rfl (fun ls hl => ?_)
                          have J_786 : ∀ (x_759 : Int32) (x_760 : Int32), (0 ≤ (x_759).toInt ∧ (x_759).toInt ≤ 2147483647) → ((F_m_sale_B1 S a1 o) (x_522, x_523, x_524) = F_m_sale_J3 x_760 x_523 x_522 x_524 o S) → ∀ (H : Heap) (locs : List Loc), va_P D vwCl (dg_w g shM o rfM S) H → va_S A s.heap H locs → ∀ ls : Array Slot, lv_has ls 7 [(6, .int x_759), (5, .int x_760), (4, .int x_522), (3, .int x_523), (2, .int x_524), (0, .ref (o + 0)), (1, .int a1)] → W p l e ({ frames := 3, cells := 0, slots := 0, locals := 80 } : Room) s m args below meth c H locs 0 0 (MQ below (va_Qi (fun (r : Int32) S' => S' = S ∧ ((-1) ≤ (r).toInt ∧ (r).toInt ≤ 2147483647) ∧ (r = F_m_sale o S a1) ∧ True) (dg_B g D shM o rfM) A) args s 0 0 A) (F0 m 117 ls []) := by
                            as_aux_lemma =>
                              intro x_759 x_760 b_x_759 hF_3 H locs hP hS ls hl
                              refine lv_iload hx hb dX12_sale_117 (lv_at hl 1 rfl) ?_
                              refine lv_iload_n hx hb dX12_sale_119 rfl (lv_at hl 3 rfl) ?_
                              refine lv_icmp_lt (tgt := 150) hx hb dX12_sale_120 (dk_dq rfl) (fun c_787 => ?_) (fun c_787 => ?_)
                              · have hf_787 := dk_full x_760
                                have hf_788 := dk_full x_523
                                have jc_787 := dk_ltc (k := (x_523).toInt) rfl c_787
                                have hf_789 := dk_full x_523
                                have hf_790 := dk_full x_524
                                exact J_660 x_523 x_524 (by omega) (by omega) (Eq.trans hF_3 (F_m_sale_p4 c_787)) _ _ hP hS _ (lv_sub hl [2, 3, 4, 5, 6] rfl)
                              · as_aux_lemma =>
                                  have hf_791 := dk_full x_760
                                  have hf_792 := dk_full x_523
                                  have jc_787 := dk_nltc (k := (x_523).toInt) rfl c_787
                                  refine lv_iload hx hb dX12_sale_123 (lv_at hl 1 rfl) ?_
                                  refine lv_iload_n hx hb dX12_sale_125 rfl (lv_at hl 3 rfl) ?_
                                  have J_812 : ((F_m_sale_B1 S a1 o) (x_522, x_523, x_524) = F_m_sale_J4 x_522 x_760) → ∀ (H : Heap) (locs : List Loc), va_P D vwCl (dg_w g shM o rfM S) H → va_S A s.heap H locs → ∀ ls : Array Slot, lv_has ls 7 [(6, .int x_759), (5, .int x_760), (4, .int x_522), (3, .int x_523), (2, .int x_524), (0, .ref (o + 0)), (1, .int a1)] → W p l e ({ frames := 3, cells := 0, slots := 0, locals := 80 } : Room) s m args below meth c H locs 0 0 (MQ below (va_Qi (fun (r : Int32) S' => S' = S ∧ ((-1) ≤ (r).toInt ∧ (r).toInt ≤ 2147483647) ∧ (r = F_m_sale o S a1) ∧ True) (dg_B g D shM o rfM) A) args s 0 0 A) (F0 m 144 ls []) := by
                                    intro hF_4 H locs hP hS ls hl
                                    refine lv_iload hx hb dX12_sale_144 (lv_at hl 1 rfl) ?_
                                    refine lv_istore_n (lv' := [(3, .int x_760), (6, .int x_759), (5, .int x_760), (4, .int x_522), (2, .int x_524), (0, .ref (o + 0)), (1, .int a1)]) hx hb dX12_sale_146 rfl hl (dk_dq rfl) rfl (fun ls hl => ?_)
                                    refine lv_iload hx hb dX12_sale_147 (lv_at hl 3 rfl) ?_
                                    refine lv_istore_n (lv' := [(2, .int x_522), (3, .int x_760), (6, .int x_759), (5, .int x_760), (4, .int x_522), (0, .ref (o + 0)), (1, .int a1)]) hx hb dX12_sale_149 rfl hl (dk_dq rfl) rfl (fun ls hl => ?_)
                                    have hf_812 := dk_full x_760
                                    have hf_813 := dk_full x_522
                                    exact J_660 x_760 x_522 (by omega) (by omega) (Eq.trans hF_4 (F_m_sale_p5)) _ _ hP hS _ (lv_sub hl [4, 1, 0, 5, 6] rfl)
                                  refine lv_icmp_ne (tgt := 144) hx hb dX12_sale_126 (dk_dq rfl) (fun c_815 => ?_) (fun c_815 => ?_)
                                  · have hf_815 := dk_full x_760
                                    have hf_816 := dk_full x_523
                                    have jc_815 := dk_neqc (k := (x_523).toInt) rfl c_815
                                    exact J_812   (Eq.trans hF_3 (F_m_sale_p6 c_787 c_815)) _ _ hP hS _ (lv_sub hl [0, 1, 2, 3, 4, 5, 6] rfl)
                                  · as_aux_lemma =>
                                      have hf_817 := dk_full x_760
                                      have hf_818 := dk_full x_523
                                      have jc_815 := dk_eqc (k := (x_523).toInt) rfl c_815
                                      refine lv_iload hx hb dX12_sale_129 (lv_at hl 2 rfl) ?_
                                      refine dg_calli hS hA1 hA (va_runS (As := [.int x_522]) (rest := []) F (c_m_bits l g D o S x_522 I H.size) (va_cwS 1 hts (bw_S wB_1195 wB_1196 wB_297 wB_1194) rfl rfl rfl (by decide +kernel) ⟨Nat.le_of_ble_eq_true rfl, Nat.le_of_ble_eq_true rfl⟩) (dg_preS K ST hP hS hA1 hA) rfl rfl hl.1 rfl (lv_room (Nat.le_of_ble_eq_true rfl)) dX12_sale_131 ⟨Nat.le_of_ble_eq_true rfl, Nat.le_of_ble_eq_true rfl⟩) (fun x_820 S_821 hw_821 H locs hP hS => ?_)
                                      rw [hw_821.1] at hP
                                      obtain ⟨hq_821, w_821_0, -⟩ := hw_821
                                      refine lv_iload_n hx hb dX12_sale_134 rfl (lv_at hl 4 rfl) ?_
                                      refine dg_calli hS hA1 hA (va_runS (As := [.int x_524]) (rest := [.int x_820]) F (c_m_bits l g D o S x_524 I H.size) (va_cwS 1 hts (bw_S wB_1195 wB_1196 wB_297 wB_1194) rfl rfl rfl (by decide +kernel) ⟨Nat.le_of_ble_eq_true rfl, Nat.le_of_ble_eq_true rfl⟩) (dg_preS K ST hP hS hA1 hA) rfl rfl hl.1 rfl (lv_room (Nat.le_of_ble_eq_true rfl)) dX12_sale_135 ⟨Nat.le_of_ble_eq_true rfl, Nat.le_of_ble_eq_true rfl⟩) (fun x_822 S_823 hw_823 H locs hP hS => ?_)
                                      rw [hw_823.1] at hP
                                      obtain ⟨hq_823, w_823_0, -⟩ := hw_823
                                      refine lv_icmp_lt (tgt := 144) hx hb dX12_sale_138 (dk_dq rfl) (fun c_824 => ?_) (fun c_824 => ?_)
                                      · have hf_824 := dk_full x_820
                                        have hf_825 := dk_full x_822
                                        have jc_824 := dk_ltc (k := (x_822).toInt) rfl c_824
                                        exact J_812   (Eq.trans hF_3 (F_m_sale_p7 c_787 c_815 w_821_0 w_823_0 c_824)) _ _ hP hS _ (lv_sub hl [0, 1, 2, 3, 4, 5, 6] rfl)
                                      · have hf_826 := dk_full x_820
                                        have hf_827 := dk_full x_822
                                        have jc_824 := dk_nltc (k := (x_822).toInt) rfl c_824
                                        refine lv_goto (tgt := 150) hx hb dX12_sale_141 (dk_dq rfl) ?_
                                        have hf_828 := dk_full x_523
                                        have hf_829 := dk_full x_524
                                        exact J_660 x_523 x_524 (by omega) (by omega) (Eq.trans hF_3 (F_m_sale_p8 c_787 c_815 w_821_0 w_823_0 c_824)) _ _ hP hS _ (lv_sub hl [2, 3, 4, 5, 6] rfl)
                          have L_911 : ∀ (n : Nat) (x_909 : Int32) (x_910 : Int32), (0 ≤ (x_909).toInt ∧ (x_909).toInt ≤ 5) → ((6 - (x_909).toInt).toNat < n) → ((F_m_sale_B1 S a1 o) (x_522, x_523, x_524) = lp (F_m_sale_B5 x_528 x_523 x_522 x_524 o S x_526) (Sum.inr (0 : Int32)) n (x_909, x_910)) → ∀ (H : Heap) (locs : List Loc), va_P D vwCl (dg_w g shM o rfM S) H → va_S A s.heap H locs → ∀ ls : Array Slot, lv_has ls 7 [(6, .int x_909), (5, .int x_910), (4, .int x_522), (3, .int x_523), (2, .int x_524), (0, .ref (o + 0)), (1, .int a1)] → W p l e ({ frames := 3, cells := 0, slots := 0, locals := 80 } : Room) s m args below meth c H locs 0 0 (MQ below (va_Qi (fun (r : Int32) S' => S' = S ∧ ((-1) ≤ (r).toInt ∧ (r).toInt ≤ 2147483647) ∧ (r = F_m_sale o S a1) ∧ True) (dg_B g D shM o rfM) A) args s 0 0 A) (F0 m 64 ls []) := by
                            as_aux_lemma =>
                              intro n
                              induction n with
                              | zero =>
                                intro x_909 x_910 b_x_909 hmu hF_5 H locs hP hS ls hl
                                omega
                              | succ n ih =>
                                as_aux_lemma =>
                                  intro x_909 x_910 b_x_909 hmu hF_5 H locs hP hS ls hl
                                  refine lv_iload hx hb dX12_sale_64 (lv_at hl 0 rfl) ?_
                                  refine lv_aload_n hx hb dX12_sale_66 rfl (lv_at hl 5 rfl) ?_
                                  refine dg_get (C := RX12) (T := TX12) (N := 77) hx hb hts (fun w h => bw_mem (wU_X12 w h)) hown K hP sM_0 rfl 24 (dk_dq rfl) (hts _ (bw_mem wB_355)) (fun _ h9 => h9) (v := .ref (o + 12)) (show S.1 0 24 = .ref (o + 12) from dg_I.rel (d := 12) I sM_0 (by decide +kernel)) dX12_sale_67 ?_
                                  refine lv_aload_n hx hb dX12_sale_70 rfl (lv_at hl 5 rfl) ?_
                                  refine dg_get (C := RX12) (T := TX12) (N := 77) hx hb hts (fun w h => bw_mem (wU_X12 w h)) hown K hP sM_0 rfl 13 (dk_dq rfl) (hts _ (bw_mem wB_1085)) (fun _ h9 => h9) (v := .int x_526) f_x_526 dX12_sale_71 ?_
                                  have hin_912 : vp_in x_526 2 := (dk_inv2 (by omega))
                                  refine dg_iald hx hb K hP sM_12 hin_912 dX12_sale_74 (fun y_913 ey_913 => ?_)
                                  obtain rfl : x_528 = y_913 := (ey_913.trans ex_528.symm).symm
                                  refine lv_icmp_ge (tgt := 117) hx hb dX12_sale_75 (dk_dq rfl) (fun c_914 => ?_) (fun c_914 => ?_)
                                  · have jc_914 := dk_gec (k := (x_528).toInt) rfl c_914
                                    have hf_914 := dk_full x_909
                                    exact J_786 x_909 x_910 (by omega) (lp_r hF_5 (F_m_sale_p9 c_914)) _ _ hP hS _ (lv_sub hl [0, 1, 2, 3, 4, 5, 6] rfl)
                                  · as_aux_lemma =>
                                      have jc_914 := dk_ngec (k := (x_528).toInt) rfl c_914
                                      refine lv_iload hx hb dX12_sale_78 (lv_at hl 1 rfl) ?_
                                      refine lv_iload hx hb dX12_sale_80 (lv_at hl 2 rfl) ?_
                                      refine lv_iload hx hb dX12_sale_82 (lv_at hl 0 rfl) ?_
                                      refine dg_calli hS hA1 hA (va_runS (As := [.int x_522, .int x_909]) (rest := [.int x_910]) F (c_m_has2 l g D o S x_522 x_909 I H.size) (va_cwS 2 hts (bw_S wB_1165 wB_1166 wB_297 wB_1164) rfl rfl rfl (by decide +kernel) ⟨Nat.le_of_ble_eq_true rfl, Nat.le_of_ble_eq_true rfl⟩) (dg_preS K ST hP hS hA1 hA) rfl rfl hl.1 rfl (lv_room (Nat.le_of_ble_eq_true rfl)) dX12_sale_84 ⟨Nat.le_of_ble_eq_true rfl, Nat.le_of_ble_eq_true rfl⟩) (fun x_916 S_917 hw_917 H locs hP hS => ?_)
                                      rw [hw_917.1] at hP
                                      obtain ⟨hq_917, w_917_0, w_917_1, -⟩ := hw_917
                                      have w_917_0 : 0 ≤ (x_916).toInt ∧ (x_916).toInt ≤ 1 := w_917_0
                                      have J_926 : ∀ (x_923 : Int32), ((F_m_sale_B5 x_528 x_523 x_522 x_524 o S x_526) (x_909, x_910) = F_m_sale_J6 x_910 x_923 x_909) → ∀ (H : Heap) (locs : List Loc), va_P D vwCl (dg_w g shM o rfM S) H → va_S A s.heap H locs → ∀ ls : Array Slot, lv_has ls 7 [(6, .int x_909), (5, .int x_910), (4, .int x_522), (3, .int x_523), (2, .int x_524), (0, .ref (o + 0)), (1, .int a1)] → W p l e ({ frames := 3, cells := 0, slots := 0, locals := 80 } : Room) s m args below meth c H locs 0 0 (MQ below (va_Qi (fun (r : Int32) S' => S' = S ∧ ((-1) ≤ (r).toInt ∧ (r).toInt ≤ 2147483647) ∧ (r = F_m_sale o S a1) ∧ True) (dg_B g D shM o rfM) A) args s 0 0 A) (F0 m 108 ls [.int x_923, .int x_910]) := by
                                        intro x_923 hF_6 H locs hP hS ls hl
                                        refine lv_iadd hx hb dX12_sale_108 ?_
                                        refine lv_topi (fun x_927 ex_927 => ?_)
                                        refine lv_istore (lv' := [(5, .int x_927), (6, .int x_909), (4, .int x_522), (3, .int x_523), (2, .int x_524), (0, .ref (o + 0)), (1, .int a1)]) hx hb dX12_sale_109 hl (dk_dq rfl) rfl (fun ls hl => ?_)
                                        obtain ⟨x_928, ex_928⟩ : ∃ z, z = x_909 + 1 := ⟨_, rfl⟩
                                        have jx_928 : (x_928).toInt = (x_909).toInt + 1 := by rw [ex_928]; exact dk_addT2 rfl (by decide +kernel) (by omega)
                                        refine lv_iinc (v := x_928) (lv' := [(6, .int x_928), (5, .int x_927), (4, .int x_522), (3, .int x_523), (2, .int x_524), (0, .ref (o + 0)), (1, .int a1)]) hx hb dX12_sale_111 hl (k := 1) rfl (by rw [ex_928]; rfl) (dk_dq rfl) rfl (fun ls hl => ?_)
                                        refine lv_goto (tgt := 64) hx hb dX12_sale_114 (dk_dq rfl) ?_
                                        exact ih x_928 x_927 (by omega) (by first | exact mu_lt hmu (by omega) (by omega) | omega) (lp_l hF_5 (Eq.trans hF_6 (F_m_sale_p10 ex_927 ex_928))) _ _ hP hS _ (lv_sub hl [0, 1, 2, 3, 4, 5, 6] rfl)
                                      refine lv_if_eq (tgt := 107) hx hb dX12_sale_87 (dk_dq rfl) (fun c_929 => ?_) (fun c_929 => ?_)
                                      · have jc_929 := dk_eqc (k := 0) (by decide +kernel) c_929
                                        refine lv_iconst (v := 0) hx hb dX12_sale_107 (by decide +kernel) ?_
                                        exact J_926 0  (F_m_sale_p11 c_914 w_917_1 c_929) _ _ hP hS _ (lv_sub hl [0, 1, 2, 3, 4, 5, 6] rfl)
                                      · as_aux_lemma =>
                                          have jc_929 := dk_neqc (k := 0) (by decide +kernel) c_929
                                          refine lv_aload_n hx hb dX12_sale_90 rfl (lv_at hl 5 rfl) ?_
                                          refine dg_get (C := RX12) (T := TX12) (N := 77) hx hb hts (fun w h => bw_mem (wU_X12 w h)) hown K hP sM_0 rfl 27 (dk_dq rfl) (hts _ (bw_mem wB_400)) (fun _ h9 => h9) (v := .ref (o + 15)) (show S.1 0 27 = .ref (o + 15) from dg_I.rel (d := 15) I sM_0 (by decide +kernel)) dX12_sale_91 ?_
                                          refine lv_iconst (v := 5) hx hb dX12_sale_94 (by decide +kernel) ?_
                                          refine lv_aload_n hx hb dX12_sale_95 rfl (lv_at hl 5 rfl) ?_
                                          refine dg_get (C := RX12) (T := TX12) (N := 77) hx hb hts (fun w h => bw_mem (wU_X12 w h)) hown K hP sM_0 rfl 13 (dk_dq rfl) (hts _ (bw_mem wB_1085)) (fun _ h9 => h9) (v := .int x_526) f_x_526 dX12_sale_96 ?_
                                          refine lv_imul hx hb dX12_sale_99 ?_
                                          refine lv_topi (fun x_930 ex_930 => ?_)
                                          have jx_930 : (x_930).toInt = 5 * (x_526).toInt := by rw [ex_930]; exact dk_mulT2 (by decide +kernel) rfl (by omega)
                                          refine lv_iload hx hb dX12_sale_100 (lv_at hl 0 rfl) ?_
                                          refine lv_iadd hx hb dX12_sale_102 ?_
                                          refine lv_topi (fun x_931 ex_931 => ?_)
                                          have jx_931 : (x_931).toInt = (x_930).toInt + (x_909).toInt := by rw [ex_931]; exact dk_addT2 rfl rfl (by omega)
                                          have hin_932 : vp_in x_931 10 := (dk_inv2 (by omega))
                                          refine dg_iald hx hb K hP sM_15 hin_932 dX12_sale_103 (fun x_933 ex_933 => ?_)
                                          refine lv_goto (tgt := 108) hx hb dX12_sale_104 (dk_dq rfl) ?_
                                          exact J_926 x_933  (F_m_sale_p12 c_914 w_917_1 c_929 ex_930 ex_931 (Eq.symm ex_933.symm)) _ _ hP hS _ (lv_sub hl [0, 1, 2, 3, 4, 5, 6] rfl)
                          have hz_934 : (0 : Int32).toInt = 0 := by decide +kernel
                          have hz_935 : (0 : Int32).toInt = 0 := by decide +kernel
                          have hz_936 : (0 : Int32).toInt = 0 := by decide +kernel
                          exact L_911 ((6 - ((0 : Int32)).toInt).toNat + 1) 0 0 (by decide +kernel) (by first | exact mu_lt hmu (by omega) (by omega) | omega) (F_m_sale_p13 (zI_eq f_x_526) (Eq.symm ex_528.symm) ex_529 c_530 (Eq.symm ex_539.symm) ex_540 c_665 w_669_1 c_670) _ _ hP hS _ (lv_sub hl [0, 1, 2, 3, 4, 5, 6] rfl)
                      · have jc_670 := dk_eqc (k := 0) (by decide +kernel) c_670
                        refine lv_goto (tgt := 150) hx hb dX12_sale_55 (dk_dq rfl) ?_
                        have hf_936 := dk_full x_523
                        have hf_937 := dk_full x_524
                        exact J_660 x_523 x_524 (by omega) (by omega) (F_m_sale_p14 (zI_eq f_x_526) (Eq.symm ex_528.symm) ex_529 c_530 (Eq.symm ex_539.symm) ex_540 c_665 w_669_1 c_670) _ _ hP hS _ (lv_sub hl [0, 1, 2, 3, 4] rfl)
      have hz_939 : (1 : Int32).toInt = 1 := by decide +kernel
      have hz_940 : (0 : Int32).toInt = 0 := by decide +kernel
      have hz_941 : (0 : Int32).toInt = 0 := by decide +kernel
      have hz_942 : (1 : Int32).toInt = 1 := by decide +kernel
      have hz_943 : (0 : Int32).toInt = 0 := by decide +kernel
      have hz_944 : (0 : Int32).toInt = 0 := by decide +kernel
      exact L_525 ((2147483648 - ((1 : Int32)).toInt).toNat + 1) 1 0 0 (by decide +kernel) (by decide +kernel) (by decide +kernel) (by first | exact mu_lt hmu (by omega) (by omega) | omega) (F_m_sale_p15 w_2_2 c_5) _ _ hP hS _ (lv_sub hl [0, 1, 2, 3, 4] rfl)
  · have jc_5 := dk_eqc (k := 0) (by decide +kernel) c_5
    refine lv_iconst (v := (-1)) hx hb dX12_sale_9 (by decide +kernel) ?_
    have hz_945 : (-1 : Int32).toInt = (-1) := by decide +kernel
    refine W.widen (k := 0) (n := 0) (Nat.le_of_ble_eq_true rfl) (Nat.le_of_ble_eq_true rfl) ?_
    exact dg_iret hx hb hr hlocks rfl hP hS ⟨rfl, (by decide +kernel), (Eq.symm (F_m_sale_p16 w_2_2 c_5)), trivial⟩ dX12_sale_10
