/-! 38.m7.lean.txt -/
theorem dX12_mostBy_0 : decode cX12_mostBy 0 = .ok (.iconst 0, 1) := by decide +kernel
theorem dX12_mostBy_1 : decode cX12_mostBy 1 = .ok (.istore 4, 2) := by decide +kernel
theorem dX12_mostBy_3 : decode cX12_mostBy 3 = .ok (.iload 4, 2) := by decide +kernel
theorem dX12_mostBy_5 : decode cX12_mostBy 5 = .ok (.bipush 10, 2) := by decide +kernel
theorem dX12_mostBy_7 : decode cX12_mostBy 7 = .ok (.if_icmp .gt 17, 3) := by decide +kernel
theorem dX12_mostBy_10 : decode cX12_mostBy 10 = .ok (.aload_n 0, 1) := by decide +kernel
theorem dX12_mostBy_11 : decode cX12_mostBy 11 = .ok (.getfield 238, 3) := by decide +kernel
theorem dX12_mostBy_14 : decode cX12_mostBy 14 = .ok (.iload 4, 2) := by decide +kernel
theorem dX12_mostBy_16 : decode cX12_mostBy 16 = .ok (.iconst 0, 1) := by decide +kernel
theorem dX12_mostBy_17 : decode cX12_mostBy 17 = .ok (.iastore, 1) := by decide +kernel
theorem dX12_mostBy_18 : decode cX12_mostBy 18 = .ok (.iinc 4 1, 3) := by decide +kernel
theorem dX12_mostBy_21 : decode cX12_mostBy 21 = .ok (.goto (-18), 3) := by decide +kernel
theorem dX12_mostBy_24 : decode cX12_mostBy 24 = .ok (.iconst 0, 1) := by decide +kernel
theorem dX12_mostBy_25 : decode cX12_mostBy 25 = .ok (.istore 4, 2) := by decide +kernel
theorem dX12_mostBy_27 : decode cX12_mostBy 27 = .ok (.iconst 0, 1) := by decide +kernel
theorem dX12_mostBy_28 : decode cX12_mostBy 28 = .ok (.istore 5, 2) := by decide +kernel
theorem dX12_mostBy_30 : decode cX12_mostBy 30 = .ok (.iload 5, 2) := by decide +kernel
theorem dX12_mostBy_32 : decode cX12_mostBy 32 = .ok (.bipush 20, 2) := by decide +kernel
theorem dX12_mostBy_34 : decode cX12_mostBy 34 = .ok (.if_icmp .gt 79, 3) := by decide +kernel
theorem dX12_mostBy_37 : decode cX12_mostBy 37 = .ok (.iload_n 1, 1) := by decide +kernel
theorem dX12_mostBy_38 : decode cX12_mostBy 38 = .ok (.iload 5, 2) := by decide +kernel
theorem dX12_mostBy_40 : decode cX12_mostBy 40 = .ok (.invokestatic 487, 3) := by decide +kernel
theorem dX12_mostBy_43 : decode cX12_mostBy 43 = .ok (.ifCond .ne 6, 3) := by decide +kernel
theorem dX12_mostBy_46 : decode cX12_mostBy 46 = .ok (.goto 61, 3) := by decide +kernel
theorem dX12_mostBy_49 : decode cX12_mostBy 49 = .ok (.aload_n 0, 1) := by decide +kernel
theorem dX12_mostBy_50 : decode cX12_mostBy 50 = .ok (.getfield 235, 3) := by decide +kernel
theorem dX12_mostBy_53 : decode cX12_mostBy 53 = .ok (.bipush 64, 2) := by decide +kernel
theorem dX12_mostBy_55 : decode cX12_mostBy 55 = .ok (.bipush 31, 2) := by decide +kernel
theorem dX12_mostBy_57 : decode cX12_mostBy 57 = .ok (.iload 5, 2) := by decide +kernel
theorem dX12_mostBy_59 : decode cX12_mostBy 59 = .ok (.imul, 1) := by decide +kernel
theorem dX12_mostBy_60 : decode cX12_mostBy 60 = .ok (.iload_n 2, 1) := by decide +kernel
theorem dX12_mostBy_61 : decode cX12_mostBy 61 = .ok (.iadd, 1) := by decide +kernel
theorem dX12_mostBy_62 : decode cX12_mostBy 62 = .ok (.imul, 1) := by decide +kernel
theorem dX12_mostBy_63 : decode cX12_mostBy 63 = .ok (.iload_n 3, 1) := by decide +kernel
theorem dX12_mostBy_64 : decode cX12_mostBy 64 = .ok (.iadd, 1) := by decide +kernel
theorem dX12_mostBy_65 : decode cX12_mostBy 65 = .ok (.iaload, 1) := by decide +kernel
theorem dX12_mostBy_66 : decode cX12_mostBy 66 = .ok (.iconst 1, 1) := by decide +kernel
theorem dX12_mostBy_67 : decode cX12_mostBy 67 = .ok (.iadd, 1) := by decide +kernel
theorem dX12_mostBy_68 : decode cX12_mostBy 68 = .ok (.istore 6, 2) := by decide +kernel
theorem dX12_mostBy_70 : decode cX12_mostBy 70 = .ok (.aload_n 0, 1) := by decide +kernel
theorem dX12_mostBy_71 : decode cX12_mostBy 71 = .ok (.getfield 238, 3) := by decide +kernel
theorem dX12_mostBy_74 : decode cX12_mostBy 74 = .ok (.iload 6, 2) := by decide +kernel
theorem dX12_mostBy_76 : decode cX12_mostBy 76 = .ok (.dup2, 1) := by decide +kernel
theorem dX12_mostBy_77 : decode cX12_mostBy 77 = .ok (.iaload, 1) := by decide +kernel
theorem dX12_mostBy_78 : decode cX12_mostBy 78 = .ok (.iconst 1, 1) := by decide +kernel
theorem dX12_mostBy_79 : decode cX12_mostBy 79 = .ok (.iadd, 1) := by decide +kernel
theorem dX12_mostBy_80 : decode cX12_mostBy 80 = .ok (.iastore, 1) := by decide +kernel
theorem dX12_mostBy_81 : decode cX12_mostBy 81 = .ok (.aload_n 0, 1) := by decide +kernel
theorem dX12_mostBy_82 : decode cX12_mostBy 82 = .ok (.getfield 238, 3) := by decide +kernel
theorem dX12_mostBy_85 : decode cX12_mostBy 85 = .ok (.iload 6, 2) := by decide +kernel
theorem dX12_mostBy_87 : decode cX12_mostBy 87 = .ok (.iaload, 1) := by decide +kernel
theorem dX12_mostBy_88 : decode cX12_mostBy 88 = .ok (.iload 4, 2) := by decide +kernel
theorem dX12_mostBy_90 : decode cX12_mostBy 90 = .ok (.if_icmp .le 13, 3) := by decide +kernel
theorem dX12_mostBy_93 : decode cX12_mostBy 93 = .ok (.aload_n 0, 1) := by decide +kernel
theorem dX12_mostBy_94 : decode cX12_mostBy 94 = .ok (.getfield 238, 3) := by decide +kernel
theorem dX12_mostBy_97 : decode cX12_mostBy 97 = .ok (.iload 6, 2) := by decide +kernel
theorem dX12_mostBy_99 : decode cX12_mostBy 99 = .ok (.iaload, 1) := by decide +kernel
theorem dX12_mostBy_100 : decode cX12_mostBy 100 = .ok (.goto 5, 3) := by decide +kernel
theorem dX12_mostBy_103 : decode cX12_mostBy 103 = .ok (.iload 4, 2) := by decide +kernel
theorem dX12_mostBy_105 : decode cX12_mostBy 105 = .ok (.istore 4, 2) := by decide +kernel
theorem dX12_mostBy_107 : decode cX12_mostBy 107 = .ok (.iinc 5 1, 3) := by decide +kernel
theorem dX12_mostBy_110 : decode cX12_mostBy 110 = .ok (.goto (-80), 3) := by decide +kernel
theorem dX12_mostBy_113 : decode cX12_mostBy 113 = .ok (.iload 4, 2) := by decide +kernel
theorem dX12_mostBy_115 : decode cX12_mostBy 115 = .ok (.ireturn, 1) := by decide +kernel
theorem dX12_hang_0 : decode cX12_hang 0 = .ok (.aload_n 0, 1) := by decide +kernel
theorem dX12_hang_1 : decode cX12_hang 1 = .ok (.iload_n 1, 1) := by decide +kernel
theorem dX12_hang_2 : decode cX12_hang 2 = .ok (.iload_n 2, 1) := by decide +kernel
theorem dX12_hang_3 : decode cX12_hang 3 = .ok (.invokevirtual 452, 3) := by decide +kernel
theorem dX12_hang_6 : decode cX12_hang 6 = .ok (.ifCond .eq 12, 3) := by decide +kernel
theorem dX12_hang_9 : decode cX12_hang 9 = .ok (.bipush 8, 2) := by decide +kernel
theorem dX12_hang_11 : decode cX12_hang 11 = .ok (.iload_n 2, 1) := by decide +kernel
theorem dX12_hang_12 : decode cX12_hang 12 = .ok (.imul, 1) := by decide +kernel
theorem dX12_hang_13 : decode cX12_hang 13 = .ok (.iload_n 1, 1) := by decide +kernel
theorem dX12_hang_14 : decode cX12_hang 14 = .ok (.iadd, 1) := by decide +kernel
theorem dX12_hang_15 : decode cX12_hang 15 = .ok (.goto 4, 3) := by decide +kernel
theorem dX12_hang_18 : decode cX12_hang 18 = .ok (.iconst (-1), 1) := by decide +kernel
theorem dX12_hang_19 : decode cX12_hang 19 = .ok (.istore 4, 2) := by decide +kernel
theorem dX12_hang_21 : decode cX12_hang 21 = .ok (.iload 4, 2) := by decide +kernel
theorem dX12_hang_23 : decode cX12_hang 23 = .ok (.iconst (-1), 1) := by decide +kernel
theorem dX12_hang_24 : decode cX12_hang 24 = .ok (.if_icmp .eq 32, 3) := by decide +kernel
theorem dX12_hang_27 : decode cX12_hang 27 = .ok (.aload_n 0, 1) := by decide +kernel
theorem dX12_hang_28 : decode cX12_hang 28 = .ok (.iload 4, 2) := by decide +kernel
theorem dX12_hang_30 : decode cX12_hang 30 = .ok (.invokevirtual 547, 3) := by decide +kernel
theorem dX12_hang_33 : decode cX12_hang 33 = .ok (.ifCond .eq 23, 3) := by decide +kernel
theorem dX12_hang_36 : decode cX12_hang 36 = .ok (.iload_n 3, 1) := by decide +kernel
theorem dX12_hang_37 : decode cX12_hang 37 = .ok (.iconst 0, 1) := by decide +kernel
theorem dX12_hang_38 : decode cX12_hang 38 = .ok (.iconst 1, 1) := by decide +kernel
theorem dX12_hang_39 : decode cX12_hang 39 = .ok (.invokestatic 333, 3) := by decide +kernel
theorem dX12_hang_42 : decode cX12_hang 42 = .ok (.ifCond .eq 14, 3) := by decide +kernel
theorem dX12_hang_45 : decode cX12_hang 45 = .ok (.aload_n 0, 1) := by decide +kernel
theorem dX12_hang_46 : decode cX12_hang 46 = .ok (.getfield 171, 3) := by decide +kernel
theorem dX12_hang_49 : decode cX12_hang 49 = .ok (.iload 4, 2) := by decide +kernel
theorem dX12_hang_51 : decode cX12_hang 51 = .ok (.iaload, 1) := by decide +kernel
theorem dX12_hang_52 : decode cX12_hang 52 = .ok (.iload_n 3, 1) := by decide +kernel
theorem dX12_hang_53 : decode cX12_hang 53 = .ok (.if_icmp .ne 17, 3) := by decide +kernel
theorem dX12_hang_56 : decode cX12_hang 56 = .ok (.aload_n 0, 1) := by decide +kernel
theorem dX12_hang_57 : decode cX12_hang 57 = .ok (.iconst 3, 1) := by decide +kernel
theorem dX12_hang_58 : decode cX12_hang 58 = .ok (.invokevirtual 247, 3) := by decide +kernel
theorem dX12_hang_61 : decode cX12_hang 61 = .ok (.ifCond .lt 7, 3) := by decide +kernel
theorem dX12_hang_68 : decode cX12_hang 68 = .ok (.iconst 0, 1) := by decide +kernel
theorem dX12_hang_69 : decode cX12_hang 69 = .ok (.ireturn, 1) := by decide +kernel
theorem dX12_hang_70 : decode cX12_hang 70 = .ok (.aload_n 0, 1) := by decide +kernel
theorem dX12_hang_71 : decode cX12_hang 71 = .ok (.invokevirtual 566, 3) := by decide +kernel
theorem dX12_hang_74 : decode cX12_hang 74 = .ok (.aload_n 0, 1) := by decide +kernel
theorem dX12_hang_75 : decode cX12_hang 75 = .ok (.getfield 171, 3) := by decide +kernel
theorem dX12_hang_78 : decode cX12_hang 78 = .ok (.iload 4, 2) := by decide +kernel
theorem dX12_hang_80 : decode cX12_hang 80 = .ok (.iload_n 3, 1) := by decide +kernel
theorem dX12_hang_81 : decode cX12_hang 81 = .ok (.iastore, 1) := by decide +kernel
theorem dX12_hang_82 : decode cX12_hang 82 = .ok (.iconst 1, 1) := by decide +kernel
theorem dX12_hang_83 : decode cX12_hang 83 = .ok (.ireturn, 1) := by decide +kernel
theorem dX12_send_0 : decode cX12_send 0 = .ok (.iload_n 1, 1) := by decide +kernel
theorem dX12_send_1 : decode cX12_send 1 = .ok (.iconst 0, 1) := by decide +kernel
theorem dX12_send_2 : decode cX12_send 2 = .ok (.aload_n 0, 1) := by decide +kernel
theorem dX12_send_3 : decode cX12_send 3 = .ok (.getfield 75, 3) := by decide +kernel
theorem dX12_send_6 : decode cX12_send 6 = .ok (.aload_n 0, 1) := by decide +kernel
theorem dX12_send_7 : decode cX12_send 7 = .ok (.getfield 51, 3) := by decide +kernel
theorem dX12_send_10 : decode cX12_send 10 = .ok (.iaload, 1) := by decide +kernel
theorem dX12_send_11 : decode cX12_send 11 = .ok (.iconst 1, 1) := by decide +kernel
theorem dX12_send_12 : decode cX12_send 12 = .ok (.isub, 1) := by decide +kernel
theorem dX12_send_13 : decode cX12_send 13 = .ok (.invokestatic 333, 3) := by decide +kernel
theorem dX12_send_16 : decode cX12_send 16 = .ok (.ifCond .eq 21, 3) := by decide +kernel
theorem dX12_send_19 : decode cX12_send 19 = .ok (.aload_n 0, 1) := by decide +kernel
theorem dX12_send_20 : decode cX12_send 20 = .ok (.iload_n 2, 1) := by decide +kernel
theorem dX12_send_21 : decode cX12_send 21 = .ok (.invokevirtual 521, 3) := by decide +kernel
theorem dX12_send_24 : decode cX12_send 24 = .ok (.ifCond .eq 13, 3) := by decide +kernel
theorem dX12_send_27 : decode cX12_send 27 = .ok (.aload_n 0, 1) := by decide +kernel
theorem dX12_send_28 : decode cX12_send 28 = .ok (.iload_n 3, 1) := by decide +kernel
theorem dX12_send_29 : decode cX12_send 29 = .ok (.iload 4, 2) := by decide +kernel
theorem dX12_send_31 : decode cX12_send 31 = .ok (.invokevirtual 452, 3) := by decide +kernel
theorem dX12_send_34 : decode cX12_send 34 = .ok (.ifCond .ne 17, 3) := by decide +kernel
theorem dX12_send_37 : decode cX12_send 37 = .ok (.aload_n 0, 1) := by decide +kernel
theorem dX12_send_38 : decode cX12_send 38 = .ok (.iconst 3, 1) := by decide +kernel
theorem dX12_send_39 : decode cX12_send 39 = .ok (.invokevirtual 247, 3) := by decide +kernel
theorem dX12_send_42 : decode cX12_send 42 = .ok (.ifCond .lt 7, 3) := by decide +kernel
theorem dX12_send_49 : decode cX12_send 49 = .ok (.iconst 0, 1) := by decide +kernel
theorem dX12_send_50 : decode cX12_send 50 = .ok (.ireturn, 1) := by decide +kernel
theorem dX12_send_51 : decode cX12_send 51 = .ok (.bipush 8, 2) := by decide +kernel
theorem dX12_send_53 : decode cX12_send 53 = .ok (.iload 4, 2) := by decide +kernel
theorem dX12_send_55 : decode cX12_send 55 = .ok (.imul, 1) := by decide +kernel
theorem dX12_send_56 : decode cX12_send 56 = .ok (.iload_n 3, 1) := by decide +kernel
theorem dX12_send_57 : decode cX12_send 57 = .ok (.iadd, 1) := by decide +kernel
theorem dX12_send_58 : decode cX12_send 58 = .ok (.istore 5, 2) := by decide +kernel
theorem dX12_send_60 : decode cX12_send 60 = .ok (.aload_n 0, 1) := by decide +kernel
theorem dX12_send_61 : decode cX12_send 61 = .ok (.getfield 180, 3) := by decide +kernel
theorem dX12_send_64 : decode cX12_send 64 = .ok (.iload_n 1, 1) := by decide +kernel
theorem dX12_send_65 : decode cX12_send 65 = .ok (.iaload, 1) := by decide +kernel
theorem dX12_send_66 : decode cX12_send 66 = .ok (.iload_n 2, 1) := by decide +kernel
theorem dX12_send_67 : decode cX12_send 67 = .ok (.if_icmp .ne 28, 3) := by decide +kernel
theorem dX12_send_70 : decode cX12_send 70 = .ok (.aload_n 0, 1) := by decide +kernel
theorem dX12_send_71 : decode cX12_send 71 = .ok (.getfield 183, 3) := by decide +kernel
theorem dX12_send_74 : decode cX12_send 74 = .ok (.iload_n 1, 1) := by decide +kernel
theorem dX12_send_75 : decode cX12_send 75 = .ok (.iaload, 1) := by decide +kernel
theorem dX12_send_76 : decode cX12_send 76 = .ok (.iload 5, 2) := by decide +kernel
theorem dX12_send_78 : decode cX12_send 78 = .ok (.if_icmp .ne 17, 3) := by decide +kernel
theorem dX12_send_81 : decode cX12_send 81 = .ok (.aload_n 0, 1) := by decide +kernel
theorem dX12_send_82 : decode cX12_send 82 = .ok (.iconst 3, 1) := by decide +kernel
theorem dX12_send_83 : decode cX12_send 83 = .ok (.invokevirtual 247, 3) := by decide +kernel
theorem dX12_send_86 : decode cX12_send 86 = .ok (.ifCond .lt 7, 3) := by decide +kernel
theorem dX12_send_93 : decode cX12_send 93 = .ok (.iconst 0, 1) := by decide +kernel
theorem dX12_send_94 : decode cX12_send 94 = .ok (.ireturn, 1) := by decide +kernel
theorem dX12_send_95 : decode cX12_send 95 = .ok (.aload_n 0, 1) := by decide +kernel
theorem dX12_send_96 : decode cX12_send 96 = .ok (.invokevirtual 566, 3) := by decide +kernel
theorem dX12_send_99 : decode cX12_send 99 = .ok (.aload_n 0, 1) := by decide +kernel
theorem dX12_send_100 : decode cX12_send 100 = .ok (.getfield 180, 3) := by decide +kernel
theorem dX12_send_103 : decode cX12_send 103 = .ok (.iload_n 1, 1) := by decide +kernel
theorem dX12_send_104 : decode cX12_send 104 = .ok (.iload_n 2, 1) := by decide +kernel
theorem dX12_send_105 : decode cX12_send 105 = .ok (.iastore, 1) := by decide +kernel
theorem dX12_send_106 : decode cX12_send 106 = .ok (.aload_n 0, 1) := by decide +kernel
theorem dX12_send_107 : decode cX12_send 107 = .ok (.getfield 183, 3) := by decide +kernel
theorem dX12_send_110 : decode cX12_send 110 = .ok (.iload_n 1, 1) := by decide +kernel
theorem dX12_send_111 : decode cX12_send 111 = .ok (.iload 5, 2) := by decide +kernel
theorem dX12_send_113 : decode cX12_send 113 = .ok (.iastore, 1) := by decide +kernel
theorem dX12_send_114 : decode cX12_send 114 = .ok (.iconst 1, 1) := by decide +kernel
theorem dX12_send_115 : decode cX12_send 115 = .ok (.ireturn, 1) := by decide +kernel
theorem dX12_heal_0 : decode cX12_heal 0 = .ok (.aload_n 0, 1) := by decide +kernel
theorem dX12_heal_1 : decode cX12_heal 1 = .ok (.iload_n 1, 1) := by decide +kernel
theorem dX12_heal_2 : decode cX12_heal 2 = .ok (.invokevirtual 521, 3) := by decide +kernel
theorem dX12_heal_5 : decode cX12_heal 5 = .ok (.ifCond .eq 16, 3) := by decide +kernel
theorem dX12_heal_8 : decode cX12_heal 8 = .ok (.aload_n 0, 1) := by decide +kernel
theorem dX12_heal_9 : decode cX12_heal 9 = .ok (.getfield 174, 3) := by decide +kernel
theorem dX12_heal_12 : decode cX12_heal 12 = .ok (.iconst 0, 1) := by decide +kernel
theorem dX12_heal_13 : decode cX12_heal 13 = .ok (.iaload, 1) := by decide +kernel
theorem dX12_heal_14 : decode cX12_heal 14 = .ok (.iload_n 1, 1) := by decide +kernel
theorem dX12_heal_15 : decode cX12_heal 15 = .ok (.invokestatic 487, 3) := by decide +kernel
theorem dX12_heal_18 : decode cX12_heal 18 = .ok (.ifCond .ne 17, 3) := by decide +kernel
theorem dX12_heal_21 : decode cX12_heal 21 = .ok (.aload_n 0, 1) := by decide +kernel
theorem dX12_heal_22 : decode cX12_heal 22 = .ok (.iconst 3, 1) := by decide +kernel
theorem dX12_heal_23 : decode cX12_heal 23 = .ok (.invokevirtual 247, 3) := by decide +kernel
theorem dX12_heal_26 : decode cX12_heal 26 = .ok (.ifCond .lt 7, 3) := by decide +kernel
theorem dX12_heal_33 : decode cX12_heal 33 = .ok (.iconst 0, 1) := by decide +kernel
theorem dX12_heal_34 : decode cX12_heal 34 = .ok (.ireturn, 1) := by decide +kernel
theorem dX12_heal_35 : decode cX12_heal 35 = .ok (.aload_n 0, 1) := by decide +kernel
theorem dX12_heal_36 : decode cX12_heal 36 = .ok (.invokevirtual 566, 3) := by decide +kernel
theorem dX12_heal_39 : decode cX12_heal 39 = .ok (.aload_n 0, 1) := by decide +kernel
theorem dX12_heal_40 : decode cX12_heal 40 = .ok (.getfield 174, 3) := by decide +kernel
theorem dX12_heal_43 : decode cX12_heal 43 = .ok (.iconst 0, 1) := by decide +kernel
theorem dX12_heal_44 : decode cX12_heal 44 = .ok (.dup2, 1) := by decide +kernel
theorem dX12_heal_45 : decode cX12_heal 45 = .ok (.iaload, 1) := by decide +kernel
theorem dX12_heal_46 : decode cX12_heal 46 = .ok (.iconst 1, 1) := by decide +kernel
theorem dX12_heal_47 : decode cX12_heal 47 = .ok (.iload_n 1, 1) := by decide +kernel
theorem dX12_heal_48 : decode cX12_heal 48 = .ok (.ishl, 1) := by decide +kernel
theorem dX12_heal_49 : decode cX12_heal 49 = .ok (.iconst (-1), 1) := by decide +kernel
theorem dX12_heal_50 : decode cX12_heal 50 = .ok (.ixor, 1) := by decide +kernel
theorem dX12_heal_51 : decode cX12_heal 51 = .ok (.iand, 1) := by decide +kernel
theorem dX12_heal_52 : decode cX12_heal 52 = .ok (.iastore, 1) := by decide +kernel
theorem dX12_heal_53 : decode cX12_heal 53 = .ok (.iconst 1, 1) := by decide +kernel
theorem dX12_heal_54 : decode cX12_heal 54 = .ok (.ireturn, 1) := by decide +kernel
theorem dX12_sell_0 : decode cX12_sell 0 = .ok (.aload_n 0, 1) := by decide +kernel
theorem dX12_sell_1 : decode cX12_sell 1 = .ok (.iload_n 1, 1) := by decide +kernel
theorem dX12_sell_2 : decode cX12_sell 2 = .ok (.invokevirtual 535, 3) := by decide +kernel
theorem dX12_sell_5 : decode cX12_sell 5 = .ok (.ifCond .ne 9, 3) := by decide +kernel
theorem dX12_sell_8 : decode cX12_sell 8 = .ok (.aload_n 0, 1) := by decide +kernel
theorem dX12_sell_9 : decode cX12_sell 9 = .ok (.iconst 3, 1) := by decide +kernel
theorem dX12_sell_10 : decode cX12_sell 10 = .ok (.invokevirtual 247, 3) := by decide +kernel
theorem dX12_sell_13 : decode cX12_sell 13 = .ok (.ireturn, 1) := by decide +kernel
theorem dX12_sell_14 : decode cX12_sell 14 = .ok (.aload_n 0, 1) := by decide +kernel
theorem dX12_sell_15 : decode cX12_sell 15 = .ok (.invokevirtual 566, 3) := by decide +kernel
theorem dX12_sell_18 : decode cX12_sell 18 = .ok (.aload_n 0, 1) := by decide +kernel
theorem dX12_sell_19 : decode cX12_sell 19 = .ok (.getfield 90, 3) := by decide +kernel
theorem dX12_sell_22 : decode cX12_sell 22 = .ok (.iconst 5, 1) := by decide +kernel
theorem dX12_sell_23 : decode cX12_sell 23 = .ok (.aload_n 0, 1) := by decide +kernel
theorem dX12_sell_24 : decode cX12_sell 24 = .ok (.getfield 51, 3) := by decide +kernel
theorem dX12_sell_27 : decode cX12_sell 27 = .ok (.imul, 1) := by decide +kernel
theorem dX12_sell_28 : decode cX12_sell 28 = .ok (.iload_n 1, 1) := by decide +kernel
theorem dX12_sell_29 : decode cX12_sell 29 = .ok (.iadd, 1) := by decide +kernel
theorem dX12_sell_30 : decode cX12_sell 30 = .ok (.iaload, 1) := by decide +kernel
theorem dX12_sell_31 : decode cX12_sell 31 = .ok (.istore_n 2, 1) := by decide +kernel
theorem dX12_sell_32 : decode cX12_sell 32 = .ok (.aload_n 0, 1) := by decide +kernel
theorem dX12_sell_33 : decode cX12_sell 33 = .ok (.getfield 87, 3) := by decide +kernel
theorem dX12_sell_36 : decode cX12_sell 36 = .ok (.iconst 5, 1) := by decide +kernel
theorem dX12_sell_37 : decode cX12_sell 37 = .ok (.aload_n 0, 1) := by decide +kernel
theorem dX12_sell_38 : decode cX12_sell 38 = .ok (.getfield 51, 3) := by decide +kernel
theorem dX12_sell_41 : decode cX12_sell 41 = .ok (.imul, 1) := by decide +kernel
theorem dX12_sell_42 : decode cX12_sell 42 = .ok (.iload_n 1, 1) := by decide +kernel
theorem dX12_sell_43 : decode cX12_sell 43 = .ok (.iadd, 1) := by decide +kernel
theorem dX12_sell_44 : decode cX12_sell 44 = .ok (.iaload, 1) := by decide +kernel
theorem dX12_sell_45 : decode cX12_sell 45 = .ok (.istore_n 3, 1) := by decide +kernel
theorem dX12_sell_46 : decode cX12_sell 46 = .ok (.iload_n 3, 1) := by decide +kernel
theorem dX12_sell_47 : decode cX12_sell 47 = .ok (.bipush 10, 2) := by decide +kernel
theorem dX12_sell_49 : decode cX12_sell 49 = .ok (.if_icmp .ge 47, 3) := by decide +kernel
theorem dX12_sell_52 : decode cX12_sell 52 = .ok (.aload_n 0, 1) := by decide +kernel
theorem dX12_sell_53 : decode cX12_sell 53 = .ok (.getfield 186, 3) := by decide +kernel
theorem dX12_sell_56 : decode cX12_sell 56 = .ok (.iload_n 3, 1) := by decide +kernel
theorem dX12_sell_57 : decode cX12_sell 57 = .ok (.iaload, 1) := by decide +kernel
theorem dX12_sell_58 : decode cX12_sell 58 = .ok (.iload_n 2, 1) := by decide +kernel
theorem dX12_sell_59 : decode cX12_sell 59 = .ok (.if_icmp .ge 12, 3) := by decide +kernel
theorem dX12_sell_62 : decode cX12_sell 62 = .ok (.aload_n 0, 1) := by decide +kernel
theorem dX12_sell_63 : decode cX12_sell 63 = .ok (.getfield 186, 3) := by decide +kernel
theorem dX12_sell_66 : decode cX12_sell 66 = .ok (.iload_n 3, 1) := by decide +kernel
theorem dX12_sell_67 : decode cX12_sell 67 = .ok (.iaload, 1) := by decide +kernel
theorem dX12_sell_68 : decode cX12_sell 68 = .ok (.goto 4, 3) := by decide +kernel
theorem dX12_sell_71 : decode cX12_sell 71 = .ok (.iload_n 2, 1) := by decide +kernel
theorem dX12_sell_72 : decode cX12_sell 72 = .ok (.istore 4, 2) := by decide +kernel
theorem dX12_sell_74 : decode cX12_sell 74 = .ok (.aload_n 0, 1) := by decide +kernel
theorem dX12_sell_75 : decode cX12_sell 75 = .ok (.getfield 186, 3) := by decide +kernel
theorem dX12_sell_78 : decode cX12_sell 78 = .ok (.iload_n 3, 1) := by decide +kernel
theorem dX12_sell_79 : decode cX12_sell 79 = .ok (.dup2, 1) := by decide +kernel
theorem dX12_sell_80 : decode cX12_sell 80 = .ok (.iaload, 1) := by decide +kernel
theorem dX12_sell_81 : decode cX12_sell 81 = .ok (.iload 4, 2) := by decide +kernel
theorem dX12_sell_83 : decode cX12_sell 83 = .ok (.isub, 1) := by decide +kernel
theorem dX12_sell_84 : decode cX12_sell 84 = .ok (.iastore, 1) := by decide +kernel
theorem dX12_sell_85 : decode cX12_sell 85 = .ok (.iload_n 2, 1) := by decide +kernel
theorem dX12_sell_86 : decode cX12_sell 86 = .ok (.iload 4, 2) := by decide +kernel
theorem dX12_sell_88 : decode cX12_sell 88 = .ok (.isub, 1) := by decide +kernel
theorem dX12_sell_89 : decode cX12_sell 89 = .ok (.istore_n 2, 1) := by decide +kernel
theorem dX12_sell_90 : decode cX12_sell 90 = .ok (.iinc 3 1, 3) := by decide +kernel
theorem dX12_sell_93 : decode cX12_sell 93 = .ok (.goto (-47), 3) := by decide +kernel
theorem dX12_sell_96 : decode cX12_sell 96 = .ok (.aload_n 0, 1) := by decide +kernel
theorem dX12_sell_97 : decode cX12_sell 97 = .ok (.getfield 177, 3) := by decide +kernel
theorem dX12_sell_100 : decode cX12_sell 100 = .ok (.iconst 0, 1) := by decide +kernel
theorem dX12_sell_101 : decode cX12_sell 101 = .ok (.dup2, 1) := by decide +kernel
theorem dX12_sell_102 : decode cX12_sell 102 = .ok (.iaload, 1) := by decide +kernel
theorem dX12_sell_103 : decode cX12_sell 103 = .ok (.iconst 1, 1) := by decide +kernel
theorem dX12_sell_104 : decode cX12_sell 104 = .ok (.iload_n 1, 1) := by decide +kernel
theorem dX12_sell_105 : decode cX12_sell 105 = .ok (.ishl, 1) := by decide +kernel
theorem dX12_sell_106 : decode cX12_sell 106 = .ok (.ior, 1) := by decide +kernel
theorem dX12_sell_107 : decode cX12_sell 107 = .ok (.iastore, 1) := by decide +kernel
theorem dX12_sell_108 : decode cX12_sell 108 = .ok (.aload_n 0, 1) := by decide +kernel
theorem dX12_sell_109 : decode cX12_sell 109 = .ok (.getfield 165, 3) := by decide +kernel
theorem dX12_sell_112 : decode cX12_sell 112 = .ok (.iconst 0, 1) := by decide +kernel
theorem dX12_sell_113 : decode cX12_sell 113 = .ok (.iaload, 1) := by decide +kernel
theorem dX12_sell_114 : decode cX12_sell 114 = .ok (.aload_n 0, 1) := by decide +kernel
theorem dX12_sell_115 : decode cX12_sell 115 = .ok (.getfield 93, 3) := by decide +kernel
theorem dX12_sell_118 : decode cX12_sell 118 = .ok (.iconst 5, 1) := by decide +kernel
theorem dX12_sell_119 : decode cX12_sell 119 = .ok (.aload_n 0, 1) := by decide +kernel
theorem dX12_sell_120 : decode cX12_sell 120 = .ok (.getfield 51, 3) := by decide +kernel
theorem dX12_sell_123 : decode cX12_sell 123 = .ok (.imul, 1) := by decide +kernel
theorem dX12_sell_124 : decode cX12_sell 124 = .ok (.iload_n 1, 1) := by decide +kernel
theorem dX12_sell_125 : decode cX12_sell 125 = .ok (.iadd, 1) := by decide +kernel
theorem dX12_sell_126 : decode cX12_sell 126 = .ok (.iaload, 1) := by decide +kernel
theorem dX12_sell_127 : decode cX12_sell 127 = .ok (.iadd, 1) := by decide +kernel
theorem dX12_sell_128 : decode cX12_sell 128 = .ok (.istore_n 3, 1) := by decide +kernel
theorem dX12_sell_129 : decode cX12_sell 129 = .ok (.aload_n 0, 1) := by decide +kernel
theorem dX12_sell_130 : decode cX12_sell 130 = .ok (.getfield 165, 3) := by decide +kernel
theorem dX12_sell_133 : decode cX12_sell 133 = .ok (.iconst 0, 1) := by decide +kernel
theorem dX12_sell_134 : decode cX12_sell 134 = .ok (.iload_n 3, 1) := by decide +kernel
theorem dX12_sell_135 : decode cX12_sell 135 = .ok (.ldc_w 580, 3) := by decide +kernel
theorem dX12_sell_138 : decode cX12_sell 138 = .ok (.if_icmp .le 9, 3) := by decide +kernel
theorem dX12_sell_141 : decode cX12_sell 141 = .ok (.ldc_w 580, 3) := by decide +kernel
theorem dX12_sell_144 : decode cX12_sell 144 = .ok (.goto 4, 3) := by decide +kernel
theorem dX12_sell_147 : decode cX12_sell 147 = .ok (.iload_n 3, 1) := by decide +kernel
theorem dX12_sell_148 : decode cX12_sell 148 = .ok (.iastore, 1) := by decide +kernel
theorem dX12_sell_149 : decode cX12_sell 149 = .ok (.aload_n 0, 1) := by decide +kernel
theorem dX12_sell_150 : decode cX12_sell 150 = .ok (.getfield 165, 3) := by decide +kernel
theorem dX12_sell_153 : decode cX12_sell 153 = .ok (.iconst 0, 1) := by decide +kernel
theorem dX12_sell_154 : decode cX12_sell 154 = .ok (.iaload, 1) := by decide +kernel
theorem dX12_sell_155 : decode cX12_sell 155 = .ok (.ireturn, 1) := by decide +kernel
theorem dX12_seed_0 : decode cX12_seed 0 = .ok (.iload_n 1, 1) := by decide +kernel
theorem dX12_seed_1 : decode cX12_seed 1 = .ok (.ifCond .ge 17, 3) := by decide +kernel
theorem dX12_seed_4 : decode cX12_seed 4 = .ok (.aload_n 0, 1) := by decide +kernel
theorem dX12_seed_5 : decode cX12_seed 5 = .ok (.iconst 5, 1) := by decide +kernel
theorem dX12_seed_6 : decode cX12_seed 6 = .ok (.invokevirtual 247, 3) := by decide +kernel
theorem dX12_seed_9 : decode cX12_seed 9 = .ok (.ifCond .lt 7, 3) := by decide +kernel
theorem dX12_seed_16 : decode cX12_seed 16 = .ok (.iconst 0, 1) := by decide +kernel
theorem dX12_seed_17 : decode cX12_seed 17 = .ok (.ireturn, 1) := by decide +kernel
theorem dX12_seed_18 : decode cX12_seed 18 = .ok (.aload_n 0, 1) := by decide +kernel
theorem dX12_seed_19 : decode cX12_seed 19 = .ok (.iload_n 1, 1) := by decide +kernel
theorem dX12_seed_20 : decode cX12_seed 20 = .ok (.i2l, 1) := by decide +kernel
theorem dX12_seed_21 : decode cX12_seed 21 = .ok (.putfield 201, 3) := by decide +kernel
theorem dX12_seed_24 : decode cX12_seed 24 = .ok (.iconst 1, 1) := by decide +kernel
theorem dX12_seed_25 : decode cX12_seed 25 = .ok (.ireturn, 1) := by decide +kernel
theorem dX12_kept_0 : decode cX12_kept 0 = .ok (.iload_n 1, 1) := by decide +kernel
theorem dX12_kept_1 : decode cX12_kept 1 = .ok (.iconst 0, 1) := by decide +kernel
theorem dX12_kept_2 : decode cX12_kept 2 = .ok (.aload_n 0, 1) := by decide +kernel
theorem dX12_kept_3 : decode cX12_kept 3 = .ok (.getfield 189, 3) := by decide +kernel
theorem dX12_kept_6 : decode cX12_kept 6 = .ok (.iconst 0, 1) := by decide +kernel
theorem dX12_kept_7 : decode cX12_kept 7 = .ok (.iaload, 1) := by decide +kernel
theorem dX12_kept_8 : decode cX12_kept 8 = .ok (.iconst 1, 1) := by decide +kernel
theorem dX12_kept_9 : decode cX12_kept 9 = .ok (.isub, 1) := by decide +kernel
theorem dX12_kept_10 : decode cX12_kept 10 = .ok (.invokestatic 333, 3) := by decide +kernel
theorem dX12_kept_13 : decode cX12_kept 13 = .ok (.ifCond .eq 25, 3) := by decide +kernel
theorem dX12_kept_16 : decode cX12_kept 16 = .ok (.iload_n 2, 1) := by decide +kernel
theorem dX12_kept_17 : decode cX12_kept 17 = .ok (.iconst 0, 1) := by decide +kernel
theorem dX12_kept_18 : decode cX12_kept 18 = .ok (.iconst 3, 1) := by decide +kernel
theorem dX12_kept_19 : decode cX12_kept 19 = .ok (.invokestatic 333, 3) := by decide +kernel
theorem dX12_kept_22 : decode cX12_kept 22 = .ok (.ifCond .eq 16, 3) := by decide +kernel
theorem dX12_kept_25 : decode cX12_kept 25 = .ok (.aload_n 0, 1) := by decide +kernel
theorem dX12_kept_26 : decode cX12_kept 26 = .ok (.getfield 192, 3) := by decide +kernel
theorem dX12_kept_29 : decode cX12_kept 29 = .ok (.iconst 4, 1) := by decide +kernel
theorem dX12_kept_30 : decode cX12_kept 30 = .ok (.iload_n 1, 1) := by decide +kernel
theorem dX12_kept_31 : decode cX12_kept 31 = .ok (.imul, 1) := by decide +kernel
theorem dX12_kept_32 : decode cX12_kept 32 = .ok (.iload_n 2, 1) := by decide +kernel
theorem dX12_kept_33 : decode cX12_kept 33 = .ok (.iadd, 1) := by decide +kernel
theorem dX12_kept_34 : decode cX12_kept 34 = .ok (.iaload, 1) := by decide +kernel
theorem dX12_kept_35 : decode cX12_kept 35 = .ok (.goto 4, 3) := by decide +kernel
theorem dX12_kept_38 : decode cX12_kept 38 = .ok (.iconst (-1), 1) := by decide +kernel
theorem dX12_kept_39 : decode cX12_kept 39 = .ok (.ireturn, 1) := by decide +kernel
theorem dX12_writes_0 : decode cX12_writes 0 = .ok (.aload_n 0, 1) := by decide +kernel
theorem dX12_writes_1 : decode cX12_writes 1 = .ok (.getfield 241, 3) := by decide +kernel
theorem dX12_writes_4 : decode cX12_writes 4 = .ok (.aload_n 0, 1) := by decide +kernel
theorem dX12_writes_5 : decode cX12_writes 5 = .ok (.getfield 244, 3) := by decide +kernel
theorem dX12_writes_8 : decode cX12_writes 8 = .ok (.iload_n 1, 1) := by decide +kernel
theorem dX12_writes_9 : decode cX12_writes 9 = .ok (.sipush 255, 3) := by decide +kernel
theorem dX12_writes_12 : decode cX12_writes 12 = .ok (.iand, 1) := by decide +kernel
theorem dX12_writes_13 : decode cX12_writes 13 = .ok (.iastore, 1) := by decide +kernel
theorem dX12_writes_14 : decode cX12_writes 14 = .ok (.aload_n 0, 1) := by decide +kernel
theorem dX12_writes_15 : decode cX12_writes 15 = .ok (.dup, 1) := by decide +kernel
theorem dX12_writes_16 : decode cX12_writes 16 = .ok (.getfield 244, 3) := by decide +kernel
theorem dX12_writes_19 : decode cX12_writes 19 = .ok (.iconst 1, 1) := by decide +kernel
theorem dX12_writes_20 : decode cX12_writes 20 = .ok (.iadd, 1) := by decide +kernel
theorem dX12_writes_21 : decode cX12_writes 21 = .ok (.putfield 244, 3) := by decide +kernel
theorem dX12_writes_24 : decode cX12_writes 24 = .ok (.return_, 1) := by decide +kernel
theorem dX12_octet_0 : decode cX12_octet 0 = .ok (.iload_n 1, 1) := by decide +kernel
theorem dX12_octet_1 : decode cX12_octet 1 = .ok (.iconst 0, 1) := by decide +kernel
theorem dX12_octet_2 : decode cX12_octet 2 = .ok (.aload_n 0, 1) := by decide +kernel
theorem dX12_octet_3 : decode cX12_octet 3 = .ok (.getfield 244, 3) := by decide +kernel
theorem dX12_octet_6 : decode cX12_octet 6 = .ok (.iconst 1, 1) := by decide +kernel
theorem dX12_octet_7 : decode cX12_octet 7 = .ok (.isub, 1) := by decide +kernel
theorem dX12_octet_8 : decode cX12_octet 8 = .ok (.invokestatic 333, 3) := by decide +kernel
theorem dX12_octet_11 : decode cX12_octet 11 = .ok (.ifCond .eq 12, 3) := by decide +kernel
theorem dX12_octet_14 : decode cX12_octet 14 = .ok (.aload_n 0, 1) := by decide +kernel
theorem dX12_octet_15 : decode cX12_octet 15 = .ok (.getfield 241, 3) := by decide +kernel
theorem dX12_octet_18 : decode cX12_octet 18 = .ok (.iload_n 1, 1) := by decide +kernel
theorem dX12_octet_19 : decode cX12_octet 19 = .ok (.iaload, 1) := by decide +kernel
theorem dX12_octet_20 : decode cX12_octet 20 = .ok (.goto 4, 3) := by decide +kernel
theorem dX12_octet_23 : decode cX12_octet 23 = .ok (.iconst (-1), 1) := by decide +kernel
theorem dX12_octet_24 : decode cX12_octet 24 = .ok (.ireturn, 1) := by decide +kernel
theorem wB_1254 : Cond.fieldLink RX12 241 "DarkMineModel" "out" "[I" ∈ dgB := List.mem_filter.mpr ⟨tbl_6 _ (List.mem_of_getElem? (i := 238) (by decide +kernel)), by decide +kernel⟩
theorem wB_1255 : Cond.fieldLink RX12 244 "DarkMineModel" "outs" "I" ∈ dgB := List.mem_filter.mpr ⟨tbl_6 _ (List.mem_of_getElem? (i := 239) (by decide +kernel)), by decide +kernel⟩
theorem wB_1256 : Cond.code yX12_keeps cX12_keeps 1 none ∈ dgB := List.mem_filter.mpr ⟨tbl_9 _ (List.mem_of_getElem? (i := 113) rfl), rfl⟩
theorem wB_1257 : Cond.methodLink RX12 566 yX12_keeps ∈ dgB := List.mem_filter.mpr ⟨tbl_9 _ (List.mem_of_getElem? (i := 110) (by decide +kernel)), by decide +kernel⟩
theorem wB_1258 : Cond.instanceMethod yX12_keeps ∈ dgB := List.mem_filter.mpr ⟨tbl_9 _ (List.mem_of_getElem? (i := 112) (by decide +kernel)), by decide +kernel⟩
theorem wB_1259 : Cond.selects RX12 yX12_keeps yX12_keeps ∈ dgB := List.mem_filter.mpr ⟨List.mem_of_getElem? (i := 149) (by decide +kernel), by decide +kernel⟩
theorem wB_1260 : Cond.constant RX12 580 (99999) ∈ dgB := List.mem_filter.mpr ⟨tbl_9 _ (List.mem_of_getElem? (i := 142) (by decide +kernel)), by decide +kernel⟩
theorem wB_1261 : Cond.fieldLink RX12 238 "DarkMineModel" "many" "[I" ∈ dgB := List.mem_filter.mpr ⟨tbl_6 _ (List.mem_of_getElem? (i := 237) (by decide +kernel)), by decide +kernel⟩
theorem wB_1262 : Cond.fieldLink RX12 235 "DarkMineModel" "gradeBy" "[I" ∈ dgB := List.mem_filter.mpr ⟨tbl_6 _ (List.mem_of_getElem? (i := 236) (by decide +kernel)), by decide +kernel⟩
set_option maxHeartbeats 8000000 in
set_option maxRecDepth 100000 in
theorem c_m_seed (l : Launch) (g : Nat → ClassId) (D : va_G) (o : Nat) (S : dg_S) (a1 : Int32) (ZD : ZDM S) (I : CM o S) (sz : Nat) : Met l yX12_seed (bw yX12_seed cX12_seed 2 (some .boolean)) ({ frames := 2, cells := 0, slots := 0, locals := 53 } : Room) (dk_Pc g D (dg_w g shM o rfM S) sz [.ref (o + 0), .int a1]) (va_Qi (fun (r : Int32) S' => CM o S' ∧ dg_sm shM [(0, 62)] [28] S S' ∧ (0 ≤ (r).toInt ∧ (r).toInt ≤ 1) ∧ ((r).toInt = 1 ↔ 0 ≤ (a1).toInt) ∧ ZDM S' ∧ True) (dg_B g D shM o rfM) (dg_A o shM.length sz)) 0 0 (dg_A o shM.length sz) := by
  refine dg_met (cc := cX12_seed) (maxL := 2) (ret := (some .boolean)) (by decide) rfl (Nat.le_of_ble_eq_true rfl) ?_
  intro p e s m args below meth c A hAe harg hx hb hr hml hts hown hlocks hin hP K hS hA1 hA ST hsz ls hl
  rw [← hAe]
  have F : CallFix p m c cX12_seed 2 s args (bw yX12_seed cX12_seed 2 (some .boolean)) RX12 := ⟨hx, hb, hml, hown, hts⟩
  have hl : lv_has ls 2 [(0, .ref (o + 0)), (1, .int a1)] := hl
  have M_0 : dg_sm shM [(0, 62)] [28] S S := dg_sm.rf
  refine lv_iload_n hx hb dX12_seed_0 rfl (lv_at hl 1 rfl) ?_
  refine lv_if_ge (tgt := 18) hx hb dX12_seed_1 (by decide) (fun c_1 => ?_) (fun c_1 => ?_)
  · have jc_1 := dk_gec (k := 0) (by decide +kernel) c_1
    refine lv_aload_n hx hb dX12_seed_18 rfl (lv_at hl 0 rfl) ?_
    refine lv_iload_n hx hb dX12_seed_19 rfl (lv_at hl 1 rfl) ?_
    obtain ⟨x_2, ex_2⟩ : ∃ z, (a1 : Int32).toInt64 = z := ⟨_, rfl⟩
    refine lv_i2l (v := x_2) hx hb dX12_seed_20 ex_2 ?_
    refine dg_put (ci := 12) (v := .long x_2) (ty := tyX12 62) (C := RX12) (T := TX12) (N := 77) hx hb hts (fun w h => bw_mem (wU_X12 w h)) tyX12 tyX12_ok nmX12 hown K hP hS hA1 sM_0 rfl 62 (by decide) (hts _ (bw_mem wB_1201)) (fun _ h9 => h9) rfl (by decide +kernel) rfl rfl dX12_seed_21 (fun S_3 e_3 H locs hP hS => ?_)
    have I_3 := dg_I.uFl I e_3 sM_0 (by decide +kernel)
    have M_3 := dg_sm.uF M_0 e_3 sM_0 (by decide)
    have ZD_3 : ZDM S_3 := ZDM.put e_3 (by rw [← ex_2, Int32.toInt_toInt64]; have hf9 := dk_full a1; omega)
    refine lv_iconst (v := 1) hx hb dX12_seed_24 (by decide +kernel) ?_
    have hz_4 : (1 : Int32).toInt = 1 := by decide +kernel
    have hz_5 : (1 : Int32).toInt = 1 := by decide +kernel
    refine W.widen (k := 0) (n := 0) (Nat.le_of_ble_eq_true rfl) (Nat.le_of_ble_eq_true rfl) ?_
    exact dg_iret hx hb hr hlocks (by decide +kernel) hP hS ⟨I_3, M_3, (by decide +kernel), (by omega), ZD_3, trivial⟩ dX12_seed_25
  · have jc_1 := dk_ngec (k := 0) (by decide +kernel) c_1
    refine lv_aload_n hx hb dX12_seed_4 rfl (lv_at hl 0 rfl) ?_
    refine lv_iconst (v := 5) hx hb dX12_seed_5 (by decide +kernel) ?_
    have hz_6 : (5 : Int32).toInt = 5 := by decide +kernel
    refine dg_calli hS hA1 hA (va_runV (As := [.int 5]) (rest := []) F (c_m_refuses l g D o S 5 (by decide +kernel) I s.heap.size) (cwV 1 hts (bw_V wB_1079 wB_1080 wB_1081 wB_297 wB_1078) rfl rfl rfl (by decide +kernel) ⟨Nat.le_of_ble_eq_true rfl, Nat.le_of_ble_eq_true rfl⟩) (dg_preV sM_0 rfl K ST hP hS hA1 hA) rfl rfl hl.1 rfl (lv_room (Nat.le_of_ble_eq_true rfl)) dX12_seed_6 ⟨Nat.le_of_ble_eq_true rfl, Nat.le_of_ble_eq_true rfl⟩) (fun x_7 S_8 hw_8 H locs hP hS => ?_)
    obtain ⟨I_8, m_8, w_8_0, -⟩ := hw_8
    have M_8 := dg_sm.tr M_0 m_8 (by decide) (by decide)
    have w_8_0 : (-1) ≤ (x_7).toInt ∧ (x_7).toInt ≤ (-1) := w_8_0
    refine lv_if_lt (tgt := 16) hx hb dX12_seed_9 (by decide) (fun _ => ?_) (fun c => absurd (dk_ltp (k := 0) (by decide +kernel) (by omega)) c)
    refine lv_iconst (v := 0) hx hb dX12_seed_16 (by decide +kernel) ?_
    have hz_9 : (0 : Int32).toInt = 0 := by decide +kernel
    have hz_10 : (0 : Int32).toInt = 0 := by decide +kernel
    refine W.widen (k := 0) (n := 0) (Nat.le_of_ble_eq_true rfl) (Nat.le_of_ble_eq_true rfl) ?_
    exact dg_iret hx hb hr hlocks (by decide +kernel) hP hS ⟨I_8, M_8, (by decide +kernel), (by omega), (ZDM.keep ZD m_8 (by decide)), trivial⟩ dX12_seed_17
set_option maxHeartbeats 8000000 in
set_option maxRecDepth 100000 in
theorem c_m_kept (l : Launch) (g : Nat → ClassId) (D : va_G) (o : Nat) (S : dg_S) (a1 : Int32) (a2 : Int32) (I : CM o S) (sz : Nat) : Met l yX12_kept (bw yX12_kept cX12_kept 3 (some .int)) ({ frames := 2, cells := 0, slots := 0, locals := 54 } : Room) (dk_Pc g D (dg_w g shM o rfM S) sz [.ref (o + 0), .int a1, .int a2]) (va_Qi (fun (r : Int32) S' => S' = S ∧ True) (dg_B g D shM o rfM) (dg_A o shM.length sz)) 0 0 (dg_A o shM.length sz) := by
  refine dg_met (cc := cX12_kept) (maxL := 3) (ret := (some .int)) (by decide) rfl (Nat.le_of_ble_eq_true rfl) ?_
  intro p e s m args below meth c A hAe harg hx hb hr hml hts hown hlocks hin hP K hS hA1 hA ST hsz ls hl
  rw [← hAe]
  have F : CallFix p m c cX12_kept 3 s args (bw yX12_kept cX12_kept 3 (some .int)) RX12 := ⟨hx, hb, hml, hown, hts⟩
  have hl : lv_has ls 3 [(0, .ref (o + 0)), (1, .int a1), (2, .int a2)] := hl
  have M_0 : dg_sm shM [] [] S S := dg_sm.rf
  refine lv_iload_n hx hb dX12_kept_0 rfl (lv_at hl 1 rfl) ?_
  refine lv_iconst (v := 0) hx hb dX12_kept_1 (by decide +kernel) ?_
  refine lv_aload_n hx hb dX12_kept_2 rfl (lv_at hl 0 rfl) ?_
  refine dg_get (C := RX12) (T := TX12) (N := 77) hx hb hts (fun w h => bw_mem (wU_X12 w h)) hown K hP sM_0 rfl 58 (by decide) (hts _ (bw_mem wB_1127)) (fun _ h9 => h9) (v := .ref (o + 38)) (show S.1 0 58 = .ref (o + 38) from dg_I.rel (d := 38) I sM_0 (by decide +kernel)) dX12_kept_3 ?_
  refine lv_iconst (v := 0) hx hb dX12_kept_6 (by decide +kernel) ?_
  have hin_1 : vp_in (0 : Int32) 22 := (dk_in (by decide +kernel))
  refine dg_iald hx hb K hP sM_38 hin_1 dX12_kept_7 (fun x_2 ex_2 => ?_)
  have b_x_2 := dk_all_at (dg_I.row (lo := 0) (hi := 40) I sM_38 (by decide +kernel)) hin_1 ex_2
  refine lv_iconst (v := 1) hx hb dX12_kept_8 (by decide +kernel) ?_
  refine lv_isub hx hb dX12_kept_9 ?_
  refine lv_topi (fun x_3 ex_3 => ?_)
  have jx_3 : (x_3).toInt = (x_2).toInt - 1 := by rw [ex_3]; exact dk_subT rfl (by decide +kernel) (by omega) (by omega)
  refine dg_calli hS hA1 hA (va_runS (As := [.int a1, .int 0, .int x_3]) (rest := []) F (c_m_is l g D o S a1 0 x_3 I s.heap.size) (va_cwS 3 hts (bw_S wB_362 wB_363 wB_297 wB_361) rfl rfl rfl (by decide +kernel) ⟨Nat.le_of_ble_eq_true rfl, Nat.le_of_ble_eq_true rfl⟩) (dg_preS K ST hP hS hA1 hA) rfl rfl hl.1 rfl (lv_room (Nat.le_of_ble_eq_true rfl)) dX12_kept_10 ⟨Nat.le_of_ble_eq_true rfl, Nat.le_of_ble_eq_true rfl⟩) (fun x_4 S_5 hw_5 H locs hP hS => ?_)
  rw [hw_5.1] at hP
  obtain ⟨hq_5, w_5_0, w_5_1, -⟩ := hw_5
  have hz_6 : (0 : Int32).toInt = 0 := by decide +kernel
  have w_5_0 : 0 ≤ (x_4).toInt ∧ (x_4).toInt ≤ 1 := w_5_0
  have w_5_1 : (x_4).toInt = 1 ↔ (((0 : Int32)).toInt ≤ (a1).toInt ∧ (a1).toInt ≤ (x_3).toInt) := w_5_1
  refine lv_if_eq (tgt := 38) hx hb dX12_kept_13 (by decide) (fun c_7 => ?_) (fun c_7 => ?_)
  · have jc_7 := dk_eqc (k := 0) (by decide +kernel) c_7
    refine lv_iconst (v := (-1)) hx hb dX12_kept_38 (by decide +kernel) ?_
    refine W.widen (k := 0) (n := 0) (Nat.le_of_ble_eq_true rfl) (Nat.le_of_ble_eq_true rfl) ?_
    exact dg_iret hx hb hr hlocks rfl hP hS ⟨rfl, trivial⟩ dX12_kept_39
  · have jc_7 := dk_neqc (k := 0) (by decide +kernel) c_7
    refine lv_iload_n hx hb dX12_kept_16 rfl (lv_at hl 2 rfl) ?_
    refine lv_iconst (v := 0) hx hb dX12_kept_17 (by decide +kernel) ?_
    refine lv_iconst (v := 3) hx hb dX12_kept_18 (by decide +kernel) ?_
    refine dg_calli hS hA1 hA (va_runS (As := [.int a2, .int 0, .int 3]) (rest := []) F (c_m_is l g D o S a2 0 3 I H.size) (va_cwS 3 hts (bw_S wB_362 wB_363 wB_297 wB_361) rfl rfl rfl (by decide +kernel) ⟨Nat.le_of_ble_eq_true rfl, Nat.le_of_ble_eq_true rfl⟩) (dg_preS K ST hP hS hA1 hA) rfl rfl hl.1 rfl (lv_room (Nat.le_of_ble_eq_true rfl)) dX12_kept_19 ⟨Nat.le_of_ble_eq_true rfl, Nat.le_of_ble_eq_true rfl⟩) (fun x_8 S_9 hw_9 H locs hP hS => ?_)
    rw [hw_9.1] at hP
    obtain ⟨hq_9, w_9_0, w_9_1, -⟩ := hw_9
    have hz_10 : (0 : Int32).toInt = 0 := by decide +kernel
    have hz_11 : (3 : Int32).toInt = 3 := by decide +kernel
    have w_9_0 : 0 ≤ (x_8).toInt ∧ (x_8).toInt ≤ 1 := w_9_0
    have w_9_1 : (x_8).toInt = 1 ↔ (((0 : Int32)).toInt ≤ (a2).toInt ∧ (a2).toInt ≤ ((3 : Int32)).toInt) := w_9_1
    refine lv_if_eq (tgt := 38) hx hb dX12_kept_22 (by decide) (fun c_12 => ?_) (fun c_12 => ?_)
    · have jc_12 := dk_eqc (k := 0) (by decide +kernel) c_12
      refine lv_iconst (v := (-1)) hx hb dX12_kept_38 (by decide +kernel) ?_
      refine W.widen (k := 0) (n := 0) (Nat.le_of_ble_eq_true rfl) (Nat.le_of_ble_eq_true rfl) ?_
      exact dg_iret hx hb hr hlocks rfl hP hS ⟨rfl, trivial⟩ dX12_kept_39
    · have jc_12 := dk_neqc (k := 0) (by decide +kernel) c_12
      refine lv_aload_n hx hb dX12_kept_25 rfl (lv_at hl 0 rfl) ?_
      refine dg_get (C := RX12) (T := TX12) (N := 77) hx hb hts (fun w h => bw_mem (wU_X12 w h)) hown K hP sM_0 rfl 59 (by decide) (hts _ (bw_mem wB_1128)) (fun _ h9 => h9) (v := .ref (o + 39)) (show S.1 0 59 = .ref (o + 39) from dg_I.rel (d := 39) I sM_0 (by decide +kernel)) dX12_kept_26 ?_
      refine lv_iconst (v := 4) hx hb dX12_kept_29 (by decide +kernel) ?_
      refine lv_iload_n hx hb dX12_kept_30 rfl (lv_at hl 1 rfl) ?_
      refine lv_imul hx hb dX12_kept_31 ?_
      refine lv_topi (fun x_13 ex_13 => ?_)
      have jx_13 : (x_13).toInt = 4 * (a1).toInt := by rw [ex_13]; exact dk_mulT (by decide +kernel) rfl (by omega) (by omega)
      refine lv_iload_n hx hb dX12_kept_32 rfl (lv_at hl 2 rfl) ?_
      refine lv_iadd hx hb dX12_kept_33 ?_
      refine lv_topi (fun x_14 ex_14 => ?_)
      have jx_14 : (x_14).toInt = (x_13).toInt + (a2).toInt := by rw [ex_14]; exact dk_addT rfl rfl (by omega) (by omega)
      have hin_15 : vp_in x_14 3520 := (dk_inv (by omega) (by omega))
      refine dg_iald hx hb K hP sM_39 hin_15 dX12_kept_34 (fun x_16 ex_16 => ?_)
      refine lv_goto (tgt := 39) hx hb dX12_kept_35 (by decide) ?_
      refine W.widen (k := 0) (n := 0) (Nat.le_of_ble_eq_true rfl) (Nat.le_of_ble_eq_true rfl) ?_
      exact dg_iret hx hb hr hlocks rfl hP hS ⟨rfl, trivial⟩ dX12_kept_39
set_option maxHeartbeats 8000000 in
set_option maxRecDepth 100000 in
theorem c_m_writes (l : Launch) (g : Nat → ClassId) (D : va_G) (o : Nat) (S : dg_S) (a1 : Int32) (o0 : Int32) (f_o0 : S.1 0 76 = .int o0) (b_o0 : 0 ≤ (o0).toInt ∧ (o0).toInt ≤ 149) (I : CM o S) (sz : Nat) : Met l yX12_writes (bw yX12_writes cX12_writes 2 none) ({ frames := 1, cells := 0, slots := 0, locals := 32 } : Room) (dk_Pc g D (dg_w g shM o rfM S) sz [.ref (o + 0), .int a1]) (va_Qv (fun S' => CM o S' ∧ dg_sm shM [(0, 76)] [50] S S' ∧ (∃ y9 : Int32, S'.1 0 76 = .int y9 ∧ ((y9).toInt = (o0).toInt + 1)) ∧ True) (dg_B g D shM o rfM) (dg_A o shM.length sz)) 0 0 (dg_A o shM.length sz) := by
  refine dg_met (cc := cX12_writes) (maxL := 2) (ret := none) (by decide) rfl (Nat.le_of_ble_eq_true rfl) ?_
  intro p e s m args below meth c A hAe harg hx hb hr hml hts hown hlocks hin hP K hS hA1 hA ST hsz ls hl
  rw [← hAe]
  have F : CallFix p m c cX12_writes 2 s args (bw yX12_writes cX12_writes 2 none) RX12 := ⟨hx, hb, hml, hown, hts⟩
  have hl : lv_has ls 2 [(0, .ref (o + 0)), (1, .int a1)] := hl
  have M_0 : dg_sm shM [(0, 76)] [50] S S := dg_sm.rf
  refine lv_aload_n hx hb dX12_writes_0 rfl (lv_at hl 0 rfl) ?_
  refine dg_get (C := RX12) (T := TX12) (N := 77) hx hb hts (fun w h => bw_mem (wU_X12 w h)) hown K hP sM_0 rfl 75 (by decide) (hts _ (bw_mem wB_1254)) (fun _ h9 => h9) (v := .ref (o + 50)) (show S.1 0 75 = .ref (o + 50) from dg_I.rel (d := 50) I sM_0 (by decide +kernel)) dX12_writes_1 ?_
  refine lv_aload_n hx hb dX12_writes_4 rfl (lv_at hl 0 rfl) ?_
  refine dg_get (C := RX12) (T := TX12) (N := 77) hx hb hts (fun w h => bw_mem (wU_X12 w h)) hown K hP sM_0 rfl 76 (by decide) (hts _ (bw_mem wB_1255)) (fun _ h9 => h9) (v := .int o0) f_o0 dX12_writes_5 ?_
  refine lv_iload_n hx hb dX12_writes_8 rfl (lv_at hl 1 rfl) ?_
  refine lv_sipush (v := 255) hx hb dX12_writes_9 (by decide +kernel) ?_
  refine lv_iand hx hb dX12_writes_12 ?_
  refine lv_topi (fun x_1 ex_1 => ?_)
  have jx_1 := dk_and255 a1
  rw [← ex_1] at jx_1
  have hin_2 : vp_in o0 150 := (dk_inv (by omega) (by omega))
  refine dg_iast hx hb K hP hS hA1 sM_50 hin_2 dX12_writes_13 (fun S_3 e_3 H locs hP hS => ?_)
  have I_3 := dg_I.uf0 I e_3 sM_50 (by decide +kernel)
  have M_3 := dg_sm.uf M_0 e_3 sM_50 (by decide)
  refine lv_aload_n hx hb dX12_writes_14 rfl (lv_at hl 0 rfl) ?_
  refine lv_dup hx hb dX12_writes_15 rfl ?_
  refine dg_get (C := RX12) (T := TX12) (N := 77) hx hb hts (fun w h => bw_mem (wU_X12 w h)) hown K hP sM_0 rfl 76 (by decide) (hts _ (bw_mem wB_1255)) (fun _ h9 => h9) (v := .int o0) ((dg_uf_F e_3 0 76).trans f_o0) dX12_writes_16 ?_
  refine lv_iconst (v := 1) hx hb dX12_writes_19 (by decide +kernel) ?_
  refine lv_iadd hx hb dX12_writes_20 ?_
  refine lv_topi (fun x_4 ex_4 => ?_)
  have jx_4 : (x_4).toInt = (o0).toInt + 1 := by rw [ex_4]; exact dk_addT rfl (by decide +kernel) (by omega) (by omega)
  refine dg_put (ci := 12) (v := .int x_4) (ty := tyX12 76) (C := RX12) (T := TX12) (N := 77) hx hb hts (fun w h => bw_mem (wU_X12 w h)) tyX12 tyX12_ok nmX12 hown K hP hS hA1 sM_0 rfl 76 (by decide) (hts _ (bw_mem wB_1255)) (fun _ h9 => h9) rfl (by decide +kernel) rfl rfl dX12_writes_21 (fun S_5 e_5 H locs hP hS => ?_)
  have I_5 := dg_I.uFi (lo := 0) (hi := 150) I_3 e_5 sM_0 (by decide +kernel) (show 0 ≤ (x_4).toInt ∧ (x_4).toInt ≤ 150 from (by omega))
  have M_5 := dg_sm.uF M_3 e_5 sM_0 (by decide)
  refine W.widen (k := 0) (n := 0) (Nat.le_of_ble_eq_true rfl) (Nat.le_of_ble_eq_true rfl) ?_
  exact dg_vret hx hb hr hlocks hP hS ⟨I_5, M_5, ⟨x_4, (dg_uF_at e_5), (by omega)⟩, trivial⟩ dX12_writes_24
set_option maxHeartbeats 8000000 in
set_option maxRecDepth 100000 in
theorem c_m_octet (l : Launch) (g : Nat → ClassId) (D : va_G) (o : Nat) (S : dg_S) (a1 : Int32) (I : CM o S) (sz : Nat) : Met l yX12_octet (bw yX12_octet cX12_octet 2 (some .int)) ({ frames := 2, cells := 0, slots := 0, locals := 54 } : Room) (dk_Pc g D (dg_w g shM o rfM S) sz [.ref (o + 0), .int a1]) (va_Qi (fun (r : Int32) S' => S' = S ∧ True) (dg_B g D shM o rfM) (dg_A o shM.length sz)) 0 0 (dg_A o shM.length sz) := by
  refine dg_met (cc := cX12_octet) (maxL := 2) (ret := (some .int)) (by decide) rfl (Nat.le_of_ble_eq_true rfl) ?_
  intro p e s m args below meth c A hAe harg hx hb hr hml hts hown hlocks hin hP K hS hA1 hA ST hsz ls hl
  rw [← hAe]
  have F : CallFix p m c cX12_octet 2 s args (bw yX12_octet cX12_octet 2 (some .int)) RX12 := ⟨hx, hb, hml, hown, hts⟩
  have hl : lv_has ls 2 [(0, .ref (o + 0)), (1, .int a1)] := hl
  have M_0 : dg_sm shM [] [] S S := dg_sm.rf
  refine lv_iload_n hx hb dX12_octet_0 rfl (lv_at hl 1 rfl) ?_
  refine lv_iconst (v := 0) hx hb dX12_octet_1 (by decide +kernel) ?_
  refine lv_aload_n hx hb dX12_octet_2 rfl (lv_at hl 0 rfl) ?_
  obtain ⟨x_1, f_x_1, b_x_1⟩ := dg_I.int (i := 0) (k := 76) (lo := 0) (hi := 150) I sM_0 (by decide +kernel)
  refine dg_get (C := RX12) (T := TX12) (N := 77) hx hb hts (fun w h => bw_mem (wU_X12 w h)) hown K hP sM_0 rfl 76 (by decide) (hts _ (bw_mem wB_1255)) (fun _ h9 => h9) (v := .int x_1) f_x_1 dX12_octet_3 ?_
  refine lv_iconst (v := 1) hx hb dX12_octet_6 (by decide +kernel) ?_
  refine lv_isub hx hb dX12_octet_7 ?_
  refine lv_topi (fun x_2 ex_2 => ?_)
  have jx_2 : (x_2).toInt = (x_1).toInt - 1 := by rw [ex_2]; exact dk_subT rfl (by decide +kernel) (by omega) (by omega)
  refine dg_calli hS hA1 hA (va_runS (As := [.int a1, .int 0, .int x_2]) (rest := []) F (c_m_is l g D o S a1 0 x_2 I s.heap.size) (va_cwS 3 hts (bw_S wB_362 wB_363 wB_297 wB_361) rfl rfl rfl (by decide +kernel) ⟨Nat.le_of_ble_eq_true rfl, Nat.le_of_ble_eq_true rfl⟩) (dg_preS K ST hP hS hA1 hA) rfl rfl hl.1 rfl (lv_room (Nat.le_of_ble_eq_true rfl)) dX12_octet_8 ⟨Nat.le_of_ble_eq_true rfl, Nat.le_of_ble_eq_true rfl⟩) (fun x_3 S_4 hw_4 H locs hP hS => ?_)
  rw [hw_4.1] at hP
  obtain ⟨hq_4, w_4_0, w_4_1, -⟩ := hw_4
  have hz_5 : (0 : Int32).toInt = 0 := by decide +kernel
  have w_4_0 : 0 ≤ (x_3).toInt ∧ (x_3).toInt ≤ 1 := w_4_0
  have w_4_1 : (x_3).toInt = 1 ↔ (((0 : Int32)).toInt ≤ (a1).toInt ∧ (a1).toInt ≤ (x_2).toInt) := w_4_1
  refine lv_if_eq (tgt := 23) hx hb dX12_octet_11 (by decide) (fun c_6 => ?_) (fun c_6 => ?_)
  · have jc_6 := dk_eqc (k := 0) (by decide +kernel) c_6
    refine lv_iconst (v := (-1)) hx hb dX12_octet_23 (by decide +kernel) ?_
    refine W.widen (k := 0) (n := 0) (Nat.le_of_ble_eq_true rfl) (Nat.le_of_ble_eq_true rfl) ?_
    exact dg_iret hx hb hr hlocks rfl hP hS ⟨rfl, trivial⟩ dX12_octet_24
  · have jc_6 := dk_neqc (k := 0) (by decide +kernel) c_6
    refine lv_aload_n hx hb dX12_octet_14 rfl (lv_at hl 0 rfl) ?_
    refine dg_get (C := RX12) (T := TX12) (N := 77) hx hb hts (fun w h => bw_mem (wU_X12 w h)) hown K hP sM_0 rfl 75 (by decide) (hts _ (bw_mem wB_1254)) (fun _ h9 => h9) (v := .ref (o + 50)) (show S.1 0 75 = .ref (o + 50) from dg_I.rel (d := 50) I sM_0 (by decide +kernel)) dX12_octet_15 ?_
    refine lv_iload_n hx hb dX12_octet_18 rfl (lv_at hl 1 rfl) ?_
    have hin_7 : vp_in a1 150 := (dk_inv (by omega) (by omega))
    refine dg_iald hx hb K hP sM_50 hin_7 dX12_octet_19 (fun x_8 ex_8 => ?_)
    refine lv_goto (tgt := 24) hx hb dX12_octet_20 (by decide) ?_
    refine W.widen (k := 0) (n := 0) (Nat.le_of_ble_eq_true rfl) (Nat.le_of_ble_eq_true rfl) ?_
    exact dg_iret hx hb hr hlocks rfl hP hS ⟨rfl, trivial⟩ dX12_octet_24
set_option maxHeartbeats 8000000 in
set_option maxRecDepth 100000 in
theorem c_m_heal (l : Launch) (g : Nat → ClassId) (D : va_G) (o : Nat) (S : dg_S) (a1 : Int32) (ZB : ZBM S) (ZS : ZSM S) (ZW : ZWM S) (I : CM o S) (sz : Nat) : Met l yX12_heal (bw yX12_heal cX12_heal 2 (some .boolean)) ({ frames := 3, cells := 0, slots := 0, locals := 75 } : Room) (dk_Pc g D (dg_w g shM o rfM S) sz [.ref (o + 0), .int a1]) (va_Qi (fun (r : Int32) S' => CM o S' ∧ dg_sm shM [(0, 60), (0, 61)] [28, 29, 30, 31, 32, 33, 34, 35, 36, 37, 38, 39] S S' ∧ (0 ≤ (r).toInt ∧ (r).toInt ≤ 1) ∧ ZSM S' ∧ True) (dg_B g D shM o rfM) (dg_A o shM.length sz)) 0 0 (dg_A o shM.length sz) := by
  refine dg_met (cc := cX12_heal) (maxL := 2) (ret := (some .boolean)) (by decide) rfl (Nat.le_of_ble_eq_true rfl) ?_
  intro p e s m args below meth c A hAe harg hx hb hr hml hts hown hlocks hin hP K hS hA1 hA ST hsz ls hl
  rw [← hAe]
  have F : CallFix p m c cX12_heal 2 s args (bw yX12_heal cX12_heal 2 (some .boolean)) RX12 := ⟨hx, hb, hml, hown, hts⟩
  have hl : lv_has ls 2 [(0, .ref (o + 0)), (1, .int a1)] := hl
  have M_0 : dg_sm shM [(0, 60), (0, 61)] [28, 29, 30, 31, 32, 33, 34, 35, 36, 37, 38, 39] S S := dg_sm.rf
  refine lv_aload_n hx hb dX12_heal_0 rfl (lv_at hl 0 rfl) ?_
  refine lv_iload_n hx hb dX12_heal_1 rfl (lv_at hl 1 rfl) ?_
  obtain ⟨x_1, f_x_1, b_x_1⟩ := dg_I.int (i := 0) (k := 13) (lo := 0) (hi := 1) I sM_0 (by decide +kernel)
  obtain ⟨x_2, f_x_2⟩ : ∃ x, S.2.1 8 (x_1 : Int32).toNatClampNeg = x := ⟨_, rfl⟩
  have hin_3 : vp_in (x_1 : Int32) 2 := (dk_inv (by omega) (by omega))
  have b_x_2 := dk_all_at (dg_I.row (lo := 0) (hi := 6) I sM_8 (by decide +kernel)) hin_3 f_x_2.symm
  refine dg_calli hS hA1 hA (va_runV (As := [.int a1]) (rest := []) F (c_m_isMiner l g D o S a1 x_1 f_x_1 (by omega) x_2 f_x_2 (by omega) I s.heap.size) (cwV 1 hts (bw_V wB_1208 wB_1209 wB_1210 wB_297 wB_1207) rfl rfl rfl (by decide +kernel) ⟨Nat.le_of_ble_eq_true rfl, Nat.le_of_ble_eq_true rfl⟩) (dg_preV sM_0 rfl K ST hP hS hA1 hA) rfl rfl hl.1 rfl (lv_room (Nat.le_of_ble_eq_true rfl)) dX12_heal_2 ⟨Nat.le_of_ble_eq_true rfl, Nat.le_of_ble_eq_true rfl⟩) (fun x_4 S_5 hw_5 H locs hP hS => ?_)
  rw [hw_5.1] at hP
  obtain ⟨hq_5, w_5_0, w_5_1, w_5_2, -⟩ := hw_5
  have w_5_0 : 0 ≤ (x_4).toInt ∧ (x_4).toInt ≤ 1 := w_5_0
  have w_5_1 : (x_4).toInt = 1 → (0 ≤ (a1).toInt ∧ (a1).toInt ≤ 5) := w_5_1
  have w_5_2 : (x_4).toInt = 1 ↔ (0 ≤ (a1).toInt ∧ (a1).toInt < (x_2).toInt) := w_5_2
  refine lv_if_eq (tgt := 21) hx hb dX12_heal_5 (by decide) (fun c_6 => ?_) (fun c_6 => ?_)
  · have jc_6 := dk_eqc (k := 0) (by decide +kernel) c_6
    refine lv_aload_n hx hb dX12_heal_21 rfl (lv_at hl 0 rfl) ?_
    refine lv_iconst (v := 3) hx hb dX12_heal_22 (by decide +kernel) ?_
    have hz_7 : (3 : Int32).toInt = 3 := by decide +kernel
    refine dg_calli hS hA1 hA (va_runV (As := [.int 3]) (rest := []) F (c_m_refuses l g D o S 3 (by decide +kernel) I H.size) (cwV 1 hts (bw_V wB_1079 wB_1080 wB_1081 wB_297 wB_1078) rfl rfl rfl (by decide +kernel) ⟨Nat.le_of_ble_eq_true rfl, Nat.le_of_ble_eq_true rfl⟩) (dg_preV sM_0 rfl K ST hP hS hA1 hA) rfl rfl hl.1 rfl (lv_room (Nat.le_of_ble_eq_true rfl)) dX12_heal_23 ⟨Nat.le_of_ble_eq_true rfl, Nat.le_of_ble_eq_true rfl⟩) (fun x_8 S_9 hw_9 H locs hP hS => ?_)
    obtain ⟨I_9, m_9, w_9_0, -⟩ := hw_9
    have M_9 := dg_sm.tr M_0 m_9 (by decide) (by decide)
    have w_9_0 : (-1) ≤ (x_8).toInt ∧ (x_8).toInt ≤ (-1) := w_9_0
    refine lv_if_lt (tgt := 33) hx hb dX12_heal_26 (by decide) (fun _ => ?_) (fun c => absurd (dk_ltp (k := 0) (by decide +kernel) (by omega)) c)
    refine lv_iconst (v := 0) hx hb dX12_heal_33 (by decide +kernel) ?_
    have hz_10 : (0 : Int32).toInt = 0 := by decide +kernel
    refine W.widen (k := 0) (n := 0) (Nat.le_of_ble_eq_true rfl) (Nat.le_of_ble_eq_true rfl) ?_
    exact dg_iret hx hb hr hlocks (by decide +kernel) hP hS ⟨I_9, M_9, (by decide +kernel), (ZSM.keep ZS m_9 (by decide)), trivial⟩ dX12_heal_34
  · have jc_6 := dk_neqc (k := 0) (by decide +kernel) c_6
    refine lv_aload_n hx hb dX12_heal_8 rfl (lv_at hl 0 rfl) ?_
    refine dg_get (C := RX12) (T := TX12) (N := 77) hx hb hts (fun w h => bw_mem (wU_X12 w h)) hown K hP sM_0 rfl 53 (by decide) (hts _ (bw_mem wB_1130)) (fun _ h9 => h9) (v := .ref (o + 33)) (show S.1 0 53 = .ref (o + 33) from dg_I.rel (d := 33) I sM_0 (by decide +kernel)) dX12_heal_9 ?_
    refine lv_iconst (v := 0) hx hb dX12_heal_12 (by decide +kernel) ?_
    have hin_11 : vp_in (0 : Int32) 22 := (dk_in (by decide +kernel))
    refine dg_iald hx hb K hP sM_33 hin_11 dX12_heal_13 (fun x_12 ex_12 => ?_)
    refine lv_iload_n hx hb dX12_heal_14 rfl (lv_at hl 1 rfl) ?_
    refine dg_calli hS hA1 hA (va_runS (As := [.int x_12, .int a1]) (rest := []) F (c_m_has2 l g D o S x_12 a1 I H.size) (va_cwS 2 hts (bw_S wB_1165 wB_1166 wB_297 wB_1164) rfl rfl rfl (by decide +kernel) ⟨Nat.le_of_ble_eq_true rfl, Nat.le_of_ble_eq_true rfl⟩) (dg_preS K ST hP hS hA1 hA) rfl rfl hl.1 rfl (lv_room (Nat.le_of_ble_eq_true rfl)) dX12_heal_15 ⟨Nat.le_of_ble_eq_true rfl, Nat.le_of_ble_eq_true rfl⟩) (fun x_13 S_14 hw_14 H locs hP hS => ?_)
    rw [hw_14.1] at hP
    obtain ⟨hq_14, w_14_0, -⟩ := hw_14
    have w_14_0 : 0 ≤ (x_13).toInt ∧ (x_13).toInt ≤ 1 := w_14_0
    refine lv_if_ne (tgt := 35) hx hb dX12_heal_18 (by decide) (fun c_15 => ?_) (fun c_15 => ?_)
    · have jc_15 := dk_neqc (k := 0) (by decide +kernel) c_15
      refine lv_aload_n hx hb dX12_heal_35 rfl (lv_at hl 0 rfl) ?_
      obtain ⟨x_16, f_x_16⟩ : ∃ x, S.2.1 29 (0 : Int32).toNatClampNeg = x := ⟨_, rfl⟩
      have hin_17 : vp_in (0 : Int32) 22 := (dk_in (by decide +kernel))
      have b_x_16 := dk_all_at (dg_I.row (lo := 0) (hi := 2000) I sM_29 (by decide +kernel)) hin_17 f_x_16.symm
      have ex_16 := f_x_16.symm
      have hz_18 : (0 : Int32).toInt = 0 := by decide +kernel
      have zs_x_16 : (0 : Int32).toInt ≠ 1 → (x_16).toInt ≤ 999 := fun h => by rw [ex_16]; exact ZS _ (dk_inT hin_17).2 (fun q => by have h9 := (dk_inT hin_17).1; omega)
      refine dg_callv hS hA1 hA (va_runV (As := []) (rest := []) F (c_m_keeps l g D o S x_16 f_x_16 (by omega) ZB ZS I H.size) (cwV 0 hts (bw_V wB_1257 wB_1258 wB_1259 wB_297 wB_1256) rfl rfl rfl (by decide +kernel) ⟨Nat.le_of_ble_eq_true rfl, Nat.le_of_ble_eq_true rfl⟩) (dg_preV sM_0 rfl K ST hP hS hA1 hA) rfl rfl hl.1 rfl (lv_room (Nat.le_of_ble_eq_true rfl)) dX12_heal_36 ⟨Nat.le_of_ble_eq_true rfl, Nat.le_of_ble_eq_true rfl⟩) (fun S_19 hw_19 H locs hP hS => ?_)
      obtain ⟨I_19, m_19, w_19_0, w_19_1, -⟩ := hw_19
      have M_19 := dg_sm.tr M_0 m_19 (by decide) (by decide)
      obtain ⟨x_20, f_x_20⟩ : ∃ x, S_19.2.1 29 (0 : Int32).toNatClampNeg = x := ⟨_, rfl⟩
      have hin_21 : vp_in (0 : Int32) 22 := (dk_in (by decide +kernel))
      have b_x_20 := dk_all_at (dg_I.row (lo := 0) (hi := 2000) I_19 sM_29 (by decide +kernel)) hin_21 f_x_20.symm
      have ex_20 := f_x_20.symm
      have hz_22 : (0 : Int32).toInt = 0 := by decide +kernel
      have zs_x_20 : (0 : Int32).toInt ≠ 1 → (x_20).toInt ≤ 999 := fun h => by rw [ex_20]; exact w_19_1 _ (dk_inT hin_21).2 (fun q => by have h9 := (dk_inT hin_21).1; omega)
      have w_19_0 : (x_20).toInt = (x_16).toInt := w_19_0 x_20 f_x_20
      refine lv_aload_n hx hb dX12_heal_39 rfl (lv_at hl 0 rfl) ?_
      refine dg_get (C := RX12) (T := TX12) (N := 77) hx hb hts (fun w h => bw_mem (wU_X12 w h)) hown K hP sM_0 rfl 53 (by decide) (hts _ (bw_mem wB_1130)) (fun _ h9 => h9) (v := .ref (o + 33)) (show S_19.1 0 53 = .ref (o + 33) from dg_I.rel (d := 33) I_19 sM_0 (by decide +kernel)) dX12_heal_40 ?_
      refine lv_iconst (v := 0) hx hb dX12_heal_43 (by decide +kernel) ?_
      refine lv_dup2_11 hx hb dX12_heal_44 rfl rfl ?_
      have hin_23 : vp_in (0 : Int32) 22 := (dk_in (by decide +kernel))
      refine dg_iald hx hb K hP sM_33 hin_23 dX12_heal_45 (fun x_24 ex_24 => ?_)
      refine lv_iconst (v := 1) hx hb dX12_heal_46 (by decide +kernel) ?_
      refine lv_iload_n hx hb dX12_heal_47 rfl (lv_at hl 1 rfl) ?_
      refine lv_ishl hx hb dX12_heal_48 ?_
      refine lv_topi (fun x_25 ex_25 => ?_)
      refine lv_iconst (v := (-1)) hx hb dX12_heal_49 (by decide +kernel) ?_
      refine lv_ixor hx hb dX12_heal_50 ?_
      refine lv_topi (fun x_26 ex_26 => ?_)
      refine lv_iand hx hb dX12_heal_51 ?_
      refine lv_topi (fun x_27 ex_27 => ?_)
      have hin_28 : vp_in (0 : Int32) 22 := (dk_in (by decide +kernel))
      have hz_30 : (0 : Int32).toInt = 0 := by decide +kernel
      refine dg_iast hx hb K hP hS hA1 sM_33 hin_28 dX12_heal_52 (fun S_29 e_29 H locs hP hS => ?_)
      have I_29 := dg_I.uf0 I_19 e_29 sM_33 (by decide +kernel)
      have M_29 := dg_sm.uf M_19 e_29 sM_33 (by decide)
      refine lv_iconst (v := 1) hx hb dX12_heal_53 (by decide +kernel) ?_
      have hz_31 : (1 : Int32).toInt = 1 := by decide +kernel
      refine W.widen (k := 0) (n := 0) (Nat.le_of_ble_eq_true rfl) (Nat.le_of_ble_eq_true rfl) ?_
      exact dg_iret hx hb hr hlocks (by decide +kernel) hP hS ⟨I_29, M_29, (by decide +kernel), (ZSM.keep w_19_1 (dg_sm.uf (WF := []) (WA := [33]) dg_sm.rf e_29 sM_33 (by decide)) (by decide)), trivial⟩ dX12_heal_54
    · have jc_15 := dk_eqc (k := 0) (by decide +kernel) c_15
      refine lv_aload_n hx hb dX12_heal_21 rfl (lv_at hl 0 rfl) ?_
      refine lv_iconst (v := 3) hx hb dX12_heal_22 (by decide +kernel) ?_
      have hz_32 : (3 : Int32).toInt = 3 := by decide +kernel
      refine dg_calli hS hA1 hA (va_runV (As := [.int 3]) (rest := []) F (c_m_refuses l g D o S 3 (by decide +kernel) I H.size) (cwV 1 hts (bw_V wB_1079 wB_1080 wB_1081 wB_297 wB_1078) rfl rfl rfl (by decide +kernel) ⟨Nat.le_of_ble_eq_true rfl, Nat.le_of_ble_eq_true rfl⟩) (dg_preV sM_0 rfl K ST hP hS hA1 hA) rfl rfl hl.1 rfl (lv_room (Nat.le_of_ble_eq_true rfl)) dX12_heal_23 ⟨Nat.le_of_ble_eq_true rfl, Nat.le_of_ble_eq_true rfl⟩) (fun x_33 S_34 hw_34 H locs hP hS => ?_)
      obtain ⟨I_34, m_34, w_34_0, -⟩ := hw_34
      have M_34 := dg_sm.tr M_0 m_34 (by decide) (by decide)
      have w_34_0 : (-1) ≤ (x_33).toInt ∧ (x_33).toInt ≤ (-1) := w_34_0
      refine lv_if_lt (tgt := 33) hx hb dX12_heal_26 (by decide) (fun _ => ?_) (fun c => absurd (dk_ltp (k := 0) (by decide +kernel) (by omega)) c)
      refine lv_iconst (v := 0) hx hb dX12_heal_33 (by decide +kernel) ?_
      have hz_35 : (0 : Int32).toInt = 0 := by decide +kernel
      refine W.widen (k := 0) (n := 0) (Nat.le_of_ble_eq_true rfl) (Nat.le_of_ble_eq_true rfl) ?_
      exact dg_iret hx hb hr hlocks (by decide +kernel) hP hS ⟨I_34, M_34, (by decide +kernel), (ZSM.keep ZS m_34 (by decide)), trivial⟩ dX12_heal_34
set_option maxHeartbeats 8000000 in
set_option maxRecDepth 100000 in
theorem c_m_sell (l : Launch) (g : Nat → ClassId) (D : va_G) (o : Nat) (S : dg_S) (a1 : Int32) (ZB : ZBM S) (ZS : ZSM S) (ZW : ZWM S) (I : CM o S) (sz : Nat) : Met l yX12_sell (bw yX12_sell cX12_sell 5 (some .int)) ({ frames := 3, cells := 0, slots := 0, locals := 77 } : Room) (dk_Pc g D (dg_w g shM o rfM S) sz [.ref (o + 0), .int a1]) (va_Qi (fun (r : Int32) S' => CM o S' ∧ dg_sm shM [(0, 60), (0, 61)] [28, 29, 30, 31, 32, 33, 34, 35, 36, 37, 38, 39] S S' ∧ ((-2147483648) ≤ (r).toInt ∧ (r).toInt ≤ 99999) ∧ ZSM S' ∧ True) (dg_B g D shM o rfM) (dg_A o shM.length sz)) 0 0 (dg_A o shM.length sz) := by
  refine dg_met (cc := cX12_sell) (maxL := 5) (ret := (some .int)) (by decide) rfl (Nat.le_of_ble_eq_true rfl) ?_
  intro p e s m args below meth c A hAe harg hx hb hr hml hts hown hlocks hin hP K hS hA1 hA ST hsz ls hl
  rw [← hAe]
  have F : CallFix p m c cX12_sell 5 s args (bw yX12_sell cX12_sell 5 (some .int)) RX12 := ⟨hx, hb, hml, hown, hts⟩
  have hl : lv_has ls 5 [(0, .ref (o + 0)), (1, .int a1)] := hl
  have M_0 : dg_sm shM [(0, 60), (0, 61)] [28, 29, 30, 31, 32, 33, 34, 35, 36, 37, 38, 39] S S := dg_sm.rf
  refine lv_aload_n hx hb dX12_sell_0 rfl (lv_at hl 0 rfl) ?_
  refine lv_iload_n hx hb dX12_sell_1 rfl (lv_at hl 1 rfl) ?_
  refine dg_calli hS hA1 hA (va_runV (As := [.int a1]) (rest := []) F (c_m_canSell l g D o S a1 I s.heap.size) (cwV 1 hts (bw_V wB_1219 wB_1220 wB_1221 wB_297 wB_1218) rfl rfl rfl (by decide +kernel) ⟨Nat.le_of_ble_eq_true rfl, Nat.le_of_ble_eq_true rfl⟩) (dg_preV sM_0 rfl K ST hP hS hA1 hA) rfl rfl hl.1 rfl (lv_room (Nat.le_of_ble_eq_true rfl)) dX12_sell_2 ⟨Nat.le_of_ble_eq_true rfl, Nat.le_of_ble_eq_true rfl⟩) (fun x_1 S_2 hw_2 H locs hP hS => ?_)
  rw [hw_2.1] at hP
  obtain ⟨hq_2, w_2_0, w_2_1, -⟩ := hw_2
  have w_2_0 : 0 ≤ (x_1).toInt ∧ (x_1).toInt ≤ 1 := w_2_0
  have w_2_1 : (x_1).toInt = 1 → (0 ≤ (a1).toInt ∧ (a1).toInt ≤ 4) := w_2_1
  refine lv_if_ne (tgt := 14) hx hb dX12_sell_5 (by decide) (fun c_3 => ?_) (fun c_3 => ?_)
  · have jc_3 := dk_neqc (k := 0) (by decide +kernel) c_3
    refine lv_aload_n hx hb dX12_sell_14 rfl (lv_at hl 0 rfl) ?_
    obtain ⟨x_4, f_x_4⟩ : ∃ x, S.2.1 29 (0 : Int32).toNatClampNeg = x := ⟨_, rfl⟩
    have hin_5 : vp_in (0 : Int32) 22 := (dk_in (by decide +kernel))
    have b_x_4 := dk_all_at (dg_I.row (lo := 0) (hi := 2000) I sM_29 (by decide +kernel)) hin_5 f_x_4.symm
    have ex_4 := f_x_4.symm
    have hz_6 : (0 : Int32).toInt = 0 := by decide +kernel
    have zs_x_4 : (0 : Int32).toInt ≠ 1 → (x_4).toInt ≤ 999 := fun h => by rw [ex_4]; exact ZS _ (dk_inT hin_5).2 (fun q => by have h9 := (dk_inT hin_5).1; omega)
    refine dg_callv hS hA1 hA (va_runV (As := []) (rest := []) F (c_m_keeps l g D o S x_4 f_x_4 (by omega) ZB ZS I H.size) (cwV 0 hts (bw_V wB_1257 wB_1258 wB_1259 wB_297 wB_1256) rfl rfl rfl (by decide +kernel) ⟨Nat.le_of_ble_eq_true rfl, Nat.le_of_ble_eq_true rfl⟩) (dg_preV sM_0 rfl K ST hP hS hA1 hA) rfl rfl hl.1 rfl (lv_room (Nat.le_of_ble_eq_true rfl)) dX12_sell_15 ⟨Nat.le_of_ble_eq_true rfl, Nat.le_of_ble_eq_true rfl⟩) (fun S_7 hw_7 H locs hP hS => ?_)
    obtain ⟨I_7, m_7, w_7_0, w_7_1, -⟩ := hw_7
    have M_7 := dg_sm.tr M_0 m_7 (by decide) (by decide)
    obtain ⟨x_8, f_x_8⟩ : ∃ x, S_7.2.1 29 (0 : Int32).toNatClampNeg = x := ⟨_, rfl⟩
    have hin_9 : vp_in (0 : Int32) 22 := (dk_in (by decide +kernel))
    have b_x_8 := dk_all_at (dg_I.row (lo := 0) (hi := 2000) I_7 sM_29 (by decide +kernel)) hin_9 f_x_8.symm
    have ex_8 := f_x_8.symm
    have hz_10 : (0 : Int32).toInt = 0 := by decide +kernel
    have zs_x_8 : (0 : Int32).toInt ≠ 1 → (x_8).toInt ≤ 999 := fun h => by rw [ex_8]; exact w_7_1 _ (dk_inT hin_9).2 (fun q => by have h9 := (dk_inT hin_9).1; omega)
    have w_7_0 : (x_8).toInt = (x_4).toInt := w_7_0 x_8 f_x_8
    refine lv_aload_n hx hb dX12_sell_18 rfl (lv_at hl 0 rfl) ?_
    refine dg_get (C := RX12) (T := TX12) (N := 77) hx hb hts (fun w h => bw_mem (wU_X12 w h)) hown K hP sM_0 rfl 26 (by decide) (hts _ (bw_mem wB_399)) (fun _ h9 => h9) (v := .ref (o + 14)) (show S_7.1 0 26 = .ref (o + 14) from dg_I.rel (d := 14) I_7 sM_0 (by decide +kernel)) dX12_sell_19 ?_
    refine lv_iconst (v := 5) hx hb dX12_sell_22 (by decide +kernel) ?_
    refine lv_aload_n hx hb dX12_sell_23 rfl (lv_at hl 0 rfl) ?_
    obtain ⟨x_11, f_x_11, b_x_11⟩ := dg_I.int (i := 0) (k := 13) (lo := 0) (hi := 1) I sM_0 (by decide +kernel)
    refine dg_get (C := RX12) (T := TX12) (N := 77) hx hb hts (fun w h => bw_mem (wU_X12 w h)) hown K hP sM_0 rfl 13 (by decide) (hts _ (bw_mem wB_1085)) (fun _ h9 => h9) (v := .int x_11) ((m_7.1 0 13 _ sM_0 (by decide)).trans f_x_11) dX12_sell_24 ?_
    refine lv_imul hx hb dX12_sell_27 ?_
    refine lv_topi (fun x_12 ex_12 => ?_)
    have jx_12 : (x_12).toInt = 5 * (x_11).toInt := by rw [ex_12]; exact dk_mulT (by decide +kernel) rfl (by omega) (by omega)
    refine lv_iload_n hx hb dX12_sell_28 rfl (lv_at hl 1 rfl) ?_
    refine lv_iadd hx hb dX12_sell_29 ?_
    refine lv_topi (fun x_13 ex_13 => ?_)
    have jx_13 : (x_13).toInt = (x_12).toInt + (a1).toInt := by rw [ex_13]; exact dk_addT rfl rfl (by omega) (by omega)
    have hin_14 : vp_in x_13 10 := (dk_inv (by omega) (by omega))
    refine dg_iald hx hb K hP sM_14 hin_14 dX12_sell_30 (fun x_15 ex_15 => ?_)
    refine lv_istore_n (lv' := [(2, .int x_15), (0, .ref (o + 0)), (1, .int a1)]) hx hb dX12_sell_31 rfl hl (by decide) rfl (fun ls hl => ?_)
    refine lv_aload_n hx hb dX12_sell_32 rfl (lv_at hl 1 rfl) ?_
    refine dg_get (C := RX12) (T := TX12) (N := 77) hx hb hts (fun w h => bw_mem (wU_X12 w h)) hown K hP sM_0 rfl 25 (by decide) (hts _ (bw_mem wB_398)) (fun _ h9 => h9) (v := .ref (o + 13)) (show S_7.1 0 25 = .ref (o + 13) from dg_I.rel (d := 13) I_7 sM_0 (by decide +kernel)) dX12_sell_33 ?_
    refine lv_iconst (v := 5) hx hb dX12_sell_36 (by decide +kernel) ?_
    refine lv_aload_n hx hb dX12_sell_37 rfl (lv_at hl 1 rfl) ?_
    refine dg_get (C := RX12) (T := TX12) (N := 77) hx hb hts (fun w h => bw_mem (wU_X12 w h)) hown K hP sM_0 rfl 13 (by decide) (hts _ (bw_mem wB_1085)) (fun _ h9 => h9) (v := .int x_11) ((m_7.1 0 13 _ sM_0 (by decide)).trans f_x_11) dX12_sell_38 ?_
    refine lv_imul hx hb dX12_sell_41 ?_
    refine lv_topi (fun x_16 ex_16 => ?_)
    have jx_16 : (x_16).toInt = 5 * (x_11).toInt := by rw [ex_16]; exact dk_mulT (by decide +kernel) rfl (by omega) (by omega)
    refine lv_iload_n hx hb dX12_sell_42 rfl (lv_at hl 2 rfl) ?_
    refine lv_iadd hx hb dX12_sell_43 ?_
    refine lv_topi (fun x_17 ex_17 => ?_)
    have jx_17 : (x_17).toInt = (x_16).toInt + (a1).toInt := by rw [ex_17]; exact dk_addT rfl rfl (by omega) (by omega)
    have hin_18 : vp_in x_17 10 := (dk_inv (by omega) (by omega))
    refine dg_iald hx hb K hP sM_13 hin_18 dX12_sell_44 (fun x_19 ex_19 => ?_)
    have b_x_19 := dk_all_at (dg_I.row (lo := 0) (hi := 9999) I_7 sM_13 (by decide +kernel)) hin_18 ex_19
    refine lv_istore_n (lv' := [(3, .int x_19), (2, .int x_15), (0, .ref (o + 0)), (1, .int a1)]) hx hb dX12_sell_45 rfl hl (by decide) rfl (fun ls hl => ?_)
    have J_112 : ∀ (x_80 : Int32) (x_81 : Int32), (10 ≤ (x_80).toInt ∧ (x_80).toInt ≤ 9999) → ∀ S_111 : dg_S, CM o S_111 → dg_sm shM [(0, 60), (0, 61)] [28, 29, 30, 31, 32, 33, 34, 35, 36, 37, 38, 39] S S_111 → S_111.2.1 29 (0 : Int32).toNatClampNeg = x_8 → ZSM S_111 → ∀ (H : Heap) (locs : List Loc), va_P D vwCl (dg_w g shM o rfM S_111) H → va_S A s.heap H locs → ∀ ls : Array Slot, lv_has ls 5 [(3, .int x_80), (2, .int x_81), (0, .ref (o + 0)), (1, .int a1)] → W p l e ({ frames := 3, cells := 0, slots := 0, locals := 77 } : Room) s m args below meth c H locs 0 0 (MQ below (va_Qi (fun (r : Int32) S' => CM o S' ∧ dg_sm shM [(0, 60), (0, 61)] [28, 29, 30, 31, 32, 33, 34, 35, 36, 37, 38, 39] S S' ∧ ((-2147483648) ≤ (r).toInt ∧ (r).toInt ≤ 99999) ∧ ZSM S' ∧ True) (dg_B g D shM o rfM) A) args s 0 0 A) (F0 m 96 ls []) := by
      intro x_80 x_81 b_x_80 S_111 I_111 M_111 frw_111_0 ZS_111 H locs hP hS ls hl
      refine lv_aload_n hx hb dX12_sell_96 rfl (lv_at hl 2 rfl) ?_
      refine dg_get (C := RX12) (T := TX12) (N := 77) hx hb hts (fun w h => bw_mem (wU_X12 w h)) hown K hP sM_0 rfl 54 (by decide) (hts _ (bw_mem wB_1131)) (fun _ h9 => h9) (v := .ref (o + 34)) (show S_111.1 0 54 = .ref (o + 34) from dg_I.rel (d := 34) I_111 sM_0 (by decide +kernel)) dX12_sell_97 ?_
      refine lv_iconst (v := 0) hx hb dX12_sell_100 (by decide +kernel) ?_
      refine lv_dup2_11 hx hb dX12_sell_101 rfl rfl ?_
      have hin_113 : vp_in (0 : Int32) 22 := (dk_in (by decide +kernel))
      refine dg_iald hx hb K hP sM_34 hin_113 dX12_sell_102 (fun x_114 ex_114 => ?_)
      refine lv_iconst (v := 1) hx hb dX12_sell_103 (by decide +kernel) ?_
      refine lv_iload_n hx hb dX12_sell_104 rfl (lv_at hl 3 rfl) ?_
      refine lv_ishl hx hb dX12_sell_105 ?_
      refine lv_topi (fun x_115 ex_115 => ?_)
      refine lv_ior hx hb dX12_sell_106 ?_
      refine lv_topi (fun x_116 ex_116 => ?_)
      have hin_117 : vp_in (0 : Int32) 22 := (dk_in (by decide +kernel))
      have hz_119 : (0 : Int32).toInt = 0 := by decide +kernel
      refine dg_iast hx hb K hP hS hA1 sM_34 hin_117 dX12_sell_107 (fun S_118 e_118 H locs hP hS => ?_)
      have I_118 := dg_I.uf0 I_111 e_118 sM_34 (by decide +kernel)
      have M_118 := dg_sm.uf M_111 e_118 sM_34 (by decide)
      refine lv_aload_n hx hb dX12_sell_108 rfl (lv_at hl 2 rfl) ?_
      refine dg_get (C := RX12) (T := TX12) (N := 77) hx hb hts (fun w h => bw_mem (wU_X12 w h)) hown K hP sM_0 rfl 50 (by decide) (hts _ (bw_mem wB_1129)) (fun _ h9 => h9) (v := .ref (o + 30)) (show S_118.1 0 50 = .ref (o + 30) from dg_I.rel (d := 30) I_118 sM_0 (by decide +kernel)) dX12_sell_109 ?_
      refine lv_iconst (v := 0) hx hb dX12_sell_112 (by decide +kernel) ?_
      have hin_120 : vp_in (0 : Int32) 22 := (dk_in (by decide +kernel))
      refine dg_iald hx hb K hP sM_30 hin_120 dX12_sell_113 (fun x_121 ex_121 => ?_)
      refine lv_aload_n hx hb dX12_sell_114 rfl (lv_at hl 2 rfl) ?_
      refine dg_get (C := RX12) (T := TX12) (N := 77) hx hb hts (fun w h => bw_mem (wU_X12 w h)) hown K hP sM_0 rfl 27 (by decide) (hts _ (bw_mem wB_400)) (fun _ h9 => h9) (v := .ref (o + 15)) (show S_118.1 0 27 = .ref (o + 15) from dg_I.rel (d := 15) I_118 sM_0 (by decide +kernel)) dX12_sell_115 ?_
      refine lv_iconst (v := 5) hx hb dX12_sell_118 (by decide +kernel) ?_
      refine lv_aload_n hx hb dX12_sell_119 rfl (lv_at hl 2 rfl) ?_
      refine dg_get (C := RX12) (T := TX12) (N := 77) hx hb hts (fun w h => bw_mem (wU_X12 w h)) hown K hP sM_0 rfl 13 (by decide) (hts _ (bw_mem wB_1085)) (fun _ h9 => h9) (v := .int x_11) (((dg_uf_F e_118 0 13).trans (M_111.1 0 13 _ sM_0 (by decide))).trans f_x_11) dX12_sell_120 ?_
      refine lv_imul hx hb dX12_sell_123 ?_
      refine lv_topi (fun x_122 ex_122 => ?_)
      have jx_122 : (x_122).toInt = 5 * (x_11).toInt := by rw [ex_122]; exact dk_mulT (by decide +kernel) rfl (by omega) (by omega)
      refine lv_iload_n hx hb dX12_sell_124 rfl (lv_at hl 3 rfl) ?_
      refine lv_iadd hx hb dX12_sell_125 ?_
      refine lv_topi (fun x_123 ex_123 => ?_)
      have jx_123 : (x_123).toInt = (x_122).toInt + (a1).toInt := by rw [ex_123]; exact dk_addT rfl rfl (by omega) (by omega)
      have hin_124 : vp_in x_123 10 := (dk_inv (by omega) (by omega))
      refine dg_iald hx hb K hP sM_15 hin_124 dX12_sell_126 (fun x_125 ex_125 => ?_)
      refine lv_iadd hx hb dX12_sell_127 ?_
      refine lv_topi (fun x_126 ex_126 => ?_)
      refine lv_istore_n (lv' := [(3, .int x_126), (2, .int x_81), (0, .ref (o + 0)), (1, .int a1)]) hx hb dX12_sell_128 rfl hl (by decide) rfl (fun ls hl => ?_)
      refine lv_aload_n hx hb dX12_sell_129 rfl (lv_at hl 2 rfl) ?_
      refine dg_get (C := RX12) (T := TX12) (N := 77) hx hb hts (fun w h => bw_mem (wU_X12 w h)) hown K hP sM_0 rfl 50 (by decide) (hts _ (bw_mem wB_1129)) (fun _ h9 => h9) (v := .ref (o + 30)) (show S_118.1 0 50 = .ref (o + 30) from dg_I.rel (d := 30) I_118 sM_0 (by decide +kernel)) dX12_sell_130 ?_
      refine lv_iconst (v := 0) hx hb dX12_sell_133 (by decide +kernel) ?_
      refine lv_iload_n hx hb dX12_sell_134 rfl (lv_at hl 0 rfl) ?_
      refine lv_ldcw hx hb hown (hts _ (bw_mem wB_1260)) dX12_sell_135 ?_
      refine lv_icmp_le (tgt := 147) hx hb dX12_sell_138 (by decide) (fun c_127 => ?_) (fun c_127 => ?_)
      · have jc_127 := dk_lec (k := 99999) (by decide +kernel) c_127
        refine lv_iload_n hx hb dX12_sell_147 rfl (lv_at hl 0 rfl) ?_
        have hin_128 : vp_in (0 : Int32) 22 := (dk_in (by decide +kernel))
        have hz_130 : (0 : Int32).toInt = 0 := by decide +kernel
        refine dg_iast hx hb K hP hS hA1 sM_30 hin_128 dX12_sell_148 (fun S_129 e_129 H locs hP hS => ?_)
        have I_129 := dg_I.uf0 I_118 e_129 sM_30 (by decide +kernel)
        have M_129 := dg_sm.uf M_118 e_129 sM_30 (by decide)
        refine lv_aload_n hx hb dX12_sell_149 rfl (lv_at hl 2 rfl) ?_
        refine dg_get (C := RX12) (T := TX12) (N := 77) hx hb hts (fun w h => bw_mem (wU_X12 w h)) hown K hP sM_0 rfl 50 (by decide) (hts _ (bw_mem wB_1129)) (fun _ h9 => h9) (v := .ref (o + 30)) (show S_129.1 0 50 = .ref (o + 30) from dg_I.rel (d := 30) I_129 sM_0 (by decide +kernel)) dX12_sell_150 ?_
        refine lv_iconst (v := 0) hx hb dX12_sell_153 (by decide +kernel) ?_
        have hin_131 : vp_in (0 : Int32) 22 := (dk_in (by decide +kernel))
        refine dg_iald hx hb K hP sM_30 hin_131 dX12_sell_154 (fun y_132 ey_132 => ?_)
        obtain rfl : x_126 = y_132 := (ey_132.trans ((congrFun (dg_uf_at e_129) _).trans (dg_upd_at rfl))).symm
        have hf_132 := dk_full x_126
        refine W.widen (k := 0) (n := 0) (Nat.le_of_ble_eq_true rfl) (Nat.le_of_ble_eq_true rfl) ?_
        exact dg_iret hx hb hr hlocks rfl hP hS ⟨I_129, M_129, (by omega), (ZSM.keep (ZSM.keep ZS_111 (dg_sm.uf (WF := []) (WA := [34]) dg_sm.rf e_118 sM_34 (by decide)) (by decide)) (dg_sm.uf (WF := []) (WA := [30]) dg_sm.rf e_129 sM_30 (by decide)) (by decide)), trivial⟩ dX12_sell_155
      · have jc_127 := dk_nlec (k := 99999) (by decide +kernel) c_127
        refine lv_ldcw hx hb hown (hts _ (bw_mem wB_1260)) dX12_sell_141 ?_
        refine lv_goto (tgt := 148) hx hb dX12_sell_144 (by decide) ?_
        have hin_134 : vp_in (0 : Int32) 22 := (dk_in (by decide +kernel))
        have hz_136 : (0 : Int32).toInt = 0 := by decide +kernel
        have hz_137 : (99999 : Int32).toInt = 99999 := by decide +kernel
        refine dg_iast hx hb K hP hS hA1 sM_30 hin_134 dX12_sell_148 (fun S_135 e_135 H locs hP hS => ?_)
        have I_135 := dg_I.uf0 I_118 e_135 sM_30 (by decide +kernel)
        have M_135 := dg_sm.uf M_118 e_135 sM_30 (by decide)
        refine lv_aload_n hx hb dX12_sell_149 rfl (lv_at hl 2 rfl) ?_
        refine dg_get (C := RX12) (T := TX12) (N := 77) hx hb hts (fun w h => bw_mem (wU_X12 w h)) hown K hP sM_0 rfl 50 (by decide) (hts _ (bw_mem wB_1129)) (fun _ h9 => h9) (v := .ref (o + 30)) (show S_135.1 0 50 = .ref (o + 30) from dg_I.rel (d := 30) I_135 sM_0 (by decide +kernel)) dX12_sell_150 ?_
        refine lv_iconst (v := 0) hx hb dX12_sell_153 (by decide +kernel) ?_
        have hin_138 : vp_in (0 : Int32) 22 := (dk_in (by decide +kernel))
        refine dg_iald hx hb K hP sM_30 hin_138 dX12_sell_154 (fun y_139 ey_139 => ?_)
        obtain rfl : 99999 = y_139 := (ey_139.trans ((congrFun (dg_uf_at e_135) _).trans (dg_upd_at rfl))).symm
        have hz_140 : (99999 : Int32).toInt = 99999 := by decide +kernel
        refine W.widen (k := 0) (n := 0) (Nat.le_of_ble_eq_true rfl) (Nat.le_of_ble_eq_true rfl) ?_
        exact dg_iret hx hb hr hlocks rfl hP hS ⟨I_135, M_135, (by decide +kernel), (ZSM.keep (ZSM.keep ZS_111 (dg_sm.uf (WF := []) (WA := [34]) dg_sm.rf e_118 sM_34 (by decide)) (by decide)) (dg_sm.uf (WF := []) (WA := [30]) dg_sm.rf e_135 sM_30 (by decide)) (by decide)), trivial⟩ dX12_sell_155
    have L_183 : ∀ (n : Nat) (x_180 : Int32) (x_181 : Int32), (0 ≤ (x_180).toInt ∧ (x_180).toInt ≤ 9999) → ((10000 - (x_180).toInt).toNat < n) → ∀ S_182 : dg_S, CM o S_182 → dg_sm shM [(0, 60), (0, 61)] [28, 29, 30, 31, 32, 33, 34, 35, 36, 37, 38, 39] S S_182 → S_182.2.1 29 (0 : Int32).toNatClampNeg = x_8 → ZSM S_182 → ∀ (H : Heap) (locs : List Loc), va_P D vwCl (dg_w g shM o rfM S_182) H → va_S A s.heap H locs → ∀ ls : Array Slot, lv_has ls 5 [(3, .int x_180), (2, .int x_181), (0, .ref (o + 0)), (1, .int a1)] → W p l e ({ frames := 3, cells := 0, slots := 0, locals := 77 } : Room) s m args below meth c H locs 0 0 (MQ below (va_Qi (fun (r : Int32) S' => CM o S' ∧ dg_sm shM [(0, 60), (0, 61)] [28, 29, 30, 31, 32, 33, 34, 35, 36, 37, 38, 39] S S' ∧ ((-2147483648) ≤ (r).toInt ∧ (r).toInt ≤ 99999) ∧ ZSM S' ∧ True) (dg_B g D shM o rfM) A) args s 0 0 A) (F0 m 46 ls []) := by
      intro n
      induction n with
      | zero =>
        intro x_180 x_181 b_x_180 hmu S_182 I_182 M_182 frw_182_0 ZS_182 H locs hP hS ls hl
        omega
      | succ n ih =>
        intro x_180 x_181 b_x_180 hmu S_182 I_182 M_182 frw_182_0 ZS_182 H locs hP hS ls hl
        refine lv_iload_n hx hb dX12_sell_46 rfl (lv_at hl 0 rfl) ?_
        refine lv_bipush (v := 10) hx hb dX12_sell_47 (by decide +kernel) ?_
        refine lv_icmp_ge (tgt := 96) hx hb dX12_sell_49 (by decide) (fun c_184 => ?_) (fun c_184 => ?_)
        · have jc_184 := dk_gec (k := 10) (by decide +kernel) c_184
          exact J_112 x_180 x_181 (by omega) S_182 I_182 M_182 frw_182_0 ZS_182 _ _ hP hS _ (lv_sub hl [0, 1, 2, 3] rfl)
        · have jc_184 := dk_ngec (k := 10) (by decide +kernel) c_184
          refine lv_aload_n hx hb dX12_sell_52 rfl (lv_at hl 2 rfl) ?_
          refine dg_get (C := RX12) (T := TX12) (N := 77) hx hb hts (fun w h => bw_mem (wU_X12 w h)) hown K hP sM_0 rfl 57 (by decide) (hts _ (bw_mem wB_1117)) (fun _ h9 => h9) (v := .ref (o + 37)) (show S_182.1 0 57 = .ref (o + 37) from dg_I.rel (d := 37) I_182 sM_0 (by decide +kernel)) dX12_sell_53 ?_
          refine lv_iload_n hx hb dX12_sell_56 rfl (lv_at hl 0 rfl) ?_
          have hin_185 : vp_in x_180 220 := (dk_inv (by omega) (by omega))
          refine dg_iald hx hb K hP sM_37 hin_185 dX12_sell_57 (fun x_186 ex_186 => ?_)
          refine lv_iload_n hx hb dX12_sell_58 rfl (lv_at hl 1 rfl) ?_
          have J_202 : ∀ (x_194 : Int32), ∀ (H : Heap) (locs : List Loc), va_P D vwCl (dg_w g shM o rfM S_182) H → va_S A s.heap H locs → ∀ ls : Array Slot, lv_has ls 5 [(3, .int x_180), (2, .int x_181), (0, .ref (o + 0)), (1, .int a1)] → W p l e ({ frames := 3, cells := 0, slots := 0, locals := 77 } : Room) s m args below meth c H locs 0 0 (MQ below (va_Qi (fun (r : Int32) S' => CM o S' ∧ dg_sm shM [(0, 60), (0, 61)] [28, 29, 30, 31, 32, 33, 34, 35, 36, 37, 38, 39] S S' ∧ ((-2147483648) ≤ (r).toInt ∧ (r).toInt ≤ 99999) ∧ ZSM S' ∧ True) (dg_B g D shM o rfM) A) args s 0 0 A) (F0 m 72 ls [.int x_194]) := by
            intro x_194 H locs hP hS ls hl
            refine lv_istore (lv' := [(4, .int x_194), (3, .int x_180), (2, .int x_181), (0, .ref (o + 0)), (1, .int a1)]) hx hb dX12_sell_72 hl (by decide) rfl (fun ls hl => ?_)
            refine lv_aload_n hx hb dX12_sell_74 rfl (lv_at hl 3 rfl) ?_
            refine dg_get (C := RX12) (T := TX12) (N := 77) hx hb hts (fun w h => bw_mem (wU_X12 w h)) hown K hP sM_0 rfl 57 (by decide) (hts _ (bw_mem wB_1117)) (fun _ h9 => h9) (v := .ref (o + 37)) (show S_182.1 0 57 = .ref (o + 37) from dg_I.rel (d := 37) I_182 sM_0 (by decide +kernel)) dX12_sell_75 ?_
            refine lv_iload_n hx hb dX12_sell_78 rfl (lv_at hl 1 rfl) ?_
            refine lv_dup2_11 hx hb dX12_sell_79 rfl rfl ?_
            have hin_203 : vp_in x_180 220 := (dk_inv (by omega) (by omega))
            refine dg_iald hx hb K hP sM_37 hin_203 dX12_sell_80 (fun y_204 ey_204 => ?_)
            obtain rfl : x_186 = y_204 := (ey_204.trans ex_186.symm).symm
            refine lv_iload hx hb dX12_sell_81 (lv_at hl 0 rfl) ?_
            refine lv_isub hx hb dX12_sell_83 ?_
            refine lv_topi (fun x_205 ex_205 => ?_)
            have hin_206 : vp_in x_180 220 := (dk_inv (by omega) (by omega))
            refine dg_iast hx hb K hP hS hA1 sM_37 hin_206 dX12_sell_84 (fun S_207 e_207 H locs hP hS => ?_)
            have I_207 := dg_I.uf0 I_182 e_207 sM_37 (by decide +kernel)
            have M_207 := dg_sm.uf M_182 e_207 sM_37 (by decide)
            refine lv_iload_n hx hb dX12_sell_85 rfl (lv_at hl 2 rfl) ?_
            refine lv_iload hx hb dX12_sell_86 (lv_at hl 0 rfl) ?_
            refine lv_isub hx hb dX12_sell_88 ?_
            refine lv_topi (fun x_208 ex_208 => ?_)
            refine lv_istore_n (lv' := [(2, .int x_208), (4, .int x_194), (3, .int x_180), (0, .ref (o + 0)), (1, .int a1)]) hx hb dX12_sell_89 rfl hl (by decide) rfl (fun ls hl => ?_)
            obtain ⟨x_209, ex_209⟩ : ∃ z, z = x_180 + 1 := ⟨_, rfl⟩
            have jx_209 : (x_209).toInt = (x_180).toInt + 1 := by rw [ex_209]; exact dk_addT rfl (by decide +kernel) (by omega) (by omega)
            refine lv_iinc (v := x_209) (lv' := [(3, .int x_209), (2, .int x_208), (4, .int x_194), (0, .ref (o + 0)), (1, .int a1)]) hx hb dX12_sell_90 hl (k := 2) rfl (by rw [ex_209]; rfl) (by decide) rfl (fun ls hl => ?_)
            refine lv_goto (tgt := 46) hx hb dX12_sell_93 (by decide) ?_
            exact ih x_209 x_208 (by omega) (by omega) S_207 I_207 M_207 ((congrFun (dg_uf_ne e_207 (by decide)) _).trans frw_182_0) (ZSM.keep ZS_182 (dg_sm.uf (WF := []) (WA := [37]) dg_sm.rf e_207 sM_37 (by decide)) (by decide)) _ _ hP hS _ (lv_sub hl [0, 1, 3, 4] rfl)
          refine lv_icmp_ge (tgt := 71) hx hb dX12_sell_59 (by decide) (fun c_210 => ?_) (fun c_210 => ?_)
          · have hf_210 := dk_full x_186
            have hf_211 := dk_full x_181
            have jc_210 := dk_gec (k := (x_181).toInt) rfl c_210
            refine lv_iload_n hx hb dX12_sell_71 rfl (lv_at hl 1 rfl) ?_
            exact J_202 x_181  _ _ hP hS _ (lv_sub hl [0, 1, 2, 3] rfl)
          · have hf_212 := dk_full x_186
            have hf_213 := dk_full x_181
            have jc_210 := dk_ngec (k := (x_181).toInt) rfl c_210
            refine lv_aload_n hx hb dX12_sell_62 rfl (lv_at hl 2 rfl) ?_
            refine dg_get (C := RX12) (T := TX12) (N := 77) hx hb hts (fun w h => bw_mem (wU_X12 w h)) hown K hP sM_0 rfl 57 (by decide) (hts _ (bw_mem wB_1117)) (fun _ h9 => h9) (v := .ref (o + 37)) (show S_182.1 0 57 = .ref (o + 37) from dg_I.rel (d := 37) I_182 sM_0 (by decide +kernel)) dX12_sell_63 ?_
            refine lv_iload_n hx hb dX12_sell_66 rfl (lv_at hl 0 rfl) ?_
            have hin_215 : vp_in x_180 220 := (dk_inv (by omega) (by omega))
            refine dg_iald hx hb K hP sM_37 hin_215 dX12_sell_67 (fun y_216 ey_216 => ?_)
            obtain rfl : x_186 = y_216 := (ey_216.trans ex_186.symm).symm
            refine lv_goto (tgt := 72) hx hb dX12_sell_68 (by decide) ?_
            exact J_202 x_186  _ _ hP hS _ (lv_sub hl [0, 1, 2, 3] rfl)
    exact L_183 ((10000 - ((x_19 : Int32)).toInt).toNat + 1) x_19 x_15 (by omega) (by omega) S_7 I_7 M_7 f_x_8 w_7_1 _ _ hP hS _ (lv_sub hl [0, 1, 2, 3] rfl)
  · have jc_3 := dk_eqc (k := 0) (by decide +kernel) c_3
    refine lv_aload_n hx hb dX12_sell_8 rfl (lv_at hl 0 rfl) ?_
    refine lv_iconst (v := 3) hx hb dX12_sell_9 (by decide +kernel) ?_
    have hz_217 : (3 : Int32).toInt = 3 := by decide +kernel
    refine dg_calli hS hA1 hA (va_runV (As := [.int 3]) (rest := []) F (c_m_refuses l g D o S 3 (by decide +kernel) I H.size) (cwV 1 hts (bw_V wB_1079 wB_1080 wB_1081 wB_297 wB_1078) rfl rfl rfl (by decide +kernel) ⟨Nat.le_of_ble_eq_true rfl, Nat.le_of_ble_eq_true rfl⟩) (dg_preV sM_0 rfl K ST hP hS hA1 hA) rfl rfl hl.1 rfl (lv_room (Nat.le_of_ble_eq_true rfl)) dX12_sell_10 ⟨Nat.le_of_ble_eq_true rfl, Nat.le_of_ble_eq_true rfl⟩) (fun x_218 S_219 hw_219 H locs hP hS => ?_)
    obtain ⟨I_219, m_219, w_219_0, -⟩ := hw_219
    have M_219 := dg_sm.tr M_0 m_219 (by decide) (by decide)
    have w_219_0 : (-1) ≤ (x_218).toInt ∧ (x_218).toInt ≤ (-1) := w_219_0
    have hf_219 := dk_full x_218
    refine W.widen (k := 0) (n := 0) (Nat.le_of_ble_eq_true rfl) (Nat.le_of_ble_eq_true rfl) ?_
    exact dg_iret hx hb hr hlocks rfl hP hS ⟨I_219, M_219, (by omega), (ZSM.keep ZS m_219 (by decide)), trivial⟩ dX12_sell_13
set_option maxHeartbeats 8000000 in
set_option maxRecDepth 100000 in
theorem c_m_hang (l : Launch) (g : Nat → ClassId) (D : va_G) (o : Nat) (S : dg_S) (a1 : Int32) (a2 : Int32) (a3 : Int32) (ZB : ZBM S) (ZS : ZSM S) (ZW : ZWM S) (I : CM o S) (sz : Nat) : Met l yX12_hang (bw yX12_hang cX12_hang 5 (some .boolean)) ({ frames := 5, cells := 0, slots := 0, locals := 118 } : Room) (dk_Pc g D (dg_w g shM o rfM S) sz [.ref (o + 0), .int a1, .int a2, .int a3]) (va_Qi (fun (r : Int32) S' => CM o S' ∧ dg_sm shM [(0, 60), (0, 61)] [28, 29, 30, 31, 32, 33, 34, 35, 36, 37, 38, 39] S S' ∧ (0 ≤ (r).toInt ∧ (r).toInt ≤ 1) ∧ ZSM S' ∧ True) (dg_B g D shM o rfM) (dg_A o shM.length sz)) 0 0 (dg_A o shM.length sz) := by
  refine dg_met (cc := cX12_hang) (maxL := 5) (ret := (some .boolean)) (by decide) rfl (Nat.le_of_ble_eq_true rfl) ?_
  intro p e s m args below meth c A hAe harg hx hb hr hml hts hown hlocks hin hP K hS hA1 hA ST hsz ls hl
  rw [← hAe]
  have F : CallFix p m c cX12_hang 5 s args (bw yX12_hang cX12_hang 5 (some .boolean)) RX12 := ⟨hx, hb, hml, hown, hts⟩
  have hl : lv_has ls 5 [(0, .ref (o + 0)), (1, .int a1), (2, .int a2), (3, .int a3)] := hl
  have M_0 : dg_sm shM [(0, 60), (0, 61)] [28, 29, 30, 31, 32, 33, 34, 35, 36, 37, 38, 39] S S := dg_sm.rf
  refine lv_aload_n hx hb dX12_hang_0 rfl (lv_at hl 0 rfl) ?_
  refine lv_iload_n hx hb dX12_hang_1 rfl (lv_at hl 1 rfl) ?_
  refine lv_iload_n hx hb dX12_hang_2 rfl (lv_at hl 2 rfl) ?_
  obtain ⟨x_1, f_x_1, b_x_1⟩ := dg_I.int (i := 0) (k := 13) (lo := 0) (hi := 1) I sM_0 (by decide +kernel)
  obtain ⟨x_2, f_x_2, b_x_2⟩ := dg_I.int (i := 0) (k := 47) (lo := 0) (hi := 1) I sM_0 (by decide +kernel)
  obtain ⟨x_3, f_x_3⟩ : ∃ x, S.2.1 2 (x_1 : Int32).toNatClampNeg = x := ⟨_, rfl⟩
  have hin_4 : vp_in (x_1 : Int32) 2 := (dk_inv (by omega) (by omega))
  have b_x_3 := dk_all_at (dg_I.row (lo := 0) (hi := 9999) I sM_2 (by decide +kernel)) hin_4 f_x_3.symm
  have ex_3 := f_x_3.symm
  have zb_x_3 : (x_3).toInt ≤ 7 ∧ ((x_2 : Int32).toInt = 1 → 3 ≤ (x_3).toInt) := by rw [ex_3]; exact ⟨(ZB x_1 x_2 f_x_1 f_x_2).1, fun h9 => ((ZB x_1 x_2 f_x_1 f_x_2).2.2.2 h9).1⟩
  obtain ⟨x_5, f_x_5⟩ : ∃ x, S.2.1 3 (x_1 : Int32).toNatClampNeg = x := ⟨_, rfl⟩
  have hin_6 : vp_in (x_1 : Int32) 2 := (dk_inv (by omega) (by omega))
  have b_x_5 := dk_all_at (dg_I.row (lo := 0) (hi := 9999) I sM_3 (by decide +kernel)) hin_6 f_x_5.symm
  have ex_5 := f_x_5.symm
  have zb_x_5 : (x_5).toInt ≤ 7 ∧ ((x_2 : Int32).toInt = 1 → 3 ≤ (x_5).toInt) := by rw [ex_5]; exact ⟨(ZB x_1 x_2 f_x_1 f_x_2).2.1, fun h9 => ((ZB x_1 x_2 f_x_1 f_x_2).2.2.2 h9).2⟩
  refine dg_calli hS hA1 hA (va_runV (As := [.int a1, .int a2]) (rest := []) F (c_m_isCell l g D o S a1 a2 x_1 f_x_1 (by omega) x_2 f_x_2 (by omega) x_3 f_x_3 (by omega) x_5 f_x_5 (by omega) ZB I s.heap.size) (cwV 2 hts (bw_V wB_1087 wB_1088 wB_1089 wB_297 wB_1086) rfl rfl rfl (by decide +kernel) ⟨Nat.le_of_ble_eq_true rfl, Nat.le_of_ble_eq_true rfl⟩) (dg_preV sM_0 rfl K ST hP hS hA1 hA) rfl rfl hl.1 rfl (lv_room (Nat.le_of_ble_eq_true rfl)) dX12_hang_3 ⟨Nat.le_of_ble_eq_true rfl, Nat.le_of_ble_eq_true rfl⟩) (fun x_7 S_8 hw_8 H locs hP hS => ?_)
  rw [hw_8.1] at hP
  obtain ⟨hq_8, w_8_0, w_8_1, w_8_2, -⟩ := hw_8
  have w_8_0 : 0 ≤ (x_7).toInt ∧ (x_7).toInt ≤ 1 := w_8_0
  have w_8_1 : (x_7).toInt = 1 → (0 ≤ (a1).toInt ∧ (a1).toInt ≤ 6 ∧ 0 ≤ (a2).toInt ∧ (a2).toInt ≤ 6) := w_8_1
  have w_8_2 : (x_7).toInt = 1 ↔ ((x_2).toInt = 1 ∧ 0 ≤ (a1).toInt ∧ (a1).toInt < (x_3).toInt ∧ 0 ≤ (a2).toInt ∧ (a2).toInt < (x_5).toInt) := w_8_2
  have J_53 : ∀ (x_12 : Int32), ((-1) ≤ (x_12).toInt ∧ (x_12).toInt ≤ 54) → ∀ (H : Heap) (locs : List Loc), va_P D vwCl (dg_w g shM o rfM S) H → va_S A s.heap H locs → ∀ ls : Array Slot, lv_has ls 5 [(0, .ref (o + 0)), (1, .int a1), (2, .int a2), (3, .int a3)] → W p l e ({ frames := 5, cells := 0, slots := 0, locals := 118 } : Room) s m args below meth c H locs 0 0 (MQ below (va_Qi (fun (r : Int32) S' => CM o S' ∧ dg_sm shM [(0, 60), (0, 61)] [28, 29, 30, 31, 32, 33, 34, 35, 36, 37, 38, 39] S S' ∧ (0 ≤ (r).toInt ∧ (r).toInt ≤ 1) ∧ ZSM S' ∧ True) (dg_B g D shM o rfM) A) args s 0 0 A) (F0 m 19 ls [.int x_12]) := by
    intro x_12 b_x_12 H locs hP hS ls hl
    refine lv_istore (lv' := [(4, .int x_12), (0, .ref (o + 0)), (1, .int a1), (2, .int a2), (3, .int a3)]) hx hb dX12_hang_19 hl (by decide) rfl (fun ls hl => ?_)
    refine lv_iload hx hb dX12_hang_21 (lv_at hl 0 rfl) ?_
    refine lv_iconst (v := (-1)) hx hb dX12_hang_23 (by decide +kernel) ?_
    refine lv_icmp_eq (tgt := 56) hx hb dX12_hang_24 (by decide) (fun c_54 => ?_) (fun c_54 => ?_)
    · have jc_54 := dk_eqc (k := (-1)) (by decide +kernel) c_54
      refine lv_aload_n hx hb dX12_hang_56 rfl (lv_at hl 1 rfl) ?_
      refine lv_iconst (v := 3) hx hb dX12_hang_57 (by decide +kernel) ?_
      have hz_55 : (3 : Int32).toInt = 3 := by decide +kernel
      refine dg_calli hS hA1 hA (va_runV (As := [.int 3]) (rest := []) F (c_m_refuses l g D o S 3 (by decide +kernel) I H.size) (cwV 1 hts (bw_V wB_1079 wB_1080 wB_1081 wB_297 wB_1078) rfl rfl rfl (by decide +kernel) ⟨Nat.le_of_ble_eq_true rfl, Nat.le_of_ble_eq_true rfl⟩) (dg_preV sM_0 rfl K ST hP hS hA1 hA) rfl rfl hl.1 rfl (lv_room (Nat.le_of_ble_eq_true rfl)) dX12_hang_58 ⟨Nat.le_of_ble_eq_true rfl, Nat.le_of_ble_eq_true rfl⟩) (fun x_56 S_57 hw_57 H locs hP hS => ?_)
      obtain ⟨I_57, m_57, w_57_0, -⟩ := hw_57
      have M_57 := dg_sm.tr M_0 m_57 (by decide) (by decide)
      have w_57_0 : (-1) ≤ (x_56).toInt ∧ (x_56).toInt ≤ (-1) := w_57_0
      refine lv_if_lt (tgt := 68) hx hb dX12_hang_61 (by decide) (fun _ => ?_) (fun c => absurd (dk_ltp (k := 0) (by decide +kernel) (by omega)) c)
      refine lv_iconst (v := 0) hx hb dX12_hang_68 (by decide +kernel) ?_
      have hz_58 : (0 : Int32).toInt = 0 := by decide +kernel
      refine W.widen (k := 0) (n := 0) (Nat.le_of_ble_eq_true rfl) (Nat.le_of_ble_eq_true rfl) ?_
      exact dg_iret hx hb hr hlocks (by decide +kernel) hP hS ⟨I_57, M_57, (by decide +kernel), (ZSM.keep ZS m_57 (by decide)), trivial⟩ dX12_hang_69
    · have jc_54 := dk_neqc (k := (-1)) (by decide +kernel) c_54
      refine lv_aload_n hx hb dX12_hang_27 rfl (lv_at hl 1 rfl) ?_
      refine lv_iload hx hb dX12_hang_28 (lv_at hl 0 rfl) ?_
      refine dg_calli hS hA1 hA (va_runV (As := [.int x_12]) (rest := []) F (c_m_canHang l g D o S x_12 (by omega) ZB I H.size) (cwV 1 hts (bw_V wB_1243 wB_1244 wB_1245 wB_297 wB_1242) rfl rfl rfl (by decide +kernel) ⟨Nat.le_of_ble_eq_true rfl, Nat.le_of_ble_eq_true rfl⟩) (dg_preV sM_0 rfl K ST hP hS hA1 hA) rfl rfl hl.1 rfl (lv_room (Nat.le_of_ble_eq_true rfl)) dX12_hang_30 ⟨Nat.le_of_ble_eq_true rfl, Nat.le_of_ble_eq_true rfl⟩) (fun x_59 S_60 hw_60 H locs hP hS => ?_)
      rw [hw_60.1] at hP
      obtain ⟨hq_60, w_60_0, -⟩ := hw_60
      have w_60_0 : 0 ≤ (x_59).toInt ∧ (x_59).toInt ≤ 1 := w_60_0
      refine lv_if_eq (tgt := 56) hx hb dX12_hang_33 (by decide) (fun c_61 => ?_) (fun c_61 => ?_)
      · have jc_61 := dk_eqc (k := 0) (by decide +kernel) c_61
        refine lv_aload_n hx hb dX12_hang_56 rfl (lv_at hl 1 rfl) ?_
        refine lv_iconst (v := 3) hx hb dX12_hang_57 (by decide +kernel) ?_
        have hz_62 : (3 : Int32).toInt = 3 := by decide +kernel
        refine dg_calli hS hA1 hA (va_runV (As := [.int 3]) (rest := []) F (c_m_refuses l g D o S 3 (by decide +kernel) I H.size) (cwV 1 hts (bw_V wB_1079 wB_1080 wB_1081 wB_297 wB_1078) rfl rfl rfl (by decide +kernel) ⟨Nat.le_of_ble_eq_true rfl, Nat.le_of_ble_eq_true rfl⟩) (dg_preV sM_0 rfl K ST hP hS hA1 hA) rfl rfl hl.1 rfl (lv_room (Nat.le_of_ble_eq_true rfl)) dX12_hang_58 ⟨Nat.le_of_ble_eq_true rfl, Nat.le_of_ble_eq_true rfl⟩) (fun x_63 S_64 hw_64 H locs hP hS => ?_)
        obtain ⟨I_64, m_64, w_64_0, -⟩ := hw_64
        have M_64 := dg_sm.tr M_0 m_64 (by decide) (by decide)
        have w_64_0 : (-1) ≤ (x_63).toInt ∧ (x_63).toInt ≤ (-1) := w_64_0
        refine lv_if_lt (tgt := 68) hx hb dX12_hang_61 (by decide) (fun _ => ?_) (fun c => absurd (dk_ltp (k := 0) (by decide +kernel) (by omega)) c)
        refine lv_iconst (v := 0) hx hb dX12_hang_68 (by decide +kernel) ?_
        have hz_65 : (0 : Int32).toInt = 0 := by decide +kernel
        refine W.widen (k := 0) (n := 0) (Nat.le_of_ble_eq_true rfl) (Nat.le_of_ble_eq_true rfl) ?_
        exact dg_iret hx hb hr hlocks (by decide +kernel) hP hS ⟨I_64, M_64, (by decide +kernel), (ZSM.keep ZS m_64 (by decide)), trivial⟩ dX12_hang_69
      · have jc_61 := dk_neqc (k := 0) (by decide +kernel) c_61
        refine lv_iload_n hx hb dX12_hang_36 rfl (lv_at hl 4 rfl) ?_
        refine lv_iconst (v := 0) hx hb dX12_hang_37 (by decide +kernel) ?_
        refine lv_iconst (v := 1) hx hb dX12_hang_38 (by decide +kernel) ?_
        refine dg_calli hS hA1 hA (va_runS (As := [.int a3, .int 0, .int 1]) (rest := []) F (c_m_is l g D o S a3 0 1 I H.size) (va_cwS 3 hts (bw_S wB_362 wB_363 wB_297 wB_361) rfl rfl rfl (by decide +kernel) ⟨Nat.le_of_ble_eq_true rfl, Nat.le_of_ble_eq_true rfl⟩) (dg_preS K ST hP hS hA1 hA) rfl rfl hl.1 rfl (lv_room (Nat.le_of_ble_eq_true rfl)) dX12_hang_39 ⟨Nat.le_of_ble_eq_true rfl, Nat.le_of_ble_eq_true rfl⟩) (fun x_66 S_67 hw_67 H locs hP hS => ?_)
        rw [hw_67.1] at hP
        obtain ⟨hq_67, w_67_0, w_67_1, -⟩ := hw_67
        have hz_68 : (0 : Int32).toInt = 0 := by decide +kernel
        have hz_69 : (1 : Int32).toInt = 1 := by decide +kernel
        have w_67_0 : 0 ≤ (x_66).toInt ∧ (x_66).toInt ≤ 1 := w_67_0
        have w_67_1 : (x_66).toInt = 1 ↔ (((0 : Int32)).toInt ≤ (a3).toInt ∧ (a3).toInt ≤ ((1 : Int32)).toInt) := w_67_1
        refine lv_if_eq (tgt := 56) hx hb dX12_hang_42 (by decide) (fun c_70 => ?_) (fun c_70 => ?_)
        · have jc_70 := dk_eqc (k := 0) (by decide +kernel) c_70
          refine lv_aload_n hx hb dX12_hang_56 rfl (lv_at hl 1 rfl) ?_
          refine lv_iconst (v := 3) hx hb dX12_hang_57 (by decide +kernel) ?_
          have hz_71 : (3 : Int32).toInt = 3 := by decide +kernel
          refine dg_calli hS hA1 hA (va_runV (As := [.int 3]) (rest := []) F (c_m_refuses l g D o S 3 (by decide +kernel) I H.size) (cwV 1 hts (bw_V wB_1079 wB_1080 wB_1081 wB_297 wB_1078) rfl rfl rfl (by decide +kernel) ⟨Nat.le_of_ble_eq_true rfl, Nat.le_of_ble_eq_true rfl⟩) (dg_preV sM_0 rfl K ST hP hS hA1 hA) rfl rfl hl.1 rfl (lv_room (Nat.le_of_ble_eq_true rfl)) dX12_hang_58 ⟨Nat.le_of_ble_eq_true rfl, Nat.le_of_ble_eq_true rfl⟩) (fun x_72 S_73 hw_73 H locs hP hS => ?_)
          obtain ⟨I_73, m_73, w_73_0, -⟩ := hw_73
          have M_73 := dg_sm.tr M_0 m_73 (by decide) (by decide)
          have w_73_0 : (-1) ≤ (x_72).toInt ∧ (x_72).toInt ≤ (-1) := w_73_0
          refine lv_if_lt (tgt := 68) hx hb dX12_hang_61 (by decide) (fun _ => ?_) (fun c => absurd (dk_ltp (k := 0) (by decide +kernel) (by omega)) c)
          refine lv_iconst (v := 0) hx hb dX12_hang_68 (by decide +kernel) ?_
          have hz_74 : (0 : Int32).toInt = 0 := by decide +kernel
          refine W.widen (k := 0) (n := 0) (Nat.le_of_ble_eq_true rfl) (Nat.le_of_ble_eq_true rfl) ?_
          exact dg_iret hx hb hr hlocks (by decide +kernel) hP hS ⟨I_73, M_73, (by decide +kernel), (ZSM.keep ZS m_73 (by decide)), trivial⟩ dX12_hang_69
        · have jc_70 := dk_neqc (k := 0) (by decide +kernel) c_70
          refine lv_aload_n hx hb dX12_hang_45 rfl (lv_at hl 1 rfl) ?_
          refine dg_get (C := RX12) (T := TX12) (N := 77) hx hb hts (fun w h => bw_mem (wU_X12 w h)) hown K hP sM_0 rfl 52 (by decide) (hts _ (bw_mem wB_1097)) (fun _ h9 => h9) (v := .ref (o + 32)) (show S.1 0 52 = .ref (o + 32) from dg_I.rel (d := 32) I sM_0 (by decide +kernel)) dX12_hang_46 ?_
          refine lv_iload hx hb dX12_hang_49 (lv_at hl 0 rfl) ?_
          have hin_75 : vp_in x_12 1408 := (dk_inv (by omega) (by omega))
          refine dg_iald hx hb K hP sM_32 hin_75 dX12_hang_51 (fun x_76 ex_76 => ?_)
          refine lv_iload_n hx hb dX12_hang_52 rfl (lv_at hl 4 rfl) ?_
          refine lv_icmp_ne (tgt := 70) hx hb dX12_hang_53 (by decide) (fun c_77 => ?_) (fun c_77 => ?_)
          · have hf_77 := dk_full x_76
            have jc_77 := dk_neqc (k := (a3).toInt) rfl c_77
            refine lv_aload_n hx hb dX12_hang_70 rfl (lv_at hl 1 rfl) ?_
            obtain ⟨x_79, f_x_79⟩ : ∃ x, S.2.1 29 (0 : Int32).toNatClampNeg = x := ⟨_, rfl⟩
            have hin_80 : vp_in (0 : Int32) 22 := (dk_in (by decide +kernel))
            have b_x_79 := dk_all_at (dg_I.row (lo := 0) (hi := 2000) I sM_29 (by decide +kernel)) hin_80 f_x_79.symm
            have ex_79 := f_x_79.symm
            have hz_81 : (0 : Int32).toInt = 0 := by decide +kernel
            have zs_x_79 : (0 : Int32).toInt ≠ 1 → (x_79).toInt ≤ 999 := fun h => by rw [ex_79]; exact ZS _ (dk_inT hin_80).2 (fun q => by have h9 := (dk_inT hin_80).1; omega)
            refine dg_callv hS hA1 hA (va_runV (As := []) (rest := []) F (c_m_keeps l g D o S x_79 f_x_79 (by omega) ZB ZS I H.size) (cwV 0 hts (bw_V wB_1257 wB_1258 wB_1259 wB_297 wB_1256) rfl rfl rfl (by decide +kernel) ⟨Nat.le_of_ble_eq_true rfl, Nat.le_of_ble_eq_true rfl⟩) (dg_preV sM_0 rfl K ST hP hS hA1 hA) rfl rfl hl.1 rfl (lv_room (Nat.le_of_ble_eq_true rfl)) dX12_hang_71 ⟨Nat.le_of_ble_eq_true rfl, Nat.le_of_ble_eq_true rfl⟩) (fun S_82 hw_82 H locs hP hS => ?_)
            obtain ⟨I_82, m_82, w_82_0, w_82_1, -⟩ := hw_82
            have M_82 := dg_sm.tr M_0 m_82 (by decide) (by decide)
            obtain ⟨x_83, f_x_83⟩ : ∃ x, S_82.2.1 29 (0 : Int32).toNatClampNeg = x := ⟨_, rfl⟩
            have hin_84 : vp_in (0 : Int32) 22 := (dk_in (by decide +kernel))
            have b_x_83 := dk_all_at (dg_I.row (lo := 0) (hi := 2000) I_82 sM_29 (by decide +kernel)) hin_84 f_x_83.symm
            have ex_83 := f_x_83.symm
            have hz_85 : (0 : Int32).toInt = 0 := by decide +kernel
            have zs_x_83 : (0 : Int32).toInt ≠ 1 → (x_83).toInt ≤ 999 := fun h => by rw [ex_83]; exact w_82_1 _ (dk_inT hin_84).2 (fun q => by have h9 := (dk_inT hin_84).1; omega)
            have w_82_0 : (x_83).toInt = (x_79).toInt := w_82_0 x_83 f_x_83
            refine lv_aload_n hx hb dX12_hang_74 rfl (lv_at hl 1 rfl) ?_
            refine dg_get (C := RX12) (T := TX12) (N := 77) hx hb hts (fun w h => bw_mem (wU_X12 w h)) hown K hP sM_0 rfl 52 (by decide) (hts _ (bw_mem wB_1097)) (fun _ h9 => h9) (v := .ref (o + 32)) (show S_82.1 0 52 = .ref (o + 32) from dg_I.rel (d := 32) I_82 sM_0 (by decide +kernel)) dX12_hang_75 ?_
            refine lv_iload hx hb dX12_hang_78 (lv_at hl 0 rfl) ?_
            refine lv_iload_n hx hb dX12_hang_80 rfl (lv_at hl 4 rfl) ?_
            have hin_86 : vp_in x_12 1408 := (dk_inv (by omega) (by omega))
            refine dg_iast hx hb K hP hS hA1 sM_32 hin_86 dX12_hang_81 (fun S_87 e_87 H locs hP hS => ?_)
            have I_87 := dg_I.uf0 I_82 e_87 sM_32 (by decide +kernel)
            have M_87 := dg_sm.uf M_82 e_87 sM_32 (by decide)
            refine lv_iconst (v := 1) hx hb dX12_hang_82 (by decide +kernel) ?_
            have hz_88 : (1 : Int32).toInt = 1 := by decide +kernel
            refine W.widen (k := 0) (n := 0) (Nat.le_of_ble_eq_true rfl) (Nat.le_of_ble_eq_true rfl) ?_
            exact dg_iret hx hb hr hlocks (by decide +kernel) hP hS ⟨I_87, M_87, (by decide +kernel), (ZSM.keep w_82_1 (dg_sm.uf (WF := []) (WA := [32]) dg_sm.rf e_87 sM_32 (by decide)) (by decide)), trivial⟩ dX12_hang_83
          · have hf_88 := dk_full x_76
            have jc_77 := dk_eqc (k := (a3).toInt) rfl c_77
            refine lv_aload_n hx hb dX12_hang_56 rfl (lv_at hl 1 rfl) ?_
            refine lv_iconst (v := 3) hx hb dX12_hang_57 (by decide +kernel) ?_
            have hz_90 : (3 : Int32).toInt = 3 := by decide +kernel
            refine dg_calli hS hA1 hA (va_runV (As := [.int 3]) (rest := []) F (c_m_refuses l g D o S 3 (by decide +kernel) I H.size) (cwV 1 hts (bw_V wB_1079 wB_1080 wB_1081 wB_297 wB_1078) rfl rfl rfl (by decide +kernel) ⟨Nat.le_of_ble_eq_true rfl, Nat.le_of_ble_eq_true rfl⟩) (dg_preV sM_0 rfl K ST hP hS hA1 hA) rfl rfl hl.1 rfl (lv_room (Nat.le_of_ble_eq_true rfl)) dX12_hang_58 ⟨Nat.le_of_ble_eq_true rfl, Nat.le_of_ble_eq_true rfl⟩) (fun x_91 S_92 hw_92 H locs hP hS => ?_)
            obtain ⟨I_92, m_92, w_92_0, -⟩ := hw_92
            have M_92 := dg_sm.tr M_0 m_92 (by decide) (by decide)
            have w_92_0 : (-1) ≤ (x_91).toInt ∧ (x_91).toInt ≤ (-1) := w_92_0
            refine lv_if_lt (tgt := 68) hx hb dX12_hang_61 (by decide) (fun _ => ?_) (fun c => absurd (dk_ltp (k := 0) (by decide +kernel) (by omega)) c)
            refine lv_iconst (v := 0) hx hb dX12_hang_68 (by decide +kernel) ?_
            have hz_93 : (0 : Int32).toInt = 0 := by decide +kernel
            refine W.widen (k := 0) (n := 0) (Nat.le_of_ble_eq_true rfl) (Nat.le_of_ble_eq_true rfl) ?_
            exact dg_iret hx hb hr hlocks (by decide +kernel) hP hS ⟨I_92, M_92, (by decide +kernel), (ZSM.keep ZS m_92 (by decide)), trivial⟩ dX12_hang_69
  refine lv_if_eq (tgt := 18) hx hb dX12_hang_6 (by decide) (fun c_94 => ?_) (fun c_94 => ?_)
  · have jc_94 := dk_eqc (k := 0) (by decide +kernel) c_94
    refine lv_iconst (v := (-1)) hx hb dX12_hang_18 (by decide +kernel) ?_
    have hz_95 : (-1 : Int32).toInt = (-1) := by decide +kernel
    exact J_53 (-1) (by decide +kernel) _ _ hP hS _ (lv_sub hl [0, 1, 2, 3] rfl)
  · have jc_94 := dk_neqc (k := 0) (by decide +kernel) c_94
    refine lv_bipush (v := 8) hx hb dX12_hang_9 (by decide +kernel) ?_
    refine lv_iload_n hx hb dX12_hang_11 rfl (lv_at hl 2 rfl) ?_
    refine lv_imul hx hb dX12_hang_12 ?_
    refine lv_topi (fun x_96 ex_96 => ?_)
    have jx_96 : (x_96).toInt = 8 * (a2).toInt := by rw [ex_96]; exact dk_mulT (by decide +kernel) rfl (by omega) (by omega)
    refine lv_iload_n hx hb dX12_hang_13 rfl (lv_at hl 1 rfl) ?_
    refine lv_iadd hx hb dX12_hang_14 ?_
    refine lv_topi (fun x_97 ex_97 => ?_)
    have jx_97 : (x_97).toInt = (x_96).toInt + (a1).toInt := by rw [ex_97]; exact dk_addT rfl rfl (by omega) (by omega)
    refine lv_goto (tgt := 19) hx hb dX12_hang_15 (by decide) ?_
    exact J_53 x_97 (by omega) _ _ hP hS _ (lv_sub hl [0, 1, 2, 3] rfl)
set_option maxHeartbeats 8000000 in
set_option maxRecDepth 100000 in
theorem c_m_send (l : Launch) (g : Nat → ClassId) (D : va_G) (o : Nat) (S : dg_S) (a1 : Int32) (a2 : Int32) (a3 : Int32) (a4 : Int32) (ZB : ZBM S) (ZS : ZSM S) (ZW : ZWM S) (I : CM o S) (sz : Nat) : Met l yX12_send (bw yX12_send cX12_send 6 (some .boolean)) ({ frames := 3, cells := 0, slots := 0, locals := 76 } : Room) (dk_Pc g D (dg_w g shM o rfM S) sz [.ref (o + 0), .int a1, .int a2, .int a3, .int a4]) (va_Qi (fun (r : Int32) S' => CM o S' ∧ dg_sm shM [(0, 60), (0, 61)] [28, 29, 30, 31, 32, 33, 34, 35, 36, 37, 38, 39] S S' ∧ (0 ≤ (r).toInt ∧ (r).toInt ≤ 1) ∧ ZSM S' ∧ True) (dg_B g D shM o rfM) (dg_A o shM.length sz)) 0 0 (dg_A o shM.length sz) := by
  refine dg_met (cc := cX12_send) (maxL := 6) (ret := (some .boolean)) (by decide) rfl (Nat.le_of_ble_eq_true rfl) ?_
  intro p e s m args below meth c A hAe harg hx hb hr hml hts hown hlocks hin hP K hS hA1 hA ST hsz ls hl
  rw [← hAe]
  have F : CallFix p m c cX12_send 6 s args (bw yX12_send cX12_send 6 (some .boolean)) RX12 := ⟨hx, hb, hml, hown, hts⟩
  have hl : lv_has ls 6 [(0, .ref (o + 0)), (1, .int a1), (2, .int a2), (3, .int a3), (4, .int a4)] := hl
  have M_0 : dg_sm shM [(0, 60), (0, 61)] [28, 29, 30, 31, 32, 33, 34, 35, 36, 37, 38, 39] S S := dg_sm.rf
  refine lv_iload_n hx hb dX12_send_0 rfl (lv_at hl 1 rfl) ?_
  refine lv_iconst (v := 0) hx hb dX12_send_1 (by decide +kernel) ?_
  refine lv_aload_n hx hb dX12_send_2 rfl (lv_at hl 0 rfl) ?_
  refine dg_get (C := RX12) (T := TX12) (N := 77) hx hb hts (fun w h => bw_mem (wU_X12 w h)) hown K hP sM_0 rfl 21 (by decide) (hts _ (bw_mem wB_391)) (fun _ h9 => h9) (v := .ref (o + 9)) (show S.1 0 21 = .ref (o + 9) from dg_I.rel (d := 9) I sM_0 (by decide +kernel)) dX12_send_3 ?_
  refine lv_aload_n hx hb dX12_send_6 rfl (lv_at hl 0 rfl) ?_
  obtain ⟨x_1, f_x_1, b_x_1⟩ := dg_I.int (i := 0) (k := 13) (lo := 0) (hi := 1) I sM_0 (by decide +kernel)
  refine dg_get (C := RX12) (T := TX12) (N := 77) hx hb hts (fun w h => bw_mem (wU_X12 w h)) hown K hP sM_0 rfl 13 (by decide) (hts _ (bw_mem wB_1085)) (fun _ h9 => h9) (v := .int x_1) f_x_1 dX12_send_7 ?_
  have hin_2 : vp_in x_1 2 := (dk_inv (by omega) (by omega))
  refine dg_iald hx hb K hP sM_9 hin_2 dX12_send_10 (fun x_3 ex_3 => ?_)
  have b_x_3 := dk_all_at (dg_I.row (lo := 0) (hi := 16) I sM_9 (by decide +kernel)) hin_2 ex_3
  refine lv_iconst (v := 1) hx hb dX12_send_11 (by decide +kernel) ?_
  refine lv_isub hx hb dX12_send_12 ?_
  refine lv_topi (fun x_4 ex_4 => ?_)
  have jx_4 : (x_4).toInt = (x_3).toInt - 1 := by rw [ex_4]; exact dk_subT rfl (by decide +kernel) (by omega) (by omega)
  refine dg_calli hS hA1 hA (va_runS (As := [.int a1, .int 0, .int x_4]) (rest := []) F (c_m_is l g D o S a1 0 x_4 I s.heap.size) (va_cwS 3 hts (bw_S wB_362 wB_363 wB_297 wB_361) rfl rfl rfl (by decide +kernel) ⟨Nat.le_of_ble_eq_true rfl, Nat.le_of_ble_eq_true rfl⟩) (dg_preS K ST hP hS hA1 hA) rfl rfl hl.1 rfl (lv_room (Nat.le_of_ble_eq_true rfl)) dX12_send_13 ⟨Nat.le_of_ble_eq_true rfl, Nat.le_of_ble_eq_true rfl⟩) (fun x_5 S_6 hw_6 H locs hP hS => ?_)
  rw [hw_6.1] at hP
  obtain ⟨hq_6, w_6_0, w_6_1, -⟩ := hw_6
  have hz_7 : (0 : Int32).toInt = 0 := by decide +kernel
  have w_6_0 : 0 ≤ (x_5).toInt ∧ (x_5).toInt ≤ 1 := w_6_0
  have w_6_1 : (x_5).toInt = 1 ↔ (((0 : Int32)).toInt ≤ (a1).toInt ∧ (a1).toInt ≤ (x_4).toInt) := w_6_1
  refine lv_if_eq (tgt := 37) hx hb dX12_send_16 (by decide) (fun c_8 => ?_) (fun c_8 => ?_)
  · have jc_8 := dk_eqc (k := 0) (by decide +kernel) c_8
    refine lv_aload_n hx hb dX12_send_37 rfl (lv_at hl 0 rfl) ?_
    refine lv_iconst (v := 3) hx hb dX12_send_38 (by decide +kernel) ?_
    have hz_9 : (3 : Int32).toInt = 3 := by decide +kernel
    refine dg_calli hS hA1 hA (va_runV (As := [.int 3]) (rest := []) F (c_m_refuses l g D o S 3 (by decide +kernel) I H.size) (cwV 1 hts (bw_V wB_1079 wB_1080 wB_1081 wB_297 wB_1078) rfl rfl rfl (by decide +kernel) ⟨Nat.le_of_ble_eq_true rfl, Nat.le_of_ble_eq_true rfl⟩) (dg_preV sM_0 rfl K ST hP hS hA1 hA) rfl rfl hl.1 rfl (lv_room (Nat.le_of_ble_eq_true rfl)) dX12_send_39 ⟨Nat.le_of_ble_eq_true rfl, Nat.le_of_ble_eq_true rfl⟩) (fun x_10 S_11 hw_11 H locs hP hS => ?_)
    obtain ⟨I_11, m_11, w_11_0, -⟩ := hw_11
    have M_11 := dg_sm.tr M_0 m_11 (by decide) (by decide)
    have w_11_0 : (-1) ≤ (x_10).toInt ∧ (x_10).toInt ≤ (-1) := w_11_0
    refine lv_if_lt (tgt := 49) hx hb dX12_send_42 (by decide) (fun _ => ?_) (fun c => absurd (dk_ltp (k := 0) (by decide +kernel) (by omega)) c)
    refine lv_iconst (v := 0) hx hb dX12_send_49 (by decide +kernel) ?_
    have hz_12 : (0 : Int32).toInt = 0 := by decide +kernel
    refine W.widen (k := 0) (n := 0) (Nat.le_of_ble_eq_true rfl) (Nat.le_of_ble_eq_true rfl) ?_
    exact dg_iret hx hb hr hlocks (by decide +kernel) hP hS ⟨I_11, M_11, (by decide +kernel), (ZSM.keep ZS m_11 (by decide)), trivial⟩ dX12_send_50
  · have jc_8 := dk_neqc (k := 0) (by decide +kernel) c_8
    refine lv_aload_n hx hb dX12_send_19 rfl (lv_at hl 0 rfl) ?_
    refine lv_iload_n hx hb dX12_send_20 rfl (lv_at hl 2 rfl) ?_
    obtain ⟨x_13, f_x_13⟩ : ∃ x, S.2.1 8 (x_1 : Int32).toNatClampNeg = x := ⟨_, rfl⟩
    have hin_14 : vp_in (x_1 : Int32) 2 := (dk_inv (by omega) (by omega))
    have b_x_13 := dk_all_at (dg_I.row (lo := 0) (hi := 6) I sM_8 (by decide +kernel)) hin_14 f_x_13.symm
    refine dg_calli hS hA1 hA (va_runV (As := [.int a2]) (rest := []) F (c_m_isMiner l g D o S a2 x_1 f_x_1 (by omega) x_13 f_x_13 (by omega) I H.size) (cwV 1 hts (bw_V wB_1208 wB_1209 wB_1210 wB_297 wB_1207) rfl rfl rfl (by decide +kernel) ⟨Nat.le_of_ble_eq_true rfl, Nat.le_of_ble_eq_true rfl⟩) (dg_preV sM_0 rfl K ST hP hS hA1 hA) rfl rfl hl.1 rfl (lv_room (Nat.le_of_ble_eq_true rfl)) dX12_send_21 ⟨Nat.le_of_ble_eq_true rfl, Nat.le_of_ble_eq_true rfl⟩) (fun x_15 S_16 hw_16 H locs hP hS => ?_)
    rw [hw_16.1] at hP
    obtain ⟨hq_16, w_16_0, w_16_1, w_16_2, -⟩ := hw_16
    have w_16_0 : 0 ≤ (x_15).toInt ∧ (x_15).toInt ≤ 1 := w_16_0
    have w_16_1 : (x_15).toInt = 1 → (0 ≤ (a2).toInt ∧ (a2).toInt ≤ 5) := w_16_1
    have w_16_2 : (x_15).toInt = 1 ↔ (0 ≤ (a2).toInt ∧ (a2).toInt < (x_13).toInt) := w_16_2
    refine lv_if_eq (tgt := 37) hx hb dX12_send_24 (by decide) (fun c_17 => ?_) (fun c_17 => ?_)
    · have jc_17 := dk_eqc (k := 0) (by decide +kernel) c_17
      refine lv_aload_n hx hb dX12_send_37 rfl (lv_at hl 0 rfl) ?_
      refine lv_iconst (v := 3) hx hb dX12_send_38 (by decide +kernel) ?_
      have hz_18 : (3 : Int32).toInt = 3 := by decide +kernel
      refine dg_calli hS hA1 hA (va_runV (As := [.int 3]) (rest := []) F (c_m_refuses l g D o S 3 (by decide +kernel) I H.size) (cwV 1 hts (bw_V wB_1079 wB_1080 wB_1081 wB_297 wB_1078) rfl rfl rfl (by decide +kernel) ⟨Nat.le_of_ble_eq_true rfl, Nat.le_of_ble_eq_true rfl⟩) (dg_preV sM_0 rfl K ST hP hS hA1 hA) rfl rfl hl.1 rfl (lv_room (Nat.le_of_ble_eq_true rfl)) dX12_send_39 ⟨Nat.le_of_ble_eq_true rfl, Nat.le_of_ble_eq_true rfl⟩) (fun x_19 S_20 hw_20 H locs hP hS => ?_)
      obtain ⟨I_20, m_20, w_20_0, -⟩ := hw_20
      have M_20 := dg_sm.tr M_0 m_20 (by decide) (by decide)
      have w_20_0 : (-1) ≤ (x_19).toInt ∧ (x_19).toInt ≤ (-1) := w_20_0
      refine lv_if_lt (tgt := 49) hx hb dX12_send_42 (by decide) (fun _ => ?_) (fun c => absurd (dk_ltp (k := 0) (by decide +kernel) (by omega)) c)
      refine lv_iconst (v := 0) hx hb dX12_send_49 (by decide +kernel) ?_
      have hz_21 : (0 : Int32).toInt = 0 := by decide +kernel
      refine W.widen (k := 0) (n := 0) (Nat.le_of_ble_eq_true rfl) (Nat.le_of_ble_eq_true rfl) ?_
      exact dg_iret hx hb hr hlocks (by decide +kernel) hP hS ⟨I_20, M_20, (by decide +kernel), (ZSM.keep ZS m_20 (by decide)), trivial⟩ dX12_send_50
    · have jc_17 := dk_neqc (k := 0) (by decide +kernel) c_17
      refine lv_aload_n hx hb dX12_send_27 rfl (lv_at hl 0 rfl) ?_
      refine lv_iload_n hx hb dX12_send_28 rfl (lv_at hl 3 rfl) ?_
      refine lv_iload hx hb dX12_send_29 (lv_at hl 4 rfl) ?_
      obtain ⟨x_22, f_x_22, b_x_22⟩ := dg_I.int (i := 0) (k := 47) (lo := 0) (hi := 1) I sM_0 (by decide +kernel)
      obtain ⟨x_23, f_x_23⟩ : ∃ x, S.2.1 2 (x_1 : Int32).toNatClampNeg = x := ⟨_, rfl⟩
      have hin_24 : vp_in (x_1 : Int32) 2 := (dk_inv (by omega) (by omega))
      have b_x_23 := dk_all_at (dg_I.row (lo := 0) (hi := 9999) I sM_2 (by decide +kernel)) hin_24 f_x_23.symm
      have ex_23 := f_x_23.symm
      have zb_x_23 : (x_23).toInt ≤ 7 ∧ ((x_22 : Int32).toInt = 1 → 3 ≤ (x_23).toInt) := by rw [ex_23]; exact ⟨(ZB x_1 x_22 f_x_1 f_x_22).1, fun h9 => ((ZB x_1 x_22 f_x_1 f_x_22).2.2.2 h9).1⟩
      obtain ⟨x_25, f_x_25⟩ : ∃ x, S.2.1 3 (x_1 : Int32).toNatClampNeg = x := ⟨_, rfl⟩
      have hin_26 : vp_in (x_1 : Int32) 2 := (dk_inv (by omega) (by omega))
      have b_x_25 := dk_all_at (dg_I.row (lo := 0) (hi := 9999) I sM_3 (by decide +kernel)) hin_26 f_x_25.symm
      have ex_25 := f_x_25.symm
      have zb_x_25 : (x_25).toInt ≤ 7 ∧ ((x_22 : Int32).toInt = 1 → 3 ≤ (x_25).toInt) := by rw [ex_25]; exact ⟨(ZB x_1 x_22 f_x_1 f_x_22).2.1, fun h9 => ((ZB x_1 x_22 f_x_1 f_x_22).2.2.2 h9).2⟩
      refine dg_calli hS hA1 hA (va_runV (As := [.int a3, .int a4]) (rest := []) F (c_m_isCell l g D o S a3 a4 x_1 f_x_1 (by omega) x_22 f_x_22 (by omega) x_23 f_x_23 (by omega) x_25 f_x_25 (by omega) ZB I H.size) (cwV 2 hts (bw_V wB_1087 wB_1088 wB_1089 wB_297 wB_1086) rfl rfl rfl (by decide +kernel) ⟨Nat.le_of_ble_eq_true rfl, Nat.le_of_ble_eq_true rfl⟩) (dg_preV sM_0 rfl K ST hP hS hA1 hA) rfl rfl hl.1 rfl (lv_room (Nat.le_of_ble_eq_true rfl)) dX12_send_31 ⟨Nat.le_of_ble_eq_true rfl, Nat.le_of_ble_eq_true rfl⟩) (fun x_27 S_28 hw_28 H locs hP hS => ?_)
      rw [hw_28.1] at hP
      obtain ⟨hq_28, w_28_0, w_28_1, w_28_2, -⟩ := hw_28
      have w_28_0 : 0 ≤ (x_27).toInt ∧ (x_27).toInt ≤ 1 := w_28_0
      have w_28_1 : (x_27).toInt = 1 → (0 ≤ (a3).toInt ∧ (a3).toInt ≤ 6 ∧ 0 ≤ (a4).toInt ∧ (a4).toInt ≤ 6) := w_28_1
      have w_28_2 : (x_27).toInt = 1 ↔ ((x_22).toInt = 1 ∧ 0 ≤ (a3).toInt ∧ (a3).toInt < (x_23).toInt ∧ 0 ≤ (a4).toInt ∧ (a4).toInt < (x_25).toInt) := w_28_2
      refine lv_if_ne (tgt := 51) hx hb dX12_send_34 (by decide) (fun c_29 => ?_) (fun c_29 => ?_)
      · have jc_29 := dk_neqc (k := 0) (by decide +kernel) c_29
        refine lv_bipush (v := 8) hx hb dX12_send_51 (by decide +kernel) ?_
        refine lv_iload hx hb dX12_send_53 (lv_at hl 4 rfl) ?_
        refine lv_imul hx hb dX12_send_55 ?_
        refine lv_topi (fun x_30 ex_30 => ?_)
        have jx_30 : (x_30).toInt = 8 * (a4).toInt := by rw [ex_30]; exact dk_mulT (by decide +kernel) rfl (by omega) (by omega)
        refine lv_iload_n hx hb dX12_send_56 rfl (lv_at hl 3 rfl) ?_
        refine lv_iadd hx hb dX12_send_57 ?_
        refine lv_topi (fun x_31 ex_31 => ?_)
        have jx_31 : (x_31).toInt = (x_30).toInt + (a3).toInt := by rw [ex_31]; exact dk_addT rfl rfl (by omega) (by omega)
        refine lv_istore (lv' := [(5, .int x_31), (0, .ref (o + 0)), (1, .int a1), (2, .int a2), (3, .int a3), (4, .int a4)]) hx hb dX12_send_58 hl (by decide) rfl (fun ls hl => ?_)
        refine lv_aload_n hx hb dX12_send_60 rfl (lv_at hl 1 rfl) ?_
        refine dg_get (C := RX12) (T := TX12) (N := 77) hx hb hts (fun w h => bw_mem (wU_X12 w h)) hown K hP sM_0 rfl 55 (by decide) (hts _ (bw_mem wB_1132)) (fun _ h9 => h9) (v := .ref (o + 35)) (show S.1 0 55 = .ref (o + 35) from dg_I.rel (d := 35) I sM_0 (by decide +kernel)) dX12_send_61 ?_
        refine lv_iload_n hx hb dX12_send_64 rfl (lv_at hl 2 rfl) ?_
        have hin_32 : vp_in a1 352 := (dk_inv (by omega) (by omega))
        refine dg_iald hx hb K hP sM_35 hin_32 dX12_send_65 (fun x_33 ex_33 => ?_)
        refine lv_iload_n hx hb dX12_send_66 rfl (lv_at hl 3 rfl) ?_
        have J_56 : ∀ (H : Heap) (locs : List Loc), va_P D vwCl (dg_w g shM o rfM S) H → va_S A s.heap H locs → ∀ ls : Array Slot, lv_has ls 6 [(5, .int x_31), (0, .ref (o + 0)), (1, .int a1), (2, .int a2), (3, .int a3), (4, .int a4)] → W p l e ({ frames := 3, cells := 0, slots := 0, locals := 76 } : Room) s m args below meth c H locs 0 0 (MQ below (va_Qi (fun (r : Int32) S' => CM o S' ∧ dg_sm shM [(0, 60), (0, 61)] [28, 29, 30, 31, 32, 33, 34, 35, 36, 37, 38, 39] S S' ∧ (0 ≤ (r).toInt ∧ (r).toInt ≤ 1) ∧ ZSM S' ∧ True) (dg_B g D shM o rfM) A) args s 0 0 A) (F0 m 95 ls []) := by
          intro H locs hP hS ls hl
          refine lv_aload_n hx hb dX12_send_95 rfl (lv_at hl 1 rfl) ?_
          obtain ⟨x_57, f_x_57⟩ : ∃ x, S.2.1 29 (0 : Int32).toNatClampNeg = x := ⟨_, rfl⟩
          have hin_58 : vp_in (0 : Int32) 22 := (dk_in (by decide +kernel))
          have b_x_57 := dk_all_at (dg_I.row (lo := 0) (hi := 2000) I sM_29 (by decide +kernel)) hin_58 f_x_57.symm
          have ex_57 := f_x_57.symm
          have hz_59 : (0 : Int32).toInt = 0 := by decide +kernel
          have zs_x_57 : (0 : Int32).toInt ≠ 1 → (x_57).toInt ≤ 999 := fun h => by rw [ex_57]; exact ZS _ (dk_inT hin_58).2 (fun q => by have h9 := (dk_inT hin_58).1; omega)
          refine dg_callv hS hA1 hA (va_runV (As := []) (rest := []) F (c_m_keeps l g D o S x_57 f_x_57 (by omega) ZB ZS I H.size) (cwV 0 hts (bw_V wB_1257 wB_1258 wB_1259 wB_297 wB_1256) rfl rfl rfl (by decide +kernel) ⟨Nat.le_of_ble_eq_true rfl, Nat.le_of_ble_eq_true rfl⟩) (dg_preV sM_0 rfl K ST hP hS hA1 hA) rfl rfl hl.1 rfl (lv_room (Nat.le_of_ble_eq_true rfl)) dX12_send_96 ⟨Nat.le_of_ble_eq_true rfl, Nat.le_of_ble_eq_true rfl⟩) (fun S_60 hw_60 H locs hP hS => ?_)
          obtain ⟨I_60, m_60, w_60_0, w_60_1, -⟩ := hw_60
          have M_60 := dg_sm.tr M_0 m_60 (by decide) (by decide)
          obtain ⟨x_61, f_x_61⟩ : ∃ x, S_60.2.1 29 (0 : Int32).toNatClampNeg = x := ⟨_, rfl⟩
          have hin_62 : vp_in (0 : Int32) 22 := (dk_in (by decide +kernel))
          have b_x_61 := dk_all_at (dg_I.row (lo := 0) (hi := 2000) I_60 sM_29 (by decide +kernel)) hin_62 f_x_61.symm
          have ex_61 := f_x_61.symm
          have hz_63 : (0 : Int32).toInt = 0 := by decide +kernel
          have zs_x_61 : (0 : Int32).toInt ≠ 1 → (x_61).toInt ≤ 999 := fun h => by rw [ex_61]; exact w_60_1 _ (dk_inT hin_62).2 (fun q => by have h9 := (dk_inT hin_62).1; omega)
          have w_60_0 : (x_61).toInt = (x_57).toInt := w_60_0 x_61 f_x_61
          refine lv_aload_n hx hb dX12_send_99 rfl (lv_at hl 1 rfl) ?_
          refine dg_get (C := RX12) (T := TX12) (N := 77) hx hb hts (fun w h => bw_mem (wU_X12 w h)) hown K hP sM_0 rfl 55 (by decide) (hts _ (bw_mem wB_1132)) (fun _ h9 => h9) (v := .ref (o + 35)) (show S_60.1 0 55 = .ref (o + 35) from dg_I.rel (d := 35) I_60 sM_0 (by decide +kernel)) dX12_send_100 ?_
          refine lv_iload_n hx hb dX12_send_103 rfl (lv_at hl 2 rfl) ?_
          refine lv_iload_n hx hb dX12_send_104 rfl (lv_at hl 3 rfl) ?_
          have hin_64 : vp_in a1 352 := (dk_inv (by omega) (by omega))
          refine dg_iast hx hb K hP hS hA1 sM_35 hin_64 dX12_send_105 (fun S_65 e_65 H locs hP hS => ?_)
          have I_65 := dg_I.uf0 I_60 e_65 sM_35 (by decide +kernel)
          have M_65 := dg_sm.uf M_60 e_65 sM_35 (by decide)
          refine lv_aload_n hx hb dX12_send_106 rfl (lv_at hl 1 rfl) ?_
          refine dg_get (C := RX12) (T := TX12) (N := 77) hx hb hts (fun w h => bw_mem (wU_X12 w h)) hown K hP sM_0 rfl 56 (by decide) (hts _ (bw_mem wB_1133)) (fun _ h9 => h9) (v := .ref (o + 36)) (show S_65.1 0 56 = .ref (o + 36) from dg_I.rel (d := 36) I_65 sM_0 (by decide +kernel)) dX12_send_107 ?_
          refine lv_iload_n hx hb dX12_send_110 rfl (lv_at hl 2 rfl) ?_
          refine lv_iload hx hb dX12_send_111 (lv_at hl 0 rfl) ?_
          have hin_66 : vp_in a1 352 := (dk_inv (by omega) (by omega))
          refine dg_iast hx hb K hP hS hA1 sM_36 hin_66 dX12_send_113 (fun S_67 e_67 H locs hP hS => ?_)
          have I_67 := dg_I.ufu (lo := 0) (hi := 63) I_65 e_67 sM_36 (by decide +kernel) (show 0 ≤ (x_31).toInt ∧ (x_31).toInt ≤ 63 from (by omega))
          have M_67 := dg_sm.uf M_65 e_67 sM_36 (by decide)
          refine lv_iconst (v := 1) hx hb dX12_send_114 (by decide +kernel) ?_
          have hz_68 : (1 : Int32).toInt = 1 := by decide +kernel
          refine W.widen (k := 0) (n := 0) (Nat.le_of_ble_eq_true rfl) (Nat.le_of_ble_eq_true rfl) ?_
          exact dg_iret hx hb hr hlocks (by decide +kernel) hP hS ⟨I_67, M_67, (by decide +kernel), (ZSM.keep (ZSM.keep w_60_1 (dg_sm.uf (WF := []) (WA := [35]) dg_sm.rf e_65 sM_35 (by decide)) (by decide)) (dg_sm.uf (WF := []) (WA := [36]) dg_sm.rf e_67 sM_36 (by decide)) (by decide)), trivial⟩ dX12_send_115
        refine lv_icmp_ne (tgt := 95) hx hb dX12_send_67 (by decide) (fun c_69 => ?_) (fun c_69 => ?_)
        · have hf_69 := dk_full x_33
          have jc_69 := dk_neqc (k := (a2).toInt) rfl c_69
          exact J_56   _ _ hP hS _ (lv_sub hl [0, 1, 2, 3, 4, 5] rfl)
        · have hf_70 := dk_full x_33
          have jc_69 := dk_eqc (k := (a2).toInt) rfl c_69
          refine lv_aload_n hx hb dX12_send_70 rfl (lv_at hl 1 rfl) ?_
          refine dg_get (C := RX12) (T := TX12) (N := 77) hx hb hts (fun w h => bw_mem (wU_X12 w h)) hown K hP sM_0 rfl 56 (by decide) (hts _ (bw_mem wB_1133)) (fun _ h9 => h9) (v := .ref (o + 36)) (show S.1 0 56 = .ref (o + 36) from dg_I.rel (d := 36) I sM_0 (by decide +kernel)) dX12_send_71 ?_
          refine lv_iload_n hx hb dX12_send_74 rfl (lv_at hl 2 rfl) ?_
          have hin_72 : vp_in a1 352 := (dk_inv (by omega) (by omega))
          refine dg_iald hx hb K hP sM_36 hin_72 dX12_send_75 (fun x_73 ex_73 => ?_)
          have b_x_73 := dk_all_at (dg_I.row (lo := 0) (hi := 63) I sM_36 (by decide +kernel)) hin_72 ex_73
          refine lv_iload hx hb dX12_send_76 (lv_at hl 0 rfl) ?_
          refine lv_icmp_ne (tgt := 95) hx hb dX12_send_78 (by decide) (fun c_74 => ?_) (fun c_74 => ?_)
          · have jc_74 := dk_neqc (k := (x_31).toInt) rfl c_74
            exact J_56   _ _ hP hS _ (lv_sub hl [0, 1, 2, 3, 4, 5] rfl)
          · have jc_74 := dk_eqc (k := (x_31).toInt) rfl c_74
            refine lv_aload_n hx hb dX12_send_81 rfl (lv_at hl 1 rfl) ?_
            refine lv_iconst (v := 3) hx hb dX12_send_82 (by decide +kernel) ?_
            have hz_75 : (3 : Int32).toInt = 3 := by decide +kernel
            refine dg_calli hS hA1 hA (va_runV (As := [.int 3]) (rest := []) F (c_m_refuses l g D o S 3 (by decide +kernel) I H.size) (cwV 1 hts (bw_V wB_1079 wB_1080 wB_1081 wB_297 wB_1078) rfl rfl rfl (by decide +kernel) ⟨Nat.le_of_ble_eq_true rfl, Nat.le_of_ble_eq_true rfl⟩) (dg_preV sM_0 rfl K ST hP hS hA1 hA) rfl rfl hl.1 rfl (lv_room (Nat.le_of_ble_eq_true rfl)) dX12_send_83 ⟨Nat.le_of_ble_eq_true rfl, Nat.le_of_ble_eq_true rfl⟩) (fun x_76 S_77 hw_77 H locs hP hS => ?_)
            obtain ⟨I_77, m_77, w_77_0, -⟩ := hw_77
            have M_77 := dg_sm.tr M_0 m_77 (by decide) (by decide)
            have w_77_0 : (-1) ≤ (x_76).toInt ∧ (x_76).toInt ≤ (-1) := w_77_0
            refine lv_if_lt (tgt := 93) hx hb dX12_send_86 (by decide) (fun _ => ?_) (fun c => absurd (dk_ltp (k := 0) (by decide +kernel) (by omega)) c)
            refine lv_iconst (v := 0) hx hb dX12_send_93 (by decide +kernel) ?_
            have hz_78 : (0 : Int32).toInt = 0 := by decide +kernel
            refine W.widen (k := 0) (n := 0) (Nat.le_of_ble_eq_true rfl) (Nat.le_of_ble_eq_true rfl) ?_
            exact dg_iret hx hb hr hlocks (by decide +kernel) hP hS ⟨I_77, M_77, (by decide +kernel), (ZSM.keep ZS m_77 (by decide)), trivial⟩ dX12_send_94
      · have jc_29 := dk_eqc (k := 0) (by decide +kernel) c_29
        refine lv_aload_n hx hb dX12_send_37 rfl (lv_at hl 0 rfl) ?_
        refine lv_iconst (v := 3) hx hb dX12_send_38 (by decide +kernel) ?_
        have hz_79 : (3 : Int32).toInt = 3 := by decide +kernel
        refine dg_calli hS hA1 hA (va_runV (As := [.int 3]) (rest := []) F (c_m_refuses l g D o S 3 (by decide +kernel) I H.size) (cwV 1 hts (bw_V wB_1079 wB_1080 wB_1081 wB_297 wB_1078) rfl rfl rfl (by decide +kernel) ⟨Nat.le_of_ble_eq_true rfl, Nat.le_of_ble_eq_true rfl⟩) (dg_preV sM_0 rfl K ST hP hS hA1 hA) rfl rfl hl.1 rfl (lv_room (Nat.le_of_ble_eq_true rfl)) dX12_send_39 ⟨Nat.le_of_ble_eq_true rfl, Nat.le_of_ble_eq_true rfl⟩) (fun x_80 S_81 hw_81 H locs hP hS => ?_)
        obtain ⟨I_81, m_81, w_81_0, -⟩ := hw_81
        have M_81 := dg_sm.tr M_0 m_81 (by decide) (by decide)
        have w_81_0 : (-1) ≤ (x_80).toInt ∧ (x_80).toInt ≤ (-1) := w_81_0
        refine lv_if_lt (tgt := 49) hx hb dX12_send_42 (by decide) (fun _ => ?_) (fun c => absurd (dk_ltp (k := 0) (by decide +kernel) (by omega)) c)
        refine lv_iconst (v := 0) hx hb dX12_send_49 (by decide +kernel) ?_
        have hz_82 : (0 : Int32).toInt = 0 := by decide +kernel
        refine W.widen (k := 0) (n := 0) (Nat.le_of_ble_eq_true rfl) (Nat.le_of_ble_eq_true rfl) ?_
        exact dg_iret hx hb hr hlocks (by decide +kernel) hP hS ⟨I_81, M_81, (by decide +kernel), (ZSM.keep ZS m_81 (by decide)), trivial⟩ dX12_send_50
set_option maxHeartbeats 8000000 in
set_option maxRecDepth 100000 in
theorem c_m_mostBy (l : Launch) (g : Nat → ClassId) (D : va_G) (o : Nat) (S : dg_S) (a1 : Int32) (a2 : Int32) (b_a2 : 0 ≤ (a2).toInt ∧ (a2).toInt ≤ 30) (a3 : Int32) (b_a3 : 0 ≤ (a3).toInt ∧ (a3).toInt ≤ 63) (I : CM o S) (sz : Nat) : Met l yX12_mostBy (bw yX12_mostBy cX12_mostBy 7 (some .int)) ({ frames := 2, cells := 0, slots := 0, locals := 53 } : Room) (dk_Pc g D (dg_w g shM o rfM S) sz [.ref (o + 0), .int a1, .int a2, .int a3]) (va_Qi (fun (r : Int32) S' => CM o S' ∧ dg_sm shM [] [49] S S' ∧ (0 ≤ (r).toInt ∧ (r).toInt ≤ 2147483647) ∧ True) (dg_B g D shM o rfM) (dg_A o shM.length sz)) 0 0 (dg_A o shM.length sz) := by
  refine dg_met (cc := cX12_mostBy) (maxL := 7) (ret := (some .int)) (by decide) rfl (Nat.le_of_ble_eq_true rfl) ?_
  intro p e s m args below meth c A hAe harg hx hb hr hml hts hown hlocks hin hP K hS hA1 hA ST hsz ls hl
  rw [← hAe]
  have F : CallFix p m c cX12_mostBy 7 s args (bw yX12_mostBy cX12_mostBy 7 (some .int)) RX12 := ⟨hx, hb, hml, hown, hts⟩
  have hl : lv_has ls 7 [(0, .ref (o + 0)), (1, .int a1), (2, .int a2), (3, .int a3)] := hl
  have M_0 : dg_sm shM [] [49] S S := dg_sm.rf
  refine lv_iconst (v := 0) hx hb dX12_mostBy_0 (by decide +kernel) ?_
  refine lv_istore (lv' := [(4, .int 0), (0, .ref (o + 0)), (1, .int a1), (2, .int a2), (3, .int a3)]) hx hb dX12_mostBy_1 hl (by decide) rfl (fun ls hl => ?_)
  have J_223 : ∀ (x_38 : Int32), (11 ≤ (x_38).toInt ∧ (x_38).toInt ≤ 2147483647) → ∀ S_222 : dg_S, CM o S_222 → dg_sm shM [] [49] S S_222 → ∀ (H : Heap) (locs : List Loc), va_P D vwCl (dg_w g shM o rfM S_222) H → va_S A s.heap H locs → ∀ ls : Array Slot, lv_has ls 7 [(4, .int x_38), (0, .ref (o + 0)), (1, .int a1), (2, .int a2), (3, .int a3)] → W p l e ({ frames := 2, cells := 0, slots := 0, locals := 53 } : Room) s m args below meth c H locs 0 0 (MQ below (va_Qi (fun (r : Int32) S' => CM o S' ∧ dg_sm shM [] [49] S S' ∧ (0 ≤ (r).toInt ∧ (r).toInt ≤ 2147483647) ∧ True) (dg_B g D shM o rfM) A) args s 0 0 A) (F0 m 24 ls []) := by
    intro x_38 b_x_38 S_222 I_222 M_222 H locs hP hS ls hl
    refine lv_iconst (v := 0) hx hb dX12_mostBy_24 (by decide +kernel) ?_
    refine lv_istore (lv' := [(4, .int 0), (0, .ref (o + 0)), (1, .int a1), (2, .int a2), (3, .int a3)]) hx hb dX12_mostBy_25 hl (by decide) rfl (fun ls hl => ?_)
    refine lv_iconst (v := 0) hx hb dX12_mostBy_27 (by decide +kernel) ?_
    refine lv_istore (lv' := [(5, .int 0), (4, .int 0), (0, .ref (o + 0)), (1, .int a1), (2, .int a2), (3, .int a3)]) hx hb dX12_mostBy_28 hl (by decide) rfl (fun ls hl => ?_)
    have L_376 : ∀ (n : Nat) (x_373 : Int32) (x_374 : Int32), (0 ≤ (x_373).toInt ∧ (x_373).toInt ≤ 21) → (0 ≤ (x_374).toInt ∧ (x_374).toInt ≤ 2147483647) → ((22 - (x_373).toInt).toNat < n) → ∀ S_375 : dg_S, CM o S_375 → dg_sm shM [] [49] S S_375 → ∀ (H : Heap) (locs : List Loc), va_P D vwCl (dg_w g shM o rfM S_375) H → va_S A s.heap H locs → ∀ ls : Array Slot, lv_has ls 7 [(5, .int x_373), (4, .int x_374), (0, .ref (o + 0)), (1, .int a1), (2, .int a2), (3, .int a3)] → W p l e ({ frames := 2, cells := 0, slots := 0, locals := 53 } : Room) s m args below meth c H locs 0 0 (MQ below (va_Qi (fun (r : Int32) S' => CM o S' ∧ dg_sm shM [] [49] S S' ∧ (0 ≤ (r).toInt ∧ (r).toInt ≤ 2147483647) ∧ True) (dg_B g D shM o rfM) A) args s 0 0 A) (F0 m 30 ls []) := by
      intro n
      induction n with
      | zero =>
        intro x_373 x_374 b_x_373 b_x_374 hmu S_375 I_375 M_375 H locs hP hS ls hl
        omega
      | succ n ih =>
        intro x_373 x_374 b_x_373 b_x_374 hmu S_375 I_375 M_375 H locs hP hS ls hl
        refine lv_iload hx hb dX12_mostBy_30 (lv_at hl 0 rfl) ?_
        refine lv_bipush (v := 20) hx hb dX12_mostBy_32 (by decide +kernel) ?_
        refine lv_icmp_gt (tgt := 113) hx hb dX12_mostBy_34 (by decide) (fun c_377 => ?_) (fun c_377 => ?_)
        · have jc_377 := dk_gtc (k := 20) (by decide +kernel) c_377
          refine lv_iload hx hb dX12_mostBy_113 (lv_at hl 1 rfl) ?_
          have hf_377 := dk_full x_374
          refine W.widen (k := 0) (n := 0) (Nat.le_of_ble_eq_true rfl) (Nat.le_of_ble_eq_true rfl) ?_
          exact dg_iret hx hb hr hlocks rfl hP hS ⟨I_375, M_375, (by omega), trivial⟩ dX12_mostBy_115
        · have jc_377 := dk_ngtc (k := 20) (by decide +kernel) c_377
          refine lv_iload_n hx hb dX12_mostBy_37 rfl (lv_at hl 3 rfl) ?_
          refine lv_iload hx hb dX12_mostBy_38 (lv_at hl 0 rfl) ?_
          refine dg_calli hS hA1 hA (va_runS (As := [.int a1, .int x_373]) (rest := []) F (c_m_has2 l g D o S_375 a1 x_373 I_375 H.size) (va_cwS 2 hts (bw_S wB_1165 wB_1166 wB_297 wB_1164) rfl rfl rfl (by decide +kernel) ⟨Nat.le_of_ble_eq_true rfl, Nat.le_of_ble_eq_true rfl⟩) (dg_preS K ST hP hS hA1 hA) rfl rfl hl.1 rfl (lv_room (Nat.le_of_ble_eq_true rfl)) dX12_mostBy_40 ⟨Nat.le_of_ble_eq_true rfl, Nat.le_of_ble_eq_true rfl⟩) (fun x_379 S_380 hw_380 H locs hP hS => ?_)
          rw [hw_380.1] at hP
          obtain ⟨hq_380, w_380_0, -⟩ := hw_380
          have w_380_0 : 0 ≤ (x_379).toInt ∧ (x_379).toInt ≤ 1 := w_380_0
          have J_409 : ∀ (x_404 : Int32), (0 ≤ (x_404).toInt ∧ (x_404).toInt ≤ 2147483647) → ∀ S_408 : dg_S, CM o S_408 → dg_sm shM [] [49] S S_408 → ∀ (H : Heap) (locs : List Loc), va_P D vwCl (dg_w g shM o rfM S_408) H → va_S A s.heap H locs → ∀ ls : Array Slot, lv_has ls 7 [(4, .int x_404), (5, .int x_373), (0, .ref (o + 0)), (1, .int a1), (2, .int a2), (3, .int a3)] → W p l e ({ frames := 2, cells := 0, slots := 0, locals := 53 } : Room) s m args below meth c H locs 0 0 (MQ below (va_Qi (fun (r : Int32) S' => CM o S' ∧ dg_sm shM [] [49] S S' ∧ (0 ≤ (r).toInt ∧ (r).toInt ≤ 2147483647) ∧ True) (dg_B g D shM o rfM) A) args s 0 0 A) (F0 m 107 ls []) := by
            intro x_404 b_x_404 S_408 I_408 M_408 H locs hP hS ls hl
            obtain ⟨x_410, ex_410⟩ : ∃ z, z = x_373 + 1 := ⟨_, rfl⟩
            have jx_410 : (x_410).toInt = (x_373).toInt + 1 := by rw [ex_410]; exact dk_addT rfl (by decide +kernel) (by omega) (by omega)
            refine lv_iinc (v := x_410) (lv' := [(5, .int x_410), (4, .int x_404), (0, .ref (o + 0)), (1, .int a1), (2, .int a2), (3, .int a3)]) hx hb dX12_mostBy_107 hl (k := 1) rfl (by rw [ex_410]; rfl) (by decide) rfl (fun ls hl => ?_)
            refine lv_goto (tgt := 30) hx hb dX12_mostBy_110 (by decide) ?_
            have hf_410 := dk_full x_404
            exact ih x_410 x_404 (by omega) (by omega) (by omega) S_408 I_408 M_408  _ _ hP hS _ (lv_sub hl [0, 1, 2, 3, 4, 5] rfl)
          refine lv_if_ne (tgt := 49) hx hb dX12_mostBy_43 (by decide) (fun c_412 => ?_) (fun c_412 => ?_)
          · have jc_412 := dk_neqc (k := 0) (by decide +kernel) c_412
            refine lv_aload_n hx hb dX12_mostBy_49 rfl (lv_at hl 2 rfl) ?_
            refine dg_get (C := RX12) (T := TX12) (N := 77) hx hb hts (fun w h => bw_mem (wU_X12 w h)) hown K hP sM_0 rfl 73 (by decide) (hts _ (bw_mem wB_1262)) (fun _ h9 => h9) (v := .ref (o + 48)) (show S_375.1 0 73 = .ref (o + 48) from dg_I.rel (d := 48) I_375 sM_0 (by decide +kernel)) dX12_mostBy_50 ?_
            refine lv_bipush (v := 64) hx hb dX12_mostBy_53 (by decide +kernel) ?_
            refine lv_bipush (v := 31) hx hb dX12_mostBy_55 (by decide +kernel) ?_
            refine lv_iload hx hb dX12_mostBy_57 (lv_at hl 0 rfl) ?_
            refine lv_imul hx hb dX12_mostBy_59 ?_
            refine lv_topi (fun x_413 ex_413 => ?_)
            have jx_413 : (x_413).toInt = 31 * (x_373).toInt := by rw [ex_413]; exact dk_mulT (by decide +kernel) rfl (by omega) (by omega)
            refine lv_iload_n hx hb dX12_mostBy_60 rfl (lv_at hl 4 rfl) ?_
            refine lv_iadd hx hb dX12_mostBy_61 ?_
            refine lv_topi (fun x_414 ex_414 => ?_)
            have jx_414 : (x_414).toInt = (x_413).toInt + (a2).toInt := by rw [ex_414]; exact dk_addT rfl rfl (by omega) (by omega)
            refine lv_imul hx hb dX12_mostBy_62 ?_
            refine lv_topi (fun x_415 ex_415 => ?_)
            have jx_415 : (x_415).toInt = 64 * (x_414).toInt := by rw [ex_415]; exact dk_mulT (by decide +kernel) rfl (by omega) (by omega)
            refine lv_iload_n hx hb dX12_mostBy_63 rfl (lv_at hl 5 rfl) ?_
            refine lv_iadd hx hb dX12_mostBy_64 ?_
            refine lv_topi (fun x_416 ex_416 => ?_)
            have jx_416 : (x_416).toInt = (x_415).toInt + (a3).toInt := by rw [ex_416]; exact dk_addT rfl rfl (by omega) (by omega)
            have hin_417 : vp_in x_416 41664 := (dk_inv (by omega) (by omega))
            refine dg_iald hx hb K hP sM_48 hin_417 dX12_mostBy_65 (fun x_418 ex_418 => ?_)
            have b_x_418 := dk_all_at (dg_I.row (lo := (-1)) (hi := 9) I_375 sM_48 (by decide +kernel)) hin_417 ex_418
            refine lv_iconst (v := 1) hx hb dX12_mostBy_66 (by decide +kernel) ?_
            refine lv_iadd hx hb dX12_mostBy_67 ?_
            refine lv_topi (fun x_419 ex_419 => ?_)
            have jx_419 : (x_419).toInt = (x_418).toInt + 1 := by rw [ex_419]; exact dk_addT rfl (by decide +kernel) (by omega) (by omega)
            refine lv_istore (lv' := [(6, .int x_419), (5, .int x_373), (4, .int x_374), (0, .ref (o + 0)), (1, .int a1), (2, .int a2), (3, .int a3)]) hx hb dX12_mostBy_68 hl (by decide) rfl (fun ls hl => ?_)
            refine lv_aload_n hx hb dX12_mostBy_70 rfl (lv_at hl 3 rfl) ?_
            refine dg_get (C := RX12) (T := TX12) (N := 77) hx hb hts (fun w h => bw_mem (wU_X12 w h)) hown K hP sM_0 rfl 74 (by decide) (hts _ (bw_mem wB_1261)) (fun _ h9 => h9) (v := .ref (o + 49)) (show S_375.1 0 74 = .ref (o + 49) from dg_I.rel (d := 49) I_375 sM_0 (by decide +kernel)) dX12_mostBy_71 ?_
            refine lv_iload hx hb dX12_mostBy_74 (lv_at hl 0 rfl) ?_
            refine lv_dup2_11 hx hb dX12_mostBy_76 rfl rfl ?_
            have hin_420 : vp_in x_419 11 := (dk_inv (by omega) (by omega))
            refine dg_iald hx hb K hP sM_49 hin_420 dX12_mostBy_77 (fun x_421 ex_421 => ?_)
            refine lv_iconst (v := 1) hx hb dX12_mostBy_78 (by decide +kernel) ?_
            refine lv_iadd hx hb dX12_mostBy_79 ?_
            refine lv_topi (fun x_422 ex_422 => ?_)
            have hin_423 : vp_in x_419 11 := (dk_inv (by omega) (by omega))
            refine dg_iast hx hb K hP hS hA1 sM_49 hin_423 dX12_mostBy_80 (fun S_424 e_424 H locs hP hS => ?_)
            have I_424 := dg_I.uf0 I_375 e_424 sM_49 (by decide +kernel)
            have M_424 := dg_sm.uf M_375 e_424 sM_49 (by decide)
            refine lv_aload_n hx hb dX12_mostBy_81 rfl (lv_at hl 3 rfl) ?_
            refine dg_get (C := RX12) (T := TX12) (N := 77) hx hb hts (fun w h => bw_mem (wU_X12 w h)) hown K hP sM_0 rfl 74 (by decide) (hts _ (bw_mem wB_1261)) (fun _ h9 => h9) (v := .ref (o + 49)) (show S_424.1 0 74 = .ref (o + 49) from dg_I.rel (d := 49) I_424 sM_0 (by decide +kernel)) dX12_mostBy_82 ?_
            refine lv_iload hx hb dX12_mostBy_85 (lv_at hl 0 rfl) ?_
            have hin_425 : vp_in x_419 11 := (dk_inv (by omega) (by omega))
            refine dg_iald hx hb K hP sM_49 hin_425 dX12_mostBy_87 (fun y_426 ey_426 => ?_)
            obtain rfl : x_422 = y_426 := (ey_426.trans ((congrFun (dg_uf_at e_424) _).trans (dg_upd_at rfl))).symm
            refine lv_iload hx hb dX12_mostBy_88 (lv_at hl 2 rfl) ?_
            have J_436 : ∀ (x_434 : Int32), (0 ≤ (x_434).toInt ∧ (x_434).toInt ≤ 2147483647) → ∀ (H : Heap) (locs : List Loc), va_P D vwCl (dg_w g shM o rfM S_424) H → va_S A s.heap H locs → ∀ ls : Array Slot, lv_has ls 7 [(6, .int x_419), (5, .int x_373), (4, .int x_374), (0, .ref (o + 0)), (1, .int a1), (2, .int a2), (3, .int a3)] → W p l e ({ frames := 2, cells := 0, slots := 0, locals := 53 } : Room) s m args below meth c H locs 0 0 (MQ below (va_Qi (fun (r : Int32) S' => CM o S' ∧ dg_sm shM [] [49] S S' ∧ (0 ≤ (r).toInt ∧ (r).toInt ≤ 2147483647) ∧ True) (dg_B g D shM o rfM) A) args s 0 0 A) (F0 m 105 ls [.int x_434]) := by
              intro x_434 b_x_434 H locs hP hS ls hl
              refine lv_istore (lv' := [(4, .int x_434), (6, .int x_419), (5, .int x_373), (0, .ref (o + 0)), (1, .int a1), (2, .int a2), (3, .int a3)]) hx hb dX12_mostBy_105 hl (by decide) rfl (fun ls hl => ?_)
              have hf_436 := dk_full x_434
              exact J_409 x_434 (by omega) S_424 I_424 M_424  _ _ hP hS _ (lv_sub hl [0, 2, 3, 4, 5, 6] rfl)
            refine lv_icmp_le (tgt := 103) hx hb dX12_mostBy_90 (by decide) (fun c_438 => ?_) (fun c_438 => ?_)
            · have hf_438 := dk_full x_422
              have hf_439 := dk_full x_374
              have jc_438 := dk_lec (k := (x_374).toInt) rfl c_438
              refine lv_iload hx hb dX12_mostBy_103 (lv_at hl 2 rfl) ?_
              have hf_440 := dk_full x_374
              exact J_436 x_374 (by omega) _ _ hP hS _ (lv_sub hl [0, 1, 2, 3, 4, 5, 6] rfl)
            · have hf_441 := dk_full x_422
              have hf_442 := dk_full x_374
              have jc_438 := dk_nlec (k := (x_374).toInt) rfl c_438
              refine lv_aload_n hx hb dX12_mostBy_93 rfl (lv_at hl 3 rfl) ?_
              refine dg_get (C := RX12) (T := TX12) (N := 77) hx hb hts (fun w h => bw_mem (wU_X12 w h)) hown K hP sM_0 rfl 74 (by decide) (hts _ (bw_mem wB_1261)) (fun _ h9 => h9) (v := .ref (o + 49)) (show S_424.1 0 74 = .ref (o + 49) from dg_I.rel (d := 49) I_424 sM_0 (by decide +kernel)) dX12_mostBy_94 ?_
              refine lv_iload hx hb dX12_mostBy_97 (lv_at hl 0 rfl) ?_
              have hin_444 : vp_in x_419 11 := (dk_inv (by omega) (by omega))
              refine dg_iald hx hb K hP sM_49 hin_444 dX12_mostBy_99 (fun y_445 ey_445 => ?_)
              obtain rfl : x_422 = y_445 := (ey_445.trans ((congrFun (dg_uf_at e_424) _).trans (dg_upd_at rfl))).symm
              refine lv_goto (tgt := 105) hx hb dX12_mostBy_100 (by decide) ?_
              have hf_445 := dk_full x_422
              exact J_436 x_422 (by omega) _ _ hP hS _ (lv_sub hl [0, 1, 2, 3, 4, 5, 6] rfl)
          · have jc_412 := dk_eqc (k := 0) (by decide +kernel) c_412
            refine lv_goto (tgt := 107) hx hb dX12_mostBy_46 (by decide) ?_
            have hf_446 := dk_full x_374
            exact J_409 x_374 (by omega) S_375 I_375 M_375  _ _ hP hS _ (lv_sub hl [1, 0, 2, 3, 4, 5] rfl)
    have hz_448 : (0 : Int32).toInt = 0 := by decide +kernel
    have hz_449 : (0 : Int32).toInt = 0 := by decide +kernel
    have hz_450 : (0 : Int32).toInt = 0 := by decide +kernel
    have hz_451 : (0 : Int32).toInt = 0 := by decide +kernel
    exact L_376 ((22 - ((0 : Int32)).toInt).toNat + 1) 0 0 (by decide +kernel) (by decide +kernel) (by omega) S_222 I_222 M_222  _ _ hP hS _ (lv_sub hl [0, 1, 2, 3, 4, 5] rfl)
  have L_486 : ∀ (n : Nat) (x_484 : Int32), (0 ≤ (x_484).toInt ∧ (x_484).toInt ≤ 11) → ((12 - (x_484).toInt).toNat < n) → ∀ S_485 : dg_S, CM o S_485 → dg_sm shM [] [49] S S_485 → ∀ (H : Heap) (locs : List Loc), va_P D vwCl (dg_w g shM o rfM S_485) H → va_S A s.heap H locs → ∀ ls : Array Slot, lv_has ls 7 [(4, .int x_484), (0, .ref (o + 0)), (1, .int a1), (2, .int a2), (3, .int a3)] → W p l e ({ frames := 2, cells := 0, slots := 0, locals := 53 } : Room) s m args below meth c H locs 0 0 (MQ below (va_Qi (fun (r : Int32) S' => CM o S' ∧ dg_sm shM [] [49] S S' ∧ (0 ≤ (r).toInt ∧ (r).toInt ≤ 2147483647) ∧ True) (dg_B g D shM o rfM) A) args s 0 0 A) (F0 m 3 ls []) := by
    intro n
    induction n with
    | zero =>
      intro x_484 b_x_484 hmu S_485 I_485 M_485 H locs hP hS ls hl
      omega
    | succ n ih =>
      intro x_484 b_x_484 hmu S_485 I_485 M_485 H locs hP hS ls hl
      refine lv_iload hx hb dX12_mostBy_3 (lv_at hl 0 rfl) ?_
      refine lv_bipush (v := 10) hx hb dX12_mostBy_5 (by decide +kernel) ?_
      refine lv_icmp_gt (tgt := 24) hx hb dX12_mostBy_7 (by decide) (fun c_487 => ?_) (fun c_487 => ?_)
      · have jc_487 := dk_gtc (k := 10) (by decide +kernel) c_487
        have hf_487 := dk_full x_484
        exact J_223 x_484 (by omega) S_485 I_485 M_485  _ _ hP hS _ (lv_sub hl [0, 1, 2, 3, 4] rfl)
      · have jc_487 := dk_ngtc (k := 10) (by decide +kernel) c_487
        refine lv_aload_n hx hb dX12_mostBy_10 rfl (lv_at hl 1 rfl) ?_
        refine dg_get (C := RX12) (T := TX12) (N := 77) hx hb hts (fun w h => bw_mem (wU_X12 w h)) hown K hP sM_0 rfl 74 (by decide) (hts _ (bw_mem wB_1261)) (fun _ h9 => h9) (v := .ref (o + 49)) (show S_485.1 0 74 = .ref (o + 49) from dg_I.rel (d := 49) I_485 sM_0 (by decide +kernel)) dX12_mostBy_11 ?_
        refine lv_iload hx hb dX12_mostBy_14 (lv_at hl 0 rfl) ?_
        refine lv_iconst (v := 0) hx hb dX12_mostBy_16 (by decide +kernel) ?_
        have hin_489 : vp_in x_484 11 := (dk_inv (by omega) (by omega))
        have hz_491 : (0 : Int32).toInt = 0 := by decide +kernel
        refine dg_iast hx hb K hP hS hA1 sM_49 hin_489 dX12_mostBy_17 (fun S_490 e_490 H locs hP hS => ?_)
        have I_490 := dg_I.uf0 I_485 e_490 sM_49 (by decide +kernel)
        have M_490 := dg_sm.uf M_485 e_490 sM_49 (by decide)
        obtain ⟨x_492, ex_492⟩ : ∃ z, z = x_484 + 1 := ⟨_, rfl⟩
        have jx_492 : (x_492).toInt = (x_484).toInt + 1 := by rw [ex_492]; exact dk_addT rfl (by decide +kernel) (by omega) (by omega)
        refine lv_iinc (v := x_492) (lv' := [(4, .int x_492), (0, .ref (o + 0)), (1, .int a1), (2, .int a2), (3, .int a3)]) hx hb dX12_mostBy_18 hl (k := 0) rfl (by rw [ex_492]; rfl) (by decide) rfl (fun ls hl => ?_)
        refine lv_goto (tgt := 3) hx hb dX12_mostBy_21 (by decide) ?_
        exact ih x_492 (by omega) (by omega) S_490 I_490 M_490  _ _ hP hS _ (lv_sub hl [0, 1, 2, 3, 4] rfl)
  have hz_493 : (0 : Int32).toInt = 0 := by decide +kernel
  have hz_494 : (0 : Int32).toInt = 0 := by decide +kernel
  exact L_486 ((12 - ((0 : Int32)).toInt).toNat + 1) 0 (by decide +kernel) (by omega) S I M_0  _ _ hP hS _ (lv_sub hl [0, 1, 2, 3, 4] rfl)
