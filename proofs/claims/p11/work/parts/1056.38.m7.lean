/-! 38.m7.lean.txt -/
theorem dX12_mostBy_0 : decode cX12_mostBy 0 = .ok (.iconst 0, 1) := dk_o3 (by decide +kernel)
theorem dX12_mostBy_1 : decode cX12_mostBy 1 = .ok (.istore 4, 2) := dk_o54 (by decide +kernel)
theorem dX12_mostBy_3 : decode cX12_mostBy 3 = .ok (.iload 4, 2) := dk_o21 (by decide +kernel)
theorem dX12_mostBy_5 : decode cX12_mostBy 5 = .ok (.bipush 10, 2) := dk_o16 (by decide +kernel)
theorem dX12_mostBy_7 : decode cX12_mostBy 7 = .ok (.if_icmp .gt 17, 3) := dk_o163 (by decide +kernel)
theorem dX12_mostBy_10 : decode cX12_mostBy 10 = .ok (.aload_n 0, 1) := dk_o42 (by decide +kernel)
theorem dX12_mostBy_11 : decode cX12_mostBy 11 = .ok (.getfield 238, 3) := dk_o180 (by decide +kernel)
theorem dX12_mostBy_14 : decode cX12_mostBy 14 = .ok (.iload 4, 2) := dk_o21 (by decide +kernel)
theorem dX12_mostBy_16 : decode cX12_mostBy 16 = .ok (.iconst 0, 1) := dk_o3 (by decide +kernel)
theorem dX12_mostBy_17 : decode cX12_mostBy 17 = .ok (.iastore, 1) := dk_o79 (by decide +kernel)
theorem dX12_mostBy_18 : decode cX12_mostBy 18 = .ok (.iinc 4 1, 3) := dk_o132 (by decide +kernel)
theorem dX12_mostBy_21 : decode cX12_mostBy 21 = .ok (.goto (-18), 3) := dk_o167 (by decide +kernel)
theorem dX12_mostBy_24 : decode cX12_mostBy 24 = .ok (.iconst 0, 1) := dk_o3 (by decide +kernel)
theorem dX12_mostBy_25 : decode cX12_mostBy 25 = .ok (.istore 4, 2) := dk_o54 (by decide +kernel)
theorem dX12_mostBy_27 : decode cX12_mostBy 27 = .ok (.iconst 0, 1) := dk_o3 (by decide +kernel)
theorem dX12_mostBy_28 : decode cX12_mostBy 28 = .ok (.istore 5, 2) := dk_o54 (by decide +kernel)
theorem dX12_mostBy_30 : decode cX12_mostBy 30 = .ok (.iload 5, 2) := dk_o21 (by decide +kernel)
theorem dX12_mostBy_32 : decode cX12_mostBy 32 = .ok (.bipush 20, 2) := dk_o16 (by decide +kernel)
theorem dX12_mostBy_34 : decode cX12_mostBy 34 = .ok (.if_icmp .gt 79, 3) := dk_o163 (by decide +kernel)
theorem dX12_mostBy_37 : decode cX12_mostBy 37 = .ok (.iload_n 1, 1) := dk_o27 (by decide +kernel)
theorem dX12_mostBy_38 : decode cX12_mostBy 38 = .ok (.iload 5, 2) := dk_o21 (by decide +kernel)
theorem dX12_mostBy_40 : decode cX12_mostBy 40 = .ok (.invokestatic 487, 3) := dk_o184 (by decide +kernel)
theorem dX12_mostBy_43 : decode cX12_mostBy 43 = .ok (.ifCond .ne 6, 3) := dk_o154 (by decide +kernel)
theorem dX12_mostBy_46 : decode cX12_mostBy 46 = .ok (.goto 61, 3) := dk_o167 (by decide +kernel)
theorem dX12_mostBy_49 : decode cX12_mostBy 49 = .ok (.aload_n 0, 1) := dk_o42 (by decide +kernel)
theorem dX12_mostBy_50 : decode cX12_mostBy 50 = .ok (.getfield 235, 3) := dk_o180 (by decide +kernel)
theorem dX12_mostBy_53 : decode cX12_mostBy 53 = .ok (.bipush 64, 2) := dk_o16 (by decide +kernel)
theorem dX12_mostBy_55 : decode cX12_mostBy 55 = .ok (.bipush 31, 2) := dk_o16 (by decide +kernel)
theorem dX12_mostBy_57 : decode cX12_mostBy 57 = .ok (.iload 5, 2) := dk_o21 (by decide +kernel)
theorem dX12_mostBy_59 : decode cX12_mostBy 59 = .ok (.imul, 1) := dk_o104 (by decide +kernel)
theorem dX12_mostBy_60 : decode cX12_mostBy 60 = .ok (.iload_n 2, 1) := dk_o28 (by decide +kernel)
theorem dX12_mostBy_61 : decode cX12_mostBy 61 = .ok (.iadd, 1) := dk_o96 (by decide +kernel)
theorem dX12_mostBy_62 : decode cX12_mostBy 62 = .ok (.imul, 1) := dk_o104 (by decide +kernel)
theorem dX12_mostBy_63 : decode cX12_mostBy 63 = .ok (.iload_n 3, 1) := dk_o29 (by decide +kernel)
theorem dX12_mostBy_64 : decode cX12_mostBy 64 = .ok (.iadd, 1) := dk_o96 (by decide +kernel)
theorem dX12_mostBy_65 : decode cX12_mostBy 65 = .ok (.iaload, 1) := dk_o46 (by decide +kernel)
theorem dX12_mostBy_66 : decode cX12_mostBy 66 = .ok (.iconst 1, 1) := dk_o4 (by decide +kernel)
theorem dX12_mostBy_67 : decode cX12_mostBy 67 = .ok (.iadd, 1) := dk_o96 (by decide +kernel)
theorem dX12_mostBy_68 : decode cX12_mostBy 68 = .ok (.istore 6, 2) := dk_o54 (by decide +kernel)
theorem dX12_mostBy_70 : decode cX12_mostBy 70 = .ok (.aload_n 0, 1) := dk_o42 (by decide +kernel)
theorem dX12_mostBy_71 : decode cX12_mostBy 71 = .ok (.getfield 238, 3) := dk_o180 (by decide +kernel)
theorem dX12_mostBy_74 : decode cX12_mostBy 74 = .ok (.iload 6, 2) := dk_o21 (by decide +kernel)
theorem dX12_mostBy_76 : decode cX12_mostBy 76 = .ok (.dup2, 1) := dk_o92 (by decide +kernel)
theorem dX12_mostBy_77 : decode cX12_mostBy 77 = .ok (.iaload, 1) := dk_o46 (by decide +kernel)
theorem dX12_mostBy_78 : decode cX12_mostBy 78 = .ok (.iconst 1, 1) := dk_o4 (by decide +kernel)
theorem dX12_mostBy_79 : decode cX12_mostBy 79 = .ok (.iadd, 1) := dk_o96 (by decide +kernel)
theorem dX12_mostBy_80 : decode cX12_mostBy 80 = .ok (.iastore, 1) := dk_o79 (by decide +kernel)
theorem dX12_mostBy_81 : decode cX12_mostBy 81 = .ok (.aload_n 0, 1) := dk_o42 (by decide +kernel)
theorem dX12_mostBy_82 : decode cX12_mostBy 82 = .ok (.getfield 238, 3) := dk_o180 (by decide +kernel)
theorem dX12_mostBy_85 : decode cX12_mostBy 85 = .ok (.iload 6, 2) := dk_o21 (by decide +kernel)
theorem dX12_mostBy_87 : decode cX12_mostBy 87 = .ok (.iaload, 1) := dk_o46 (by decide +kernel)
theorem dX12_mostBy_88 : decode cX12_mostBy 88 = .ok (.iload 4, 2) := dk_o21 (by decide +kernel)
theorem dX12_mostBy_90 : decode cX12_mostBy 90 = .ok (.if_icmp .le 13, 3) := dk_o164 (by decide +kernel)
theorem dX12_mostBy_93 : decode cX12_mostBy 93 = .ok (.aload_n 0, 1) := dk_o42 (by decide +kernel)
theorem dX12_mostBy_94 : decode cX12_mostBy 94 = .ok (.getfield 238, 3) := dk_o180 (by decide +kernel)
theorem dX12_mostBy_97 : decode cX12_mostBy 97 = .ok (.iload 6, 2) := dk_o21 (by decide +kernel)
theorem dX12_mostBy_99 : decode cX12_mostBy 99 = .ok (.iaload, 1) := dk_o46 (by decide +kernel)
theorem dX12_mostBy_100 : decode cX12_mostBy 100 = .ok (.goto 5, 3) := dk_o167 (by decide +kernel)
theorem dX12_mostBy_103 : decode cX12_mostBy 103 = .ok (.iload 4, 2) := dk_o21 (by decide +kernel)
theorem dX12_mostBy_105 : decode cX12_mostBy 105 = .ok (.istore 4, 2) := dk_o54 (by decide +kernel)
theorem dX12_mostBy_107 : decode cX12_mostBy 107 = .ok (.iinc 5 1, 3) := dk_o132 (by decide +kernel)
theorem dX12_mostBy_110 : decode cX12_mostBy 110 = .ok (.goto (-80), 3) := dk_o167 (by decide +kernel)
theorem dX12_mostBy_113 : decode cX12_mostBy 113 = .ok (.iload 4, 2) := dk_o21 (by decide +kernel)
theorem dX12_mostBy_115 : decode cX12_mostBy 115 = .ok (.ireturn, 1) := dk_o172 (by decide +kernel)
theorem dX12_hang_0 : decode cX12_hang 0 = .ok (.aload_n 0, 1) := dk_o42 (by decide +kernel)
theorem dX12_hang_1 : decode cX12_hang 1 = .ok (.iload_n 1, 1) := dk_o27 (by decide +kernel)
theorem dX12_hang_2 : decode cX12_hang 2 = .ok (.iload_n 2, 1) := dk_o28 (by decide +kernel)
theorem dX12_hang_3 : decode cX12_hang 3 = .ok (.invokevirtual 452, 3) := dk_o182 (by decide +kernel)
theorem dX12_hang_6 : decode cX12_hang 6 = .ok (.ifCond .eq 12, 3) := dk_o153 (by decide +kernel)
theorem dX12_hang_9 : decode cX12_hang 9 = .ok (.bipush 8, 2) := dk_o16 (by decide +kernel)
theorem dX12_hang_11 : decode cX12_hang 11 = .ok (.iload_n 2, 1) := dk_o28 (by decide +kernel)
theorem dX12_hang_12 : decode cX12_hang 12 = .ok (.imul, 1) := dk_o104 (by decide +kernel)
theorem dX12_hang_13 : decode cX12_hang 13 = .ok (.iload_n 1, 1) := dk_o27 (by decide +kernel)
theorem dX12_hang_14 : decode cX12_hang 14 = .ok (.iadd, 1) := dk_o96 (by decide +kernel)
theorem dX12_hang_15 : decode cX12_hang 15 = .ok (.goto 4, 3) := dk_o167 (by decide +kernel)
theorem dX12_hang_18 : decode cX12_hang 18 = .ok (.iconst (-1), 1) := dk_o2 (by decide +kernel)
theorem dX12_hang_19 : decode cX12_hang 19 = .ok (.istore 4, 2) := dk_o54 (by decide +kernel)
theorem dX12_hang_21 : decode cX12_hang 21 = .ok (.iload 4, 2) := dk_o21 (by decide +kernel)
theorem dX12_hang_23 : decode cX12_hang 23 = .ok (.iconst (-1), 1) := dk_o2 (by decide +kernel)
theorem dX12_hang_24 : decode cX12_hang 24 = .ok (.if_icmp .eq 32, 3) := dk_o159 (by decide +kernel)
theorem dX12_hang_27 : decode cX12_hang 27 = .ok (.aload_n 0, 1) := dk_o42 (by decide +kernel)
theorem dX12_hang_28 : decode cX12_hang 28 = .ok (.iload 4, 2) := dk_o21 (by decide +kernel)
theorem dX12_hang_30 : decode cX12_hang 30 = .ok (.invokevirtual 547, 3) := dk_o182 (by decide +kernel)
theorem dX12_hang_33 : decode cX12_hang 33 = .ok (.ifCond .eq 23, 3) := dk_o153 (by decide +kernel)
theorem dX12_hang_36 : decode cX12_hang 36 = .ok (.iload_n 3, 1) := dk_o29 (by decide +kernel)
theorem dX12_hang_37 : decode cX12_hang 37 = .ok (.iconst 0, 1) := dk_o3 (by decide +kernel)
theorem dX12_hang_38 : decode cX12_hang 38 = .ok (.iconst 1, 1) := dk_o4 (by decide +kernel)
theorem dX12_hang_39 : decode cX12_hang 39 = .ok (.invokestatic 333, 3) := dk_o184 (by decide +kernel)
theorem dX12_hang_42 : decode cX12_hang 42 = .ok (.ifCond .eq 14, 3) := dk_o153 (by decide +kernel)
theorem dX12_hang_45 : decode cX12_hang 45 = .ok (.aload_n 0, 1) := dk_o42 (by decide +kernel)
theorem dX12_hang_46 : decode cX12_hang 46 = .ok (.getfield 171, 3) := dk_o180 (by decide +kernel)
theorem dX12_hang_49 : decode cX12_hang 49 = .ok (.iload 4, 2) := dk_o21 (by decide +kernel)
theorem dX12_hang_51 : decode cX12_hang 51 = .ok (.iaload, 1) := dk_o46 (by decide +kernel)
theorem dX12_hang_52 : decode cX12_hang 52 = .ok (.iload_n 3, 1) := dk_o29 (by decide +kernel)
theorem dX12_hang_53 : decode cX12_hang 53 = .ok (.if_icmp .ne 17, 3) := dk_o160 (by decide +kernel)
theorem dX12_hang_56 : decode cX12_hang 56 = .ok (.aload_n 0, 1) := dk_o42 (by decide +kernel)
theorem dX12_hang_57 : decode cX12_hang 57 = .ok (.iconst 3, 1) := dk_o6 (by decide +kernel)
theorem dX12_hang_58 : decode cX12_hang 58 = .ok (.invokevirtual 247, 3) := dk_o182 (by decide +kernel)
theorem dX12_hang_61 : decode cX12_hang 61 = .ok (.ifCond .lt 7, 3) := dk_o155 (by decide +kernel)
theorem dX12_hang_68 : decode cX12_hang 68 = .ok (.iconst 0, 1) := dk_o3 (by decide +kernel)
theorem dX12_hang_69 : decode cX12_hang 69 = .ok (.ireturn, 1) := dk_o172 (by decide +kernel)
theorem dX12_hang_70 : decode cX12_hang 70 = .ok (.aload_n 0, 1) := dk_o42 (by decide +kernel)
theorem dX12_hang_71 : decode cX12_hang 71 = .ok (.invokevirtual 566, 3) := dk_o182 (by decide +kernel)
theorem dX12_hang_74 : decode cX12_hang 74 = .ok (.aload_n 0, 1) := dk_o42 (by decide +kernel)
theorem dX12_hang_75 : decode cX12_hang 75 = .ok (.getfield 171, 3) := dk_o180 (by decide +kernel)
theorem dX12_hang_78 : decode cX12_hang 78 = .ok (.iload 4, 2) := dk_o21 (by decide +kernel)
theorem dX12_hang_80 : decode cX12_hang 80 = .ok (.iload_n 3, 1) := dk_o29 (by decide +kernel)
theorem dX12_hang_81 : decode cX12_hang 81 = .ok (.iastore, 1) := dk_o79 (by decide +kernel)
theorem dX12_hang_82 : decode cX12_hang 82 = .ok (.iconst 1, 1) := dk_o4 (by decide +kernel)
theorem dX12_hang_83 : decode cX12_hang 83 = .ok (.ireturn, 1) := dk_o172 (by decide +kernel)
theorem dX12_send_0 : decode cX12_send 0 = .ok (.iload_n 1, 1) := dk_o27 (by decide +kernel)
theorem dX12_send_1 : decode cX12_send 1 = .ok (.iconst 0, 1) := dk_o3 (by decide +kernel)
theorem dX12_send_2 : decode cX12_send 2 = .ok (.aload_n 0, 1) := dk_o42 (by decide +kernel)
theorem dX12_send_3 : decode cX12_send 3 = .ok (.getfield 75, 3) := dk_o180 (by decide +kernel)
theorem dX12_send_6 : decode cX12_send 6 = .ok (.aload_n 0, 1) := dk_o42 (by decide +kernel)
theorem dX12_send_7 : decode cX12_send 7 = .ok (.getfield 51, 3) := dk_o180 (by decide +kernel)
theorem dX12_send_10 : decode cX12_send 10 = .ok (.iaload, 1) := dk_o46 (by decide +kernel)
theorem dX12_send_11 : decode cX12_send 11 = .ok (.iconst 1, 1) := dk_o4 (by decide +kernel)
theorem dX12_send_12 : decode cX12_send 12 = .ok (.isub, 1) := dk_o100 (by decide +kernel)
theorem dX12_send_13 : decode cX12_send 13 = .ok (.invokestatic 333, 3) := dk_o184 (by decide +kernel)
theorem dX12_send_16 : decode cX12_send 16 = .ok (.ifCond .eq 21, 3) := dk_o153 (by decide +kernel)
theorem dX12_send_19 : decode cX12_send 19 = .ok (.aload_n 0, 1) := dk_o42 (by decide +kernel)
theorem dX12_send_20 : decode cX12_send 20 = .ok (.iload_n 2, 1) := dk_o28 (by decide +kernel)
theorem dX12_send_21 : decode cX12_send 21 = .ok (.invokevirtual 521, 3) := dk_o182 (by decide +kernel)
theorem dX12_send_24 : decode cX12_send 24 = .ok (.ifCond .eq 13, 3) := dk_o153 (by decide +kernel)
theorem dX12_send_27 : decode cX12_send 27 = .ok (.aload_n 0, 1) := dk_o42 (by decide +kernel)
theorem dX12_send_28 : decode cX12_send 28 = .ok (.iload_n 3, 1) := dk_o29 (by decide +kernel)
theorem dX12_send_29 : decode cX12_send 29 = .ok (.iload 4, 2) := dk_o21 (by decide +kernel)
theorem dX12_send_31 : decode cX12_send 31 = .ok (.invokevirtual 452, 3) := dk_o182 (by decide +kernel)
theorem dX12_send_34 : decode cX12_send 34 = .ok (.ifCond .ne 17, 3) := dk_o154 (by decide +kernel)
theorem dX12_send_37 : decode cX12_send 37 = .ok (.aload_n 0, 1) := dk_o42 (by decide +kernel)
theorem dX12_send_38 : decode cX12_send 38 = .ok (.iconst 3, 1) := dk_o6 (by decide +kernel)
theorem dX12_send_39 : decode cX12_send 39 = .ok (.invokevirtual 247, 3) := dk_o182 (by decide +kernel)
theorem dX12_send_42 : decode cX12_send 42 = .ok (.ifCond .lt 7, 3) := dk_o155 (by decide +kernel)
theorem dX12_send_49 : decode cX12_send 49 = .ok (.iconst 0, 1) := dk_o3 (by decide +kernel)
theorem dX12_send_50 : decode cX12_send 50 = .ok (.ireturn, 1) := dk_o172 (by decide +kernel)
theorem dX12_send_51 : decode cX12_send 51 = .ok (.bipush 8, 2) := dk_o16 (by decide +kernel)
theorem dX12_send_53 : decode cX12_send 53 = .ok (.iload 4, 2) := dk_o21 (by decide +kernel)
theorem dX12_send_55 : decode cX12_send 55 = .ok (.imul, 1) := dk_o104 (by decide +kernel)
theorem dX12_send_56 : decode cX12_send 56 = .ok (.iload_n 3, 1) := dk_o29 (by decide +kernel)
theorem dX12_send_57 : decode cX12_send 57 = .ok (.iadd, 1) := dk_o96 (by decide +kernel)
theorem dX12_send_58 : decode cX12_send 58 = .ok (.istore 5, 2) := dk_o54 (by decide +kernel)
theorem dX12_send_60 : decode cX12_send 60 = .ok (.aload_n 0, 1) := dk_o42 (by decide +kernel)
theorem dX12_send_61 : decode cX12_send 61 = .ok (.getfield 180, 3) := dk_o180 (by decide +kernel)
theorem dX12_send_64 : decode cX12_send 64 = .ok (.iload_n 1, 1) := dk_o27 (by decide +kernel)
theorem dX12_send_65 : decode cX12_send 65 = .ok (.iaload, 1) := dk_o46 (by decide +kernel)
theorem dX12_send_66 : decode cX12_send 66 = .ok (.iload_n 2, 1) := dk_o28 (by decide +kernel)
theorem dX12_send_67 : decode cX12_send 67 = .ok (.if_icmp .ne 28, 3) := dk_o160 (by decide +kernel)
theorem dX12_send_70 : decode cX12_send 70 = .ok (.aload_n 0, 1) := dk_o42 (by decide +kernel)
theorem dX12_send_71 : decode cX12_send 71 = .ok (.getfield 183, 3) := dk_o180 (by decide +kernel)
theorem dX12_send_74 : decode cX12_send 74 = .ok (.iload_n 1, 1) := dk_o27 (by decide +kernel)
theorem dX12_send_75 : decode cX12_send 75 = .ok (.iaload, 1) := dk_o46 (by decide +kernel)
theorem dX12_send_76 : decode cX12_send 76 = .ok (.iload 5, 2) := dk_o21 (by decide +kernel)
theorem dX12_send_78 : decode cX12_send 78 = .ok (.if_icmp .ne 17, 3) := dk_o160 (by decide +kernel)
theorem dX12_send_81 : decode cX12_send 81 = .ok (.aload_n 0, 1) := dk_o42 (by decide +kernel)
theorem dX12_send_82 : decode cX12_send 82 = .ok (.iconst 3, 1) := dk_o6 (by decide +kernel)
theorem dX12_send_83 : decode cX12_send 83 = .ok (.invokevirtual 247, 3) := dk_o182 (by decide +kernel)
theorem dX12_send_86 : decode cX12_send 86 = .ok (.ifCond .lt 7, 3) := dk_o155 (by decide +kernel)
theorem dX12_send_93 : decode cX12_send 93 = .ok (.iconst 0, 1) := dk_o3 (by decide +kernel)
theorem dX12_send_94 : decode cX12_send 94 = .ok (.ireturn, 1) := dk_o172 (by decide +kernel)
theorem dX12_send_95 : decode cX12_send 95 = .ok (.aload_n 0, 1) := dk_o42 (by decide +kernel)
theorem dX12_send_96 : decode cX12_send 96 = .ok (.invokevirtual 566, 3) := dk_o182 (by decide +kernel)
theorem dX12_send_99 : decode cX12_send 99 = .ok (.aload_n 0, 1) := dk_o42 (by decide +kernel)
theorem dX12_send_100 : decode cX12_send 100 = .ok (.getfield 180, 3) := dk_o180 (by decide +kernel)
theorem dX12_send_103 : decode cX12_send 103 = .ok (.iload_n 1, 1) := dk_o27 (by decide +kernel)
theorem dX12_send_104 : decode cX12_send 104 = .ok (.iload_n 2, 1) := dk_o28 (by decide +kernel)
theorem dX12_send_105 : decode cX12_send 105 = .ok (.iastore, 1) := dk_o79 (by decide +kernel)
theorem dX12_send_106 : decode cX12_send 106 = .ok (.aload_n 0, 1) := dk_o42 (by decide +kernel)
theorem dX12_send_107 : decode cX12_send 107 = .ok (.getfield 183, 3) := dk_o180 (by decide +kernel)
theorem dX12_send_110 : decode cX12_send 110 = .ok (.iload_n 1, 1) := dk_o27 (by decide +kernel)
theorem dX12_send_111 : decode cX12_send 111 = .ok (.iload 5, 2) := dk_o21 (by decide +kernel)
theorem dX12_send_113 : decode cX12_send 113 = .ok (.iastore, 1) := dk_o79 (by decide +kernel)
theorem dX12_send_114 : decode cX12_send 114 = .ok (.iconst 1, 1) := dk_o4 (by decide +kernel)
theorem dX12_send_115 : decode cX12_send 115 = .ok (.ireturn, 1) := dk_o172 (by decide +kernel)
theorem dX12_heal_0 : decode cX12_heal 0 = .ok (.aload_n 0, 1) := dk_o42 (by decide +kernel)
theorem dX12_heal_1 : decode cX12_heal 1 = .ok (.iload_n 1, 1) := dk_o27 (by decide +kernel)
theorem dX12_heal_2 : decode cX12_heal 2 = .ok (.invokevirtual 521, 3) := dk_o182 (by decide +kernel)
theorem dX12_heal_5 : decode cX12_heal 5 = .ok (.ifCond .eq 16, 3) := dk_o153 (by decide +kernel)
theorem dX12_heal_8 : decode cX12_heal 8 = .ok (.aload_n 0, 1) := dk_o42 (by decide +kernel)
theorem dX12_heal_9 : decode cX12_heal 9 = .ok (.getfield 174, 3) := dk_o180 (by decide +kernel)
theorem dX12_heal_12 : decode cX12_heal 12 = .ok (.iconst 0, 1) := dk_o3 (by decide +kernel)
theorem dX12_heal_13 : decode cX12_heal 13 = .ok (.iaload, 1) := dk_o46 (by decide +kernel)
theorem dX12_heal_14 : decode cX12_heal 14 = .ok (.iload_n 1, 1) := dk_o27 (by decide +kernel)
theorem dX12_heal_15 : decode cX12_heal 15 = .ok (.invokestatic 487, 3) := dk_o184 (by decide +kernel)
theorem dX12_heal_18 : decode cX12_heal 18 = .ok (.ifCond .ne 17, 3) := dk_o154 (by decide +kernel)
theorem dX12_heal_21 : decode cX12_heal 21 = .ok (.aload_n 0, 1) := dk_o42 (by decide +kernel)
theorem dX12_heal_22 : decode cX12_heal 22 = .ok (.iconst 3, 1) := dk_o6 (by decide +kernel)
theorem dX12_heal_23 : decode cX12_heal 23 = .ok (.invokevirtual 247, 3) := dk_o182 (by decide +kernel)
theorem dX12_heal_26 : decode cX12_heal 26 = .ok (.ifCond .lt 7, 3) := dk_o155 (by decide +kernel)
theorem dX12_heal_33 : decode cX12_heal 33 = .ok (.iconst 0, 1) := dk_o3 (by decide +kernel)
theorem dX12_heal_34 : decode cX12_heal 34 = .ok (.ireturn, 1) := dk_o172 (by decide +kernel)
theorem dX12_heal_35 : decode cX12_heal 35 = .ok (.aload_n 0, 1) := dk_o42 (by decide +kernel)
theorem dX12_heal_36 : decode cX12_heal 36 = .ok (.invokevirtual 566, 3) := dk_o182 (by decide +kernel)
theorem dX12_heal_39 : decode cX12_heal 39 = .ok (.aload_n 0, 1) := dk_o42 (by decide +kernel)
theorem dX12_heal_40 : decode cX12_heal 40 = .ok (.getfield 174, 3) := dk_o180 (by decide +kernel)
theorem dX12_heal_43 : decode cX12_heal 43 = .ok (.iconst 0, 1) := dk_o3 (by decide +kernel)
theorem dX12_heal_44 : decode cX12_heal 44 = .ok (.dup2, 1) := dk_o92 (by decide +kernel)
theorem dX12_heal_45 : decode cX12_heal 45 = .ok (.iaload, 1) := dk_o46 (by decide +kernel)
theorem dX12_heal_46 : decode cX12_heal 46 = .ok (.iconst 1, 1) := dk_o4 (by decide +kernel)
theorem dX12_heal_47 : decode cX12_heal 47 = .ok (.iload_n 1, 1) := dk_o27 (by decide +kernel)
theorem dX12_heal_48 : decode cX12_heal 48 = .ok (.ishl, 1) := dk_o120 (by decide +kernel)
theorem dX12_heal_49 : decode cX12_heal 49 = .ok (.iconst (-1), 1) := dk_o2 (by decide +kernel)
theorem dX12_heal_50 : decode cX12_heal 50 = .ok (.ixor, 1) := dk_o130 (by decide +kernel)
theorem dX12_heal_51 : decode cX12_heal 51 = .ok (.iand, 1) := dk_o126 (by decide +kernel)
theorem dX12_heal_52 : decode cX12_heal 52 = .ok (.iastore, 1) := dk_o79 (by decide +kernel)
theorem dX12_heal_53 : decode cX12_heal 53 = .ok (.iconst 1, 1) := dk_o4 (by decide +kernel)
theorem dX12_heal_54 : decode cX12_heal 54 = .ok (.ireturn, 1) := dk_o172 (by decide +kernel)
theorem dX12_sell_0 : decode cX12_sell 0 = .ok (.aload_n 0, 1) := dk_o42 (by decide +kernel)
theorem dX12_sell_1 : decode cX12_sell 1 = .ok (.iload_n 1, 1) := dk_o27 (by decide +kernel)
theorem dX12_sell_2 : decode cX12_sell 2 = .ok (.invokevirtual 535, 3) := dk_o182 (by decide +kernel)
theorem dX12_sell_5 : decode cX12_sell 5 = .ok (.ifCond .ne 9, 3) := dk_o154 (by decide +kernel)
theorem dX12_sell_8 : decode cX12_sell 8 = .ok (.aload_n 0, 1) := dk_o42 (by decide +kernel)
theorem dX12_sell_9 : decode cX12_sell 9 = .ok (.iconst 3, 1) := dk_o6 (by decide +kernel)
theorem dX12_sell_10 : decode cX12_sell 10 = .ok (.invokevirtual 247, 3) := dk_o182 (by decide +kernel)
theorem dX12_sell_13 : decode cX12_sell 13 = .ok (.ireturn, 1) := dk_o172 (by decide +kernel)
theorem dX12_sell_14 : decode cX12_sell 14 = .ok (.aload_n 0, 1) := dk_o42 (by decide +kernel)
theorem dX12_sell_15 : decode cX12_sell 15 = .ok (.invokevirtual 566, 3) := dk_o182 (by decide +kernel)
theorem dX12_sell_18 : decode cX12_sell 18 = .ok (.aload_n 0, 1) := dk_o42 (by decide +kernel)
theorem dX12_sell_19 : decode cX12_sell 19 = .ok (.getfield 90, 3) := dk_o180 (by decide +kernel)
theorem dX12_sell_22 : decode cX12_sell 22 = .ok (.iconst 5, 1) := dk_o8 (by decide +kernel)
theorem dX12_sell_23 : decode cX12_sell 23 = .ok (.aload_n 0, 1) := dk_o42 (by decide +kernel)
theorem dX12_sell_24 : decode cX12_sell 24 = .ok (.getfield 51, 3) := dk_o180 (by decide +kernel)
theorem dX12_sell_27 : decode cX12_sell 27 = .ok (.imul, 1) := dk_o104 (by decide +kernel)
theorem dX12_sell_28 : decode cX12_sell 28 = .ok (.iload_n 1, 1) := dk_o27 (by decide +kernel)
theorem dX12_sell_29 : decode cX12_sell 29 = .ok (.iadd, 1) := dk_o96 (by decide +kernel)
theorem dX12_sell_30 : decode cX12_sell 30 = .ok (.iaload, 1) := dk_o46 (by decide +kernel)
theorem dX12_sell_31 : decode cX12_sell 31 = .ok (.istore_n 2, 1) := dk_o61 (by decide +kernel)
theorem dX12_sell_32 : decode cX12_sell 32 = .ok (.aload_n 0, 1) := dk_o42 (by decide +kernel)
theorem dX12_sell_33 : decode cX12_sell 33 = .ok (.getfield 87, 3) := dk_o180 (by decide +kernel)
theorem dX12_sell_36 : decode cX12_sell 36 = .ok (.iconst 5, 1) := dk_o8 (by decide +kernel)
theorem dX12_sell_37 : decode cX12_sell 37 = .ok (.aload_n 0, 1) := dk_o42 (by decide +kernel)
theorem dX12_sell_38 : decode cX12_sell 38 = .ok (.getfield 51, 3) := dk_o180 (by decide +kernel)
theorem dX12_sell_41 : decode cX12_sell 41 = .ok (.imul, 1) := dk_o104 (by decide +kernel)
theorem dX12_sell_42 : decode cX12_sell 42 = .ok (.iload_n 1, 1) := dk_o27 (by decide +kernel)
theorem dX12_sell_43 : decode cX12_sell 43 = .ok (.iadd, 1) := dk_o96 (by decide +kernel)
theorem dX12_sell_44 : decode cX12_sell 44 = .ok (.iaload, 1) := dk_o46 (by decide +kernel)
theorem dX12_sell_45 : decode cX12_sell 45 = .ok (.istore_n 3, 1) := dk_o62 (by decide +kernel)
theorem dX12_sell_46 : decode cX12_sell 46 = .ok (.iload_n 3, 1) := dk_o29 (by decide +kernel)
theorem dX12_sell_47 : decode cX12_sell 47 = .ok (.bipush 10, 2) := dk_o16 (by decide +kernel)
theorem dX12_sell_49 : decode cX12_sell 49 = .ok (.if_icmp .ge 47, 3) := dk_o162 (by decide +kernel)
theorem dX12_sell_52 : decode cX12_sell 52 = .ok (.aload_n 0, 1) := dk_o42 (by decide +kernel)
theorem dX12_sell_53 : decode cX12_sell 53 = .ok (.getfield 186, 3) := dk_o180 (by decide +kernel)
theorem dX12_sell_56 : decode cX12_sell 56 = .ok (.iload_n 3, 1) := dk_o29 (by decide +kernel)
theorem dX12_sell_57 : decode cX12_sell 57 = .ok (.iaload, 1) := dk_o46 (by decide +kernel)
theorem dX12_sell_58 : decode cX12_sell 58 = .ok (.iload_n 2, 1) := dk_o28 (by decide +kernel)
theorem dX12_sell_59 : decode cX12_sell 59 = .ok (.if_icmp .ge 12, 3) := dk_o162 (by decide +kernel)
theorem dX12_sell_62 : decode cX12_sell 62 = .ok (.aload_n 0, 1) := dk_o42 (by decide +kernel)
theorem dX12_sell_63 : decode cX12_sell 63 = .ok (.getfield 186, 3) := dk_o180 (by decide +kernel)
theorem dX12_sell_66 : decode cX12_sell 66 = .ok (.iload_n 3, 1) := dk_o29 (by decide +kernel)
theorem dX12_sell_67 : decode cX12_sell 67 = .ok (.iaload, 1) := dk_o46 (by decide +kernel)
theorem dX12_sell_68 : decode cX12_sell 68 = .ok (.goto 4, 3) := dk_o167 (by decide +kernel)
theorem dX12_sell_71 : decode cX12_sell 71 = .ok (.iload_n 2, 1) := dk_o28 (by decide +kernel)
theorem dX12_sell_72 : decode cX12_sell 72 = .ok (.istore 4, 2) := dk_o54 (by decide +kernel)
theorem dX12_sell_74 : decode cX12_sell 74 = .ok (.aload_n 0, 1) := dk_o42 (by decide +kernel)
theorem dX12_sell_75 : decode cX12_sell 75 = .ok (.getfield 186, 3) := dk_o180 (by decide +kernel)
theorem dX12_sell_78 : decode cX12_sell 78 = .ok (.iload_n 3, 1) := dk_o29 (by decide +kernel)
theorem dX12_sell_79 : decode cX12_sell 79 = .ok (.dup2, 1) := dk_o92 (by decide +kernel)
theorem dX12_sell_80 : decode cX12_sell 80 = .ok (.iaload, 1) := dk_o46 (by decide +kernel)
theorem dX12_sell_81 : decode cX12_sell 81 = .ok (.iload 4, 2) := dk_o21 (by decide +kernel)
theorem dX12_sell_83 : decode cX12_sell 83 = .ok (.isub, 1) := dk_o100 (by decide +kernel)
theorem dX12_sell_84 : decode cX12_sell 84 = .ok (.iastore, 1) := dk_o79 (by decide +kernel)
theorem dX12_sell_85 : decode cX12_sell 85 = .ok (.iload_n 2, 1) := dk_o28 (by decide +kernel)
theorem dX12_sell_86 : decode cX12_sell 86 = .ok (.iload 4, 2) := dk_o21 (by decide +kernel)
theorem dX12_sell_88 : decode cX12_sell 88 = .ok (.isub, 1) := dk_o100 (by decide +kernel)
theorem dX12_sell_89 : decode cX12_sell 89 = .ok (.istore_n 2, 1) := dk_o61 (by decide +kernel)
theorem dX12_sell_90 : decode cX12_sell 90 = .ok (.iinc 3 1, 3) := dk_o132 (by decide +kernel)
theorem dX12_sell_93 : decode cX12_sell 93 = .ok (.goto (-47), 3) := dk_o167 (by decide +kernel)
theorem dX12_sell_96 : decode cX12_sell 96 = .ok (.aload_n 0, 1) := dk_o42 (by decide +kernel)
theorem dX12_sell_97 : decode cX12_sell 97 = .ok (.getfield 177, 3) := dk_o180 (by decide +kernel)
theorem dX12_sell_100 : decode cX12_sell 100 = .ok (.iconst 0, 1) := dk_o3 (by decide +kernel)
theorem dX12_sell_101 : decode cX12_sell 101 = .ok (.dup2, 1) := dk_o92 (by decide +kernel)
theorem dX12_sell_102 : decode cX12_sell 102 = .ok (.iaload, 1) := dk_o46 (by decide +kernel)
theorem dX12_sell_103 : decode cX12_sell 103 = .ok (.iconst 1, 1) := dk_o4 (by decide +kernel)
theorem dX12_sell_104 : decode cX12_sell 104 = .ok (.iload_n 1, 1) := dk_o27 (by decide +kernel)
theorem dX12_sell_105 : decode cX12_sell 105 = .ok (.ishl, 1) := dk_o120 (by decide +kernel)
theorem dX12_sell_106 : decode cX12_sell 106 = .ok (.ior, 1) := dk_o128 (by decide +kernel)
theorem dX12_sell_107 : decode cX12_sell 107 = .ok (.iastore, 1) := dk_o79 (by decide +kernel)
theorem dX12_sell_108 : decode cX12_sell 108 = .ok (.aload_n 0, 1) := dk_o42 (by decide +kernel)
theorem dX12_sell_109 : decode cX12_sell 109 = .ok (.getfield 165, 3) := dk_o180 (by decide +kernel)
theorem dX12_sell_112 : decode cX12_sell 112 = .ok (.iconst 0, 1) := dk_o3 (by decide +kernel)
theorem dX12_sell_113 : decode cX12_sell 113 = .ok (.iaload, 1) := dk_o46 (by decide +kernel)
theorem dX12_sell_114 : decode cX12_sell 114 = .ok (.aload_n 0, 1) := dk_o42 (by decide +kernel)
theorem dX12_sell_115 : decode cX12_sell 115 = .ok (.getfield 93, 3) := dk_o180 (by decide +kernel)
theorem dX12_sell_118 : decode cX12_sell 118 = .ok (.iconst 5, 1) := dk_o8 (by decide +kernel)
theorem dX12_sell_119 : decode cX12_sell 119 = .ok (.aload_n 0, 1) := dk_o42 (by decide +kernel)
theorem dX12_sell_120 : decode cX12_sell 120 = .ok (.getfield 51, 3) := dk_o180 (by decide +kernel)
theorem dX12_sell_123 : decode cX12_sell 123 = .ok (.imul, 1) := dk_o104 (by decide +kernel)
theorem dX12_sell_124 : decode cX12_sell 124 = .ok (.iload_n 1, 1) := dk_o27 (by decide +kernel)
theorem dX12_sell_125 : decode cX12_sell 125 = .ok (.iadd, 1) := dk_o96 (by decide +kernel)
theorem dX12_sell_126 : decode cX12_sell 126 = .ok (.iaload, 1) := dk_o46 (by decide +kernel)
theorem dX12_sell_127 : decode cX12_sell 127 = .ok (.iadd, 1) := dk_o96 (by decide +kernel)
theorem dX12_sell_128 : decode cX12_sell 128 = .ok (.istore_n 3, 1) := dk_o62 (by decide +kernel)
theorem dX12_sell_129 : decode cX12_sell 129 = .ok (.aload_n 0, 1) := dk_o42 (by decide +kernel)
theorem dX12_sell_130 : decode cX12_sell 130 = .ok (.getfield 165, 3) := dk_o180 (by decide +kernel)
theorem dX12_sell_133 : decode cX12_sell 133 = .ok (.iconst 0, 1) := dk_o3 (by decide +kernel)
theorem dX12_sell_134 : decode cX12_sell 134 = .ok (.iload_n 3, 1) := dk_o29 (by decide +kernel)
theorem dX12_sell_135 : decode cX12_sell 135 = .ok (.ldc_w 580, 3) := dk_o19 (by decide +kernel)
theorem dX12_sell_138 : decode cX12_sell 138 = .ok (.if_icmp .le 9, 3) := dk_o164 (by decide +kernel)
theorem dX12_sell_141 : decode cX12_sell 141 = .ok (.ldc_w 580, 3) := dk_o19 (by decide +kernel)
theorem dX12_sell_144 : decode cX12_sell 144 = .ok (.goto 4, 3) := dk_o167 (by decide +kernel)
theorem dX12_sell_147 : decode cX12_sell 147 = .ok (.iload_n 3, 1) := dk_o29 (by decide +kernel)
theorem dX12_sell_148 : decode cX12_sell 148 = .ok (.iastore, 1) := dk_o79 (by decide +kernel)
theorem dX12_sell_149 : decode cX12_sell 149 = .ok (.aload_n 0, 1) := dk_o42 (by decide +kernel)
theorem dX12_sell_150 : decode cX12_sell 150 = .ok (.getfield 165, 3) := dk_o180 (by decide +kernel)
theorem dX12_sell_153 : decode cX12_sell 153 = .ok (.iconst 0, 1) := dk_o3 (by decide +kernel)
theorem dX12_sell_154 : decode cX12_sell 154 = .ok (.iaload, 1) := dk_o46 (by decide +kernel)
theorem dX12_sell_155 : decode cX12_sell 155 = .ok (.ireturn, 1) := dk_o172 (by decide +kernel)
theorem dX12_seed_0 : decode cX12_seed 0 = .ok (.iload_n 1, 1) := dk_o27 (by decide +kernel)
theorem dX12_seed_1 : decode cX12_seed 1 = .ok (.ifCond .ge 17, 3) := dk_o156 (by decide +kernel)
theorem dX12_seed_4 : decode cX12_seed 4 = .ok (.aload_n 0, 1) := dk_o42 (by decide +kernel)
theorem dX12_seed_5 : decode cX12_seed 5 = .ok (.iconst 5, 1) := dk_o8 (by decide +kernel)
theorem dX12_seed_6 : decode cX12_seed 6 = .ok (.invokevirtual 247, 3) := dk_o182 (by decide +kernel)
theorem dX12_seed_9 : decode cX12_seed 9 = .ok (.ifCond .lt 7, 3) := dk_o155 (by decide +kernel)
theorem dX12_seed_16 : decode cX12_seed 16 = .ok (.iconst 0, 1) := dk_o3 (by decide +kernel)
theorem dX12_seed_17 : decode cX12_seed 17 = .ok (.ireturn, 1) := dk_o172 (by decide +kernel)
theorem dX12_seed_18 : decode cX12_seed 18 = .ok (.aload_n 0, 1) := dk_o42 (by decide +kernel)
theorem dX12_seed_19 : decode cX12_seed 19 = .ok (.iload_n 1, 1) := dk_o27 (by decide +kernel)
theorem dX12_seed_20 : decode cX12_seed 20 = .ok (.i2l, 1) := dk_o133 (by decide +kernel)
theorem dX12_seed_21 : decode cX12_seed 21 = .ok (.putfield 201, 3) := dk_o181 (by decide +kernel)
theorem dX12_seed_24 : decode cX12_seed 24 = .ok (.iconst 1, 1) := dk_o4 (by decide +kernel)
theorem dX12_seed_25 : decode cX12_seed 25 = .ok (.ireturn, 1) := dk_o172 (by decide +kernel)
theorem dX12_kept_0 : decode cX12_kept 0 = .ok (.iload_n 1, 1) := dk_o27 (by decide +kernel)
theorem dX12_kept_1 : decode cX12_kept 1 = .ok (.iconst 0, 1) := dk_o3 (by decide +kernel)
theorem dX12_kept_2 : decode cX12_kept 2 = .ok (.aload_n 0, 1) := dk_o42 (by decide +kernel)
theorem dX12_kept_3 : decode cX12_kept 3 = .ok (.getfield 189, 3) := dk_o180 (by decide +kernel)
theorem dX12_kept_6 : decode cX12_kept 6 = .ok (.iconst 0, 1) := dk_o3 (by decide +kernel)
theorem dX12_kept_7 : decode cX12_kept 7 = .ok (.iaload, 1) := dk_o46 (by decide +kernel)
theorem dX12_kept_8 : decode cX12_kept 8 = .ok (.iconst 1, 1) := dk_o4 (by decide +kernel)
theorem dX12_kept_9 : decode cX12_kept 9 = .ok (.isub, 1) := dk_o100 (by decide +kernel)
theorem dX12_kept_10 : decode cX12_kept 10 = .ok (.invokestatic 333, 3) := dk_o184 (by decide +kernel)
theorem dX12_kept_13 : decode cX12_kept 13 = .ok (.ifCond .eq 25, 3) := dk_o153 (by decide +kernel)
theorem dX12_kept_16 : decode cX12_kept 16 = .ok (.iload_n 2, 1) := dk_o28 (by decide +kernel)
theorem dX12_kept_17 : decode cX12_kept 17 = .ok (.iconst 0, 1) := dk_o3 (by decide +kernel)
theorem dX12_kept_18 : decode cX12_kept 18 = .ok (.iconst 3, 1) := dk_o6 (by decide +kernel)
theorem dX12_kept_19 : decode cX12_kept 19 = .ok (.invokestatic 333, 3) := dk_o184 (by decide +kernel)
theorem dX12_kept_22 : decode cX12_kept 22 = .ok (.ifCond .eq 16, 3) := dk_o153 (by decide +kernel)
theorem dX12_kept_25 : decode cX12_kept 25 = .ok (.aload_n 0, 1) := dk_o42 (by decide +kernel)
theorem dX12_kept_26 : decode cX12_kept 26 = .ok (.getfield 192, 3) := dk_o180 (by decide +kernel)
theorem dX12_kept_29 : decode cX12_kept 29 = .ok (.iconst 4, 1) := dk_o7 (by decide +kernel)
theorem dX12_kept_30 : decode cX12_kept 30 = .ok (.iload_n 1, 1) := dk_o27 (by decide +kernel)
theorem dX12_kept_31 : decode cX12_kept 31 = .ok (.imul, 1) := dk_o104 (by decide +kernel)
theorem dX12_kept_32 : decode cX12_kept 32 = .ok (.iload_n 2, 1) := dk_o28 (by decide +kernel)
theorem dX12_kept_33 : decode cX12_kept 33 = .ok (.iadd, 1) := dk_o96 (by decide +kernel)
theorem dX12_kept_34 : decode cX12_kept 34 = .ok (.iaload, 1) := dk_o46 (by decide +kernel)
theorem dX12_kept_35 : decode cX12_kept 35 = .ok (.goto 4, 3) := dk_o167 (by decide +kernel)
theorem dX12_kept_38 : decode cX12_kept 38 = .ok (.iconst (-1), 1) := dk_o2 (by decide +kernel)
theorem dX12_kept_39 : decode cX12_kept 39 = .ok (.ireturn, 1) := dk_o172 (by decide +kernel)
theorem dX12_writes_0 : decode cX12_writes 0 = .ok (.aload_n 0, 1) := dk_o42 (by decide +kernel)
theorem dX12_writes_1 : decode cX12_writes 1 = .ok (.getfield 241, 3) := dk_o180 (by decide +kernel)
theorem dX12_writes_4 : decode cX12_writes 4 = .ok (.aload_n 0, 1) := dk_o42 (by decide +kernel)
theorem dX12_writes_5 : decode cX12_writes 5 = .ok (.getfield 244, 3) := dk_o180 (by decide +kernel)
theorem dX12_writes_8 : decode cX12_writes 8 = .ok (.iload_n 1, 1) := dk_o27 (by decide +kernel)
theorem dX12_writes_9 : decode cX12_writes 9 = .ok (.sipush 255, 3) := dk_o17 (by decide +kernel)
theorem dX12_writes_12 : decode cX12_writes 12 = .ok (.iand, 1) := dk_o126 (by decide +kernel)
theorem dX12_writes_13 : decode cX12_writes 13 = .ok (.iastore, 1) := dk_o79 (by decide +kernel)
theorem dX12_writes_14 : decode cX12_writes 14 = .ok (.aload_n 0, 1) := dk_o42 (by decide +kernel)
theorem dX12_writes_15 : decode cX12_writes 15 = .ok (.dup, 1) := dk_o89 (by decide +kernel)
theorem dX12_writes_16 : decode cX12_writes 16 = .ok (.getfield 244, 3) := dk_o180 (by decide +kernel)
theorem dX12_writes_19 : decode cX12_writes 19 = .ok (.iconst 1, 1) := dk_o4 (by decide +kernel)
theorem dX12_writes_20 : decode cX12_writes 20 = .ok (.iadd, 1) := dk_o96 (by decide +kernel)
theorem dX12_writes_21 : decode cX12_writes 21 = .ok (.putfield 244, 3) := dk_o181 (by decide +kernel)
theorem dX12_writes_24 : decode cX12_writes 24 = .ok (.return_, 1) := dk_o177 (by decide +kernel)
theorem dX12_octet_0 : decode cX12_octet 0 = .ok (.iload_n 1, 1) := dk_o27 (by decide +kernel)
theorem dX12_octet_1 : decode cX12_octet 1 = .ok (.iconst 0, 1) := dk_o3 (by decide +kernel)
theorem dX12_octet_2 : decode cX12_octet 2 = .ok (.aload_n 0, 1) := dk_o42 (by decide +kernel)
theorem dX12_octet_3 : decode cX12_octet 3 = .ok (.getfield 244, 3) := dk_o180 (by decide +kernel)
theorem dX12_octet_6 : decode cX12_octet 6 = .ok (.iconst 1, 1) := dk_o4 (by decide +kernel)
theorem dX12_octet_7 : decode cX12_octet 7 = .ok (.isub, 1) := dk_o100 (by decide +kernel)
theorem dX12_octet_8 : decode cX12_octet 8 = .ok (.invokestatic 333, 3) := dk_o184 (by decide +kernel)
theorem dX12_octet_11 : decode cX12_octet 11 = .ok (.ifCond .eq 12, 3) := dk_o153 (by decide +kernel)
theorem dX12_octet_14 : decode cX12_octet 14 = .ok (.aload_n 0, 1) := dk_o42 (by decide +kernel)
theorem dX12_octet_15 : decode cX12_octet 15 = .ok (.getfield 241, 3) := dk_o180 (by decide +kernel)
theorem dX12_octet_18 : decode cX12_octet 18 = .ok (.iload_n 1, 1) := dk_o27 (by decide +kernel)
theorem dX12_octet_19 : decode cX12_octet 19 = .ok (.iaload, 1) := dk_o46 (by decide +kernel)
theorem dX12_octet_20 : decode cX12_octet 20 = .ok (.goto 4, 3) := dk_o167 (by decide +kernel)
theorem dX12_octet_23 : decode cX12_octet 23 = .ok (.iconst (-1), 1) := dk_o2 (by decide +kernel)
theorem dX12_octet_24 : decode cX12_octet 24 = .ok (.ireturn, 1) := dk_o172 (by decide +kernel)
theorem wB_1254 : Cond.fieldLink RX12 241 "DarkMineModel" "out" "[I" ∈ dgB := List.mem_filter.mpr ⟨tbl_6 _ (List.mem_of_getElem? (i := 238) (by decide +kernel)), by decide +kernel⟩
theorem wB_1255 : Cond.fieldLink RX12 244 "DarkMineModel" "outs" "I" ∈ dgB := List.mem_filter.mpr ⟨tbl_6 _ (List.mem_of_getElem? (i := 239) (by decide +kernel)), by decide +kernel⟩
theorem wB_1256 : Cond.code yX12_keeps cX12_keeps 1 none ∈ dgB := List.mem_filter.mpr ⟨tbl_9 _ (List.mem_of_getElem? (i := 113) rfl), rfl⟩
theorem wB_1257 : Cond.methodLink RX12 566 yX12_keeps ∈ dgB := List.mem_filter.mpr ⟨tbl_9 _ (List.mem_of_getElem? (i := 110) (by decide +kernel)), by decide +kernel⟩
theorem wB_1258 : Cond.instanceMethod yX12_keeps ∈ dgB := List.mem_filter.mpr ⟨tbl_9 _ (List.mem_of_getElem? (i := 112) (by decide +kernel)), by decide +kernel⟩
theorem wB_1259 : Cond.selects RX12 yX12_keeps yX12_keeps ∈ dgB := List.mem_filter.mpr ⟨List.mem_of_getElem? (i := 149) (by decide +kernel), by decide +kernel⟩
theorem wB_1260 : Cond.constant RX12 580 (99999) ∈ dgB := List.mem_filter.mpr ⟨tbl_9 _ (List.mem_of_getElem? (i := 142) (by decide +kernel)), by decide +kernel⟩
theorem wB_1261 : Cond.fieldLink RX12 238 "DarkMineModel" "many" "[I" ∈ dgB := List.mem_filter.mpr ⟨tbl_6 _ (List.mem_of_getElem? (i := 237) (by decide +kernel)), by decide +kernel⟩
theorem wB_1262 : Cond.fieldLink RX12 235 "DarkMineModel" "gradeBy" "[I" ∈ dgB := List.mem_filter.mpr ⟨tbl_6 _ (List.mem_of_getElem? (i := 236) (by decide +kernel)), by decide +kernel⟩
noncomputable def F_m_seed (o : Nat) (S : dg_S) (a1 : Int32) : dg_S × Int32 := (if (0 : Int32) ≤ a1 then let x_2 : Int64 := Int32.toInt64 a1; let S_3 : dg_S := dg_uF S 0 62 (.long x_2); (S_3, (1 : Int32)) else let S_8 : dg_S := (F_m_refuses o S (5 : Int32)).1; let x_7 : Int32 := (F_m_refuses o S (5 : Int32)).2; (S_8, (0 : Int32)))
theorem F_m_seed_p0 {o : Nat} {S : dg_S} {a1 : Int32} {S_3 : dg_S} {x_2 : Int64} (h0 : (0 : Int32) ≤ a1) (h1 : x_2 = Int32.toInt64 a1) (h2 : S_3 = dg_uF S 0 62 (.long x_2)) : F_m_seed o S a1 = (S_3, (1 : Int32)) := by
  replace h1 := Eq.symm h1
  subst h1
  replace h2 := Eq.symm h2
  subst h2
  exact (Eq.trans (if_pos h0) rfl)
theorem F_m_seed_p1 {o : Nat} {S : dg_S} {a1 : Int32} {S_8 : dg_S} (h0 : ¬ ((0 : Int32) ≤ a1)) (h1 : S_8 = (F_m_refuses o S (5 : Int32)).1) : F_m_seed o S a1 = (S_8, (0 : Int32)) := by
  replace h1 := Eq.symm h1
  subst h1
  exact (Eq.trans (if_neg h0) rfl)
set_option maxHeartbeats 8000000 in
set_option maxRecDepth 100000 in
theorem c_m_seed (l : Launch) (g : Nat → ClassId) (D : va_G) (o : Nat) (S : dg_S) (a1 : Int32) (ZD : ZDM S) (I : CM o S) (sz : Nat) : Met l yX12_seed (bw yX12_seed cX12_seed 2 (some .boolean)) ({ frames := 2, cells := 0, slots := 0, locals := 53 } : Room) (dk_Pc g D (dg_w g shM o rfM S) sz [.ref (o + 0), .int a1]) (va_Qi (fun (r : Int32) S' => CM o S' ∧ dg_sm shM [(0, 62)] [28] S S' ∧ (0 ≤ (r).toInt ∧ (r).toInt ≤ 1) ∧ ((r).toInt = 1 ↔ 0 ≤ (a1).toInt) ∧ ZDM S' ∧ (S' = (F_m_seed o S a1).1 ∧ r = (F_m_seed o S a1).2) ∧ True) (dg_B g D shM o rfM) (dg_A o shM.length sz)) 0 0 (dg_A o shM.length sz) := by
  refine dg_met (cc := cX12_seed) (maxL := 2) (ret := (some .boolean)) (dk_dq rfl) rfl (Nat.le_of_ble_eq_true rfl) ?_
  intro p e s m args below meth c A hAe harg hx hb hr hml hts hown hlocks hin hP K hS hA1 hA ST hsz ls hl
  rw [← hAe]
  have F : CallFix p m c cX12_seed 2 s args (bw yX12_seed cX12_seed 2 (some .boolean)) RX12 := ⟨hx, hb, hml, hown, hts⟩
  have hl : lv_has ls 2 [(0, .ref (o + 0)), (1, .int a1)] := hl
  have M_0 : dg_sm shM [(0, 62)] [28] S S := dg_sm.rf
  refine lv_iload_n hx hb dX12_seed_0 rfl (lv_at hl 1 rfl) ?_
  refine lv_if_ge (tgt := 18) hx hb dX12_seed_1 (dk_dq rfl) (fun c_1 => ?_) (fun c_1 => ?_)
  · have jc_1 := dk_gec (k := 0) (by decide +kernel) c_1
    refine lv_aload_n hx hb dX12_seed_18 rfl (lv_at hl 0 rfl) ?_
    refine lv_iload_n hx hb dX12_seed_19 rfl (lv_at hl 1 rfl) ?_
    obtain ⟨x_2, ex_2⟩ : ∃ z, (a1 : Int32).toInt64 = z := ⟨_, rfl⟩
    refine lv_i2l (v := x_2) hx hb dX12_seed_20 ex_2 ?_
    refine dg_put (ci := 12) (v := .long x_2) (ty := tyX12 62) (C := RX12) (T := TX12) (N := 77) hx hb hts (fun w h => bw_mem (wU_X12 w h)) tyX12 tyX12_ok nmX12 hown K hP hS hA1 sM_0 rfl 62 (dk_dq rfl) (hts _ (bw_mem wB_1201)) (fun _ h9 => h9) rfl (by decide +kernel) rfl rfl dX12_seed_21 (fun S_3 e_3 H locs hP hS => ?_)
    have I_3 := dg_I.uFl I e_3 sM_0 (by decide +kernel)
    have M_3 := dg_sm.uF M_0 e_3 sM_0 (dk_dq rfl)
    have ZD_3 : ZDM S_3 := ZDM.put e_3 (by rw [← ex_2, Int32.toInt_toInt64]; have hf9 := dk_full a1; omega)
    refine lv_iconst (v := 1) hx hb dX12_seed_24 (by decide +kernel) ?_
    have hz_4 : (1 : Int32).toInt = 1 := by decide +kernel
    have hz_5 : (1 : Int32).toInt = 1 := by decide +kernel
    refine W.widen (k := 0) (n := 0) (Nat.le_of_ble_eq_true rfl) (Nat.le_of_ble_eq_true rfl) ?_
    exact dg_iret hx hb hr hlocks (by decide +kernel) hP hS ⟨I_3, M_3, (by decide +kernel), (by omega), ZD_3, ⟨congrArg Prod.fst (Eq.symm (F_m_seed_p0 c_1 (Eq.symm ex_2) e_3)), congrArg Prod.snd (Eq.symm (F_m_seed_p0 c_1 (Eq.symm ex_2) e_3))⟩, trivial⟩ dX12_seed_25
  · have jc_1 := dk_ngec (k := 0) (by decide +kernel) c_1
    refine lv_aload_n hx hb dX12_seed_4 rfl (lv_at hl 0 rfl) ?_
    refine lv_iconst (v := 5) hx hb dX12_seed_5 (by decide +kernel) ?_
    have hz_6 : (5 : Int32).toInt = 5 := by decide +kernel
    refine dg_calli hS hA1 hA (va_runV (As := [.int 5]) (rest := []) F (c_m_refuses l g D o S 5 (by decide +kernel) I s.heap.size) (cwV 1 hts (bw_V wB_1079 wB_1080 wB_1081 wB_297 wB_1078) rfl rfl rfl (by decide +kernel) ⟨Nat.le_of_ble_eq_true rfl, Nat.le_of_ble_eq_true rfl⟩) (dg_preV sM_0 rfl K ST hP hS hA1 hA) rfl rfl hl.1 rfl (lv_room (Nat.le_of_ble_eq_true rfl)) dX12_seed_6 ⟨Nat.le_of_ble_eq_true rfl, Nat.le_of_ble_eq_true rfl⟩) (fun x_7 S_8 hw_8 H locs hP hS => ?_)
    obtain ⟨I_8, m_8, w_8_0, w_8_1, -⟩ := hw_8
    have M_8 := dg_sm.tr M_0 m_8 (dk_dq rfl) (dk_dq rfl)
    have w_8_0 : (-1) ≤ (x_7).toInt ∧ (x_7).toInt ≤ (-1) := w_8_0
    refine lv_if_lt (tgt := 16) hx hb dX12_seed_9 (dk_dq rfl) (fun _ => ?_) (fun c => absurd (dk_ltp (k := 0) (by decide +kernel) (by omega)) c)
    refine lv_iconst (v := 0) hx hb dX12_seed_16 (by decide +kernel) ?_
    have hz_9 : (0 : Int32).toInt = 0 := by decide +kernel
    have hz_10 : (0 : Int32).toInt = 0 := by decide +kernel
    refine W.widen (k := 0) (n := 0) (Nat.le_of_ble_eq_true rfl) (Nat.le_of_ble_eq_true rfl) ?_
    exact dg_iret hx hb hr hlocks (by decide +kernel) hP hS ⟨I_8, M_8, (by decide +kernel), (by omega), (ZDM.keep ZD m_8 (dk_dq rfl)), ⟨congrArg Prod.fst (Eq.symm (F_m_seed_p1 c_1 w_8_1.1)), congrArg Prod.snd (Eq.symm (F_m_seed_p1 c_1 w_8_1.1))⟩, trivial⟩ dX12_seed_17
noncomputable def F_m_kept (o : Nat) (S : dg_S) (a1 : Int32) (a2 : Int32) : Int32 := let x_2 : Int32 := S.2.1 38 (0 : Int32).toNatClampNeg; let x_3 : Int32 := x_2 - (1 : Int32); let x_4 : Int32 := F_m_is o S a1 (0 : Int32) x_3; (if x_4 = (0 : Int32) then (-1 : Int32) else let x_8 : Int32 := F_m_is o S a2 (0 : Int32) (3 : Int32); (if x_8 = (0 : Int32) then (-1 : Int32) else let x_13 : Int32 := (4 : Int32) * a1; let x_14 : Int32 := x_13 + a2; let x_16 : Int32 := S.2.1 39 (x_14 : Int32).toNatClampNeg; x_16))
theorem F_m_kept_p0 {o : Nat} {S : dg_S} {a1 : Int32} {a2 : Int32} {x_2 : Int32} {x_3 : Int32} {x_4 : Int32} (h0 : x_2 = S.2.1 38 (0 : Int32).toNatClampNeg) (h1 : x_3 = x_2 - (1 : Int32)) (h2 : x_4 = F_m_is o S a1 (0 : Int32) x_3) (h3 : x_4 = (0 : Int32)) : F_m_kept o S a1 a2 = (-1 : Int32) := by
  replace h0 := Eq.symm h0
  subst h0
  replace h1 := Eq.symm h1
  subst h1
  replace h2 := Eq.symm h2
  subst h2
  exact (Eq.trans (if_pos h3) rfl)
theorem F_m_kept_p1 {o : Nat} {S : dg_S} {a1 : Int32} {a2 : Int32} {x_2 : Int32} {x_3 : Int32} {x_4 : Int32} {x_8 : Int32} (h0 : x_2 = S.2.1 38 (0 : Int32).toNatClampNeg) (h1 : x_3 = x_2 - (1 : Int32)) (h2 : x_4 = F_m_is o S a1 (0 : Int32) x_3) (h3 : ¬ (x_4 = (0 : Int32))) (h4 : x_8 = F_m_is o S a2 (0 : Int32) (3 : Int32)) (h5 : x_8 = (0 : Int32)) : F_m_kept o S a1 a2 = (-1 : Int32) := by
  replace h0 := Eq.symm h0
  subst h0
  replace h1 := Eq.symm h1
  subst h1
  replace h2 := Eq.symm h2
  subst h2
  replace h4 := Eq.symm h4
  subst h4
  exact (Eq.trans (if_neg h3) (Eq.trans (if_pos h5) rfl))
theorem F_m_kept_p2 {o : Nat} {S : dg_S} {a1 : Int32} {a2 : Int32} {x_16 : Int32} {x_2 : Int32} {x_3 : Int32} {x_4 : Int32} {x_8 : Int32} {x_13 : Int32} {x_14 : Int32} (h0 : x_2 = S.2.1 38 (0 : Int32).toNatClampNeg) (h1 : x_3 = x_2 - (1 : Int32)) (h2 : x_4 = F_m_is o S a1 (0 : Int32) x_3) (h3 : ¬ (x_4 = (0 : Int32))) (h4 : x_8 = F_m_is o S a2 (0 : Int32) (3 : Int32)) (h5 : ¬ (x_8 = (0 : Int32))) (h6 : x_13 = (4 : Int32) * a1) (h7 : x_14 = x_13 + a2) (h8 : x_16 = S.2.1 39 (x_14 : Int32).toNatClampNeg) : F_m_kept o S a1 a2 = x_16 := by
  replace h0 := Eq.symm h0
  subst h0
  replace h1 := Eq.symm h1
  subst h1
  replace h2 := Eq.symm h2
  subst h2
  replace h4 := Eq.symm h4
  subst h4
  replace h6 := Eq.symm h6
  subst h6
  replace h7 := Eq.symm h7
  subst h7
  replace h8 := Eq.symm h8
  subst h8
  exact (Eq.trans (if_neg h3) (Eq.trans (if_neg h5) rfl))
set_option maxHeartbeats 8000000 in
set_option maxRecDepth 100000 in
theorem c_m_kept (l : Launch) (g : Nat → ClassId) (D : va_G) (o : Nat) (S : dg_S) (a1 : Int32) (a2 : Int32) (I : CM o S) (sz : Nat) : Met l yX12_kept (bw yX12_kept cX12_kept 3 (some .int)) ({ frames := 2, cells := 0, slots := 0, locals := 54 } : Room) (dk_Pc g D (dg_w g shM o rfM S) sz [.ref (o + 0), .int a1, .int a2]) (va_Qi (fun (r : Int32) S' => S' = S ∧ (r = F_m_kept o S a1 a2) ∧ True) (dg_B g D shM o rfM) (dg_A o shM.length sz)) 0 0 (dg_A o shM.length sz) := by
  refine dg_met (cc := cX12_kept) (maxL := 3) (ret := (some .int)) (dk_dq rfl) rfl (Nat.le_of_ble_eq_true rfl) ?_
  intro p e s m args below meth c A hAe harg hx hb hr hml hts hown hlocks hin hP K hS hA1 hA ST hsz ls hl
  rw [← hAe]
  have F : CallFix p m c cX12_kept 3 s args (bw yX12_kept cX12_kept 3 (some .int)) RX12 := ⟨hx, hb, hml, hown, hts⟩
  have hl : lv_has ls 3 [(0, .ref (o + 0)), (1, .int a1), (2, .int a2)] := hl
  have M_0 : dg_sm shM [] [] S S := dg_sm.rf
  refine lv_iload_n hx hb dX12_kept_0 rfl (lv_at hl 1 rfl) ?_
  refine lv_iconst (v := 0) hx hb dX12_kept_1 (by decide +kernel) ?_
  refine lv_aload_n hx hb dX12_kept_2 rfl (lv_at hl 0 rfl) ?_
  refine dg_get (C := RX12) (T := TX12) (N := 77) hx hb hts (fun w h => bw_mem (wU_X12 w h)) hown K hP sM_0 rfl 58 (dk_dq rfl) (hts _ (bw_mem wB_1127)) (fun _ h9 => h9) (v := .ref (o + 38)) (show S.1 0 58 = .ref (o + 38) from dg_I.rel (d := 38) I sM_0 (by decide +kernel)) dX12_kept_3 ?_
  refine lv_iconst (v := 0) hx hb dX12_kept_6 (by decide +kernel) ?_
  have hin_1 : vp_in (0 : Int32) 22 := (dk_in (by decide +kernel))
  refine dg_iald hx hb K hP sM_38 hin_1 dX12_kept_7 (fun x_2 ex_2 => ?_)
  have b_x_2 := dk_all_at (dg_I.row (lo := 0) (hi := 40) I sM_38 (by decide +kernel)) hin_1 ex_2
  refine lv_iconst (v := 1) hx hb dX12_kept_8 (by decide +kernel) ?_
  refine lv_isub hx hb dX12_kept_9 ?_
  refine lv_topi (fun x_3 ex_3 => ?_)
  have jx_3 : (x_3).toInt = (x_2).toInt - 1 := by rw [ex_3]; exact dk_subT2 rfl (by decide +kernel) (by omega)
  refine dg_calli hS hA1 hA (va_runS (As := [.int a1, .int 0, .int x_3]) (rest := []) F (c_m_isR l g D o S a1 0 x_3 I s.heap.size) (va_cwS 3 hts (bw_S wB_362 wB_363 wB_297 wB_361) rfl rfl rfl (by decide +kernel) ⟨Nat.le_of_ble_eq_true rfl, Nat.le_of_ble_eq_true rfl⟩) (dg_preS K ST hP hS hA1 hA) rfl rfl hl.1 rfl (lv_room (Nat.le_of_ble_eq_true rfl)) dX12_kept_10 ⟨Nat.le_of_ble_eq_true rfl, Nat.le_of_ble_eq_true rfl⟩) (fun x_4 S_5 hw_5 H locs hP hS => ?_)
  rw [hw_5.1] at hP
  obtain ⟨hq_5, w_5_0, w_5_1, w_5_2, -⟩ := hw_5
  have hz_6 : (0 : Int32).toInt = 0 := by decide +kernel
  have w_5_0 : 0 ≤ (x_4).toInt ∧ (x_4).toInt ≤ 1 := w_5_0
  have w_5_1 : (x_4).toInt = 1 ↔ (((0 : Int32)).toInt ≤ (a1).toInt ∧ (a1).toInt ≤ (x_3).toInt) := w_5_1
  refine lv_if_eq (tgt := 38) hx hb dX12_kept_13 (dk_dq rfl) (fun c_7 => ?_) (fun c_7 => ?_)
  · have jc_7 := dk_eqc (k := 0) (by decide +kernel) c_7
    refine lv_iconst (v := (-1)) hx hb dX12_kept_38 (by decide +kernel) ?_
    refine W.widen (k := 0) (n := 0) (Nat.le_of_ble_eq_true rfl) (Nat.le_of_ble_eq_true rfl) ?_
    exact dg_iret hx hb hr hlocks rfl hP hS ⟨rfl, (Eq.symm (F_m_kept_p0 (Eq.symm ex_2.symm) ex_3 w_5_2 c_7)), trivial⟩ dX12_kept_39
  · as_aux_lemma =>
      have jc_7 := dk_neqc (k := 0) (by decide +kernel) c_7
      refine lv_iload_n hx hb dX12_kept_16 rfl (lv_at hl 2 rfl) ?_
      refine lv_iconst (v := 0) hx hb dX12_kept_17 (by decide +kernel) ?_
      refine lv_iconst (v := 3) hx hb dX12_kept_18 (by decide +kernel) ?_
      refine dg_calli hS hA1 hA (va_runS (As := [.int a2, .int 0, .int 3]) (rest := []) F (c_m_isR l g D o S a2 0 3 I H.size) (va_cwS 3 hts (bw_S wB_362 wB_363 wB_297 wB_361) rfl rfl rfl (by decide +kernel) ⟨Nat.le_of_ble_eq_true rfl, Nat.le_of_ble_eq_true rfl⟩) (dg_preS K ST hP hS hA1 hA) rfl rfl hl.1 rfl (lv_room (Nat.le_of_ble_eq_true rfl)) dX12_kept_19 ⟨Nat.le_of_ble_eq_true rfl, Nat.le_of_ble_eq_true rfl⟩) (fun x_8 S_9 hw_9 H locs hP hS => ?_)
      rw [hw_9.1] at hP
      obtain ⟨hq_9, w_9_0, w_9_1, w_9_2, -⟩ := hw_9
      have hz_10 : (0 : Int32).toInt = 0 := by decide +kernel
      have hz_11 : (3 : Int32).toInt = 3 := by decide +kernel
      have w_9_0 : 0 ≤ (x_8).toInt ∧ (x_8).toInt ≤ 1 := w_9_0
      have w_9_1 : (x_8).toInt = 1 ↔ (((0 : Int32)).toInt ≤ (a2).toInt ∧ (a2).toInt ≤ ((3 : Int32)).toInt) := w_9_1
      refine lv_if_eq (tgt := 38) hx hb dX12_kept_22 (dk_dq rfl) (fun c_12 => ?_) (fun c_12 => ?_)
      · have jc_12 := dk_eqc (k := 0) (by decide +kernel) c_12
        refine lv_iconst (v := (-1)) hx hb dX12_kept_38 (by decide +kernel) ?_
        refine W.widen (k := 0) (n := 0) (Nat.le_of_ble_eq_true rfl) (Nat.le_of_ble_eq_true rfl) ?_
        exact dg_iret hx hb hr hlocks rfl hP hS ⟨rfl, (Eq.symm (F_m_kept_p1 (Eq.symm ex_2.symm) ex_3 w_5_2 c_7 w_9_2 c_12)), trivial⟩ dX12_kept_39
      · as_aux_lemma =>
          have jc_12 := dk_neqc (k := 0) (by decide +kernel) c_12
          refine lv_aload_n hx hb dX12_kept_25 rfl (lv_at hl 0 rfl) ?_
          refine dg_get (C := RX12) (T := TX12) (N := 77) hx hb hts (fun w h => bw_mem (wU_X12 w h)) hown K hP sM_0 rfl 59 (dk_dq rfl) (hts _ (bw_mem wB_1128)) (fun _ h9 => h9) (v := .ref (o + 39)) (show S.1 0 59 = .ref (o + 39) from dg_I.rel (d := 39) I sM_0 (by decide +kernel)) dX12_kept_26 ?_
          refine lv_iconst (v := 4) hx hb dX12_kept_29 (by decide +kernel) ?_
          refine lv_iload_n hx hb dX12_kept_30 rfl (lv_at hl 1 rfl) ?_
          refine lv_imul hx hb dX12_kept_31 ?_
          refine lv_topi (fun x_13 ex_13 => ?_)
          have jx_13 : (x_13).toInt = 4 * (a1).toInt := by rw [ex_13]; exact dk_mulT2 (by decide +kernel) rfl (by omega)
          refine lv_iload_n hx hb dX12_kept_32 rfl (lv_at hl 2 rfl) ?_
          refine lv_iadd hx hb dX12_kept_33 ?_
          refine lv_topi (fun x_14 ex_14 => ?_)
          have jx_14 : (x_14).toInt = (x_13).toInt + (a2).toInt := by rw [ex_14]; exact dk_addT2 rfl rfl (by omega)
          have hin_15 : vp_in x_14 3520 := (dk_inv2 (by omega))
          refine dg_iald hx hb K hP sM_39 hin_15 dX12_kept_34 (fun x_16 ex_16 => ?_)
          refine lv_goto (tgt := 39) hx hb dX12_kept_35 (dk_dq rfl) ?_
          refine W.widen (k := 0) (n := 0) (Nat.le_of_ble_eq_true rfl) (Nat.le_of_ble_eq_true rfl) ?_
          exact dg_iret hx hb hr hlocks rfl hP hS ⟨rfl, (Eq.symm (F_m_kept_p2 (Eq.symm ex_2.symm) ex_3 w_5_2 c_7 w_9_2 c_12 ex_13 ex_14 (Eq.symm ex_16.symm))), trivial⟩ dX12_kept_39
noncomputable def F_m_writes (o : Nat) (S : dg_S) (a1 : Int32) : dg_S := let o0 : Int32 := zI S 0 76; let x_1 : Int32 := a1 &&& (255 : Int32); let S_3 : dg_S := dg_uf S 50 (upd (S.2.1 50) (o0 : Int32).toNatClampNeg x_1); let x_4 : Int32 := o0 + (1 : Int32); let S_5 : dg_S := dg_uF S_3 0 76 (.int x_4); (S_5)
theorem F_m_writes_p0 {o : Nat} {S : dg_S} {a1 : Int32} {S_5 : dg_S} {o0 : Int32} {x_1 : Int32} {S_3 : dg_S} {x_4 : Int32} (h0 : o0 = zI S 0 76) (h1 : x_1 = a1 &&& (255 : Int32)) (h2 : S_3 = dg_uf S 50 (upd (S.2.1 50) (o0 : Int32).toNatClampNeg x_1)) (h3 : x_4 = o0 + (1 : Int32)) (h4 : S_5 = dg_uF S_3 0 76 (.int x_4)) : F_m_writes o S a1 = S_5 := by
  replace h0 := Eq.symm h0
  subst h0
  replace h1 := Eq.symm h1
  subst h1
  replace h2 := Eq.symm h2
  subst h2
  replace h3 := Eq.symm h3
  subst h3
  replace h4 := Eq.symm h4
  subst h4
  exact rfl
set_option maxHeartbeats 8000000 in
set_option maxRecDepth 100000 in
theorem c_m_writes (l : Launch) (g : Nat → ClassId) (D : va_G) (o : Nat) (S : dg_S) (a1 : Int32) (o0 : Int32) (f_o0 : S.1 0 76 = .int o0) (b_o0 : 0 ≤ (o0).toInt ∧ (o0).toInt ≤ 149) (I : CM o S) (sz : Nat) : Met l yX12_writes (bw yX12_writes cX12_writes 2 none) ({ frames := 1, cells := 0, slots := 0, locals := 32 } : Room) (dk_Pc g D (dg_w g shM o rfM S) sz [.ref (o + 0), .int a1]) (va_Qv (fun S' => CM o S' ∧ dg_sm shM [(0, 76)] [50] S S' ∧ (∃ y9 : Int32, S'.1 0 76 = .int y9 ∧ ((y9).toInt = (o0).toInt + 1)) ∧ (S' = F_m_writes o S a1) ∧ True) (dg_B g D shM o rfM) (dg_A o shM.length sz)) 0 0 (dg_A o shM.length sz) := by
  refine dg_met (cc := cX12_writes) (maxL := 2) (ret := none) (dk_dq rfl) rfl (Nat.le_of_ble_eq_true rfl) ?_
  intro p e s m args below meth c A hAe harg hx hb hr hml hts hown hlocks hin hP K hS hA1 hA ST hsz ls hl
  rw [← hAe]
  have F : CallFix p m c cX12_writes 2 s args (bw yX12_writes cX12_writes 2 none) RX12 := ⟨hx, hb, hml, hown, hts⟩
  have hl : lv_has ls 2 [(0, .ref (o + 0)), (1, .int a1)] := hl
  have M_0 : dg_sm shM [(0, 76)] [50] S S := dg_sm.rf
  refine lv_aload_n hx hb dX12_writes_0 rfl (lv_at hl 0 rfl) ?_
  refine dg_get (C := RX12) (T := TX12) (N := 77) hx hb hts (fun w h => bw_mem (wU_X12 w h)) hown K hP sM_0 rfl 75 (dk_dq rfl) (hts _ (bw_mem wB_1254)) (fun _ h9 => h9) (v := .ref (o + 50)) (show S.1 0 75 = .ref (o + 50) from dg_I.rel (d := 50) I sM_0 (by decide +kernel)) dX12_writes_1 ?_
  refine lv_aload_n hx hb dX12_writes_4 rfl (lv_at hl 0 rfl) ?_
  refine dg_get (C := RX12) (T := TX12) (N := 77) hx hb hts (fun w h => bw_mem (wU_X12 w h)) hown K hP sM_0 rfl 76 (dk_dq rfl) (hts _ (bw_mem wB_1255)) (fun _ h9 => h9) (v := .int o0) f_o0 dX12_writes_5 ?_
  refine lv_iload_n hx hb dX12_writes_8 rfl (lv_at hl 1 rfl) ?_
  refine lv_sipush (v := 255) hx hb dX12_writes_9 (by decide +kernel) ?_
  refine lv_iand hx hb dX12_writes_12 ?_
  refine lv_topi (fun x_1 ex_1 => ?_)
  have jx_1 := dk_and255 a1
  rw [← ex_1] at jx_1
  have hin_2 : vp_in o0 150 := (dk_inv2 (by omega))
  refine dg_iast hx hb K hP hS hA1 sM_50 hin_2 dX12_writes_13 (fun S_3 e_3 H locs hP hS => ?_)
  have I_3 := dg_I.uf0 I e_3 sM_50 (by decide +kernel)
  have M_3 := dg_sm.uf M_0 e_3 sM_50 (dk_dq rfl)
  refine lv_aload_n hx hb dX12_writes_14 rfl (lv_at hl 0 rfl) ?_
  refine lv_dup hx hb dX12_writes_15 rfl ?_
  refine dg_get (C := RX12) (T := TX12) (N := 77) hx hb hts (fun w h => bw_mem (wU_X12 w h)) hown K hP sM_0 rfl 76 (dk_dq rfl) (hts _ (bw_mem wB_1255)) (fun _ h9 => h9) (v := .int o0) ((dg_uf_F e_3 0 76).trans f_o0) dX12_writes_16 ?_
  refine lv_iconst (v := 1) hx hb dX12_writes_19 (by decide +kernel) ?_
  refine lv_iadd hx hb dX12_writes_20 ?_
  refine lv_topi (fun x_4 ex_4 => ?_)
  have jx_4 : (x_4).toInt = (o0).toInt + 1 := by rw [ex_4]; exact dk_addT2 rfl (by decide +kernel) (by omega)
  refine dg_put (ci := 12) (v := .int x_4) (ty := tyX12 76) (C := RX12) (T := TX12) (N := 77) hx hb hts (fun w h => bw_mem (wU_X12 w h)) tyX12 tyX12_ok nmX12 hown K hP hS hA1 sM_0 rfl 76 (dk_dq rfl) (hts _ (bw_mem wB_1255)) (fun _ h9 => h9) rfl (by decide +kernel) rfl rfl dX12_writes_21 (fun S_5 e_5 H locs hP hS => ?_)
  have I_5 := dg_I.uFi (lo := 0) (hi := 150) I_3 e_5 sM_0 (by decide +kernel) (show 0 ≤ (x_4).toInt ∧ (x_4).toInt ≤ 150 from (by omega))
  have M_5 := dg_sm.uF M_3 e_5 sM_0 (dk_dq rfl)
  refine W.widen (k := 0) (n := 0) (Nat.le_of_ble_eq_true rfl) (Nat.le_of_ble_eq_true rfl) ?_
  exact dg_vret hx hb hr hlocks hP hS ⟨I_5, M_5, ⟨x_4, (dg_uF_at e_5), (by omega)⟩, (Eq.symm (F_m_writes_p0 (zI_eq f_o0) ex_1 e_3 ex_4 e_5)), trivial⟩ dX12_writes_24
noncomputable def F_m_octet (o : Nat) (S : dg_S) (a1 : Int32) : Int32 := let x_1 : Int32 := zI S 0 76; let x_2 : Int32 := x_1 - (1 : Int32); let x_3 : Int32 := F_m_is o S a1 (0 : Int32) x_2; (if x_3 = (0 : Int32) then (-1 : Int32) else let x_8 : Int32 := S.2.1 50 (a1 : Int32).toNatClampNeg; x_8)
theorem F_m_octet_p0 {o : Nat} {S : dg_S} {a1 : Int32} {x_1 : Int32} {x_2 : Int32} {x_3 : Int32} (h0 : x_1 = zI S 0 76) (h1 : x_2 = x_1 - (1 : Int32)) (h2 : x_3 = F_m_is o S a1 (0 : Int32) x_2) (h3 : x_3 = (0 : Int32)) : F_m_octet o S a1 = (-1 : Int32) := by
  replace h0 := Eq.symm h0
  subst h0
  replace h1 := Eq.symm h1
  subst h1
  replace h2 := Eq.symm h2
  subst h2
  exact (Eq.trans (if_pos h3) rfl)
theorem F_m_octet_p1 {o : Nat} {S : dg_S} {a1 : Int32} {x_8 : Int32} {x_1 : Int32} {x_2 : Int32} {x_3 : Int32} (h0 : x_1 = zI S 0 76) (h1 : x_2 = x_1 - (1 : Int32)) (h2 : x_3 = F_m_is o S a1 (0 : Int32) x_2) (h3 : ¬ (x_3 = (0 : Int32))) (h4 : x_8 = S.2.1 50 (a1 : Int32).toNatClampNeg) : F_m_octet o S a1 = x_8 := by
  replace h0 := Eq.symm h0
  subst h0
  replace h1 := Eq.symm h1
  subst h1
  replace h2 := Eq.symm h2
  subst h2
  replace h4 := Eq.symm h4
  subst h4
  exact (Eq.trans (if_neg h3) rfl)
set_option maxHeartbeats 8000000 in
set_option maxRecDepth 100000 in
theorem c_m_octet (l : Launch) (g : Nat → ClassId) (D : va_G) (o : Nat) (S : dg_S) (a1 : Int32) (I : CM o S) (sz : Nat) : Met l yX12_octet (bw yX12_octet cX12_octet 2 (some .int)) ({ frames := 2, cells := 0, slots := 0, locals := 54 } : Room) (dk_Pc g D (dg_w g shM o rfM S) sz [.ref (o + 0), .int a1]) (va_Qi (fun (r : Int32) S' => S' = S ∧ (r = F_m_octet o S a1) ∧ True) (dg_B g D shM o rfM) (dg_A o shM.length sz)) 0 0 (dg_A o shM.length sz) := by
  refine dg_met (cc := cX12_octet) (maxL := 2) (ret := (some .int)) (dk_dq rfl) rfl (Nat.le_of_ble_eq_true rfl) ?_
  intro p e s m args below meth c A hAe harg hx hb hr hml hts hown hlocks hin hP K hS hA1 hA ST hsz ls hl
  rw [← hAe]
  have F : CallFix p m c cX12_octet 2 s args (bw yX12_octet cX12_octet 2 (some .int)) RX12 := ⟨hx, hb, hml, hown, hts⟩
  have hl : lv_has ls 2 [(0, .ref (o + 0)), (1, .int a1)] := hl
  have M_0 : dg_sm shM [] [] S S := dg_sm.rf
  refine lv_iload_n hx hb dX12_octet_0 rfl (lv_at hl 1 rfl) ?_
  refine lv_iconst (v := 0) hx hb dX12_octet_1 (by decide +kernel) ?_
  refine lv_aload_n hx hb dX12_octet_2 rfl (lv_at hl 0 rfl) ?_
  obtain ⟨x_1, f_x_1, b_x_1⟩ := dg_I.int (i := 0) (k := 76) (lo := 0) (hi := 150) I sM_0 (by decide +kernel)
  refine dg_get (C := RX12) (T := TX12) (N := 77) hx hb hts (fun w h => bw_mem (wU_X12 w h)) hown K hP sM_0 rfl 76 (dk_dq rfl) (hts _ (bw_mem wB_1255)) (fun _ h9 => h9) (v := .int x_1) f_x_1 dX12_octet_3 ?_
  refine lv_iconst (v := 1) hx hb dX12_octet_6 (by decide +kernel) ?_
  refine lv_isub hx hb dX12_octet_7 ?_
  refine lv_topi (fun x_2 ex_2 => ?_)
  have jx_2 : (x_2).toInt = (x_1).toInt - 1 := by rw [ex_2]; exact dk_subT2 rfl (by decide +kernel) (by omega)
  refine dg_calli hS hA1 hA (va_runS (As := [.int a1, .int 0, .int x_2]) (rest := []) F (c_m_isR l g D o S a1 0 x_2 I s.heap.size) (va_cwS 3 hts (bw_S wB_362 wB_363 wB_297 wB_361) rfl rfl rfl (by decide +kernel) ⟨Nat.le_of_ble_eq_true rfl, Nat.le_of_ble_eq_true rfl⟩) (dg_preS K ST hP hS hA1 hA) rfl rfl hl.1 rfl (lv_room (Nat.le_of_ble_eq_true rfl)) dX12_octet_8 ⟨Nat.le_of_ble_eq_true rfl, Nat.le_of_ble_eq_true rfl⟩) (fun x_3 S_4 hw_4 H locs hP hS => ?_)
  rw [hw_4.1] at hP
  obtain ⟨hq_4, w_4_0, w_4_1, w_4_2, -⟩ := hw_4
  have hz_5 : (0 : Int32).toInt = 0 := by decide +kernel
  have w_4_0 : 0 ≤ (x_3).toInt ∧ (x_3).toInt ≤ 1 := w_4_0
  have w_4_1 : (x_3).toInt = 1 ↔ (((0 : Int32)).toInt ≤ (a1).toInt ∧ (a1).toInt ≤ (x_2).toInt) := w_4_1
  refine lv_if_eq (tgt := 23) hx hb dX12_octet_11 (dk_dq rfl) (fun c_6 => ?_) (fun c_6 => ?_)
  · have jc_6 := dk_eqc (k := 0) (by decide +kernel) c_6
    refine lv_iconst (v := (-1)) hx hb dX12_octet_23 (by decide +kernel) ?_
    refine W.widen (k := 0) (n := 0) (Nat.le_of_ble_eq_true rfl) (Nat.le_of_ble_eq_true rfl) ?_
    exact dg_iret hx hb hr hlocks rfl hP hS ⟨rfl, (Eq.symm (F_m_octet_p0 (zI_eq f_x_1) ex_2 w_4_2 c_6)), trivial⟩ dX12_octet_24
  · have jc_6 := dk_neqc (k := 0) (by decide +kernel) c_6
    refine lv_aload_n hx hb dX12_octet_14 rfl (lv_at hl 0 rfl) ?_
    refine dg_get (C := RX12) (T := TX12) (N := 77) hx hb hts (fun w h => bw_mem (wU_X12 w h)) hown K hP sM_0 rfl 75 (dk_dq rfl) (hts _ (bw_mem wB_1254)) (fun _ h9 => h9) (v := .ref (o + 50)) (show S.1 0 75 = .ref (o + 50) from dg_I.rel (d := 50) I sM_0 (by decide +kernel)) dX12_octet_15 ?_
    refine lv_iload_n hx hb dX12_octet_18 rfl (lv_at hl 1 rfl) ?_
    have hin_7 : vp_in a1 150 := (dk_inv2 (by omega))
    refine dg_iald hx hb K hP sM_50 hin_7 dX12_octet_19 (fun x_8 ex_8 => ?_)
    refine lv_goto (tgt := 24) hx hb dX12_octet_20 (dk_dq rfl) ?_
    refine W.widen (k := 0) (n := 0) (Nat.le_of_ble_eq_true rfl) (Nat.le_of_ble_eq_true rfl) ?_
    exact dg_iret hx hb hr hlocks rfl hP hS ⟨rfl, (Eq.symm (F_m_octet_p1 (zI_eq f_x_1) ex_2 w_4_2 c_6 (Eq.symm ex_8.symm))), trivial⟩ dX12_octet_24
noncomputable def F_m_heal (o : Nat) (S : dg_S) (a1 : Int32) : dg_S × Int32 := let x_1 : Int32 := F_m_isMiner o S a1; (if x_1 = (0 : Int32) then let S_6 : dg_S := (F_m_refuses o S (3 : Int32)).1; let x_5 : Int32 := (F_m_refuses o S (3 : Int32)).2; (S_6, (0 : Int32)) else let x_11 : Int32 := S.2.1 33 (0 : Int32).toNatClampNeg; let x_12 : Int32 := F_m_has2 o S x_11 a1; (if x_12 = (0 : Int32) then let S_35 : dg_S := (F_m_refuses o S (3 : Int32)).1; let x_34 : Int32 := (F_m_refuses o S (3 : Int32)).2; (S_35, (0 : Int32)) else let x_15 : Int32 := S.2.1 29 (0 : Int32).toNatClampNeg; let S_18 : dg_S := F_m_keeps o S; let x_19 : Int32 := S_18.2.1 29 (0 : Int32).toNatClampNeg; let x_23 : Int32 := S_18.2.1 33 (0 : Int32).toNatClampNeg; let x_24 : Int32 := (1 : Int32) <<< (a1 &&& 31); let x_25 : Int32 := x_24 ^^^ (-1 : Int32); let x_26 : Int32 := x_23 &&& x_25; let S_28 : dg_S := dg_uf S_18 33 (upd (S_18.2.1 33) (0 : Int32).toNatClampNeg x_26); (S_28, (1 : Int32))))
theorem F_m_heal_p0 {o : Nat} {S : dg_S} {a1 : Int32} {S_6 : dg_S} {x_1 : Int32} (h0 : x_1 = F_m_isMiner o S a1) (h1 : x_1 = (0 : Int32)) (h2 : S_6 = (F_m_refuses o S (3 : Int32)).1) : F_m_heal o S a1 = (S_6, (0 : Int32)) := by
  replace h0 := Eq.symm h0
  subst h0
  replace h2 := Eq.symm h2
  subst h2
  exact (Eq.trans (if_pos h1) rfl)
theorem F_m_heal_p1 {o : Nat} {S : dg_S} {a1 : Int32} {S_28 : dg_S} {x_1 : Int32} {x_11 : Int32} {x_12 : Int32} {S_18 : dg_S} {x_23 : Int32} {x_24 : Int32} {x_25 : Int32} {x_26 : Int32} (h0 : x_1 = F_m_isMiner o S a1) (h1 : ¬ (x_1 = (0 : Int32))) (h2 : x_11 = S.2.1 33 (0 : Int32).toNatClampNeg) (h3 : x_12 = F_m_has2 o S x_11 a1) (h4 : ¬ (x_12 = (0 : Int32))) (h5 : S_18 = F_m_keeps o S) (h6 : x_23 = S_18.2.1 33 (0 : Int32).toNatClampNeg) (h7 : x_24 = (1 : Int32) <<< (a1 &&& 31)) (h8 : x_25 = x_24 ^^^ (-1 : Int32)) (h9 : x_26 = x_23 &&& x_25) (h10 : S_28 = dg_uf S_18 33 (upd (S_18.2.1 33) (0 : Int32).toNatClampNeg x_26)) : F_m_heal o S a1 = (S_28, (1 : Int32)) := by
  replace h0 := Eq.symm h0
  subst h0
  replace h2 := Eq.symm h2
  subst h2
  replace h3 := Eq.symm h3
  subst h3
  replace h5 := Eq.symm h5
  subst h5
  replace h6 := Eq.symm h6
  subst h6
  replace h7 := Eq.symm h7
  subst h7
  replace h8 := Eq.symm h8
  subst h8
  replace h9 := Eq.symm h9
  subst h9
  replace h10 := Eq.symm h10
  subst h10
  exact (Eq.trans (if_neg h1) (Eq.trans (if_neg h4) rfl))
theorem F_m_heal_p2 {o : Nat} {S : dg_S} {a1 : Int32} {S_35 : dg_S} {x_1 : Int32} {x_11 : Int32} {x_12 : Int32} (h0 : x_1 = F_m_isMiner o S a1) (h1 : ¬ (x_1 = (0 : Int32))) (h2 : x_11 = S.2.1 33 (0 : Int32).toNatClampNeg) (h3 : x_12 = F_m_has2 o S x_11 a1) (h4 : x_12 = (0 : Int32)) (h5 : S_35 = (F_m_refuses o S (3 : Int32)).1) : F_m_heal o S a1 = (S_35, (0 : Int32)) := by
  replace h0 := Eq.symm h0
  subst h0
  replace h2 := Eq.symm h2
  subst h2
  replace h3 := Eq.symm h3
  subst h3
  replace h5 := Eq.symm h5
  subst h5
  exact (Eq.trans (if_neg h1) (Eq.trans (if_pos h4) rfl))
set_option maxHeartbeats 8000000 in
set_option maxRecDepth 100000 in
theorem c_m_heal (l : Launch) (g : Nat → ClassId) (D : va_G) (o : Nat) (S : dg_S) (a1 : Int32) (ZB : ZBM S) (ZS : ZSM S) (ZW : ZWM S) (I : CM o S) (sz : Nat) : Met l yX12_heal (bw yX12_heal cX12_heal 2 (some .boolean)) ({ frames := 3, cells := 0, slots := 0, locals := 75 } : Room) (dk_Pc g D (dg_w g shM o rfM S) sz [.ref (o + 0), .int a1]) (va_Qi (fun (r : Int32) S' => CM o S' ∧ dg_sm shM [(0, 60), (0, 61)] [28, 29, 30, 31, 32, 33, 34, 35, 36, 37, 38, 39] S S' ∧ (0 ≤ (r).toInt ∧ (r).toInt ≤ 1) ∧ (m_hid ((S' = (F_m_refuses o S (3 : Int32)).1 ∧ (r).toInt = 0) ∨ (S'.2.1 28 = S.2.1 28 ∧ (r).toInt ≠ 0))) ∧ ZSM S' ∧ (S' = (F_m_heal o S a1).1 ∧ r = (F_m_heal o S a1).2) ∧ True) (dg_B g D shM o rfM) (dg_A o shM.length sz)) 0 0 (dg_A o shM.length sz) := by
  refine dg_met (cc := cX12_heal) (maxL := 2) (ret := (some .boolean)) (dk_dq rfl) rfl (Nat.le_of_ble_eq_true rfl) ?_
  intro p e s m args below meth c A hAe harg hx hb hr hml hts hown hlocks hin hP K hS hA1 hA ST hsz ls hl
  rw [← hAe]
  have F : CallFix p m c cX12_heal 2 s args (bw yX12_heal cX12_heal 2 (some .boolean)) RX12 := ⟨hx, hb, hml, hown, hts⟩
  have hl : lv_has ls 2 [(0, .ref (o + 0)), (1, .int a1)] := hl
  have M_0 : dg_sm shM [(0, 60), (0, 61)] [28, 29, 30, 31, 32, 33, 34, 35, 36, 37, 38, 39] S S := dg_sm.rf
  refine lv_aload_n hx hb dX12_heal_0 rfl (lv_at hl 0 rfl) ?_
  refine lv_iload_n hx hb dX12_heal_1 rfl (lv_at hl 1 rfl) ?_
  refine dg_calli hS hA1 hA (va_runV (As := [.int a1]) (rest := []) F (c_m_isMiner l g D o S a1 I s.heap.size) (cwV 1 hts (bw_V wB_1208 wB_1209 wB_1210 wB_297 wB_1207) rfl rfl rfl (by decide +kernel) ⟨Nat.le_of_ble_eq_true rfl, Nat.le_of_ble_eq_true rfl⟩) (dg_preV sM_0 rfl K ST hP hS hA1 hA) rfl rfl hl.1 rfl (lv_room (Nat.le_of_ble_eq_true rfl)) dX12_heal_2 ⟨Nat.le_of_ble_eq_true rfl, Nat.le_of_ble_eq_true rfl⟩) (fun x_1 S_2 hw_2 H locs hP hS => ?_)
  rw [hw_2.1] at hP
  obtain ⟨hq_2, w_2_0, w_2_1, w_2_2, -⟩ := hw_2
  have w_2_0 : 0 ≤ (x_1).toInt ∧ (x_1).toInt ≤ 1 := w_2_0
  have w_2_1 : (x_1).toInt = 1 → (0 ≤ (a1).toInt ∧ (a1).toInt ≤ 5) := w_2_1
  refine lv_if_eq (tgt := 21) hx hb dX12_heal_5 (dk_dq rfl) (fun c_3 => ?_) (fun c_3 => ?_)
  · have jc_3 := dk_eqc (k := 0) (by decide +kernel) c_3
    refine lv_aload_n hx hb dX12_heal_21 rfl (lv_at hl 0 rfl) ?_
    refine lv_iconst (v := 3) hx hb dX12_heal_22 (by decide +kernel) ?_
    have hz_4 : (3 : Int32).toInt = 3 := by decide +kernel
    refine dg_calli hS hA1 hA (va_runV (As := [.int 3]) (rest := []) F (c_m_refuses l g D o S 3 (by decide +kernel) I H.size) (cwV 1 hts (bw_V wB_1079 wB_1080 wB_1081 wB_297 wB_1078) rfl rfl rfl (by decide +kernel) ⟨Nat.le_of_ble_eq_true rfl, Nat.le_of_ble_eq_true rfl⟩) (dg_preV sM_0 rfl K ST hP hS hA1 hA) rfl rfl hl.1 rfl (lv_room (Nat.le_of_ble_eq_true rfl)) dX12_heal_23 ⟨Nat.le_of_ble_eq_true rfl, Nat.le_of_ble_eq_true rfl⟩) (fun x_5 S_6 hw_6 H locs hP hS => ?_)
    obtain ⟨I_6, m_6, w_6_0, w_6_1, -⟩ := hw_6
    have M_6 := dg_sm.tr M_0 m_6 (dk_dq rfl) (dk_dq rfl)
    have w_6_0 : (-1) ≤ (x_5).toInt ∧ (x_5).toInt ≤ (-1) := w_6_0
    refine lv_if_lt (tgt := 33) hx hb dX12_heal_26 (dk_dq rfl) (fun _ => ?_) (fun c => absurd (dk_ltp (k := 0) (by decide +kernel) (by omega)) c)
    refine lv_iconst (v := 0) hx hb dX12_heal_33 (by decide +kernel) ?_
    have hz_7 : (0 : Int32).toInt = 0 := by decide +kernel
    have hz_8 : (0 : Int32).toInt = 0 := by decide +kernel
    have hz_9 : (0 : Int32).toInt = 0 := by decide +kernel
    refine W.widen (k := 0) (n := 0) (Nat.le_of_ble_eq_true rfl) (Nat.le_of_ble_eq_true rfl) ?_
    exact dg_iret hx hb hr hlocks (by decide +kernel) hP hS ⟨I_6, M_6, (by decide +kernel), (m_hid.mk (Or.inl ⟨w_6_1.1, by first | omega | decide +kernel⟩)), (ZSM.keep ZS m_6 (dk_dq rfl)), ⟨congrArg Prod.fst (Eq.symm (F_m_heal_p0 w_2_2 c_3 w_6_1.1)), congrArg Prod.snd (Eq.symm (F_m_heal_p0 w_2_2 c_3 w_6_1.1))⟩, trivial⟩ dX12_heal_34
  · as_aux_lemma =>
      have jc_3 := dk_neqc (k := 0) (by decide +kernel) c_3
      refine lv_aload_n hx hb dX12_heal_8 rfl (lv_at hl 0 rfl) ?_
      refine dg_get (C := RX12) (T := TX12) (N := 77) hx hb hts (fun w h => bw_mem (wU_X12 w h)) hown K hP sM_0 rfl 53 (dk_dq rfl) (hts _ (bw_mem wB_1130)) (fun _ h9 => h9) (v := .ref (o + 33)) (show S.1 0 53 = .ref (o + 33) from dg_I.rel (d := 33) I sM_0 (by decide +kernel)) dX12_heal_9 ?_
      refine lv_iconst (v := 0) hx hb dX12_heal_12 (by decide +kernel) ?_
      have hin_10 : vp_in (0 : Int32) 22 := (dk_in (by decide +kernel))
      refine dg_iald hx hb K hP sM_33 hin_10 dX12_heal_13 (fun x_11 ex_11 => ?_)
      refine lv_iload_n hx hb dX12_heal_14 rfl (lv_at hl 1 rfl) ?_
      refine dg_calli hS hA1 hA (va_runS (As := [.int x_11, .int a1]) (rest := []) F (c_m_has2 l g D o S x_11 a1 I H.size) (va_cwS 2 hts (bw_S wB_1165 wB_1166 wB_297 wB_1164) rfl rfl rfl (by decide +kernel) ⟨Nat.le_of_ble_eq_true rfl, Nat.le_of_ble_eq_true rfl⟩) (dg_preS K ST hP hS hA1 hA) rfl rfl hl.1 rfl (lv_room (Nat.le_of_ble_eq_true rfl)) dX12_heal_15 ⟨Nat.le_of_ble_eq_true rfl, Nat.le_of_ble_eq_true rfl⟩) (fun x_12 S_13 hw_13 H locs hP hS => ?_)
      rw [hw_13.1] at hP
      obtain ⟨hq_13, w_13_0, w_13_1, -⟩ := hw_13
      have w_13_0 : 0 ≤ (x_12).toInt ∧ (x_12).toInt ≤ 1 := w_13_0
      refine lv_if_ne (tgt := 35) hx hb dX12_heal_18 (dk_dq rfl) (fun c_14 => ?_) (fun c_14 => ?_)
      · as_aux_lemma =>
          have jc_14 := dk_neqc (k := 0) (by decide +kernel) c_14
          refine lv_aload_n hx hb dX12_heal_35 rfl (lv_at hl 0 rfl) ?_
          obtain ⟨x_15, f_x_15⟩ : ∃ x, S.2.1 29 (0 : Int32).toNatClampNeg = x := ⟨_, rfl⟩
          have hin_16 : vp_in (0 : Int32) 22 := (dk_in (by decide +kernel))
          have b_x_15 := dk_all_at (dg_I.row (lo := 0) (hi := 2000) I sM_29 (by decide +kernel)) hin_16 f_x_15.symm
          have ex_15 := f_x_15.symm
          have hz_17 : (0 : Int32).toInt = 0 := by decide +kernel
          have zs_x_15 : (0 : Int32).toInt ≠ 1 → (x_15).toInt ≤ 999 := fun h => by rw [ex_15]; exact ZS _ (dk_inT hin_16).2 (fun q => by have h9 := (dk_inT hin_16).1; omega)
          refine dg_callv hS hA1 hA (va_runV (As := []) (rest := []) F (c_m_keeps l g D o S x_15 f_x_15 (by omega) ZB ZS I H.size) (cwV 0 hts (bw_V wB_1257 wB_1258 wB_1259 wB_297 wB_1256) rfl rfl rfl (by decide +kernel) ⟨Nat.le_of_ble_eq_true rfl, Nat.le_of_ble_eq_true rfl⟩) (dg_preV sM_0 rfl K ST hP hS hA1 hA) rfl rfl hl.1 rfl (lv_room (Nat.le_of_ble_eq_true rfl)) dX12_heal_36 ⟨Nat.le_of_ble_eq_true rfl, Nat.le_of_ble_eq_true rfl⟩) (fun S_18 hw_18 H locs hP hS => ?_)
          obtain ⟨I_18, m_18, w_18_0, w_18_1, w_18_2, -⟩ := hw_18
          have M_18 := dg_sm.tr M_0 m_18 (dk_dq rfl) (dk_dq rfl)
          obtain ⟨x_19, f_x_19⟩ : ∃ x, S_18.2.1 29 (0 : Int32).toNatClampNeg = x := ⟨_, rfl⟩
          have hin_20 : vp_in (0 : Int32) 22 := (dk_in (by decide +kernel))
          have b_x_19 := dk_all_at (dg_I.row (lo := 0) (hi := 2000) I_18 sM_29 (by decide +kernel)) hin_20 f_x_19.symm
          have ex_19 := f_x_19.symm
          have hz_21 : (0 : Int32).toInt = 0 := by decide +kernel
          have zs_x_19 : (0 : Int32).toInt ≠ 1 → (x_19).toInt ≤ 999 := fun h => by rw [ex_19]; exact w_18_1 _ (dk_inT hin_20).2 (fun q => by have h9 := (dk_inT hin_20).1; omega)
          have w_18_0 : (x_19).toInt = (x_15).toInt := w_18_0 x_19 f_x_19
          refine lv_aload_n hx hb dX12_heal_39 rfl (lv_at hl 0 rfl) ?_
          refine dg_get (C := RX12) (T := TX12) (N := 77) hx hb hts (fun w h => bw_mem (wU_X12 w h)) hown K hP sM_0 rfl 53 (dk_dq rfl) (hts _ (bw_mem wB_1130)) (fun _ h9 => h9) (v := .ref (o + 33)) (show S_18.1 0 53 = .ref (o + 33) from dg_I.rel (d := 33) I_18 sM_0 (by decide +kernel)) dX12_heal_40 ?_
          refine lv_iconst (v := 0) hx hb dX12_heal_43 (by decide +kernel) ?_
          refine lv_dup2_11 hx hb dX12_heal_44 rfl rfl ?_
          have hin_22 : vp_in (0 : Int32) 22 := (dk_in (by decide +kernel))
          refine dg_iald hx hb K hP sM_33 hin_22 dX12_heal_45 (fun x_23 ex_23 => ?_)
          refine lv_iconst (v := 1) hx hb dX12_heal_46 (by decide +kernel) ?_
          refine lv_iload_n hx hb dX12_heal_47 rfl (lv_at hl 1 rfl) ?_
          refine lv_ishl hx hb dX12_heal_48 ?_
          refine lv_topi (fun x_24 ex_24 => ?_)
          refine lv_iconst (v := (-1)) hx hb dX12_heal_49 (by decide +kernel) ?_
          refine lv_ixor hx hb dX12_heal_50 ?_
          refine lv_topi (fun x_25 ex_25 => ?_)
          refine lv_iand hx hb dX12_heal_51 ?_
          refine lv_topi (fun x_26 ex_26 => ?_)
          have hin_27 : vp_in (0 : Int32) 22 := (dk_in (by decide +kernel))
          have hz_29 : (0 : Int32).toInt = 0 := by decide +kernel
          refine dg_iast hx hb K hP hS hA1 sM_33 hin_27 dX12_heal_52 (fun S_28 e_28 H locs hP hS => ?_)
          have I_28 := dg_I.uf0 I_18 e_28 sM_33 (by decide +kernel)
          have M_28 := dg_sm.uf M_18 e_28 sM_33 (dk_dq rfl)
          refine lv_iconst (v := 1) hx hb dX12_heal_53 (by decide +kernel) ?_
          have hz_30 : (1 : Int32).toInt = 1 := by decide +kernel
          have hz_31 : (1 : Int32).toInt = 1 := by decide +kernel
          have hz_32 : (1 : Int32).toInt = 1 := by decide +kernel
          refine W.widen (k := 0) (n := 0) (Nat.le_of_ble_eq_true rfl) (Nat.le_of_ble_eq_true rfl) ?_
          exact dg_iret hx hb hr hlocks (by decide +kernel) hP hS ⟨I_28, M_28, (by decide +kernel), (m_hid.mk (Or.inr ⟨((dg_uf_ne e_28 (dk_dq rfl)).trans (m_18.2 28 _ sM_28 (dk_dq rfl)).1), by first | omega | decide +kernel⟩)), (ZSM.keep w_18_1 (dg_sm.uf (WF := []) (WA := [33]) dg_sm.rf e_28 sM_33 (dk_dq rfl)) (dk_dq rfl)), ⟨congrArg Prod.fst (Eq.symm (F_m_heal_p1 w_2_2 c_3 (Eq.symm ex_11.symm) w_13_1 c_14 w_18_2 (Eq.symm ex_23.symm) ex_24 ex_25 ex_26 e_28)), congrArg Prod.snd (Eq.symm (F_m_heal_p1 w_2_2 c_3 (Eq.symm ex_11.symm) w_13_1 c_14 w_18_2 (Eq.symm ex_23.symm) ex_24 ex_25 ex_26 e_28))⟩, trivial⟩ dX12_heal_54
      · have jc_14 := dk_eqc (k := 0) (by decide +kernel) c_14
        refine lv_aload_n hx hb dX12_heal_21 rfl (lv_at hl 0 rfl) ?_
        refine lv_iconst (v := 3) hx hb dX12_heal_22 (by decide +kernel) ?_
        have hz_33 : (3 : Int32).toInt = 3 := by decide +kernel
        refine dg_calli hS hA1 hA (va_runV (As := [.int 3]) (rest := []) F (c_m_refuses l g D o S 3 (by decide +kernel) I H.size) (cwV 1 hts (bw_V wB_1079 wB_1080 wB_1081 wB_297 wB_1078) rfl rfl rfl (by decide +kernel) ⟨Nat.le_of_ble_eq_true rfl, Nat.le_of_ble_eq_true rfl⟩) (dg_preV sM_0 rfl K ST hP hS hA1 hA) rfl rfl hl.1 rfl (lv_room (Nat.le_of_ble_eq_true rfl)) dX12_heal_23 ⟨Nat.le_of_ble_eq_true rfl, Nat.le_of_ble_eq_true rfl⟩) (fun x_34 S_35 hw_35 H locs hP hS => ?_)
        obtain ⟨I_35, m_35, w_35_0, w_35_1, -⟩ := hw_35
        have M_35 := dg_sm.tr M_0 m_35 (dk_dq rfl) (dk_dq rfl)
        have w_35_0 : (-1) ≤ (x_34).toInt ∧ (x_34).toInt ≤ (-1) := w_35_0
        refine lv_if_lt (tgt := 33) hx hb dX12_heal_26 (dk_dq rfl) (fun _ => ?_) (fun c => absurd (dk_ltp (k := 0) (by decide +kernel) (by omega)) c)
        refine lv_iconst (v := 0) hx hb dX12_heal_33 (by decide +kernel) ?_
        have hz_36 : (0 : Int32).toInt = 0 := by decide +kernel
        have hz_37 : (0 : Int32).toInt = 0 := by decide +kernel
        have hz_38 : (0 : Int32).toInt = 0 := by decide +kernel
        refine W.widen (k := 0) (n := 0) (Nat.le_of_ble_eq_true rfl) (Nat.le_of_ble_eq_true rfl) ?_
        exact dg_iret hx hb hr hlocks (by decide +kernel) hP hS ⟨I_35, M_35, (by decide +kernel), (m_hid.mk (Or.inl ⟨w_35_1.1, by first | omega | decide +kernel⟩)), (ZSM.keep ZS m_35 (dk_dq rfl)), ⟨congrArg Prod.fst (Eq.symm (F_m_heal_p2 w_2_2 c_3 (Eq.symm ex_11.symm) w_13_1 c_14 w_35_1.1)), congrArg Prod.snd (Eq.symm (F_m_heal_p2 w_2_2 c_3 (Eq.symm ex_11.symm) w_13_1 c_14 w_35_1.1))⟩, trivial⟩ dX12_heal_34
noncomputable def F_m_sell_J1 (S_113 : dg_S) (a1 : Int32) (x_11 : Int32) : dg_S × Int32 := let x_116 : Int32 := S_113.2.1 34 (0 : Int32).toNatClampNeg; let x_117 : Int32 := (1 : Int32) <<< (a1 &&& 31); let x_118 : Int32 := x_116 ||| x_117; let S_120 : dg_S := dg_uf S_113 34 (upd (S_113.2.1 34) (0 : Int32).toNatClampNeg x_118); let x_123 : Int32 := S_120.2.1 30 (0 : Int32).toNatClampNeg; let x_124 : Int32 := (5 : Int32) * x_11; let x_125 : Int32 := x_124 + a1; let x_127 : Int32 := S_120.2.1 15 (x_125 : Int32).toNatClampNeg; let x_128 : Int32 := x_123 + x_127; (if x_128 ≤ (99999 : Int32) then let S_131 : dg_S := dg_uf S_120 30 (upd (S_120.2.1 30) (0 : Int32).toNatClampNeg x_128); (S_131, x_128) else let S_137 : dg_S := dg_uf S_120 30 (upd (S_120.2.1 30) (0 : Int32).toNatClampNeg (99999 : Int32)); (S_137, (99999 : Int32)))
noncomputable def F_m_sell_J3 (x_190 : Int32) (x_198 : Int32) (S_186 : dg_S) (x_184 : Int32) (x_185 : Int32) : (Int32 × Int32 × dg_S) ⊕ (dg_S × Int32) := let x_209 : Int32 := x_190 - x_198; let S_211 : dg_S := dg_uf S_186 37 (upd (S_186.2.1 37) (x_184 : Int32).toNatClampNeg x_209); let x_212 : Int32 := x_185 - x_198; let x_213 : Int32 := x_184 + 1; (Sum.inl (x_213, x_212, S_211))
noncomputable def F_m_sell_B2 (a1 : Int32) (x_11 : Int32) : (Int32 × Int32 × dg_S) → (Int32 × Int32 × dg_S) ⊕ (dg_S × Int32) := fun w9 => match w9 with | (x_184, x_185, S_186) => (if (10 : Int32) ≤ x_184 then (Sum.inr ((F_m_sell_J1 S_186 a1 x_11))) else let x_190 : Int32 := S_186.2.1 37 (x_184 : Int32).toNatClampNeg; (if x_185 ≤ x_190 then (F_m_sell_J3 x_190 x_185 S_186 x_184 x_185) else (F_m_sell_J3 x_190 x_190 S_186 x_184 x_185)))
noncomputable def F_m_sell (o : Nat) (S : dg_S) (a1 : Int32) : dg_S × Int32 := let x_1 : Int32 := F_m_canSell o S a1; (if x_1 = (0 : Int32) then let S_223 : dg_S := (F_m_refuses o S (3 : Int32)).1; let x_222 : Int32 := (F_m_refuses o S (3 : Int32)).2; (S_223, x_222) else let x_4 : Int32 := S.2.1 29 (0 : Int32).toNatClampNeg; let S_7 : dg_S := F_m_keeps o S; let x_8 : Int32 := S_7.2.1 29 (0 : Int32).toNatClampNeg; let x_11 : Int32 := zI S 0 13; let x_12 : Int32 := (5 : Int32) * x_11; let x_13 : Int32 := x_12 + a1; let x_15 : Int32 := S_7.2.1 14 (x_13 : Int32).toNatClampNeg; let x_16 : Int32 := (5 : Int32) * x_11; let x_17 : Int32 := x_16 + a1; let x_19 : Int32 := S_7.2.1 13 (x_17 : Int32).toNatClampNeg; (lp (F_m_sell_B2 a1 x_11) (S, (0 : Int32)) ((10000 - ((x_19 : Int32)).toInt).toNat + 1) (x_19, x_15, S_7)))
theorem F_m_sell_p0 {S_113 : dg_S} {a1 : Int32} {x_11 : Int32} {S_131 : dg_S} {x_128 : Int32} {x_116 : Int32} {x_117 : Int32} {x_118 : Int32} {S_120 : dg_S} {x_123 : Int32} {x_124 : Int32} {x_125 : Int32} {x_127 : Int32} (h0 : x_116 = S_113.2.1 34 (0 : Int32).toNatClampNeg) (h1 : x_117 = (1 : Int32) <<< (a1 &&& 31)) (h2 : x_118 = x_116 ||| x_117) (h3 : S_120 = dg_uf S_113 34 (upd (S_113.2.1 34) (0 : Int32).toNatClampNeg x_118)) (h4 : x_123 = S_120.2.1 30 (0 : Int32).toNatClampNeg) (h5 : x_124 = (5 : Int32) * x_11) (h6 : x_125 = x_124 + a1) (h7 : x_127 = S_120.2.1 15 (x_125 : Int32).toNatClampNeg) (h8 : x_128 = x_123 + x_127) (h9 : x_128 ≤ (99999 : Int32)) (h10 : S_131 = dg_uf S_120 30 (upd (S_120.2.1 30) (0 : Int32).toNatClampNeg x_128)) : F_m_sell_J1 S_113 a1 x_11 = (S_131, x_128) := by
  replace h0 := Eq.symm h0
  subst h0
  replace h1 := Eq.symm h1
  subst h1
  replace h2 := Eq.symm h2
  subst h2
  replace h3 := Eq.symm h3
  subst h3
  replace h4 := Eq.symm h4
  subst h4
  replace h5 := Eq.symm h5
  subst h5
  replace h6 := Eq.symm h6
  subst h6
  replace h7 := Eq.symm h7
  subst h7
  replace h8 := Eq.symm h8
  subst h8
  replace h10 := Eq.symm h10
  subst h10
  exact (Eq.trans (if_pos h9) rfl)
theorem F_m_sell_p1 {S_113 : dg_S} {a1 : Int32} {x_11 : Int32} {S_137 : dg_S} {x_116 : Int32} {x_117 : Int32} {x_118 : Int32} {S_120 : dg_S} {x_123 : Int32} {x_124 : Int32} {x_125 : Int32} {x_127 : Int32} {x_128 : Int32} (h0 : x_116 = S_113.2.1 34 (0 : Int32).toNatClampNeg) (h1 : x_117 = (1 : Int32) <<< (a1 &&& 31)) (h2 : x_118 = x_116 ||| x_117) (h3 : S_120 = dg_uf S_113 34 (upd (S_113.2.1 34) (0 : Int32).toNatClampNeg x_118)) (h4 : x_123 = S_120.2.1 30 (0 : Int32).toNatClampNeg) (h5 : x_124 = (5 : Int32) * x_11) (h6 : x_125 = x_124 + a1) (h7 : x_127 = S_120.2.1 15 (x_125 : Int32).toNatClampNeg) (h8 : x_128 = x_123 + x_127) (h9 : ¬ (x_128 ≤ (99999 : Int32))) (h10 : S_137 = dg_uf S_120 30 (upd (S_120.2.1 30) (0 : Int32).toNatClampNeg (99999 : Int32))) : F_m_sell_J1 S_113 a1 x_11 = (S_137, (99999 : Int32)) := by
  replace h0 := Eq.symm h0
  subst h0
  replace h1 := Eq.symm h1
  subst h1
  replace h2 := Eq.symm h2
  subst h2
  replace h3 := Eq.symm h3
  subst h3
  replace h4 := Eq.symm h4
  subst h4
  replace h5 := Eq.symm h5
  subst h5
  replace h6 := Eq.symm h6
  subst h6
  replace h7 := Eq.symm h7
  subst h7
  replace h8 := Eq.symm h8
  subst h8
  replace h10 := Eq.symm h10
  subst h10
  exact (Eq.trans (if_neg h9) rfl)
theorem F_m_sell_p2 {a1 : Int32} {x_11 : Int32} {x_184 : Int32} {x_185 : Int32} {S_186 : dg_S} (h0 : (10 : Int32) ≤ x_184) : (F_m_sell_B2 a1 x_11) (x_184, x_185, S_186) = Sum.inr (F_m_sell_J1 S_186 a1 x_11) := (Eq.trans (if_pos h0) rfl)
theorem F_m_sell_p3 {x_190 : Int32} {x_198 : Int32} {S_186 : dg_S} {x_184 : Int32} {x_185 : Int32} {x_213 : Int32} {x_212 : Int32} {S_211 : dg_S} {x_209 : Int32} (h0 : x_209 = x_190 - x_198) (h1 : S_211 = dg_uf S_186 37 (upd (S_186.2.1 37) (x_184 : Int32).toNatClampNeg x_209)) (h2 : x_212 = x_185 - x_198) (h3 : x_213 = x_184 + 1) : F_m_sell_J3 x_190 x_198 S_186 x_184 x_185 = Sum.inl (x_213, x_212, S_211) := by
  replace h0 := Eq.symm h0
  subst h0
  replace h1 := Eq.symm h1
  subst h1
  replace h2 := Eq.symm h2
  subst h2
  replace h3 := Eq.symm h3
  subst h3
  exact rfl
theorem F_m_sell_p4 {a1 : Int32} {x_11 : Int32} {x_184 : Int32} {x_185 : Int32} {S_186 : dg_S} {x_190 : Int32} (h0 : ¬ ((10 : Int32) ≤ x_184)) (h1 : x_190 = S_186.2.1 37 (x_184 : Int32).toNatClampNeg) (h2 : x_185 ≤ x_190) : (F_m_sell_B2 a1 x_11) (x_184, x_185, S_186) = F_m_sell_J3 x_190 x_185 S_186 x_184 x_185 := by
  replace h1 := Eq.symm h1
  subst h1
  exact (Eq.trans (if_neg h0) (Eq.trans (if_pos h2) rfl))
theorem F_m_sell_p5 {a1 : Int32} {x_11 : Int32} {x_184 : Int32} {x_185 : Int32} {S_186 : dg_S} {x_190 : Int32} (h0 : ¬ ((10 : Int32) ≤ x_184)) (h1 : x_190 = S_186.2.1 37 (x_184 : Int32).toNatClampNeg) (h2 : ¬ (x_185 ≤ x_190)) : (F_m_sell_B2 a1 x_11) (x_184, x_185, S_186) = F_m_sell_J3 x_190 x_190 S_186 x_184 x_185 := by
  replace h1 := Eq.symm h1
  subst h1
  exact (Eq.trans (if_neg h0) (Eq.trans (if_neg h2) rfl))
theorem F_m_sell_p6 {o : Nat} {S : dg_S} {a1 : Int32} {x_11 : Int32} {x_19 : Int32} {x_15 : Int32} {S_7 : dg_S} {x_1 : Int32} {x_12 : Int32} {x_13 : Int32} {x_16 : Int32} {x_17 : Int32} (h0 : x_1 = F_m_canSell o S a1) (h1 : ¬ (x_1 = (0 : Int32))) (h2 : S_7 = F_m_keeps o S) (h3 : x_11 = zI S 0 13) (h4 : x_12 = (5 : Int32) * x_11) (h5 : x_13 = x_12 + a1) (h6 : x_15 = S_7.2.1 14 (x_13 : Int32).toNatClampNeg) (h7 : x_16 = (5 : Int32) * x_11) (h8 : x_17 = x_16 + a1) (h9 : x_19 = S_7.2.1 13 (x_17 : Int32).toNatClampNeg) : F_m_sell o S a1 = lp (F_m_sell_B2 a1 x_11) (S, (0 : Int32)) ((10000 - ((x_19 : Int32)).toInt).toNat + 1) (x_19, x_15, S_7) := by
  replace h0 := Eq.symm h0
  subst h0
  replace h2 := Eq.symm h2
  subst h2
  replace h3 := Eq.symm h3
  subst h3
  replace h4 := Eq.symm h4
  subst h4
  replace h5 := Eq.symm h5
  subst h5
  replace h6 := Eq.symm h6
  subst h6
  replace h7 := Eq.symm h7
  subst h7
  replace h8 := Eq.symm h8
  subst h8
  replace h9 := Eq.symm h9
  subst h9
  exact (Eq.trans (if_neg h1) rfl)
theorem F_m_sell_p7 {o : Nat} {S : dg_S} {a1 : Int32} {S_223 : dg_S} {x_222 : Int32} {x_1 : Int32} (h0 : x_1 = F_m_canSell o S a1) (h1 : x_1 = (0 : Int32)) (h2 : S_223 = (F_m_refuses o S (3 : Int32)).1) (h3 : x_222 = (F_m_refuses o S (3 : Int32)).2) : F_m_sell o S a1 = (S_223, x_222) := by
  replace h0 := Eq.symm h0
  subst h0
  replace h2 := Eq.symm h2
  subst h2
  replace h3 := Eq.symm h3
  subst h3
  exact (Eq.trans (if_pos h1) rfl)
set_option maxHeartbeats 8000000 in
set_option maxRecDepth 100000 in
theorem c_m_sell (l : Launch) (g : Nat → ClassId) (D : va_G) (o : Nat) (S : dg_S) (a1 : Int32) (ZB : ZBM S) (ZS : ZSM S) (ZW : ZWM S) (I : CM o S) (sz : Nat) : Met l yX12_sell (bw yX12_sell cX12_sell 5 (some .int)) ({ frames := 3, cells := 0, slots := 0, locals := 77 } : Room) (dk_Pc g D (dg_w g shM o rfM S) sz [.ref (o + 0), .int a1]) (va_Qi (fun (r : Int32) S' => CM o S' ∧ dg_sm shM [(0, 60), (0, 61)] [28, 29, 30, 31, 32, 33, 34, 35, 36, 37, 38, 39] S S' ∧ ((-2147483648) ≤ (r).toInt ∧ (r).toInt ≤ 99999) ∧ (m_hid ((S' = (F_m_refuses o S (3 : Int32)).1 ∧ (r).toInt = -1) ∨ S'.2.1 28 = S.2.1 28)) ∧ ZSM S' ∧ (S' = (F_m_sell o S a1).1 ∧ r = (F_m_sell o S a1).2) ∧ True) (dg_B g D shM o rfM) (dg_A o shM.length sz)) 0 0 (dg_A o shM.length sz) := by
  refine dg_met (cc := cX12_sell) (maxL := 5) (ret := (some .int)) (dk_dq rfl) rfl (Nat.le_of_ble_eq_true rfl) ?_
  intro p e s m args below meth c A hAe harg hx hb hr hml hts hown hlocks hin hP K hS hA1 hA ST hsz ls hl
  rw [← hAe]
  have F : CallFix p m c cX12_sell 5 s args (bw yX12_sell cX12_sell 5 (some .int)) RX12 := ⟨hx, hb, hml, hown, hts⟩
  have hl : lv_has ls 5 [(0, .ref (o + 0)), (1, .int a1)] := hl
  have M_0 : dg_sm shM [(0, 60), (0, 61)] [28, 29, 30, 31, 32, 33, 34, 35, 36, 37, 38, 39] S S := dg_sm.rf
  refine lv_aload_n hx hb dX12_sell_0 rfl (lv_at hl 0 rfl) ?_
  refine lv_iload_n hx hb dX12_sell_1 rfl (lv_at hl 1 rfl) ?_
  refine dg_calli hS hA1 hA (va_runV (As := [.int a1]) (rest := []) F (c_m_canSell l g D o S a1 I s.heap.size) (cwV 1 hts (bw_V wB_1219 wB_1220 wB_1221 wB_297 wB_1218) rfl rfl rfl (by decide +kernel) ⟨Nat.le_of_ble_eq_true rfl, Nat.le_of_ble_eq_true rfl⟩) (dg_preV sM_0 rfl K ST hP hS hA1 hA) rfl rfl hl.1 rfl (lv_room (Nat.le_of_ble_eq_true rfl)) dX12_sell_2 ⟨Nat.le_of_ble_eq_true rfl, Nat.le_of_ble_eq_true rfl⟩) (fun x_1 S_2 hw_2 H locs hP hS => ?_)
  rw [hw_2.1] at hP
  obtain ⟨hq_2, w_2_0, w_2_1, w_2_2, -⟩ := hw_2
  have w_2_0 : 0 ≤ (x_1).toInt ∧ (x_1).toInt ≤ 1 := w_2_0
  have w_2_1 : (x_1).toInt = 1 → (0 ≤ (a1).toInt ∧ (a1).toInt ≤ 4) := w_2_1
  refine lv_if_ne (tgt := 14) hx hb dX12_sell_5 (dk_dq rfl) (fun c_3 => ?_) (fun c_3 => ?_)
  · as_aux_lemma =>
      have jc_3 := dk_neqc (k := 0) (by decide +kernel) c_3
      refine lv_aload_n hx hb dX12_sell_14 rfl (lv_at hl 0 rfl) ?_
      obtain ⟨x_4, f_x_4⟩ : ∃ x, S.2.1 29 (0 : Int32).toNatClampNeg = x := ⟨_, rfl⟩
      have hin_5 : vp_in (0 : Int32) 22 := (dk_in (by decide +kernel))
      have b_x_4 := dk_all_at (dg_I.row (lo := 0) (hi := 2000) I sM_29 (by decide +kernel)) hin_5 f_x_4.symm
      have ex_4 := f_x_4.symm
      have hz_6 : (0 : Int32).toInt = 0 := by decide +kernel
      have zs_x_4 : (0 : Int32).toInt ≠ 1 → (x_4).toInt ≤ 999 := fun h => by rw [ex_4]; exact ZS _ (dk_inT hin_5).2 (fun q => by have h9 := (dk_inT hin_5).1; omega)
      refine dg_callv hS hA1 hA (va_runV (As := []) (rest := []) F (c_m_keeps l g D o S x_4 f_x_4 (by omega) ZB ZS I H.size) (cwV 0 hts (bw_V wB_1257 wB_1258 wB_1259 wB_297 wB_1256) rfl rfl rfl (by decide +kernel) ⟨Nat.le_of_ble_eq_true rfl, Nat.le_of_ble_eq_true rfl⟩) (dg_preV sM_0 rfl K ST hP hS hA1 hA) rfl rfl hl.1 rfl (lv_room (Nat.le_of_ble_eq_true rfl)) dX12_sell_15 ⟨Nat.le_of_ble_eq_true rfl, Nat.le_of_ble_eq_true rfl⟩) (fun S_7 hw_7 H locs hP hS => ?_)
      obtain ⟨I_7, m_7, w_7_0, w_7_1, w_7_2, -⟩ := hw_7
      have M_7 := dg_sm.tr M_0 m_7 (dk_dq rfl) (dk_dq rfl)
      obtain ⟨x_8, f_x_8⟩ : ∃ x, S_7.2.1 29 (0 : Int32).toNatClampNeg = x := ⟨_, rfl⟩
      have hin_9 : vp_in (0 : Int32) 22 := (dk_in (by decide +kernel))
      have b_x_8 := dk_all_at (dg_I.row (lo := 0) (hi := 2000) I_7 sM_29 (by decide +kernel)) hin_9 f_x_8.symm
      have ex_8 := f_x_8.symm
      have hz_10 : (0 : Int32).toInt = 0 := by decide +kernel
      have zs_x_8 : (0 : Int32).toInt ≠ 1 → (x_8).toInt ≤ 999 := fun h => by rw [ex_8]; exact w_7_1 _ (dk_inT hin_9).2 (fun q => by have h9 := (dk_inT hin_9).1; omega)
      have w_7_0 : (x_8).toInt = (x_4).toInt := w_7_0 x_8 f_x_8
      refine lv_aload_n hx hb dX12_sell_18 rfl (lv_at hl 0 rfl) ?_
      refine dg_get (C := RX12) (T := TX12) (N := 77) hx hb hts (fun w h => bw_mem (wU_X12 w h)) hown K hP sM_0 rfl 26 (dk_dq rfl) (hts _ (bw_mem wB_399)) (fun _ h9 => h9) (v := .ref (o + 14)) (show S_7.1 0 26 = .ref (o + 14) from dg_I.rel (d := 14) I_7 sM_0 (by decide +kernel)) dX12_sell_19 ?_
      refine lv_iconst (v := 5) hx hb dX12_sell_22 (by decide +kernel) ?_
      refine lv_aload_n hx hb dX12_sell_23 rfl (lv_at hl 0 rfl) ?_
      obtain ⟨x_11, f_x_11, b_x_11⟩ := dg_I.int (i := 0) (k := 13) (lo := 0) (hi := 1) I sM_0 (by decide +kernel)
      refine dg_get (C := RX12) (T := TX12) (N := 77) hx hb hts (fun w h => bw_mem (wU_X12 w h)) hown K hP sM_0 rfl 13 (dk_dq rfl) (hts _ (bw_mem wB_1085)) (fun _ h9 => h9) (v := .int x_11) ((m_7.1 0 13 _ sM_0 (dk_dq rfl)).trans f_x_11) dX12_sell_24 ?_
      refine lv_imul hx hb dX12_sell_27 ?_
      refine lv_topi (fun x_12 ex_12 => ?_)
      have jx_12 : (x_12).toInt = 5 * (x_11).toInt := by rw [ex_12]; exact dk_mulT2 (by decide +kernel) rfl (by omega)
      refine lv_iload_n hx hb dX12_sell_28 rfl (lv_at hl 1 rfl) ?_
      refine lv_iadd hx hb dX12_sell_29 ?_
      refine lv_topi (fun x_13 ex_13 => ?_)
      have jx_13 : (x_13).toInt = (x_12).toInt + (a1).toInt := by rw [ex_13]; exact dk_addT2 rfl rfl (by omega)
      have hin_14 : vp_in x_13 10 := (dk_inv2 (by omega))
      refine dg_iald hx hb K hP sM_14 hin_14 dX12_sell_30 (fun x_15 ex_15 => ?_)
      refine lv_istore_n (lv' := [(2, .int x_15), (0, .ref (o + 0)), (1, .int a1)]) hx hb dX12_sell_31 rfl hl (dk_dq rfl) rfl (fun ls hl => ?_)
      refine lv_aload_n hx hb dX12_sell_32 rfl (lv_at hl 1 rfl) ?_
      refine dg_get (C := RX12) (T := TX12) (N := 77) hx hb hts (fun w h => bw_mem (wU_X12 w h)) hown K hP sM_0 rfl 25 (dk_dq rfl) (hts _ (bw_mem wB_398)) (fun _ h9 => h9) (v := .ref (o + 13)) (show S_7.1 0 25 = .ref (o + 13) from dg_I.rel (d := 13) I_7 sM_0 (by decide +kernel)) dX12_sell_33 ?_
      refine lv_iconst (v := 5) hx hb dX12_sell_36 (by decide +kernel) ?_
      refine lv_aload_n hx hb dX12_sell_37 rfl (lv_at hl 1 rfl) ?_
      refine dg_get (C := RX12) (T := TX12) (N := 77) hx hb hts (fun w h => bw_mem (wU_X12 w h)) hown K hP sM_0 rfl 13 (dk_dq rfl) (hts _ (bw_mem wB_1085)) (fun _ h9 => h9) (v := .int x_11) ((m_7.1 0 13 _ sM_0 (dk_dq rfl)).trans f_x_11) dX12_sell_38 ?_
      refine lv_imul hx hb dX12_sell_41 ?_
      as_aux_lemma =>
        refine lv_topi (fun x_16 ex_16 => ?_)
        have jx_16 : (x_16).toInt = 5 * (x_11).toInt := by rw [ex_16]; exact dk_mulT2 (by decide +kernel) rfl (by omega)
        refine lv_iload_n hx hb dX12_sell_42 rfl (lv_at hl 2 rfl) ?_
        refine lv_iadd hx hb dX12_sell_43 ?_
        refine lv_topi (fun x_17 ex_17 => ?_)
        have jx_17 : (x_17).toInt = (x_16).toInt + (a1).toInt := by rw [ex_17]; exact dk_addT2 rfl rfl (by omega)
        have hin_18 : vp_in x_17 10 := (dk_inv2 (by omega))
        refine dg_iald hx hb K hP sM_13 hin_18 dX12_sell_44 (fun x_19 ex_19 => ?_)
        have b_x_19 := dk_all_at (dg_I.row (lo := 0) (hi := 9999) I_7 sM_13 (by decide +kernel)) hin_18 ex_19
        refine lv_istore_n (lv' := [(3, .int x_19), (2, .int x_15), (0, .ref (o + 0)), (1, .int a1)]) hx hb dX12_sell_45 rfl hl (dk_dq rfl) rfl (fun ls hl => ?_)
        have J_114 : ∀ (x_80 : Int32) (x_81 : Int32), (10 ≤ (x_80).toInt ∧ (x_80).toInt ≤ 9999) → ∀ S_113 : dg_S, CM o S_113 → dg_sm shM [(0, 60), (0, 61)] [28, 29, 30, 31, 32, 33, 34, 35, 36, 37, 38, 39] S S_113 → S_113.2.1 29 (0 : Int32).toNatClampNeg = x_8 → ZSM S_113 → (S_113.2.1 28 = S.2.1 28) → (F_m_sell o S a1 = F_m_sell_J1 S_113 a1 x_11) → ∀ (H : Heap) (locs : List Loc), va_P D vwCl (dg_w g shM o rfM S_113) H → va_S A s.heap H locs → ∀ ls : Array Slot, lv_has ls 5 [(3, .int x_80), (2, .int x_81), (0, .ref (o + 0)), (1, .int a1)] → W p l e ({ frames := 3, cells := 0, slots := 0, locals := 77 } : Room) s m args below meth c H locs 0 0 (MQ below (va_Qi (fun (r : Int32) S' => CM o S' ∧ dg_sm shM [(0, 60), (0, 61)] [28, 29, 30, 31, 32, 33, 34, 35, 36, 37, 38, 39] S S' ∧ ((-2147483648) ≤ (r).toInt ∧ (r).toInt ≤ 99999) ∧ (m_hid ((S' = (F_m_refuses o S (3 : Int32)).1 ∧ (r).toInt = -1) ∨ S'.2.1 28 = S.2.1 28)) ∧ ZSM S' ∧ (S' = (F_m_sell o S a1).1 ∧ r = (F_m_sell o S a1).2) ∧ True) (dg_B g D shM o rfM) A) args s 0 0 A) (F0 m 96 ls []) := by
          as_aux_lemma =>
            intro x_80 x_81 b_x_80 S_113 I_113 M_113 frw_113_0 ZS_113 srel_113_0 hF_1 H locs hP hS ls hl
            refine lv_aload_n hx hb dX12_sell_96 rfl (lv_at hl 2 rfl) ?_
            refine dg_get (C := RX12) (T := TX12) (N := 77) hx hb hts (fun w h => bw_mem (wU_X12 w h)) hown K hP sM_0 rfl 54 (dk_dq rfl) (hts _ (bw_mem wB_1131)) (fun _ h9 => h9) (v := .ref (o + 34)) (show S_113.1 0 54 = .ref (o + 34) from dg_I.rel (d := 34) I_113 sM_0 (by decide +kernel)) dX12_sell_97 ?_
            refine lv_iconst (v := 0) hx hb dX12_sell_100 (by decide +kernel) ?_
            refine lv_dup2_11 hx hb dX12_sell_101 rfl rfl ?_
            have hin_115 : vp_in (0 : Int32) 22 := (dk_in (by decide +kernel))
            refine dg_iald hx hb K hP sM_34 hin_115 dX12_sell_102 (fun x_116 ex_116 => ?_)
            refine lv_iconst (v := 1) hx hb dX12_sell_103 (by decide +kernel) ?_
            refine lv_iload_n hx hb dX12_sell_104 rfl (lv_at hl 3 rfl) ?_
            refine lv_ishl hx hb dX12_sell_105 ?_
            refine lv_topi (fun x_117 ex_117 => ?_)
            refine lv_ior hx hb dX12_sell_106 ?_
            refine lv_topi (fun x_118 ex_118 => ?_)
            have hin_119 : vp_in (0 : Int32) 22 := (dk_in (by decide +kernel))
            have hz_121 : (0 : Int32).toInt = 0 := by decide +kernel
            refine dg_iast hx hb K hP hS hA1 sM_34 hin_119 dX12_sell_107 (fun S_120 e_120 H locs hP hS => ?_)
            have I_120 := dg_I.uf0 I_113 e_120 sM_34 (by decide +kernel)
            have M_120 := dg_sm.uf M_113 e_120 sM_34 (dk_dq rfl)
            refine lv_aload_n hx hb dX12_sell_108 rfl (lv_at hl 2 rfl) ?_
            refine dg_get (C := RX12) (T := TX12) (N := 77) hx hb hts (fun w h => bw_mem (wU_X12 w h)) hown K hP sM_0 rfl 50 (dk_dq rfl) (hts _ (bw_mem wB_1129)) (fun _ h9 => h9) (v := .ref (o + 30)) (show S_120.1 0 50 = .ref (o + 30) from dg_I.rel (d := 30) I_120 sM_0 (by decide +kernel)) dX12_sell_109 ?_
            refine lv_iconst (v := 0) hx hb dX12_sell_112 (by decide +kernel) ?_
            have hin_122 : vp_in (0 : Int32) 22 := (dk_in (by decide +kernel))
            refine dg_iald hx hb K hP sM_30 hin_122 dX12_sell_113 (fun x_123 ex_123 => ?_)
            refine lv_aload_n hx hb dX12_sell_114 rfl (lv_at hl 2 rfl) ?_
            refine dg_get (C := RX12) (T := TX12) (N := 77) hx hb hts (fun w h => bw_mem (wU_X12 w h)) hown K hP sM_0 rfl 27 (dk_dq rfl) (hts _ (bw_mem wB_400)) (fun _ h9 => h9) (v := .ref (o + 15)) (show S_120.1 0 27 = .ref (o + 15) from dg_I.rel (d := 15) I_120 sM_0 (by decide +kernel)) dX12_sell_115 ?_
            refine lv_iconst (v := 5) hx hb dX12_sell_118 (by decide +kernel) ?_
            refine lv_aload_n hx hb dX12_sell_119 rfl (lv_at hl 2 rfl) ?_
            refine dg_get (C := RX12) (T := TX12) (N := 77) hx hb hts (fun w h => bw_mem (wU_X12 w h)) hown K hP sM_0 rfl 13 (dk_dq rfl) (hts _ (bw_mem wB_1085)) (fun _ h9 => h9) (v := .int x_11) (((dg_uf_F e_120 0 13).trans (M_113.1 0 13 _ sM_0 (dk_dq rfl))).trans f_x_11) dX12_sell_120 ?_
            refine lv_imul hx hb dX12_sell_123 ?_
            refine lv_topi (fun x_124 ex_124 => ?_)
            have jx_124 : (x_124).toInt = 5 * (x_11).toInt := by rw [ex_124]; exact dk_mulT2 (by decide +kernel) rfl (by omega)
            refine lv_iload_n hx hb dX12_sell_124 rfl (lv_at hl 3 rfl) ?_
            refine lv_iadd hx hb dX12_sell_125 ?_
            refine lv_topi (fun x_125 ex_125 => ?_)
            have jx_125 : (x_125).toInt = (x_124).toInt + (a1).toInt := by rw [ex_125]; exact dk_addT2 rfl rfl (by omega)
            have hin_126 : vp_in x_125 10 := (dk_inv2 (by omega))
            refine dg_iald hx hb K hP sM_15 hin_126 dX12_sell_126 (fun x_127 ex_127 => ?_)
            refine lv_iadd hx hb dX12_sell_127 ?_
            refine lv_topi (fun x_128 ex_128 => ?_)
            refine lv_istore_n (lv' := [(3, .int x_128), (2, .int x_81), (0, .ref (o + 0)), (1, .int a1)]) hx hb dX12_sell_128 rfl hl (dk_dq rfl) rfl (fun ls hl => ?_)
            as_aux_lemma =>
              refine lv_aload_n hx hb dX12_sell_129 rfl (lv_at hl 2 rfl) ?_
              refine dg_get (C := RX12) (T := TX12) (N := 77) hx hb hts (fun w h => bw_mem (wU_X12 w h)) hown K hP sM_0 rfl 50 (dk_dq rfl) (hts _ (bw_mem wB_1129)) (fun _ h9 => h9) (v := .ref (o + 30)) (show S_120.1 0 50 = .ref (o + 30) from dg_I.rel (d := 30) I_120 sM_0 (by decide +kernel)) dX12_sell_130 ?_
              refine lv_iconst (v := 0) hx hb dX12_sell_133 (by decide +kernel) ?_
              refine lv_iload_n hx hb dX12_sell_134 rfl (lv_at hl 0 rfl) ?_
              refine lv_ldcw hx hb hown (hts _ (bw_mem wB_1260)) dX12_sell_135 ?_
              refine lv_icmp_le (tgt := 147) hx hb dX12_sell_138 (dk_dq rfl) (fun c_129 => ?_) (fun c_129 => ?_)
              · as_aux_lemma =>
                  have jc_129 := dk_lec (k := 99999) (by decide +kernel) c_129
                  refine lv_iload_n hx hb dX12_sell_147 rfl (lv_at hl 0 rfl) ?_
                  have hin_130 : vp_in (0 : Int32) 22 := (dk_in (by decide +kernel))
                  have hz_132 : (0 : Int32).toInt = 0 := by decide +kernel
                  refine dg_iast hx hb K hP hS hA1 sM_30 hin_130 dX12_sell_148 (fun S_131 e_131 H locs hP hS => ?_)
                  have I_131 := dg_I.uf0 I_120 e_131 sM_30 (by decide +kernel)
                  have M_131 := dg_sm.uf M_120 e_131 sM_30 (dk_dq rfl)
                  refine lv_aload_n hx hb dX12_sell_149 rfl (lv_at hl 2 rfl) ?_
                  refine dg_get (C := RX12) (T := TX12) (N := 77) hx hb hts (fun w h => bw_mem (wU_X12 w h)) hown K hP sM_0 rfl 50 (dk_dq rfl) (hts _ (bw_mem wB_1129)) (fun _ h9 => h9) (v := .ref (o + 30)) (show S_131.1 0 50 = .ref (o + 30) from dg_I.rel (d := 30) I_131 sM_0 (by decide +kernel)) dX12_sell_150 ?_
                  refine lv_iconst (v := 0) hx hb dX12_sell_153 (by decide +kernel) ?_
                  have hin_133 : vp_in (0 : Int32) 22 := (dk_in (by decide +kernel))
                  refine dg_iald hx hb K hP sM_30 hin_133 dX12_sell_154 (fun y_134 ey_134 => ?_)
                  obtain rfl : x_128 = y_134 := (ey_134.trans ((congrFun (dg_uf_at e_131) _).trans (dg_upd_at rfl))).symm
                  have hf_134 := dk_full x_128
                  refine W.widen (k := 0) (n := 0) (Nat.le_of_ble_eq_true rfl) (Nat.le_of_ble_eq_true rfl) ?_
                  exact dg_iret hx hb hr hlocks rfl hP hS ⟨I_131, M_131, (by omega), (m_hid.mk (Or.inr (((dg_uf_ne e_131 (dk_dq rfl)).trans (dg_uf_ne e_120 (dk_dq rfl))).trans srel_113_0))), (ZSM.keep (ZSM.keep ZS_113 (dg_sm.uf (WF := []) (WA := [34]) dg_sm.rf e_120 sM_34 (dk_dq rfl)) (dk_dq rfl)) (dg_sm.uf (WF := []) (WA := [30]) dg_sm.rf e_131 sM_30 (dk_dq rfl)) (dk_dq rfl)), ⟨congrArg Prod.fst (Eq.symm (Eq.trans hF_1 (F_m_sell_p0 (Eq.symm ex_116.symm) ex_117 ex_118 e_120 (Eq.symm ex_123.symm) ex_124 ex_125 (Eq.symm ex_127.symm) ex_128 c_129 e_131))), congrArg Prod.snd (Eq.symm (Eq.trans hF_1 (F_m_sell_p0 (Eq.symm ex_116.symm) ex_117 ex_118 e_120 (Eq.symm ex_123.symm) ex_124 ex_125 (Eq.symm ex_127.symm) ex_128 c_129 e_131)))⟩, trivial⟩ dX12_sell_155
              · as_aux_lemma =>
                  have jc_129 := dk_nlec (k := 99999) (by decide +kernel) c_129
                  refine lv_ldcw hx hb hown (hts _ (bw_mem wB_1260)) dX12_sell_141 ?_
                  refine lv_goto (tgt := 148) hx hb dX12_sell_144 (dk_dq rfl) ?_
                  have hin_136 : vp_in (0 : Int32) 22 := (dk_in (by decide +kernel))
                  have hz_138 : (0 : Int32).toInt = 0 := by decide +kernel
                  have hz_139 : (99999 : Int32).toInt = 99999 := by decide +kernel
                  refine dg_iast hx hb K hP hS hA1 sM_30 hin_136 dX12_sell_148 (fun S_137 e_137 H locs hP hS => ?_)
                  have I_137 := dg_I.uf0 I_120 e_137 sM_30 (by decide +kernel)
                  have M_137 := dg_sm.uf M_120 e_137 sM_30 (dk_dq rfl)
                  refine lv_aload_n hx hb dX12_sell_149 rfl (lv_at hl 2 rfl) ?_
                  refine dg_get (C := RX12) (T := TX12) (N := 77) hx hb hts (fun w h => bw_mem (wU_X12 w h)) hown K hP sM_0 rfl 50 (dk_dq rfl) (hts _ (bw_mem wB_1129)) (fun _ h9 => h9) (v := .ref (o + 30)) (show S_137.1 0 50 = .ref (o + 30) from dg_I.rel (d := 30) I_137 sM_0 (by decide +kernel)) dX12_sell_150 ?_
                  refine lv_iconst (v := 0) hx hb dX12_sell_153 (by decide +kernel) ?_
                  have hin_140 : vp_in (0 : Int32) 22 := (dk_in (by decide +kernel))
                  refine dg_iald hx hb K hP sM_30 hin_140 dX12_sell_154 (fun y_141 ey_141 => ?_)
                  obtain rfl : 99999 = y_141 := (ey_141.trans ((congrFun (dg_uf_at e_137) _).trans (dg_upd_at rfl))).symm
                  have hz_142 : (99999 : Int32).toInt = 99999 := by decide +kernel
                  have hz_143 : (99999 : Int32).toInt = 99999 := by decide +kernel
                  have hz_144 : (99999 : Int32).toInt = 99999 := by decide +kernel
                  refine W.widen (k := 0) (n := 0) (Nat.le_of_ble_eq_true rfl) (Nat.le_of_ble_eq_true rfl) ?_
                  exact dg_iret hx hb hr hlocks rfl hP hS ⟨I_137, M_137, (by decide +kernel), (m_hid.mk (Or.inr (((dg_uf_ne e_137 (dk_dq rfl)).trans (dg_uf_ne e_120 (dk_dq rfl))).trans srel_113_0))), (ZSM.keep (ZSM.keep ZS_113 (dg_sm.uf (WF := []) (WA := [34]) dg_sm.rf e_120 sM_34 (dk_dq rfl)) (dk_dq rfl)) (dg_sm.uf (WF := []) (WA := [30]) dg_sm.rf e_137 sM_30 (dk_dq rfl)) (dk_dq rfl)), ⟨congrArg Prod.fst (Eq.symm (Eq.trans hF_1 (F_m_sell_p1 (Eq.symm ex_116.symm) ex_117 ex_118 e_120 (Eq.symm ex_123.symm) ex_124 ex_125 (Eq.symm ex_127.symm) ex_128 c_129 e_137))), congrArg Prod.snd (Eq.symm (Eq.trans hF_1 (F_m_sell_p1 (Eq.symm ex_116.symm) ex_117 ex_118 e_120 (Eq.symm ex_123.symm) ex_124 ex_125 (Eq.symm ex_127.symm) ex_128 c_129 e_137)))⟩, trivial⟩ dX12_sell_155
        have L_187 : ∀ (n : Nat) (x_184 : Int32) (x_185 : Int32), (0 ≤ (x_184).toInt ∧ (x_184).toInt ≤ 9999) → ((10000 - (x_184).toInt).toNat < n) → ∀ S_186 : dg_S, CM o S_186 → dg_sm shM [(0, 60), (0, 61)] [28, 29, 30, 31, 32, 33, 34, 35, 36, 37, 38, 39] S S_186 → S_186.2.1 29 (0 : Int32).toNatClampNeg = x_8 → ZSM S_186 → (S_186.2.1 28 = S.2.1 28) → (F_m_sell o S a1 = lp (F_m_sell_B2 a1 x_11) (S, (0 : Int32)) n (x_184, x_185, S_186)) → ∀ (H : Heap) (locs : List Loc), va_P D vwCl (dg_w g shM o rfM S_186) H → va_S A s.heap H locs → ∀ ls : Array Slot, lv_has ls 5 [(3, .int x_184), (2, .int x_185), (0, .ref (o + 0)), (1, .int a1)] → W p l e ({ frames := 3, cells := 0, slots := 0, locals := 77 } : Room) s m args below meth c H locs 0 0 (MQ below (va_Qi (fun (r : Int32) S' => CM o S' ∧ dg_sm shM [(0, 60), (0, 61)] [28, 29, 30, 31, 32, 33, 34, 35, 36, 37, 38, 39] S S' ∧ ((-2147483648) ≤ (r).toInt ∧ (r).toInt ≤ 99999) ∧ (m_hid ((S' = (F_m_refuses o S (3 : Int32)).1 ∧ (r).toInt = -1) ∨ S'.2.1 28 = S.2.1 28)) ∧ ZSM S' ∧ (S' = (F_m_sell o S a1).1 ∧ r = (F_m_sell o S a1).2) ∧ True) (dg_B g D shM o rfM) A) args s 0 0 A) (F0 m 46 ls []) := by
          as_aux_lemma =>
            intro n
            induction n with
            | zero =>
              intro x_184 x_185 b_x_184 hmu S_186 I_186 M_186 frw_186_0 ZS_186 srel_186_0 hF_2 H locs hP hS ls hl
              omega
            | succ n ih =>
              as_aux_lemma =>
                intro x_184 x_185 b_x_184 hmu S_186 I_186 M_186 frw_186_0 ZS_186 srel_186_0 hF_2 H locs hP hS ls hl
                refine lv_iload_n hx hb dX12_sell_46 rfl (lv_at hl 0 rfl) ?_
                refine lv_bipush (v := 10) hx hb dX12_sell_47 (by decide +kernel) ?_
                refine lv_icmp_ge (tgt := 96) hx hb dX12_sell_49 (dk_dq rfl) (fun c_188 => ?_) (fun c_188 => ?_)
                · have jc_188 := dk_gec (k := 10) (by decide +kernel) c_188
                  exact J_114 x_184 x_185 (by omega) S_186 I_186 M_186 frw_186_0 ZS_186 srel_186_0 (lp_r hF_2 (F_m_sell_p2 c_188)) _ _ hP hS _ (lv_sub hl [0, 1, 2, 3] rfl)
                · as_aux_lemma =>
                    have jc_188 := dk_ngec (k := 10) (by decide +kernel) c_188
                    refine lv_aload_n hx hb dX12_sell_52 rfl (lv_at hl 2 rfl) ?_
                    refine dg_get (C := RX12) (T := TX12) (N := 77) hx hb hts (fun w h => bw_mem (wU_X12 w h)) hown K hP sM_0 rfl 57 (dk_dq rfl) (hts _ (bw_mem wB_1117)) (fun _ h9 => h9) (v := .ref (o + 37)) (show S_186.1 0 57 = .ref (o + 37) from dg_I.rel (d := 37) I_186 sM_0 (by decide +kernel)) dX12_sell_53 ?_
                    refine lv_iload_n hx hb dX12_sell_56 rfl (lv_at hl 0 rfl) ?_
                    have hin_189 : vp_in x_184 220 := (dk_inv2 (by omega))
                    refine dg_iald hx hb K hP sM_37 hin_189 dX12_sell_57 (fun x_190 ex_190 => ?_)
                    refine lv_iload_n hx hb dX12_sell_58 rfl (lv_at hl 1 rfl) ?_
                    have J_206 : ∀ (x_198 : Int32), ((F_m_sell_B2 a1 x_11) (x_184, x_185, S_186) = F_m_sell_J3 x_190 x_198 S_186 x_184 x_185) → ∀ (H : Heap) (locs : List Loc), va_P D vwCl (dg_w g shM o rfM S_186) H → va_S A s.heap H locs → ∀ ls : Array Slot, lv_has ls 5 [(3, .int x_184), (2, .int x_185), (0, .ref (o + 0)), (1, .int a1)] → W p l e ({ frames := 3, cells := 0, slots := 0, locals := 77 } : Room) s m args below meth c H locs 0 0 (MQ below (va_Qi (fun (r : Int32) S' => CM o S' ∧ dg_sm shM [(0, 60), (0, 61)] [28, 29, 30, 31, 32, 33, 34, 35, 36, 37, 38, 39] S S' ∧ ((-2147483648) ≤ (r).toInt ∧ (r).toInt ≤ 99999) ∧ (m_hid ((S' = (F_m_refuses o S (3 : Int32)).1 ∧ (r).toInt = -1) ∨ S'.2.1 28 = S.2.1 28)) ∧ ZSM S' ∧ (S' = (F_m_sell o S a1).1 ∧ r = (F_m_sell o S a1).2) ∧ True) (dg_B g D shM o rfM) A) args s 0 0 A) (F0 m 72 ls [.int x_198]) := by
                      as_aux_lemma =>
                        intro x_198 hF_3 H locs hP hS ls hl
                        refine lv_istore (lv' := [(4, .int x_198), (3, .int x_184), (2, .int x_185), (0, .ref (o + 0)), (1, .int a1)]) hx hb dX12_sell_72 hl (dk_dq rfl) rfl (fun ls hl => ?_)
                        refine lv_aload_n hx hb dX12_sell_74 rfl (lv_at hl 3 rfl) ?_
                        refine dg_get (C := RX12) (T := TX12) (N := 77) hx hb hts (fun w h => bw_mem (wU_X12 w h)) hown K hP sM_0 rfl 57 (dk_dq rfl) (hts _ (bw_mem wB_1117)) (fun _ h9 => h9) (v := .ref (o + 37)) (show S_186.1 0 57 = .ref (o + 37) from dg_I.rel (d := 37) I_186 sM_0 (by decide +kernel)) dX12_sell_75 ?_
                        refine lv_iload_n hx hb dX12_sell_78 rfl (lv_at hl 1 rfl) ?_
                        refine lv_dup2_11 hx hb dX12_sell_79 rfl rfl ?_
                        have hin_207 : vp_in x_184 220 := (dk_inv2 (by omega))
                        refine dg_iald hx hb K hP sM_37 hin_207 dX12_sell_80 (fun y_208 ey_208 => ?_)
                        obtain rfl : x_190 = y_208 := (ey_208.trans ex_190.symm).symm
                        refine lv_iload hx hb dX12_sell_81 (lv_at hl 0 rfl) ?_
                        refine lv_isub hx hb dX12_sell_83 ?_
                        refine lv_topi (fun x_209 ex_209 => ?_)
                        have hin_210 : vp_in x_184 220 := (dk_inv2 (by omega))
                        refine dg_iast hx hb K hP hS hA1 sM_37 hin_210 dX12_sell_84 (fun S_211 e_211 H locs hP hS => ?_)
                        have I_211 := dg_I.uf0 I_186 e_211 sM_37 (by decide +kernel)
                        have M_211 := dg_sm.uf M_186 e_211 sM_37 (dk_dq rfl)
                        refine lv_iload_n hx hb dX12_sell_85 rfl (lv_at hl 2 rfl) ?_
                        refine lv_iload hx hb dX12_sell_86 (lv_at hl 0 rfl) ?_
                        refine lv_isub hx hb dX12_sell_88 ?_
                        refine lv_topi (fun x_212 ex_212 => ?_)
                        refine lv_istore_n (lv' := [(2, .int x_212), (4, .int x_198), (3, .int x_184), (0, .ref (o + 0)), (1, .int a1)]) hx hb dX12_sell_89 rfl hl (dk_dq rfl) rfl (fun ls hl => ?_)
                        obtain ⟨x_213, ex_213⟩ : ∃ z, z = x_184 + 1 := ⟨_, rfl⟩
                        have jx_213 : (x_213).toInt = (x_184).toInt + 1 := by rw [ex_213]; exact dk_addT2 rfl (by decide +kernel) (by omega)
                        refine lv_iinc (v := x_213) (lv' := [(3, .int x_213), (2, .int x_212), (4, .int x_198), (0, .ref (o + 0)), (1, .int a1)]) hx hb dX12_sell_90 hl (k := 2) rfl (by rw [ex_213]; rfl) (dk_dq rfl) rfl (fun ls hl => ?_)
                        refine lv_goto (tgt := 46) hx hb dX12_sell_93 (dk_dq rfl) ?_
                        exact ih x_213 x_212 (by omega) (by first | exact mu_lt hmu (by omega) (by omega) | omega) S_211 I_211 M_211 ((congrFun (dg_uf_ne e_211 (dk_dq rfl)) _).trans frw_186_0) (ZSM.keep ZS_186 (dg_sm.uf (WF := []) (WA := [37]) dg_sm.rf e_211 sM_37 (dk_dq rfl)) (dk_dq rfl)) ((dg_uf_ne e_211 (dk_dq rfl)).trans srel_186_0) (lp_l hF_2 (Eq.trans hF_3 (F_m_sell_p3 ex_209 e_211 ex_212 ex_213))) _ _ hP hS _ (lv_sub hl [0, 1, 3, 4] rfl)
                    refine lv_icmp_ge (tgt := 71) hx hb dX12_sell_59 (dk_dq rfl) (fun c_214 => ?_) (fun c_214 => ?_)
                    · have hf_214 := dk_full x_190
                      have hf_215 := dk_full x_185
                      have jc_214 := dk_gec (k := (x_185).toInt) rfl c_214
                      refine lv_iload_n hx hb dX12_sell_71 rfl (lv_at hl 1 rfl) ?_
                      exact J_206 x_185  (F_m_sell_p4 c_188 (Eq.symm ex_190.symm) c_214) _ _ hP hS _ (lv_sub hl [0, 1, 2, 3] rfl)
                    · have hf_216 := dk_full x_190
                      have hf_217 := dk_full x_185
                      have jc_214 := dk_ngec (k := (x_185).toInt) rfl c_214
                      refine lv_aload_n hx hb dX12_sell_62 rfl (lv_at hl 2 rfl) ?_
                      refine dg_get (C := RX12) (T := TX12) (N := 77) hx hb hts (fun w h => bw_mem (wU_X12 w h)) hown K hP sM_0 rfl 57 (dk_dq rfl) (hts _ (bw_mem wB_1117)) (fun _ h9 => h9) (v := .ref (o + 37)) (show S_186.1 0 57 = .ref (o + 37) from dg_I.rel (d := 37) I_186 sM_0 (by decide +kernel)) dX12_sell_63 ?_
                      refine lv_iload_n hx hb dX12_sell_66 rfl (lv_at hl 0 rfl) ?_
                      have hin_219 : vp_in x_184 220 := (dk_inv2 (by omega))
                      refine dg_iald hx hb K hP sM_37 hin_219 dX12_sell_67 (fun y_220 ey_220 => ?_)
                      obtain rfl : x_190 = y_220 := (ey_220.trans ex_190.symm).symm
                      refine lv_goto (tgt := 72) hx hb dX12_sell_68 (dk_dq rfl) ?_
                      exact J_206 x_190  (F_m_sell_p5 c_188 (Eq.symm ex_190.symm) c_214) _ _ hP hS _ (lv_sub hl [0, 1, 2, 3] rfl)
        exact L_187 ((10000 - ((x_19 : Int32)).toInt).toNat + 1) x_19 x_15 (by omega) (by first | exact mu_lt hmu (by omega) (by omega) | omega) S_7 I_7 M_7 f_x_8 w_7_1 (m_7.2 28 _ sM_28 (dk_dq rfl)).1 (F_m_sell_p6 w_2_2 c_3 w_7_2 (zI_eq f_x_11) ex_12 ex_13 (Eq.symm ex_15.symm) ex_16 ex_17 (Eq.symm ex_19.symm)) _ _ hP hS _ (lv_sub hl [0, 1, 2, 3] rfl)
  · have jc_3 := dk_eqc (k := 0) (by decide +kernel) c_3
    refine lv_aload_n hx hb dX12_sell_8 rfl (lv_at hl 0 rfl) ?_
    refine lv_iconst (v := 3) hx hb dX12_sell_9 (by decide +kernel) ?_
    have hz_221 : (3 : Int32).toInt = 3 := by decide +kernel
    refine dg_calli hS hA1 hA (va_runV (As := [.int 3]) (rest := []) F (c_m_refuses l g D o S 3 (by decide +kernel) I H.size) (cwV 1 hts (bw_V wB_1079 wB_1080 wB_1081 wB_297 wB_1078) rfl rfl rfl (by decide +kernel) ⟨Nat.le_of_ble_eq_true rfl, Nat.le_of_ble_eq_true rfl⟩) (dg_preV sM_0 rfl K ST hP hS hA1 hA) rfl rfl hl.1 rfl (lv_room (Nat.le_of_ble_eq_true rfl)) dX12_sell_10 ⟨Nat.le_of_ble_eq_true rfl, Nat.le_of_ble_eq_true rfl⟩) (fun x_222 S_223 hw_223 H locs hP hS => ?_)
    obtain ⟨I_223, m_223, w_223_0, w_223_1, -⟩ := hw_223
    have M_223 := dg_sm.tr M_0 m_223 (dk_dq rfl) (dk_dq rfl)
    have w_223_0 : (-1) ≤ (x_222).toInt ∧ (x_222).toInt ≤ (-1) := w_223_0
    have hf_223 := dk_full x_222
    refine W.widen (k := 0) (n := 0) (Nat.le_of_ble_eq_true rfl) (Nat.le_of_ble_eq_true rfl) ?_
    exact dg_iret hx hb hr hlocks rfl hP hS ⟨I_223, M_223, (by omega), (m_hid.mk (Or.inl ⟨w_223_1.1, by first | omega | decide +kernel⟩)), (ZSM.keep ZS m_223 (dk_dq rfl)), ⟨congrArg Prod.fst (Eq.symm (F_m_sell_p7 w_2_2 c_3 w_223_1.1 w_223_1.2)), congrArg Prod.snd (Eq.symm (F_m_sell_p7 w_2_2 c_3 w_223_1.1 w_223_1.2))⟩, trivial⟩ dX12_sell_13
noncomputable def F_m_hang_J1 (x_12 : Int32) (o : Nat) (S : dg_S) (a3 : Int32) : dg_S × Int32 := (if x_12 = (-1 : Int32) then let S_67 : dg_S := (F_m_refuses o S (3 : Int32)).1; let x_66 : Int32 := (F_m_refuses o S (3 : Int32)).2; (S_67, (0 : Int32)) else let x_71 : Int32 := F_m_canHang o S x_12; (if x_71 = (0 : Int32) then let S_76 : dg_S := (F_m_refuses o S (3 : Int32)).1; let x_75 : Int32 := (F_m_refuses o S (3 : Int32)).2; (S_76, (0 : Int32)) else let x_80 : Int32 := F_m_is o S a3 (0 : Int32) (1 : Int32); (if x_80 = (0 : Int32) then let S_87 : dg_S := (F_m_refuses o S (3 : Int32)).1; let x_86 : Int32 := (F_m_refuses o S (3 : Int32)).2; (S_87, (0 : Int32)) else let x_92 : Int32 := S.2.1 32 (x_12 : Int32).toNatClampNeg; (if x_92 = a3 then let S_110 : dg_S := (F_m_refuses o S (3 : Int32)).1; let x_109 : Int32 := (F_m_refuses o S (3 : Int32)).2; (S_110, (0 : Int32)) else let x_95 : Int32 := S.2.1 29 (0 : Int32).toNatClampNeg; let S_98 : dg_S := F_m_keeps o S; let x_99 : Int32 := S_98.2.1 29 (0 : Int32).toNatClampNeg; let S_103 : dg_S := dg_uf S_98 32 (upd (S_98.2.1 32) (x_12 : Int32).toNatClampNeg a3); (S_103, (1 : Int32))))))
noncomputable def F_m_hang (o : Nat) (S : dg_S) (a1 : Int32) (a2 : Int32) (a3 : Int32) : dg_S × Int32 := let x_1 : Int32 := zI S 0 13; let x_2 : Int32 := zI S 0 47; let x_3 : Int32 := S.2.1 2 (x_1 : Int32).toNatClampNeg; let x_5 : Int32 := S.2.1 3 (x_1 : Int32).toNatClampNeg; let x_7 : Int32 := F_m_isCell o S a1 a2; (if x_7 = (0 : Int32) then (F_m_hang_J1 (-1 : Int32) o S a3) else let x_116 : Int32 := (8 : Int32) * a2; let x_117 : Int32 := x_116 + a1; (F_m_hang_J1 x_117 o S a3))
theorem F_m_hang_p0 {x_12 : Int32} {o : Nat} {S : dg_S} {a3 : Int32} {S_67 : dg_S} (h0 : x_12 = (-1 : Int32)) (h1 : S_67 = (F_m_refuses o S (3 : Int32)).1) : F_m_hang_J1 x_12 o S a3 = (S_67, (0 : Int32)) := by
  replace h1 := Eq.symm h1
  subst h1
  exact (Eq.trans (if_pos h0) rfl)
theorem F_m_hang_p1 {x_12 : Int32} {o : Nat} {S : dg_S} {a3 : Int32} {S_76 : dg_S} {x_71 : Int32} (h0 : ¬ (x_12 = (-1 : Int32))) (h1 : x_71 = F_m_canHang o S x_12) (h2 : x_71 = (0 : Int32)) (h3 : S_76 = (F_m_refuses o S (3 : Int32)).1) : F_m_hang_J1 x_12 o S a3 = (S_76, (0 : Int32)) := by
  replace h1 := Eq.symm h1
  subst h1
  replace h3 := Eq.symm h3
  subst h3
  exact (Eq.trans (if_neg h0) (Eq.trans (if_pos h2) rfl))
theorem F_m_hang_p2 {x_12 : Int32} {o : Nat} {S : dg_S} {a3 : Int32} {S_87 : dg_S} {x_71 : Int32} {x_80 : Int32} (h0 : ¬ (x_12 = (-1 : Int32))) (h1 : x_71 = F_m_canHang o S x_12) (h2 : ¬ (x_71 = (0 : Int32))) (h3 : x_80 = F_m_is o S a3 (0 : Int32) (1 : Int32)) (h4 : x_80 = (0 : Int32)) (h5 : S_87 = (F_m_refuses o S (3 : Int32)).1) : F_m_hang_J1 x_12 o S a3 = (S_87, (0 : Int32)) := by
  replace h1 := Eq.symm h1
  subst h1
  replace h3 := Eq.symm h3
  subst h3
  replace h5 := Eq.symm h5
  subst h5
  exact (Eq.trans (if_neg h0) (Eq.trans (if_neg h2) (Eq.trans (if_pos h4) rfl)))
theorem F_m_hang_p3 {x_12 : Int32} {o : Nat} {S : dg_S} {a3 : Int32} {S_103 : dg_S} {x_71 : Int32} {x_80 : Int32} {x_92 : Int32} {S_98 : dg_S} (h0 : ¬ (x_12 = (-1 : Int32))) (h1 : x_71 = F_m_canHang o S x_12) (h2 : ¬ (x_71 = (0 : Int32))) (h3 : x_80 = F_m_is o S a3 (0 : Int32) (1 : Int32)) (h4 : ¬ (x_80 = (0 : Int32))) (h5 : x_92 = S.2.1 32 (x_12 : Int32).toNatClampNeg) (h6 : ¬ (x_92 = a3)) (h7 : S_98 = F_m_keeps o S) (h8 : S_103 = dg_uf S_98 32 (upd (S_98.2.1 32) (x_12 : Int32).toNatClampNeg a3)) : F_m_hang_J1 x_12 o S a3 = (S_103, (1 : Int32)) := by
  replace h1 := Eq.symm h1
  subst h1
  replace h3 := Eq.symm h3
  subst h3
  replace h5 := Eq.symm h5
  subst h5
  replace h7 := Eq.symm h7
  subst h7
  replace h8 := Eq.symm h8
  subst h8
  exact (Eq.trans (if_neg h0) (Eq.trans (if_neg h2) (Eq.trans (if_neg h4) (Eq.trans (if_neg h6) rfl))))
theorem F_m_hang_p4 {x_12 : Int32} {o : Nat} {S : dg_S} {a3 : Int32} {S_110 : dg_S} {x_71 : Int32} {x_80 : Int32} {x_92 : Int32} (h0 : ¬ (x_12 = (-1 : Int32))) (h1 : x_71 = F_m_canHang o S x_12) (h2 : ¬ (x_71 = (0 : Int32))) (h3 : x_80 = F_m_is o S a3 (0 : Int32) (1 : Int32)) (h4 : ¬ (x_80 = (0 : Int32))) (h5 : x_92 = S.2.1 32 (x_12 : Int32).toNatClampNeg) (h6 : x_92 = a3) (h7 : S_110 = (F_m_refuses o S (3 : Int32)).1) : F_m_hang_J1 x_12 o S a3 = (S_110, (0 : Int32)) := by
  replace h1 := Eq.symm h1
  subst h1
  replace h3 := Eq.symm h3
  subst h3
  replace h5 := Eq.symm h5
  subst h5
  replace h7 := Eq.symm h7
  subst h7
  exact (Eq.trans (if_neg h0) (Eq.trans (if_neg h2) (Eq.trans (if_neg h4) (Eq.trans (if_pos h6) rfl))))
theorem F_m_hang_p5 {o : Nat} {S : dg_S} {a1 : Int32} {a2 : Int32} {a3 : Int32} {x_7 : Int32} (h0 : x_7 = F_m_isCell o S a1 a2) (h1 : x_7 = (0 : Int32)) : F_m_hang o S a1 a2 a3 = F_m_hang_J1 (-1 : Int32) o S a3 := by
  replace h0 := Eq.symm h0
  subst h0
  exact (Eq.trans (if_pos h1) rfl)
theorem F_m_hang_p6 {o : Nat} {S : dg_S} {a1 : Int32} {a2 : Int32} {a3 : Int32} {x_117 : Int32} {x_7 : Int32} {x_116 : Int32} (h0 : x_7 = F_m_isCell o S a1 a2) (h1 : ¬ (x_7 = (0 : Int32))) (h2 : x_116 = (8 : Int32) * a2) (h3 : x_117 = x_116 + a1) : F_m_hang o S a1 a2 a3 = F_m_hang_J1 x_117 o S a3 := by
  replace h0 := Eq.symm h0
  subst h0
  replace h2 := Eq.symm h2
  subst h2
  replace h3 := Eq.symm h3
  subst h3
  exact (Eq.trans (if_neg h1) rfl)
set_option maxHeartbeats 8000000 in
set_option maxRecDepth 100000 in
theorem c_m_hang (l : Launch) (g : Nat → ClassId) (D : va_G) (o : Nat) (S : dg_S) (a1 : Int32) (a2 : Int32) (a3 : Int32) (ZB : ZBM S) (ZS : ZSM S) (ZW : ZWM S) (I : CM o S) (sz : Nat) : Met l yX12_hang (bw yX12_hang cX12_hang 5 (some .boolean)) ({ frames := 5, cells := 0, slots := 0, locals := 118 } : Room) (dk_Pc g D (dg_w g shM o rfM S) sz [.ref (o + 0), .int a1, .int a2, .int a3]) (va_Qi (fun (r : Int32) S' => CM o S' ∧ dg_sm shM [(0, 60), (0, 61)] [28, 29, 30, 31, 32, 33, 34, 35, 36, 37, 38, 39] S S' ∧ (0 ≤ (r).toInt ∧ (r).toInt ≤ 1) ∧ (m_hid ((S' = (F_m_refuses o S (3 : Int32)).1 ∧ (r).toInt = 0) ∨ (S'.2.1 28 = S.2.1 28 ∧ (r).toInt ≠ 0))) ∧ ZSM S' ∧ (S' = (F_m_hang o S a1 a2 a3).1 ∧ r = (F_m_hang o S a1 a2 a3).2) ∧ True) (dg_B g D shM o rfM) (dg_A o shM.length sz)) 0 0 (dg_A o shM.length sz) := by
  refine dg_met (cc := cX12_hang) (maxL := 5) (ret := (some .boolean)) (dk_dq rfl) rfl (Nat.le_of_ble_eq_true rfl) ?_
  intro p e s m args below meth c A hAe harg hx hb hr hml hts hown hlocks hin hP K hS hA1 hA ST hsz ls hl
  rw [← hAe]
  have F : CallFix p m c cX12_hang 5 s args (bw yX12_hang cX12_hang 5 (some .boolean)) RX12 := ⟨hx, hb, hml, hown, hts⟩
  have hl : lv_has ls 5 [(0, .ref (o + 0)), (1, .int a1), (2, .int a2), (3, .int a3)] := hl
  have M_0 : dg_sm shM [(0, 60), (0, 61)] [28, 29, 30, 31, 32, 33, 34, 35, 36, 37, 38, 39] S S := dg_sm.rf
  refine lv_aload_n hx hb dX12_hang_0 rfl (lv_at hl 0 rfl) ?_
  refine lv_iload_n hx hb dX12_hang_1 rfl (lv_at hl 1 rfl) ?_
  refine lv_iload_n hx hb dX12_hang_2 rfl (lv_at hl 2 rfl) ?_
  obtain ⟨x_1, f_x_1, b_x_1⟩ := dg_I.int (i := 0) (k := 13) (lo := 0) (hi := 1) I sM_0 (by decide +kernel)
  obtain ⟨x_2, f_x_2, b_x_2⟩ := dg_I.int (i := 0) (k := 47) (lo := 0) (hi := 1) I sM_0 (by decide +kernel)
  obtain ⟨x_3, f_x_3⟩ : ∃ x, S.2.1 2 (x_1 : Int32).toNatClampNeg = x := ⟨_, rfl⟩
  have hin_4 : vp_in (x_1 : Int32) 2 := (dk_inv2 (by omega))
  have b_x_3 := dk_all_at (dg_I.row (lo := 0) (hi := 9999) I sM_2 (by decide +kernel)) hin_4 f_x_3.symm
  have ex_3 := f_x_3.symm
  have zb_x_3 : (x_3).toInt ≤ 7 ∧ ((x_2 : Int32).toInt = 1 → 3 ≤ (x_3).toInt) := by rw [ex_3]; exact ⟨(ZB x_1 x_2 f_x_1 f_x_2).1, fun h9 => ((ZB x_1 x_2 f_x_1 f_x_2).2.2.2 h9).1⟩
  obtain ⟨x_5, f_x_5⟩ : ∃ x, S.2.1 3 (x_1 : Int32).toNatClampNeg = x := ⟨_, rfl⟩
  have hin_6 : vp_in (x_1 : Int32) 2 := (dk_inv2 (by omega))
  have b_x_5 := dk_all_at (dg_I.row (lo := 0) (hi := 9999) I sM_3 (by decide +kernel)) hin_6 f_x_5.symm
  have ex_5 := f_x_5.symm
  have zb_x_5 : (x_5).toInt ≤ 7 ∧ ((x_2 : Int32).toInt = 1 → 3 ≤ (x_5).toInt) := by rw [ex_5]; exact ⟨(ZB x_1 x_2 f_x_1 f_x_2).2.1, fun h9 => ((ZB x_1 x_2 f_x_1 f_x_2).2.2.2 h9).2⟩
  refine dg_calli hS hA1 hA (va_runV (As := [.int a1, .int a2]) (rest := []) F (c_m_isCell l g D o S a1 a2 x_1 f_x_1 (by omega) x_2 f_x_2 (by omega) x_3 f_x_3 (by omega) x_5 f_x_5 (by omega) ZB I s.heap.size) (cwV 2 hts (bw_V wB_1087 wB_1088 wB_1089 wB_297 wB_1086) rfl rfl rfl (by decide +kernel) ⟨Nat.le_of_ble_eq_true rfl, Nat.le_of_ble_eq_true rfl⟩) (dg_preV sM_0 rfl K ST hP hS hA1 hA) rfl rfl hl.1 rfl (lv_room (Nat.le_of_ble_eq_true rfl)) dX12_hang_3 ⟨Nat.le_of_ble_eq_true rfl, Nat.le_of_ble_eq_true rfl⟩) (fun x_7 S_8 hw_8 H locs hP hS => ?_)
  rw [hw_8.1] at hP
  obtain ⟨hq_8, w_8_0, w_8_1, w_8_2, w_8_3, -⟩ := hw_8
  have w_8_0 : 0 ≤ (x_7).toInt ∧ (x_7).toInt ≤ 1 := w_8_0
  have w_8_1 : (x_7).toInt = 1 → (0 ≤ (a1).toInt ∧ (a1).toInt ≤ 6 ∧ 0 ≤ (a2).toInt ∧ (a2).toInt ≤ 6) := w_8_1
  have w_8_2 : (x_7).toInt = 1 ↔ ((x_2).toInt = 1 ∧ 0 ≤ (a1).toInt ∧ (a1).toInt < (x_3).toInt ∧ 0 ≤ (a2).toInt ∧ (a2).toInt < (x_5).toInt) := w_8_2
  have J_63 : ∀ (x_12 : Int32), ((-1) ≤ (x_12).toInt ∧ (x_12).toInt ≤ 54) → (F_m_hang o S a1 a2 a3 = F_m_hang_J1 x_12 o S a3) → ∀ (H : Heap) (locs : List Loc), va_P D vwCl (dg_w g shM o rfM S) H → va_S A s.heap H locs → ∀ ls : Array Slot, lv_has ls 5 [(0, .ref (o + 0)), (1, .int a1), (2, .int a2), (3, .int a3)] → W p l e ({ frames := 5, cells := 0, slots := 0, locals := 118 } : Room) s m args below meth c H locs 0 0 (MQ below (va_Qi (fun (r : Int32) S' => CM o S' ∧ dg_sm shM [(0, 60), (0, 61)] [28, 29, 30, 31, 32, 33, 34, 35, 36, 37, 38, 39] S S' ∧ (0 ≤ (r).toInt ∧ (r).toInt ≤ 1) ∧ (m_hid ((S' = (F_m_refuses o S (3 : Int32)).1 ∧ (r).toInt = 0) ∨ (S'.2.1 28 = S.2.1 28 ∧ (r).toInt ≠ 0))) ∧ ZSM S' ∧ (S' = (F_m_hang o S a1 a2 a3).1 ∧ r = (F_m_hang o S a1 a2 a3).2) ∧ True) (dg_B g D shM o rfM) A) args s 0 0 A) (F0 m 19 ls [.int x_12]) := by
    as_aux_lemma =>
      intro x_12 b_x_12 hF_1 H locs hP hS ls hl
      refine lv_istore (lv' := [(4, .int x_12), (0, .ref (o + 0)), (1, .int a1), (2, .int a2), (3, .int a3)]) hx hb dX12_hang_19 hl (dk_dq rfl) rfl (fun ls hl => ?_)
      refine lv_iload hx hb dX12_hang_21 (lv_at hl 0 rfl) ?_
      refine lv_iconst (v := (-1)) hx hb dX12_hang_23 (by decide +kernel) ?_
      refine lv_icmp_eq (tgt := 56) hx hb dX12_hang_24 (dk_dq rfl) (fun c_64 => ?_) (fun c_64 => ?_)
      · have jc_64 := dk_eqc (k := (-1)) (by decide +kernel) c_64
        refine lv_aload_n hx hb dX12_hang_56 rfl (lv_at hl 1 rfl) ?_
        refine lv_iconst (v := 3) hx hb dX12_hang_57 (by decide +kernel) ?_
        have hz_65 : (3 : Int32).toInt = 3 := by decide +kernel
        refine dg_calli hS hA1 hA (va_runV (As := [.int 3]) (rest := []) F (c_m_refuses l g D o S 3 (by decide +kernel) I H.size) (cwV 1 hts (bw_V wB_1079 wB_1080 wB_1081 wB_297 wB_1078) rfl rfl rfl (by decide +kernel) ⟨Nat.le_of_ble_eq_true rfl, Nat.le_of_ble_eq_true rfl⟩) (dg_preV sM_0 rfl K ST hP hS hA1 hA) rfl rfl hl.1 rfl (lv_room (Nat.le_of_ble_eq_true rfl)) dX12_hang_58 ⟨Nat.le_of_ble_eq_true rfl, Nat.le_of_ble_eq_true rfl⟩) (fun x_66 S_67 hw_67 H locs hP hS => ?_)
        obtain ⟨I_67, m_67, w_67_0, w_67_1, -⟩ := hw_67
        have M_67 := dg_sm.tr M_0 m_67 (dk_dq rfl) (dk_dq rfl)
        have w_67_0 : (-1) ≤ (x_66).toInt ∧ (x_66).toInt ≤ (-1) := w_67_0
        refine lv_if_lt (tgt := 68) hx hb dX12_hang_61 (dk_dq rfl) (fun _ => ?_) (fun c => absurd (dk_ltp (k := 0) (by decide +kernel) (by omega)) c)
        refine lv_iconst (v := 0) hx hb dX12_hang_68 (by decide +kernel) ?_
        have hz_68 : (0 : Int32).toInt = 0 := by decide +kernel
        have hz_69 : (0 : Int32).toInt = 0 := by decide +kernel
        have hz_70 : (0 : Int32).toInt = 0 := by decide +kernel
        refine W.widen (k := 0) (n := 0) (Nat.le_of_ble_eq_true rfl) (Nat.le_of_ble_eq_true rfl) ?_
        exact dg_iret hx hb hr hlocks (by decide +kernel) hP hS ⟨I_67, M_67, (by decide +kernel), (m_hid.mk (Or.inl ⟨w_67_1.1, by first | omega | decide +kernel⟩)), (ZSM.keep ZS m_67 (dk_dq rfl)), ⟨congrArg Prod.fst (Eq.symm (Eq.trans hF_1 (F_m_hang_p0 c_64 w_67_1.1))), congrArg Prod.snd (Eq.symm (Eq.trans hF_1 (F_m_hang_p0 c_64 w_67_1.1)))⟩, trivial⟩ dX12_hang_69
      · as_aux_lemma =>
          have jc_64 := dk_neqc (k := (-1)) (by decide +kernel) c_64
          refine lv_aload_n hx hb dX12_hang_27 rfl (lv_at hl 1 rfl) ?_
          refine lv_iload hx hb dX12_hang_28 (lv_at hl 0 rfl) ?_
          refine dg_calli hS hA1 hA (va_runV (As := [.int x_12]) (rest := []) F (c_m_canHang l g D o S x_12 (by omega) ZB I H.size) (cwV 1 hts (bw_V wB_1243 wB_1244 wB_1245 wB_297 wB_1242) rfl rfl rfl (by decide +kernel) ⟨Nat.le_of_ble_eq_true rfl, Nat.le_of_ble_eq_true rfl⟩) (dg_preV sM_0 rfl K ST hP hS hA1 hA) rfl rfl hl.1 rfl (lv_room (Nat.le_of_ble_eq_true rfl)) dX12_hang_30 ⟨Nat.le_of_ble_eq_true rfl, Nat.le_of_ble_eq_true rfl⟩) (fun x_71 S_72 hw_72 H locs hP hS => ?_)
          rw [hw_72.1] at hP
          obtain ⟨hq_72, w_72_0, w_72_1, -⟩ := hw_72
          have w_72_0 : 0 ≤ (x_71).toInt ∧ (x_71).toInt ≤ 1 := w_72_0
          refine lv_if_eq (tgt := 56) hx hb dX12_hang_33 (dk_dq rfl) (fun c_73 => ?_) (fun c_73 => ?_)
          · have jc_73 := dk_eqc (k := 0) (by decide +kernel) c_73
            refine lv_aload_n hx hb dX12_hang_56 rfl (lv_at hl 1 rfl) ?_
            refine lv_iconst (v := 3) hx hb dX12_hang_57 (by decide +kernel) ?_
            have hz_74 : (3 : Int32).toInt = 3 := by decide +kernel
            refine dg_calli hS hA1 hA (va_runV (As := [.int 3]) (rest := []) F (c_m_refuses l g D o S 3 (by decide +kernel) I H.size) (cwV 1 hts (bw_V wB_1079 wB_1080 wB_1081 wB_297 wB_1078) rfl rfl rfl (by decide +kernel) ⟨Nat.le_of_ble_eq_true rfl, Nat.le_of_ble_eq_true rfl⟩) (dg_preV sM_0 rfl K ST hP hS hA1 hA) rfl rfl hl.1 rfl (lv_room (Nat.le_of_ble_eq_true rfl)) dX12_hang_58 ⟨Nat.le_of_ble_eq_true rfl, Nat.le_of_ble_eq_true rfl⟩) (fun x_75 S_76 hw_76 H locs hP hS => ?_)
            obtain ⟨I_76, m_76, w_76_0, w_76_1, -⟩ := hw_76
            have M_76 := dg_sm.tr M_0 m_76 (dk_dq rfl) (dk_dq rfl)
            have w_76_0 : (-1) ≤ (x_75).toInt ∧ (x_75).toInt ≤ (-1) := w_76_0
            refine lv_if_lt (tgt := 68) hx hb dX12_hang_61 (dk_dq rfl) (fun _ => ?_) (fun c => absurd (dk_ltp (k := 0) (by decide +kernel) (by omega)) c)
            refine lv_iconst (v := 0) hx hb dX12_hang_68 (by decide +kernel) ?_
            have hz_77 : (0 : Int32).toInt = 0 := by decide +kernel
            have hz_78 : (0 : Int32).toInt = 0 := by decide +kernel
            have hz_79 : (0 : Int32).toInt = 0 := by decide +kernel
            refine W.widen (k := 0) (n := 0) (Nat.le_of_ble_eq_true rfl) (Nat.le_of_ble_eq_true rfl) ?_
            exact dg_iret hx hb hr hlocks (by decide +kernel) hP hS ⟨I_76, M_76, (by decide +kernel), (m_hid.mk (Or.inl ⟨w_76_1.1, by first | omega | decide +kernel⟩)), (ZSM.keep ZS m_76 (dk_dq rfl)), ⟨congrArg Prod.fst (Eq.symm (Eq.trans hF_1 (F_m_hang_p1 c_64 w_72_1 c_73 w_76_1.1))), congrArg Prod.snd (Eq.symm (Eq.trans hF_1 (F_m_hang_p1 c_64 w_72_1 c_73 w_76_1.1)))⟩, trivial⟩ dX12_hang_69
          · as_aux_lemma =>
              have jc_73 := dk_neqc (k := 0) (by decide +kernel) c_73
              refine lv_iload_n hx hb dX12_hang_36 rfl (lv_at hl 4 rfl) ?_
              refine lv_iconst (v := 0) hx hb dX12_hang_37 (by decide +kernel) ?_
              refine lv_iconst (v := 1) hx hb dX12_hang_38 (by decide +kernel) ?_
              refine dg_calli hS hA1 hA (va_runS (As := [.int a3, .int 0, .int 1]) (rest := []) F (c_m_isR l g D o S a3 0 1 I H.size) (va_cwS 3 hts (bw_S wB_362 wB_363 wB_297 wB_361) rfl rfl rfl (by decide +kernel) ⟨Nat.le_of_ble_eq_true rfl, Nat.le_of_ble_eq_true rfl⟩) (dg_preS K ST hP hS hA1 hA) rfl rfl hl.1 rfl (lv_room (Nat.le_of_ble_eq_true rfl)) dX12_hang_39 ⟨Nat.le_of_ble_eq_true rfl, Nat.le_of_ble_eq_true rfl⟩) (fun x_80 S_81 hw_81 H locs hP hS => ?_)
              rw [hw_81.1] at hP
              obtain ⟨hq_81, w_81_0, w_81_1, w_81_2, -⟩ := hw_81
              have hz_82 : (0 : Int32).toInt = 0 := by decide +kernel
              have hz_83 : (1 : Int32).toInt = 1 := by decide +kernel
              have w_81_0 : 0 ≤ (x_80).toInt ∧ (x_80).toInt ≤ 1 := w_81_0
              have w_81_1 : (x_80).toInt = 1 ↔ (((0 : Int32)).toInt ≤ (a3).toInt ∧ (a3).toInt ≤ ((1 : Int32)).toInt) := w_81_1
              refine lv_if_eq (tgt := 56) hx hb dX12_hang_42 (dk_dq rfl) (fun c_84 => ?_) (fun c_84 => ?_)
              · have jc_84 := dk_eqc (k := 0) (by decide +kernel) c_84
                refine lv_aload_n hx hb dX12_hang_56 rfl (lv_at hl 1 rfl) ?_
                refine lv_iconst (v := 3) hx hb dX12_hang_57 (by decide +kernel) ?_
                have hz_85 : (3 : Int32).toInt = 3 := by decide +kernel
                refine dg_calli hS hA1 hA (va_runV (As := [.int 3]) (rest := []) F (c_m_refuses l g D o S 3 (by decide +kernel) I H.size) (cwV 1 hts (bw_V wB_1079 wB_1080 wB_1081 wB_297 wB_1078) rfl rfl rfl (by decide +kernel) ⟨Nat.le_of_ble_eq_true rfl, Nat.le_of_ble_eq_true rfl⟩) (dg_preV sM_0 rfl K ST hP hS hA1 hA) rfl rfl hl.1 rfl (lv_room (Nat.le_of_ble_eq_true rfl)) dX12_hang_58 ⟨Nat.le_of_ble_eq_true rfl, Nat.le_of_ble_eq_true rfl⟩) (fun x_86 S_87 hw_87 H locs hP hS => ?_)
                obtain ⟨I_87, m_87, w_87_0, w_87_1, -⟩ := hw_87
                have M_87 := dg_sm.tr M_0 m_87 (dk_dq rfl) (dk_dq rfl)
                have w_87_0 : (-1) ≤ (x_86).toInt ∧ (x_86).toInt ≤ (-1) := w_87_0
                refine lv_if_lt (tgt := 68) hx hb dX12_hang_61 (dk_dq rfl) (fun _ => ?_) (fun c => absurd (dk_ltp (k := 0) (by decide +kernel) (by omega)) c)
                refine lv_iconst (v := 0) hx hb dX12_hang_68 (by decide +kernel) ?_
                have hz_88 : (0 : Int32).toInt = 0 := by decide +kernel
                have hz_89 : (0 : Int32).toInt = 0 := by decide +kernel
                have hz_90 : (0 : Int32).toInt = 0 := by decide +kernel
                refine W.widen (k := 0) (n := 0) (Nat.le_of_ble_eq_true rfl) (Nat.le_of_ble_eq_true rfl) ?_
                exact dg_iret hx hb hr hlocks (by decide +kernel) hP hS ⟨I_87, M_87, (by decide +kernel), (m_hid.mk (Or.inl ⟨w_87_1.1, by first | omega | decide +kernel⟩)), (ZSM.keep ZS m_87 (dk_dq rfl)), ⟨congrArg Prod.fst (Eq.symm (Eq.trans hF_1 (F_m_hang_p2 c_64 w_72_1 c_73 w_81_2 c_84 w_87_1.1))), congrArg Prod.snd (Eq.symm (Eq.trans hF_1 (F_m_hang_p2 c_64 w_72_1 c_73 w_81_2 c_84 w_87_1.1)))⟩, trivial⟩ dX12_hang_69
              · as_aux_lemma =>
                  have jc_84 := dk_neqc (k := 0) (by decide +kernel) c_84
                  refine lv_aload_n hx hb dX12_hang_45 rfl (lv_at hl 1 rfl) ?_
                  refine dg_get (C := RX12) (T := TX12) (N := 77) hx hb hts (fun w h => bw_mem (wU_X12 w h)) hown K hP sM_0 rfl 52 (dk_dq rfl) (hts _ (bw_mem wB_1097)) (fun _ h9 => h9) (v := .ref (o + 32)) (show S.1 0 52 = .ref (o + 32) from dg_I.rel (d := 32) I sM_0 (by decide +kernel)) dX12_hang_46 ?_
                  refine lv_iload hx hb dX12_hang_49 (lv_at hl 0 rfl) ?_
                  have hin_91 : vp_in x_12 1408 := (dk_inv2 (by omega))
                  refine dg_iald hx hb K hP sM_32 hin_91 dX12_hang_51 (fun x_92 ex_92 => ?_)
                  refine lv_iload_n hx hb dX12_hang_52 rfl (lv_at hl 4 rfl) ?_
                  refine lv_icmp_ne (tgt := 70) hx hb dX12_hang_53 (dk_dq rfl) (fun c_93 => ?_) (fun c_93 => ?_)
                  · as_aux_lemma =>
                      have hf_93 := dk_full x_92
                      have jc_93 := dk_neqc (k := (a3).toInt) rfl c_93
                      refine lv_aload_n hx hb dX12_hang_70 rfl (lv_at hl 1 rfl) ?_
                      obtain ⟨x_95, f_x_95⟩ : ∃ x, S.2.1 29 (0 : Int32).toNatClampNeg = x := ⟨_, rfl⟩
                      have hin_96 : vp_in (0 : Int32) 22 := (dk_in (by decide +kernel))
                      have b_x_95 := dk_all_at (dg_I.row (lo := 0) (hi := 2000) I sM_29 (by decide +kernel)) hin_96 f_x_95.symm
                      have ex_95 := f_x_95.symm
                      have hz_97 : (0 : Int32).toInt = 0 := by decide +kernel
                      have zs_x_95 : (0 : Int32).toInt ≠ 1 → (x_95).toInt ≤ 999 := fun h => by rw [ex_95]; exact ZS _ (dk_inT hin_96).2 (fun q => by have h9 := (dk_inT hin_96).1; omega)
                      refine dg_callv hS hA1 hA (va_runV (As := []) (rest := []) F (c_m_keeps l g D o S x_95 f_x_95 (by omega) ZB ZS I H.size) (cwV 0 hts (bw_V wB_1257 wB_1258 wB_1259 wB_297 wB_1256) rfl rfl rfl (by decide +kernel) ⟨Nat.le_of_ble_eq_true rfl, Nat.le_of_ble_eq_true rfl⟩) (dg_preV sM_0 rfl K ST hP hS hA1 hA) rfl rfl hl.1 rfl (lv_room (Nat.le_of_ble_eq_true rfl)) dX12_hang_71 ⟨Nat.le_of_ble_eq_true rfl, Nat.le_of_ble_eq_true rfl⟩) (fun S_98 hw_98 H locs hP hS => ?_)
                      obtain ⟨I_98, m_98, w_98_0, w_98_1, w_98_2, -⟩ := hw_98
                      have M_98 := dg_sm.tr M_0 m_98 (dk_dq rfl) (dk_dq rfl)
                      obtain ⟨x_99, f_x_99⟩ : ∃ x, S_98.2.1 29 (0 : Int32).toNatClampNeg = x := ⟨_, rfl⟩
                      have hin_100 : vp_in (0 : Int32) 22 := (dk_in (by decide +kernel))
                      have b_x_99 := dk_all_at (dg_I.row (lo := 0) (hi := 2000) I_98 sM_29 (by decide +kernel)) hin_100 f_x_99.symm
                      have ex_99 := f_x_99.symm
                      have hz_101 : (0 : Int32).toInt = 0 := by decide +kernel
                      have zs_x_99 : (0 : Int32).toInt ≠ 1 → (x_99).toInt ≤ 999 := fun h => by rw [ex_99]; exact w_98_1 _ (dk_inT hin_100).2 (fun q => by have h9 := (dk_inT hin_100).1; omega)
                      have w_98_0 : (x_99).toInt = (x_95).toInt := w_98_0 x_99 f_x_99
                      refine lv_aload_n hx hb dX12_hang_74 rfl (lv_at hl 1 rfl) ?_
                      refine dg_get (C := RX12) (T := TX12) (N := 77) hx hb hts (fun w h => bw_mem (wU_X12 w h)) hown K hP sM_0 rfl 52 (dk_dq rfl) (hts _ (bw_mem wB_1097)) (fun _ h9 => h9) (v := .ref (o + 32)) (show S_98.1 0 52 = .ref (o + 32) from dg_I.rel (d := 32) I_98 sM_0 (by decide +kernel)) dX12_hang_75 ?_
                      refine lv_iload hx hb dX12_hang_78 (lv_at hl 0 rfl) ?_
                      refine lv_iload_n hx hb dX12_hang_80 rfl (lv_at hl 4 rfl) ?_
                      have hin_102 : vp_in x_12 1408 := (dk_inv2 (by omega))
                      refine dg_iast hx hb K hP hS hA1 sM_32 hin_102 dX12_hang_81 (fun S_103 e_103 H locs hP hS => ?_)
                      have I_103 := dg_I.uf0 I_98 e_103 sM_32 (by decide +kernel)
                      have M_103 := dg_sm.uf M_98 e_103 sM_32 (dk_dq rfl)
                      refine lv_iconst (v := 1) hx hb dX12_hang_82 (by decide +kernel) ?_
                      have hz_104 : (1 : Int32).toInt = 1 := by decide +kernel
                      have hz_105 : (1 : Int32).toInt = 1 := by decide +kernel
                      have hz_106 : (1 : Int32).toInt = 1 := by decide +kernel
                      refine W.widen (k := 0) (n := 0) (Nat.le_of_ble_eq_true rfl) (Nat.le_of_ble_eq_true rfl) ?_
                      exact dg_iret hx hb hr hlocks (by decide +kernel) hP hS ⟨I_103, M_103, (by decide +kernel), (m_hid.mk (Or.inr ⟨((dg_uf_ne e_103 (dk_dq rfl)).trans (m_98.2 28 _ sM_28 (dk_dq rfl)).1), by first | omega | decide +kernel⟩)), (ZSM.keep w_98_1 (dg_sm.uf (WF := []) (WA := [32]) dg_sm.rf e_103 sM_32 (dk_dq rfl)) (dk_dq rfl)), ⟨congrArg Prod.fst (Eq.symm (Eq.trans hF_1 (F_m_hang_p3 c_64 w_72_1 c_73 w_81_2 c_84 (Eq.symm ex_92.symm) c_93 w_98_2 e_103))), congrArg Prod.snd (Eq.symm (Eq.trans hF_1 (F_m_hang_p3 c_64 w_72_1 c_73 w_81_2 c_84 (Eq.symm ex_92.symm) c_93 w_98_2 e_103)))⟩, trivial⟩ dX12_hang_83
                  · as_aux_lemma =>
                      have hf_106 := dk_full x_92
                      have jc_93 := dk_eqc (k := (a3).toInt) rfl c_93
                      refine lv_aload_n hx hb dX12_hang_56 rfl (lv_at hl 1 rfl) ?_
                      refine lv_iconst (v := 3) hx hb dX12_hang_57 (by decide +kernel) ?_
                      have hz_108 : (3 : Int32).toInt = 3 := by decide +kernel
                      refine dg_calli hS hA1 hA (va_runV (As := [.int 3]) (rest := []) F (c_m_refuses l g D o S 3 (by decide +kernel) I H.size) (cwV 1 hts (bw_V wB_1079 wB_1080 wB_1081 wB_297 wB_1078) rfl rfl rfl (by decide +kernel) ⟨Nat.le_of_ble_eq_true rfl, Nat.le_of_ble_eq_true rfl⟩) (dg_preV sM_0 rfl K ST hP hS hA1 hA) rfl rfl hl.1 rfl (lv_room (Nat.le_of_ble_eq_true rfl)) dX12_hang_58 ⟨Nat.le_of_ble_eq_true rfl, Nat.le_of_ble_eq_true rfl⟩) (fun x_109 S_110 hw_110 H locs hP hS => ?_)
                      obtain ⟨I_110, m_110, w_110_0, w_110_1, -⟩ := hw_110
                      have M_110 := dg_sm.tr M_0 m_110 (dk_dq rfl) (dk_dq rfl)
                      have w_110_0 : (-1) ≤ (x_109).toInt ∧ (x_109).toInt ≤ (-1) := w_110_0
                      refine lv_if_lt (tgt := 68) hx hb dX12_hang_61 (dk_dq rfl) (fun _ => ?_) (fun c => absurd (dk_ltp (k := 0) (by decide +kernel) (by omega)) c)
                      refine lv_iconst (v := 0) hx hb dX12_hang_68 (by decide +kernel) ?_
                      have hz_111 : (0 : Int32).toInt = 0 := by decide +kernel
                      have hz_112 : (0 : Int32).toInt = 0 := by decide +kernel
                      have hz_113 : (0 : Int32).toInt = 0 := by decide +kernel
                      refine W.widen (k := 0) (n := 0) (Nat.le_of_ble_eq_true rfl) (Nat.le_of_ble_eq_true rfl) ?_
                      exact dg_iret hx hb hr hlocks (by decide +kernel) hP hS ⟨I_110, M_110, (by decide +kernel), (m_hid.mk (Or.inl ⟨w_110_1.1, by first | omega | decide +kernel⟩)), (ZSM.keep ZS m_110 (dk_dq rfl)), ⟨congrArg Prod.fst (Eq.symm (Eq.trans hF_1 (F_m_hang_p4 c_64 w_72_1 c_73 w_81_2 c_84 (Eq.symm ex_92.symm) c_93 w_110_1.1))), congrArg Prod.snd (Eq.symm (Eq.trans hF_1 (F_m_hang_p4 c_64 w_72_1 c_73 w_81_2 c_84 (Eq.symm ex_92.symm) c_93 w_110_1.1)))⟩, trivial⟩ dX12_hang_69
  refine lv_if_eq (tgt := 18) hx hb dX12_hang_6 (dk_dq rfl) (fun c_114 => ?_) (fun c_114 => ?_)
  · have jc_114 := dk_eqc (k := 0) (by decide +kernel) c_114
    refine lv_iconst (v := (-1)) hx hb dX12_hang_18 (by decide +kernel) ?_
    have hz_115 : (-1 : Int32).toInt = (-1) := by decide +kernel
    exact J_63 (-1) (by decide +kernel) (F_m_hang_p5 w_8_3 c_114) _ _ hP hS _ (lv_sub hl [0, 1, 2, 3] rfl)
  · have jc_114 := dk_neqc (k := 0) (by decide +kernel) c_114
    refine lv_bipush (v := 8) hx hb dX12_hang_9 (by decide +kernel) ?_
    refine lv_iload_n hx hb dX12_hang_11 rfl (lv_at hl 2 rfl) ?_
    refine lv_imul hx hb dX12_hang_12 ?_
    refine lv_topi (fun x_116 ex_116 => ?_)
    have jx_116 : (x_116).toInt = 8 * (a2).toInt := by rw [ex_116]; exact dk_mulT2 (by decide +kernel) rfl (by omega)
    refine lv_iload_n hx hb dX12_hang_13 rfl (lv_at hl 1 rfl) ?_
    refine lv_iadd hx hb dX12_hang_14 ?_
    refine lv_topi (fun x_117 ex_117 => ?_)
    have jx_117 : (x_117).toInt = (x_116).toInt + (a1).toInt := by rw [ex_117]; exact dk_addT2 rfl rfl (by omega)
    refine lv_goto (tgt := 19) hx hb dX12_hang_15 (dk_dq rfl) ?_
    exact J_63 x_117 (by omega) (F_m_hang_p6 w_8_3 c_114 ex_116 ex_117) _ _ hP hS _ (lv_sub hl [0, 1, 2, 3] rfl)
noncomputable def F_m_send_J1 (S : dg_S) (o : Nat) (a1 : Int32) (a2 : Int32) (x_33 : Int32) : dg_S × Int32 := let x_63 : Int32 := S.2.1 29 (0 : Int32).toNatClampNeg; let S_66 : dg_S := F_m_keeps o S; let x_67 : Int32 := S_66.2.1 29 (0 : Int32).toNatClampNeg; let S_71 : dg_S := dg_uf S_66 35 (upd (S_66.2.1 35) (a1 : Int32).toNatClampNeg a2); let S_73 : dg_S := dg_uf S_71 36 (upd (S_71.2.1 36) (a1 : Int32).toNatClampNeg x_33); (S_73, (1 : Int32))
noncomputable def F_m_send (o : Nat) (S : dg_S) (a1 : Int32) (a2 : Int32) (a3 : Int32) (a4 : Int32) : dg_S × Int32 := let x_1 : Int32 := zI S 0 13; let x_3 : Int32 := S.2.1 9 (x_1 : Int32).toNatClampNeg; let x_4 : Int32 := x_3 - (1 : Int32); let x_5 : Int32 := F_m_is o S a1 (0 : Int32) x_4; (if x_5 = (0 : Int32) then let S_11 : dg_S := (F_m_refuses o S (3 : Int32)).1; let x_10 : Int32 := (F_m_refuses o S (3 : Int32)).2; (S_11, (0 : Int32)) else let x_15 : Int32 := F_m_isMiner o S a2; (if x_15 = (0 : Int32) then let S_20 : dg_S := (F_m_refuses o S (3 : Int32)).1; let x_19 : Int32 := (F_m_refuses o S (3 : Int32)).2; (S_20, (0 : Int32)) else let x_24 : Int32 := zI S 0 47; let x_25 : Int32 := S.2.1 2 (x_1 : Int32).toNatClampNeg; let x_27 : Int32 := S.2.1 3 (x_1 : Int32).toNatClampNeg; let x_29 : Int32 := F_m_isCell o S a3 a4; (if x_29 = (0 : Int32) then let S_91 : dg_S := (F_m_refuses o S (3 : Int32)).1; let x_90 : Int32 := (F_m_refuses o S (3 : Int32)).2; (S_91, (0 : Int32)) else let x_32 : Int32 := (8 : Int32) * a4; let x_33 : Int32 := x_32 + a3; let x_35 : Int32 := S.2.1 35 (a1 : Int32).toNatClampNeg; (if x_35 = a2 then let x_81 : Int32 := S.2.1 36 (a1 : Int32).toNatClampNeg; (if x_81 = x_33 then let S_85 : dg_S := (F_m_refuses o S (3 : Int32)).1; let x_84 : Int32 := (F_m_refuses o S (3 : Int32)).2; (S_85, (0 : Int32)) else (F_m_send_J1 S o a1 a2 x_33)) else (F_m_send_J1 S o a1 a2 x_33)))))
theorem F_m_send_p0 {o : Nat} {S : dg_S} {a1 : Int32} {a2 : Int32} {a3 : Int32} {a4 : Int32} {S_11 : dg_S} {x_1 : Int32} {x_3 : Int32} {x_4 : Int32} {x_5 : Int32} (h0 : x_1 = zI S 0 13) (h1 : x_3 = S.2.1 9 (x_1 : Int32).toNatClampNeg) (h2 : x_4 = x_3 - (1 : Int32)) (h3 : x_5 = F_m_is o S a1 (0 : Int32) x_4) (h4 : x_5 = (0 : Int32)) (h5 : S_11 = (F_m_refuses o S (3 : Int32)).1) : F_m_send o S a1 a2 a3 a4 = (S_11, (0 : Int32)) := by
  replace h0 := Eq.symm h0
  subst h0
  replace h1 := Eq.symm h1
  subst h1
  replace h2 := Eq.symm h2
  subst h2
  replace h3 := Eq.symm h3
  subst h3
  replace h5 := Eq.symm h5
  subst h5
  exact (Eq.trans (if_pos h4) rfl)
theorem F_m_send_p1 {o : Nat} {S : dg_S} {a1 : Int32} {a2 : Int32} {a3 : Int32} {a4 : Int32} {S_20 : dg_S} {x_1 : Int32} {x_3 : Int32} {x_4 : Int32} {x_5 : Int32} {x_15 : Int32} (h0 : x_1 = zI S 0 13) (h1 : x_3 = S.2.1 9 (x_1 : Int32).toNatClampNeg) (h2 : x_4 = x_3 - (1 : Int32)) (h3 : x_5 = F_m_is o S a1 (0 : Int32) x_4) (h4 : ¬ (x_5 = (0 : Int32))) (h5 : x_15 = F_m_isMiner o S a2) (h6 : x_15 = (0 : Int32)) (h7 : S_20 = (F_m_refuses o S (3 : Int32)).1) : F_m_send o S a1 a2 a3 a4 = (S_20, (0 : Int32)) := by
  replace h0 := Eq.symm h0
  subst h0
  replace h1 := Eq.symm h1
  subst h1
  replace h2 := Eq.symm h2
  subst h2
  replace h3 := Eq.symm h3
  subst h3
  replace h5 := Eq.symm h5
  subst h5
  replace h7 := Eq.symm h7
  subst h7
  exact (Eq.trans (if_neg h4) (Eq.trans (if_pos h6) rfl))
theorem F_m_send_p2 {S : dg_S} {o : Nat} {a1 : Int32} {a2 : Int32} {x_33 : Int32} {S_73 : dg_S} {S_66 : dg_S} {S_71 : dg_S} (h0 : S_66 = F_m_keeps o S) (h1 : S_71 = dg_uf S_66 35 (upd (S_66.2.1 35) (a1 : Int32).toNatClampNeg a2)) (h2 : S_73 = dg_uf S_71 36 (upd (S_71.2.1 36) (a1 : Int32).toNatClampNeg x_33)) : F_m_send_J1 S o a1 a2 x_33 = (S_73, (1 : Int32)) := by
  replace h0 := Eq.symm h0
  subst h0
  replace h1 := Eq.symm h1
  subst h1
  replace h2 := Eq.symm h2
  subst h2
  exact rfl
theorem F_m_send_p3 {o : Nat} {S : dg_S} {a1 : Int32} {a2 : Int32} {a3 : Int32} {a4 : Int32} {x_33 : Int32} {x_1 : Int32} {x_3 : Int32} {x_4 : Int32} {x_5 : Int32} {x_15 : Int32} {x_29 : Int32} {x_32 : Int32} {x_35 : Int32} (h0 : x_1 = zI S 0 13) (h1 : x_3 = S.2.1 9 (x_1 : Int32).toNatClampNeg) (h2 : x_4 = x_3 - (1 : Int32)) (h3 : x_5 = F_m_is o S a1 (0 : Int32) x_4) (h4 : ¬ (x_5 = (0 : Int32))) (h5 : x_15 = F_m_isMiner o S a2) (h6 : ¬ (x_15 = (0 : Int32))) (h7 : x_29 = F_m_isCell o S a3 a4) (h8 : ¬ (x_29 = (0 : Int32))) (h9 : x_32 = (8 : Int32) * a4) (h10 : x_33 = x_32 + a3) (h11 : x_35 = S.2.1 35 (a1 : Int32).toNatClampNeg) (h12 : ¬ (x_35 = a2)) : F_m_send o S a1 a2 a3 a4 = F_m_send_J1 S o a1 a2 x_33 := by
  replace h0 := Eq.symm h0
  subst h0
  replace h1 := Eq.symm h1
  subst h1
  replace h2 := Eq.symm h2
  subst h2
  replace h3 := Eq.symm h3
  subst h3
  replace h5 := Eq.symm h5
  subst h5
  replace h7 := Eq.symm h7
  subst h7
  replace h9 := Eq.symm h9
  subst h9
  replace h10 := Eq.symm h10
  subst h10
  replace h11 := Eq.symm h11
  subst h11
  exact (Eq.trans (if_neg h4) (Eq.trans (if_neg h6) (Eq.trans (if_neg h8) (Eq.trans (if_neg h12) rfl))))
theorem F_m_send_p4 {o : Nat} {S : dg_S} {a1 : Int32} {a2 : Int32} {a3 : Int32} {a4 : Int32} {x_33 : Int32} {x_1 : Int32} {x_3 : Int32} {x_4 : Int32} {x_5 : Int32} {x_15 : Int32} {x_29 : Int32} {x_32 : Int32} {x_35 : Int32} {x_81 : Int32} (h0 : x_1 = zI S 0 13) (h1 : x_3 = S.2.1 9 (x_1 : Int32).toNatClampNeg) (h2 : x_4 = x_3 - (1 : Int32)) (h3 : x_5 = F_m_is o S a1 (0 : Int32) x_4) (h4 : ¬ (x_5 = (0 : Int32))) (h5 : x_15 = F_m_isMiner o S a2) (h6 : ¬ (x_15 = (0 : Int32))) (h7 : x_29 = F_m_isCell o S a3 a4) (h8 : ¬ (x_29 = (0 : Int32))) (h9 : x_32 = (8 : Int32) * a4) (h10 : x_33 = x_32 + a3) (h11 : x_35 = S.2.1 35 (a1 : Int32).toNatClampNeg) (h12 : x_35 = a2) (h13 : x_81 = S.2.1 36 (a1 : Int32).toNatClampNeg) (h14 : ¬ (x_81 = x_33)) : F_m_send o S a1 a2 a3 a4 = F_m_send_J1 S o a1 a2 x_33 := by
  replace h0 := Eq.symm h0
  subst h0
  replace h1 := Eq.symm h1
  subst h1
  replace h2 := Eq.symm h2
  subst h2
  replace h3 := Eq.symm h3
  subst h3
  replace h5 := Eq.symm h5
  subst h5
  replace h7 := Eq.symm h7
  subst h7
  replace h9 := Eq.symm h9
  subst h9
  replace h10 := Eq.symm h10
  subst h10
  replace h11 := Eq.symm h11
  subst h11
  replace h13 := Eq.symm h13
  subst h13
  exact (Eq.trans (if_neg h4) (Eq.trans (if_neg h6) (Eq.trans (if_neg h8) (Eq.trans (if_pos h12) (Eq.trans (if_neg h14) rfl)))))
theorem F_m_send_p5 {o : Nat} {S : dg_S} {a1 : Int32} {a2 : Int32} {a3 : Int32} {a4 : Int32} {S_85 : dg_S} {x_1 : Int32} {x_3 : Int32} {x_4 : Int32} {x_5 : Int32} {x_15 : Int32} {x_29 : Int32} {x_32 : Int32} {x_33 : Int32} {x_35 : Int32} {x_81 : Int32} (h0 : x_1 = zI S 0 13) (h1 : x_3 = S.2.1 9 (x_1 : Int32).toNatClampNeg) (h2 : x_4 = x_3 - (1 : Int32)) (h3 : x_5 = F_m_is o S a1 (0 : Int32) x_4) (h4 : ¬ (x_5 = (0 : Int32))) (h5 : x_15 = F_m_isMiner o S a2) (h6 : ¬ (x_15 = (0 : Int32))) (h7 : x_29 = F_m_isCell o S a3 a4) (h8 : ¬ (x_29 = (0 : Int32))) (h9 : x_32 = (8 : Int32) * a4) (h10 : x_33 = x_32 + a3) (h11 : x_35 = S.2.1 35 (a1 : Int32).toNatClampNeg) (h12 : x_35 = a2) (h13 : x_81 = S.2.1 36 (a1 : Int32).toNatClampNeg) (h14 : x_81 = x_33) (h15 : S_85 = (F_m_refuses o S (3 : Int32)).1) : F_m_send o S a1 a2 a3 a4 = (S_85, (0 : Int32)) := by
  replace h0 := Eq.symm h0
  subst h0
  replace h1 := Eq.symm h1
  subst h1
  replace h2 := Eq.symm h2
  subst h2
  replace h3 := Eq.symm h3
  subst h3
  replace h5 := Eq.symm h5
  subst h5
  replace h7 := Eq.symm h7
  subst h7
  replace h9 := Eq.symm h9
  subst h9
  replace h10 := Eq.symm h10
  subst h10
  replace h11 := Eq.symm h11
  subst h11
  replace h13 := Eq.symm h13
  subst h13
  replace h15 := Eq.symm h15
  subst h15
  exact (Eq.trans (if_neg h4) (Eq.trans (if_neg h6) (Eq.trans (if_neg h8) (Eq.trans (if_pos h12) (Eq.trans (if_pos h14) rfl)))))
theorem F_m_send_p6 {o : Nat} {S : dg_S} {a1 : Int32} {a2 : Int32} {a3 : Int32} {a4 : Int32} {S_91 : dg_S} {x_1 : Int32} {x_3 : Int32} {x_4 : Int32} {x_5 : Int32} {x_15 : Int32} {x_29 : Int32} (h0 : x_1 = zI S 0 13) (h1 : x_3 = S.2.1 9 (x_1 : Int32).toNatClampNeg) (h2 : x_4 = x_3 - (1 : Int32)) (h3 : x_5 = F_m_is o S a1 (0 : Int32) x_4) (h4 : ¬ (x_5 = (0 : Int32))) (h5 : x_15 = F_m_isMiner o S a2) (h6 : ¬ (x_15 = (0 : Int32))) (h7 : x_29 = F_m_isCell o S a3 a4) (h8 : x_29 = (0 : Int32)) (h9 : S_91 = (F_m_refuses o S (3 : Int32)).1) : F_m_send o S a1 a2 a3 a4 = (S_91, (0 : Int32)) := by
  replace h0 := Eq.symm h0
  subst h0
  replace h1 := Eq.symm h1
  subst h1
  replace h2 := Eq.symm h2
  subst h2
  replace h3 := Eq.symm h3
  subst h3
  replace h5 := Eq.symm h5
  subst h5
  replace h7 := Eq.symm h7
  subst h7
  replace h9 := Eq.symm h9
  subst h9
  exact (Eq.trans (if_neg h4) (Eq.trans (if_neg h6) (Eq.trans (if_pos h8) rfl)))
set_option maxHeartbeats 8000000 in
set_option maxRecDepth 100000 in
theorem c_m_send (l : Launch) (g : Nat → ClassId) (D : va_G) (o : Nat) (S : dg_S) (a1 : Int32) (a2 : Int32) (a3 : Int32) (a4 : Int32) (ZB : ZBM S) (ZS : ZSM S) (ZW : ZWM S) (I : CM o S) (sz : Nat) : Met l yX12_send (bw yX12_send cX12_send 6 (some .boolean)) ({ frames := 3, cells := 0, slots := 0, locals := 76 } : Room) (dk_Pc g D (dg_w g shM o rfM S) sz [.ref (o + 0), .int a1, .int a2, .int a3, .int a4]) (va_Qi (fun (r : Int32) S' => CM o S' ∧ dg_sm shM [(0, 60), (0, 61)] [28, 29, 30, 31, 32, 33, 34, 35, 36, 37, 38, 39] S S' ∧ (0 ≤ (r).toInt ∧ (r).toInt ≤ 1) ∧ (m_hid ((S' = (F_m_refuses o S (3 : Int32)).1 ∧ (r).toInt = 0) ∨ (S'.2.1 28 = S.2.1 28 ∧ (r).toInt ≠ 0))) ∧ ZSM S' ∧ (S' = (F_m_send o S a1 a2 a3 a4).1 ∧ r = (F_m_send o S a1 a2 a3 a4).2) ∧ True) (dg_B g D shM o rfM) (dg_A o shM.length sz)) 0 0 (dg_A o shM.length sz) := by
  refine dg_met (cc := cX12_send) (maxL := 6) (ret := (some .boolean)) (dk_dq rfl) rfl (Nat.le_of_ble_eq_true rfl) ?_
  intro p e s m args below meth c A hAe harg hx hb hr hml hts hown hlocks hin hP K hS hA1 hA ST hsz ls hl
  rw [← hAe]
  have F : CallFix p m c cX12_send 6 s args (bw yX12_send cX12_send 6 (some .boolean)) RX12 := ⟨hx, hb, hml, hown, hts⟩
  have hl : lv_has ls 6 [(0, .ref (o + 0)), (1, .int a1), (2, .int a2), (3, .int a3), (4, .int a4)] := hl
  have M_0 : dg_sm shM [(0, 60), (0, 61)] [28, 29, 30, 31, 32, 33, 34, 35, 36, 37, 38, 39] S S := dg_sm.rf
  refine lv_iload_n hx hb dX12_send_0 rfl (lv_at hl 1 rfl) ?_
  refine lv_iconst (v := 0) hx hb dX12_send_1 (by decide +kernel) ?_
  refine lv_aload_n hx hb dX12_send_2 rfl (lv_at hl 0 rfl) ?_
  refine dg_get (C := RX12) (T := TX12) (N := 77) hx hb hts (fun w h => bw_mem (wU_X12 w h)) hown K hP sM_0 rfl 21 (dk_dq rfl) (hts _ (bw_mem wB_391)) (fun _ h9 => h9) (v := .ref (o + 9)) (show S.1 0 21 = .ref (o + 9) from dg_I.rel (d := 9) I sM_0 (by decide +kernel)) dX12_send_3 ?_
  refine lv_aload_n hx hb dX12_send_6 rfl (lv_at hl 0 rfl) ?_
  obtain ⟨x_1, f_x_1, b_x_1⟩ := dg_I.int (i := 0) (k := 13) (lo := 0) (hi := 1) I sM_0 (by decide +kernel)
  refine dg_get (C := RX12) (T := TX12) (N := 77) hx hb hts (fun w h => bw_mem (wU_X12 w h)) hown K hP sM_0 rfl 13 (dk_dq rfl) (hts _ (bw_mem wB_1085)) (fun _ h9 => h9) (v := .int x_1) f_x_1 dX12_send_7 ?_
  have hin_2 : vp_in x_1 2 := (dk_inv2 (by omega))
  refine dg_iald hx hb K hP sM_9 hin_2 dX12_send_10 (fun x_3 ex_3 => ?_)
  have b_x_3 := dk_all_at (dg_I.row (lo := 0) (hi := 16) I sM_9 (by decide +kernel)) hin_2 ex_3
  refine lv_iconst (v := 1) hx hb dX12_send_11 (by decide +kernel) ?_
  refine lv_isub hx hb dX12_send_12 ?_
  refine lv_topi (fun x_4 ex_4 => ?_)
  have jx_4 : (x_4).toInt = (x_3).toInt - 1 := by rw [ex_4]; exact dk_subT2 rfl (by decide +kernel) (by omega)
  refine dg_calli hS hA1 hA (va_runS (As := [.int a1, .int 0, .int x_4]) (rest := []) F (c_m_isR l g D o S a1 0 x_4 I s.heap.size) (va_cwS 3 hts (bw_S wB_362 wB_363 wB_297 wB_361) rfl rfl rfl (by decide +kernel) ⟨Nat.le_of_ble_eq_true rfl, Nat.le_of_ble_eq_true rfl⟩) (dg_preS K ST hP hS hA1 hA) rfl rfl hl.1 rfl (lv_room (Nat.le_of_ble_eq_true rfl)) dX12_send_13 ⟨Nat.le_of_ble_eq_true rfl, Nat.le_of_ble_eq_true rfl⟩) (fun x_5 S_6 hw_6 H locs hP hS => ?_)
  rw [hw_6.1] at hP
  obtain ⟨hq_6, w_6_0, w_6_1, w_6_2, -⟩ := hw_6
  have hz_7 : (0 : Int32).toInt = 0 := by decide +kernel
  have w_6_0 : 0 ≤ (x_5).toInt ∧ (x_5).toInt ≤ 1 := w_6_0
  have w_6_1 : (x_5).toInt = 1 ↔ (((0 : Int32)).toInt ≤ (a1).toInt ∧ (a1).toInt ≤ (x_4).toInt) := w_6_1
  refine lv_if_eq (tgt := 37) hx hb dX12_send_16 (dk_dq rfl) (fun c_8 => ?_) (fun c_8 => ?_)
  · have jc_8 := dk_eqc (k := 0) (by decide +kernel) c_8
    refine lv_aload_n hx hb dX12_send_37 rfl (lv_at hl 0 rfl) ?_
    refine lv_iconst (v := 3) hx hb dX12_send_38 (by decide +kernel) ?_
    have hz_9 : (3 : Int32).toInt = 3 := by decide +kernel
    refine dg_calli hS hA1 hA (va_runV (As := [.int 3]) (rest := []) F (c_m_refuses l g D o S 3 (by decide +kernel) I H.size) (cwV 1 hts (bw_V wB_1079 wB_1080 wB_1081 wB_297 wB_1078) rfl rfl rfl (by decide +kernel) ⟨Nat.le_of_ble_eq_true rfl, Nat.le_of_ble_eq_true rfl⟩) (dg_preV sM_0 rfl K ST hP hS hA1 hA) rfl rfl hl.1 rfl (lv_room (Nat.le_of_ble_eq_true rfl)) dX12_send_39 ⟨Nat.le_of_ble_eq_true rfl, Nat.le_of_ble_eq_true rfl⟩) (fun x_10 S_11 hw_11 H locs hP hS => ?_)
    obtain ⟨I_11, m_11, w_11_0, w_11_1, -⟩ := hw_11
    have M_11 := dg_sm.tr M_0 m_11 (dk_dq rfl) (dk_dq rfl)
    have w_11_0 : (-1) ≤ (x_10).toInt ∧ (x_10).toInt ≤ (-1) := w_11_0
    refine lv_if_lt (tgt := 49) hx hb dX12_send_42 (dk_dq rfl) (fun _ => ?_) (fun c => absurd (dk_ltp (k := 0) (by decide +kernel) (by omega)) c)
    refine lv_iconst (v := 0) hx hb dX12_send_49 (by decide +kernel) ?_
    have hz_12 : (0 : Int32).toInt = 0 := by decide +kernel
    have hz_13 : (0 : Int32).toInt = 0 := by decide +kernel
    have hz_14 : (0 : Int32).toInt = 0 := by decide +kernel
    refine W.widen (k := 0) (n := 0) (Nat.le_of_ble_eq_true rfl) (Nat.le_of_ble_eq_true rfl) ?_
    exact dg_iret hx hb hr hlocks (by decide +kernel) hP hS ⟨I_11, M_11, (by decide +kernel), (m_hid.mk (Or.inl ⟨w_11_1.1, by first | omega | decide +kernel⟩)), (ZSM.keep ZS m_11 (dk_dq rfl)), ⟨congrArg Prod.fst (Eq.symm (F_m_send_p0 (zI_eq f_x_1) (Eq.symm ex_3.symm) ex_4 w_6_2 c_8 w_11_1.1)), congrArg Prod.snd (Eq.symm (F_m_send_p0 (zI_eq f_x_1) (Eq.symm ex_3.symm) ex_4 w_6_2 c_8 w_11_1.1))⟩, trivial⟩ dX12_send_50
  · as_aux_lemma =>
      have jc_8 := dk_neqc (k := 0) (by decide +kernel) c_8
      refine lv_aload_n hx hb dX12_send_19 rfl (lv_at hl 0 rfl) ?_
      refine lv_iload_n hx hb dX12_send_20 rfl (lv_at hl 2 rfl) ?_
      refine dg_calli hS hA1 hA (va_runV (As := [.int a2]) (rest := []) F (c_m_isMiner l g D o S a2 I H.size) (cwV 1 hts (bw_V wB_1208 wB_1209 wB_1210 wB_297 wB_1207) rfl rfl rfl (by decide +kernel) ⟨Nat.le_of_ble_eq_true rfl, Nat.le_of_ble_eq_true rfl⟩) (dg_preV sM_0 rfl K ST hP hS hA1 hA) rfl rfl hl.1 rfl (lv_room (Nat.le_of_ble_eq_true rfl)) dX12_send_21 ⟨Nat.le_of_ble_eq_true rfl, Nat.le_of_ble_eq_true rfl⟩) (fun x_15 S_16 hw_16 H locs hP hS => ?_)
      rw [hw_16.1] at hP
      obtain ⟨hq_16, w_16_0, w_16_1, w_16_2, -⟩ := hw_16
      have w_16_0 : 0 ≤ (x_15).toInt ∧ (x_15).toInt ≤ 1 := w_16_0
      have w_16_1 : (x_15).toInt = 1 → (0 ≤ (a2).toInt ∧ (a2).toInt ≤ 5) := w_16_1
      refine lv_if_eq (tgt := 37) hx hb dX12_send_24 (dk_dq rfl) (fun c_17 => ?_) (fun c_17 => ?_)
      · have jc_17 := dk_eqc (k := 0) (by decide +kernel) c_17
        refine lv_aload_n hx hb dX12_send_37 rfl (lv_at hl 0 rfl) ?_
        refine lv_iconst (v := 3) hx hb dX12_send_38 (by decide +kernel) ?_
        have hz_18 : (3 : Int32).toInt = 3 := by decide +kernel
        refine dg_calli hS hA1 hA (va_runV (As := [.int 3]) (rest := []) F (c_m_refuses l g D o S 3 (by decide +kernel) I H.size) (cwV 1 hts (bw_V wB_1079 wB_1080 wB_1081 wB_297 wB_1078) rfl rfl rfl (by decide +kernel) ⟨Nat.le_of_ble_eq_true rfl, Nat.le_of_ble_eq_true rfl⟩) (dg_preV sM_0 rfl K ST hP hS hA1 hA) rfl rfl hl.1 rfl (lv_room (Nat.le_of_ble_eq_true rfl)) dX12_send_39 ⟨Nat.le_of_ble_eq_true rfl, Nat.le_of_ble_eq_true rfl⟩) (fun x_19 S_20 hw_20 H locs hP hS => ?_)
        obtain ⟨I_20, m_20, w_20_0, w_20_1, -⟩ := hw_20
        have M_20 := dg_sm.tr M_0 m_20 (dk_dq rfl) (dk_dq rfl)
        have w_20_0 : (-1) ≤ (x_19).toInt ∧ (x_19).toInt ≤ (-1) := w_20_0
        refine lv_if_lt (tgt := 49) hx hb dX12_send_42 (dk_dq rfl) (fun _ => ?_) (fun c => absurd (dk_ltp (k := 0) (by decide +kernel) (by omega)) c)
        refine lv_iconst (v := 0) hx hb dX12_send_49 (by decide +kernel) ?_
        have hz_21 : (0 : Int32).toInt = 0 := by decide +kernel
        have hz_22 : (0 : Int32).toInt = 0 := by decide +kernel
        have hz_23 : (0 : Int32).toInt = 0 := by decide +kernel
        refine W.widen (k := 0) (n := 0) (Nat.le_of_ble_eq_true rfl) (Nat.le_of_ble_eq_true rfl) ?_
        exact dg_iret hx hb hr hlocks (by decide +kernel) hP hS ⟨I_20, M_20, (by decide +kernel), (m_hid.mk (Or.inl ⟨w_20_1.1, by first | omega | decide +kernel⟩)), (ZSM.keep ZS m_20 (dk_dq rfl)), ⟨congrArg Prod.fst (Eq.symm (F_m_send_p1 (zI_eq f_x_1) (Eq.symm ex_3.symm) ex_4 w_6_2 c_8 w_16_2 c_17 w_20_1.1)), congrArg Prod.snd (Eq.symm (F_m_send_p1 (zI_eq f_x_1) (Eq.symm ex_3.symm) ex_4 w_6_2 c_8 w_16_2 c_17 w_20_1.1))⟩, trivial⟩ dX12_send_50
      · as_aux_lemma =>
          have jc_17 := dk_neqc (k := 0) (by decide +kernel) c_17
          refine lv_aload_n hx hb dX12_send_27 rfl (lv_at hl 0 rfl) ?_
          refine lv_iload_n hx hb dX12_send_28 rfl (lv_at hl 3 rfl) ?_
          refine lv_iload hx hb dX12_send_29 (lv_at hl 4 rfl) ?_
          obtain ⟨x_24, f_x_24, b_x_24⟩ := dg_I.int (i := 0) (k := 47) (lo := 0) (hi := 1) I sM_0 (by decide +kernel)
          obtain ⟨x_25, f_x_25⟩ : ∃ x, S.2.1 2 (x_1 : Int32).toNatClampNeg = x := ⟨_, rfl⟩
          have hin_26 : vp_in (x_1 : Int32) 2 := (dk_inv2 (by omega))
          have b_x_25 := dk_all_at (dg_I.row (lo := 0) (hi := 9999) I sM_2 (by decide +kernel)) hin_26 f_x_25.symm
          have ex_25 := f_x_25.symm
          have zb_x_25 : (x_25).toInt ≤ 7 ∧ ((x_24 : Int32).toInt = 1 → 3 ≤ (x_25).toInt) := by rw [ex_25]; exact ⟨(ZB x_1 x_24 f_x_1 f_x_24).1, fun h9 => ((ZB x_1 x_24 f_x_1 f_x_24).2.2.2 h9).1⟩
          obtain ⟨x_27, f_x_27⟩ : ∃ x, S.2.1 3 (x_1 : Int32).toNatClampNeg = x := ⟨_, rfl⟩
          have hin_28 : vp_in (x_1 : Int32) 2 := (dk_inv2 (by omega))
          have b_x_27 := dk_all_at (dg_I.row (lo := 0) (hi := 9999) I sM_3 (by decide +kernel)) hin_28 f_x_27.symm
          have ex_27 := f_x_27.symm
          have zb_x_27 : (x_27).toInt ≤ 7 ∧ ((x_24 : Int32).toInt = 1 → 3 ≤ (x_27).toInt) := by rw [ex_27]; exact ⟨(ZB x_1 x_24 f_x_1 f_x_24).2.1, fun h9 => ((ZB x_1 x_24 f_x_1 f_x_24).2.2.2 h9).2⟩
          refine dg_calli hS hA1 hA (va_runV (As := [.int a3, .int a4]) (rest := []) F (c_m_isCell l g D o S a3 a4 x_1 f_x_1 (by omega) x_24 f_x_24 (by omega) x_25 f_x_25 (by omega) x_27 f_x_27 (by omega) ZB I H.size) (cwV 2 hts (bw_V wB_1087 wB_1088 wB_1089 wB_297 wB_1086) rfl rfl rfl (by decide +kernel) ⟨Nat.le_of_ble_eq_true rfl, Nat.le_of_ble_eq_true rfl⟩) (dg_preV sM_0 rfl K ST hP hS hA1 hA) rfl rfl hl.1 rfl (lv_room (Nat.le_of_ble_eq_true rfl)) dX12_send_31 ⟨Nat.le_of_ble_eq_true rfl, Nat.le_of_ble_eq_true rfl⟩) (fun x_29 S_30 hw_30 H locs hP hS => ?_)
          rw [hw_30.1] at hP
          obtain ⟨hq_30, w_30_0, w_30_1, w_30_2, w_30_3, -⟩ := hw_30
          have w_30_0 : 0 ≤ (x_29).toInt ∧ (x_29).toInt ≤ 1 := w_30_0
          have w_30_1 : (x_29).toInt = 1 → (0 ≤ (a3).toInt ∧ (a3).toInt ≤ 6 ∧ 0 ≤ (a4).toInt ∧ (a4).toInt ≤ 6) := w_30_1
          have w_30_2 : (x_29).toInt = 1 ↔ ((x_24).toInt = 1 ∧ 0 ≤ (a3).toInt ∧ (a3).toInt < (x_25).toInt ∧ 0 ≤ (a4).toInt ∧ (a4).toInt < (x_27).toInt) := w_30_2
          refine lv_if_ne (tgt := 51) hx hb dX12_send_34 (dk_dq rfl) (fun c_31 => ?_) (fun c_31 => ?_)
          · as_aux_lemma =>
              have jc_31 := dk_neqc (k := 0) (by decide +kernel) c_31
              refine lv_bipush (v := 8) hx hb dX12_send_51 (by decide +kernel) ?_
              refine lv_iload hx hb dX12_send_53 (lv_at hl 4 rfl) ?_
              refine lv_imul hx hb dX12_send_55 ?_
              refine lv_topi (fun x_32 ex_32 => ?_)
              have jx_32 : (x_32).toInt = 8 * (a4).toInt := by rw [ex_32]; exact dk_mulT2 (by decide +kernel) rfl (by omega)
              refine lv_iload_n hx hb dX12_send_56 rfl (lv_at hl 3 rfl) ?_
              refine lv_iadd hx hb dX12_send_57 ?_
              refine lv_topi (fun x_33 ex_33 => ?_)
              have jx_33 : (x_33).toInt = (x_32).toInt + (a3).toInt := by rw [ex_33]; exact dk_addT2 rfl rfl (by omega)
              refine lv_istore (lv' := [(5, .int x_33), (0, .ref (o + 0)), (1, .int a1), (2, .int a2), (3, .int a3), (4, .int a4)]) hx hb dX12_send_58 hl (dk_dq rfl) rfl (fun ls hl => ?_)
              refine lv_aload_n hx hb dX12_send_60 rfl (lv_at hl 1 rfl) ?_
              refine dg_get (C := RX12) (T := TX12) (N := 77) hx hb hts (fun w h => bw_mem (wU_X12 w h)) hown K hP sM_0 rfl 55 (dk_dq rfl) (hts _ (bw_mem wB_1132)) (fun _ h9 => h9) (v := .ref (o + 35)) (show S.1 0 55 = .ref (o + 35) from dg_I.rel (d := 35) I sM_0 (by decide +kernel)) dX12_send_61 ?_
              refine lv_iload_n hx hb dX12_send_64 rfl (lv_at hl 2 rfl) ?_
              have hin_34 : vp_in a1 352 := (dk_inv2 (by omega))
              refine dg_iald hx hb K hP sM_35 hin_34 dX12_send_65 (fun x_35 ex_35 => ?_)
              refine lv_iload_n hx hb dX12_send_66 rfl (lv_at hl 3 rfl) ?_
              have J_62 : (F_m_send o S a1 a2 a3 a4 = F_m_send_J1 S o a1 a2 x_33) → ∀ (H : Heap) (locs : List Loc), va_P D vwCl (dg_w g shM o rfM S) H → va_S A s.heap H locs → ∀ ls : Array Slot, lv_has ls 6 [(5, .int x_33), (0, .ref (o + 0)), (1, .int a1), (2, .int a2), (3, .int a3), (4, .int a4)] → W p l e ({ frames := 3, cells := 0, slots := 0, locals := 76 } : Room) s m args below meth c H locs 0 0 (MQ below (va_Qi (fun (r : Int32) S' => CM o S' ∧ dg_sm shM [(0, 60), (0, 61)] [28, 29, 30, 31, 32, 33, 34, 35, 36, 37, 38, 39] S S' ∧ (0 ≤ (r).toInt ∧ (r).toInt ≤ 1) ∧ (m_hid ((S' = (F_m_refuses o S (3 : Int32)).1 ∧ (r).toInt = 0) ∨ (S'.2.1 28 = S.2.1 28 ∧ (r).toInt ≠ 0))) ∧ ZSM S' ∧ (S' = (F_m_send o S a1 a2 a3 a4).1 ∧ r = (F_m_send o S a1 a2 a3 a4).2) ∧ True) (dg_B g D shM o rfM) A) args s 0 0 A) (F0 m 95 ls []) := by
                as_aux_lemma =>
                  intro hF_1 H locs hP hS ls hl
                  refine lv_aload_n hx hb dX12_send_95 rfl (lv_at hl 1 rfl) ?_
                  obtain ⟨x_63, f_x_63⟩ : ∃ x, S.2.1 29 (0 : Int32).toNatClampNeg = x := ⟨_, rfl⟩
                  have hin_64 : vp_in (0 : Int32) 22 := (dk_in (by decide +kernel))
                  have b_x_63 := dk_all_at (dg_I.row (lo := 0) (hi := 2000) I sM_29 (by decide +kernel)) hin_64 f_x_63.symm
                  have ex_63 := f_x_63.symm
                  have hz_65 : (0 : Int32).toInt = 0 := by decide +kernel
                  have zs_x_63 : (0 : Int32).toInt ≠ 1 → (x_63).toInt ≤ 999 := fun h => by rw [ex_63]; exact ZS _ (dk_inT hin_64).2 (fun q => by have h9 := (dk_inT hin_64).1; omega)
                  refine dg_callv hS hA1 hA (va_runV (As := []) (rest := []) F (c_m_keeps l g D o S x_63 f_x_63 (by omega) ZB ZS I H.size) (cwV 0 hts (bw_V wB_1257 wB_1258 wB_1259 wB_297 wB_1256) rfl rfl rfl (by decide +kernel) ⟨Nat.le_of_ble_eq_true rfl, Nat.le_of_ble_eq_true rfl⟩) (dg_preV sM_0 rfl K ST hP hS hA1 hA) rfl rfl hl.1 rfl (lv_room (Nat.le_of_ble_eq_true rfl)) dX12_send_96 ⟨Nat.le_of_ble_eq_true rfl, Nat.le_of_ble_eq_true rfl⟩) (fun S_66 hw_66 H locs hP hS => ?_)
                  obtain ⟨I_66, m_66, w_66_0, w_66_1, w_66_2, -⟩ := hw_66
                  have M_66 := dg_sm.tr M_0 m_66 (dk_dq rfl) (dk_dq rfl)
                  obtain ⟨x_67, f_x_67⟩ : ∃ x, S_66.2.1 29 (0 : Int32).toNatClampNeg = x := ⟨_, rfl⟩
                  have hin_68 : vp_in (0 : Int32) 22 := (dk_in (by decide +kernel))
                  have b_x_67 := dk_all_at (dg_I.row (lo := 0) (hi := 2000) I_66 sM_29 (by decide +kernel)) hin_68 f_x_67.symm
                  have ex_67 := f_x_67.symm
                  have hz_69 : (0 : Int32).toInt = 0 := by decide +kernel
                  have zs_x_67 : (0 : Int32).toInt ≠ 1 → (x_67).toInt ≤ 999 := fun h => by rw [ex_67]; exact w_66_1 _ (dk_inT hin_68).2 (fun q => by have h9 := (dk_inT hin_68).1; omega)
                  have w_66_0 : (x_67).toInt = (x_63).toInt := w_66_0 x_67 f_x_67
                  refine lv_aload_n hx hb dX12_send_99 rfl (lv_at hl 1 rfl) ?_
                  refine dg_get (C := RX12) (T := TX12) (N := 77) hx hb hts (fun w h => bw_mem (wU_X12 w h)) hown K hP sM_0 rfl 55 (dk_dq rfl) (hts _ (bw_mem wB_1132)) (fun _ h9 => h9) (v := .ref (o + 35)) (show S_66.1 0 55 = .ref (o + 35) from dg_I.rel (d := 35) I_66 sM_0 (by decide +kernel)) dX12_send_100 ?_
                  refine lv_iload_n hx hb dX12_send_103 rfl (lv_at hl 2 rfl) ?_
                  refine lv_iload_n hx hb dX12_send_104 rfl (lv_at hl 3 rfl) ?_
                  have hin_70 : vp_in a1 352 := (dk_inv2 (by omega))
                  refine dg_iast hx hb K hP hS hA1 sM_35 hin_70 dX12_send_105 (fun S_71 e_71 H locs hP hS => ?_)
                  have I_71 := dg_I.uf0 I_66 e_71 sM_35 (by decide +kernel)
                  have M_71 := dg_sm.uf M_66 e_71 sM_35 (dk_dq rfl)
                  refine lv_aload_n hx hb dX12_send_106 rfl (lv_at hl 1 rfl) ?_
                  refine dg_get (C := RX12) (T := TX12) (N := 77) hx hb hts (fun w h => bw_mem (wU_X12 w h)) hown K hP sM_0 rfl 56 (dk_dq rfl) (hts _ (bw_mem wB_1133)) (fun _ h9 => h9) (v := .ref (o + 36)) (show S_71.1 0 56 = .ref (o + 36) from dg_I.rel (d := 36) I_71 sM_0 (by decide +kernel)) dX12_send_107 ?_
                  refine lv_iload_n hx hb dX12_send_110 rfl (lv_at hl 2 rfl) ?_
                  refine lv_iload hx hb dX12_send_111 (lv_at hl 0 rfl) ?_
                  have hin_72 : vp_in a1 352 := (dk_inv2 (by omega))
                  refine dg_iast hx hb K hP hS hA1 sM_36 hin_72 dX12_send_113 (fun S_73 e_73 H locs hP hS => ?_)
                  have I_73 := dg_I.ufu (lo := 0) (hi := 63) I_71 e_73 sM_36 (by decide +kernel) (show 0 ≤ (x_33).toInt ∧ (x_33).toInt ≤ 63 from (by omega))
                  have M_73 := dg_sm.uf M_71 e_73 sM_36 (dk_dq rfl)
                  refine lv_iconst (v := 1) hx hb dX12_send_114 (by decide +kernel) ?_
                  have hz_74 : (1 : Int32).toInt = 1 := by decide +kernel
                  have hz_75 : (1 : Int32).toInt = 1 := by decide +kernel
                  have hz_76 : (1 : Int32).toInt = 1 := by decide +kernel
                  refine W.widen (k := 0) (n := 0) (Nat.le_of_ble_eq_true rfl) (Nat.le_of_ble_eq_true rfl) ?_
                  exact dg_iret hx hb hr hlocks (by decide +kernel) hP hS ⟨I_73, M_73, (by decide +kernel), (m_hid.mk (Or.inr ⟨((dg_uf_ne e_73 (dk_dq rfl)).trans ((dg_uf_ne e_71 (dk_dq rfl)).trans (m_66.2 28 _ sM_28 (dk_dq rfl)).1)), by first | omega | decide +kernel⟩)), (ZSM.keep (ZSM.keep w_66_1 (dg_sm.uf (WF := []) (WA := [35]) dg_sm.rf e_71 sM_35 (dk_dq rfl)) (dk_dq rfl)) (dg_sm.uf (WF := []) (WA := [36]) dg_sm.rf e_73 sM_36 (dk_dq rfl)) (dk_dq rfl)), ⟨congrArg Prod.fst (Eq.symm (Eq.trans hF_1 (F_m_send_p2 w_66_2 e_71 e_73))), congrArg Prod.snd (Eq.symm (Eq.trans hF_1 (F_m_send_p2 w_66_2 e_71 e_73)))⟩, trivial⟩ dX12_send_115
              refine lv_icmp_ne (tgt := 95) hx hb dX12_send_67 (dk_dq rfl) (fun c_77 => ?_) (fun c_77 => ?_)
              · have hf_77 := dk_full x_35
                have jc_77 := dk_neqc (k := (a2).toInt) rfl c_77
                exact J_62   (F_m_send_p3 (zI_eq f_x_1) (Eq.symm ex_3.symm) ex_4 w_6_2 c_8 w_16_2 c_17 w_30_3 c_31 ex_32 ex_33 (Eq.symm ex_35.symm) c_77) _ _ hP hS _ (lv_sub hl [0, 1, 2, 3, 4, 5] rfl)
              · as_aux_lemma =>
                  have hf_78 := dk_full x_35
                  have jc_77 := dk_eqc (k := (a2).toInt) rfl c_77
                  refine lv_aload_n hx hb dX12_send_70 rfl (lv_at hl 1 rfl) ?_
                  refine dg_get (C := RX12) (T := TX12) (N := 77) hx hb hts (fun w h => bw_mem (wU_X12 w h)) hown K hP sM_0 rfl 56 (dk_dq rfl) (hts _ (bw_mem wB_1133)) (fun _ h9 => h9) (v := .ref (o + 36)) (show S.1 0 56 = .ref (o + 36) from dg_I.rel (d := 36) I sM_0 (by decide +kernel)) dX12_send_71 ?_
                  refine lv_iload_n hx hb dX12_send_74 rfl (lv_at hl 2 rfl) ?_
                  have hin_80 : vp_in a1 352 := (dk_inv2 (by omega))
                  refine dg_iald hx hb K hP sM_36 hin_80 dX12_send_75 (fun x_81 ex_81 => ?_)
                  have b_x_81 := dk_all_at (dg_I.row (lo := 0) (hi := 63) I sM_36 (by decide +kernel)) hin_80 ex_81
                  refine lv_iload hx hb dX12_send_76 (lv_at hl 0 rfl) ?_
                  refine lv_icmp_ne (tgt := 95) hx hb dX12_send_78 (dk_dq rfl) (fun c_82 => ?_) (fun c_82 => ?_)
                  · have jc_82 := dk_neqc (k := (x_33).toInt) rfl c_82
                    exact J_62   (F_m_send_p4 (zI_eq f_x_1) (Eq.symm ex_3.symm) ex_4 w_6_2 c_8 w_16_2 c_17 w_30_3 c_31 ex_32 ex_33 (Eq.symm ex_35.symm) c_77 (Eq.symm ex_81.symm) c_82) _ _ hP hS _ (lv_sub hl [0, 1, 2, 3, 4, 5] rfl)
                  · have jc_82 := dk_eqc (k := (x_33).toInt) rfl c_82
                    refine lv_aload_n hx hb dX12_send_81 rfl (lv_at hl 1 rfl) ?_
                    refine lv_iconst (v := 3) hx hb dX12_send_82 (by decide +kernel) ?_
                    have hz_83 : (3 : Int32).toInt = 3 := by decide +kernel
                    refine dg_calli hS hA1 hA (va_runV (As := [.int 3]) (rest := []) F (c_m_refuses l g D o S 3 (by decide +kernel) I H.size) (cwV 1 hts (bw_V wB_1079 wB_1080 wB_1081 wB_297 wB_1078) rfl rfl rfl (by decide +kernel) ⟨Nat.le_of_ble_eq_true rfl, Nat.le_of_ble_eq_true rfl⟩) (dg_preV sM_0 rfl K ST hP hS hA1 hA) rfl rfl hl.1 rfl (lv_room (Nat.le_of_ble_eq_true rfl)) dX12_send_83 ⟨Nat.le_of_ble_eq_true rfl, Nat.le_of_ble_eq_true rfl⟩) (fun x_84 S_85 hw_85 H locs hP hS => ?_)
                    obtain ⟨I_85, m_85, w_85_0, w_85_1, -⟩ := hw_85
                    have M_85 := dg_sm.tr M_0 m_85 (dk_dq rfl) (dk_dq rfl)
                    have w_85_0 : (-1) ≤ (x_84).toInt ∧ (x_84).toInt ≤ (-1) := w_85_0
                    refine lv_if_lt (tgt := 93) hx hb dX12_send_86 (dk_dq rfl) (fun _ => ?_) (fun c => absurd (dk_ltp (k := 0) (by decide +kernel) (by omega)) c)
                    refine lv_iconst (v := 0) hx hb dX12_send_93 (by decide +kernel) ?_
                    have hz_86 : (0 : Int32).toInt = 0 := by decide +kernel
                    have hz_87 : (0 : Int32).toInt = 0 := by decide +kernel
                    have hz_88 : (0 : Int32).toInt = 0 := by decide +kernel
                    refine W.widen (k := 0) (n := 0) (Nat.le_of_ble_eq_true rfl) (Nat.le_of_ble_eq_true rfl) ?_
                    exact dg_iret hx hb hr hlocks (by decide +kernel) hP hS ⟨I_85, M_85, (by decide +kernel), (m_hid.mk (Or.inl ⟨w_85_1.1, by first | omega | decide +kernel⟩)), (ZSM.keep ZS m_85 (dk_dq rfl)), ⟨congrArg Prod.fst (Eq.symm (F_m_send_p5 (zI_eq f_x_1) (Eq.symm ex_3.symm) ex_4 w_6_2 c_8 w_16_2 c_17 w_30_3 c_31 ex_32 ex_33 (Eq.symm ex_35.symm) c_77 (Eq.symm ex_81.symm) c_82 w_85_1.1)), congrArg Prod.snd (Eq.symm (F_m_send_p5 (zI_eq f_x_1) (Eq.symm ex_3.symm) ex_4 w_6_2 c_8 w_16_2 c_17 w_30_3 c_31 ex_32 ex_33 (Eq.symm ex_35.symm) c_77 (Eq.symm ex_81.symm) c_82 w_85_1.1))⟩, trivial⟩ dX12_send_94
          · have jc_31 := dk_eqc (k := 0) (by decide +kernel) c_31
            refine lv_aload_n hx hb dX12_send_37 rfl (lv_at hl 0 rfl) ?_
            refine lv_iconst (v := 3) hx hb dX12_send_38 (by decide +kernel) ?_
            have hz_89 : (3 : Int32).toInt = 3 := by decide +kernel
            refine dg_calli hS hA1 hA (va_runV (As := [.int 3]) (rest := []) F (c_m_refuses l g D o S 3 (by decide +kernel) I H.size) (cwV 1 hts (bw_V wB_1079 wB_1080 wB_1081 wB_297 wB_1078) rfl rfl rfl (by decide +kernel) ⟨Nat.le_of_ble_eq_true rfl, Nat.le_of_ble_eq_true rfl⟩) (dg_preV sM_0 rfl K ST hP hS hA1 hA) rfl rfl hl.1 rfl (lv_room (Nat.le_of_ble_eq_true rfl)) dX12_send_39 ⟨Nat.le_of_ble_eq_true rfl, Nat.le_of_ble_eq_true rfl⟩) (fun x_90 S_91 hw_91 H locs hP hS => ?_)
            obtain ⟨I_91, m_91, w_91_0, w_91_1, -⟩ := hw_91
            have M_91 := dg_sm.tr M_0 m_91 (dk_dq rfl) (dk_dq rfl)
            have w_91_0 : (-1) ≤ (x_90).toInt ∧ (x_90).toInt ≤ (-1) := w_91_0
            refine lv_if_lt (tgt := 49) hx hb dX12_send_42 (dk_dq rfl) (fun _ => ?_) (fun c => absurd (dk_ltp (k := 0) (by decide +kernel) (by omega)) c)
            refine lv_iconst (v := 0) hx hb dX12_send_49 (by decide +kernel) ?_
            have hz_92 : (0 : Int32).toInt = 0 := by decide +kernel
            have hz_93 : (0 : Int32).toInt = 0 := by decide +kernel
            have hz_94 : (0 : Int32).toInt = 0 := by decide +kernel
            refine W.widen (k := 0) (n := 0) (Nat.le_of_ble_eq_true rfl) (Nat.le_of_ble_eq_true rfl) ?_
            exact dg_iret hx hb hr hlocks (by decide +kernel) hP hS ⟨I_91, M_91, (by decide +kernel), (m_hid.mk (Or.inl ⟨w_91_1.1, by first | omega | decide +kernel⟩)), (ZSM.keep ZS m_91 (dk_dq rfl)), ⟨congrArg Prod.fst (Eq.symm (F_m_send_p6 (zI_eq f_x_1) (Eq.symm ex_3.symm) ex_4 w_6_2 c_8 w_16_2 c_17 w_30_3 c_31 w_91_1.1)), congrArg Prod.snd (Eq.symm (F_m_send_p6 (zI_eq f_x_1) (Eq.symm ex_3.symm) ex_4 w_6_2 c_8 w_16_2 c_17 w_30_3 c_31 w_91_1.1))⟩, trivial⟩ dX12_send_50
noncomputable def F_m_mostBy_J3 (x_373 : Int32) (x_404 : Int32) (S_408 : dg_S) : (Int32 × Int32 × dg_S) ⊕ (dg_S × Int32) := let x_410 : Int32 := x_373 + 1; (Sum.inl (x_410, x_404, S_408))
noncomputable def F_m_mostBy_J4 (x_373 : Int32) (x_434 : Int32) (S_424 : dg_S) : (Int32 × Int32 × dg_S) ⊕ (dg_S × Int32) := (F_m_mostBy_J3 x_373 x_434 S_424)
noncomputable def F_m_mostBy_B2 (o : Nat) (a1 : Int32) (a2 : Int32) (a3 : Int32) : (Int32 × Int32 × dg_S) → (Int32 × Int32 × dg_S) ⊕ (dg_S × Int32) := fun w9 => match w9 with | (x_373, x_374, S_375) => (if (20 : Int32) < x_373 then (Sum.inr ((S_375, x_374))) else let x_379 : Int32 := F_m_has2 o S_375 a1 x_373; (if x_379 = (0 : Int32) then (F_m_mostBy_J3 x_373 x_374 S_375) else let x_413 : Int32 := (31 : Int32) * x_373; let x_414 : Int32 := x_413 + a2; let x_415 : Int32 := (64 : Int32) * x_414; let x_416 : Int32 := x_415 + a3; let x_418 : Int32 := S_375.2.1 48 (x_416 : Int32).toNatClampNeg; let x_419 : Int32 := x_418 + (1 : Int32); let x_421 : Int32 := S_375.2.1 49 (x_419 : Int32).toNatClampNeg; let x_422 : Int32 := x_421 + (1 : Int32); let S_424 : dg_S := dg_uf S_375 49 (upd (S_375.2.1 49) (x_419 : Int32).toNatClampNeg x_422); (if x_422 ≤ x_374 then (F_m_mostBy_J4 x_373 x_374 S_424) else (F_m_mostBy_J4 x_373 x_422 S_424))))
noncomputable def F_m_mostBy_J1 (o : Nat) (a1 : Int32) (a2 : Int32) (a3 : Int32) (S : dg_S) (S_222 : dg_S) : dg_S × Int32 := (lp (F_m_mostBy_B2 o a1 a2 a3) (S, (0 : Int32)) ((22 - ((0 : Int32)).toInt).toNat + 1) ((0 : Int32), (0 : Int32), S_222))
noncomputable def F_m_mostBy_B5 (o : Nat) (a1 : Int32) (a2 : Int32) (a3 : Int32) (S : dg_S) : (Int32 × dg_S) → (Int32 × dg_S) ⊕ (dg_S × Int32) := fun w9 => match w9 with | (x_484, S_485) => (if (10 : Int32) < x_484 then (Sum.inr ((F_m_mostBy_J1 o a1 a2 a3 S S_485))) else let S_490 : dg_S := dg_uf S_485 49 (upd (S_485.2.1 49) (x_484 : Int32).toNatClampNeg (0 : Int32)); let x_492 : Int32 := x_484 + 1; (Sum.inl (x_492, S_490)))
noncomputable def F_m_mostBy (o : Nat) (S : dg_S) (a1 : Int32) (a2 : Int32) (a3 : Int32) : dg_S × Int32 := (lp (F_m_mostBy_B5 o a1 a2 a3 S) (S, (0 : Int32)) ((12 - ((0 : Int32)).toInt).toNat + 1) ((0 : Int32), S))
theorem F_m_mostBy_p0 {o : Nat} {a1 : Int32} {a2 : Int32} {a3 : Int32} {x_373 : Int32} {x_374 : Int32} {S_375 : dg_S} (h0 : (20 : Int32) < x_373) : (F_m_mostBy_B2 o a1 a2 a3) (x_373, x_374, S_375) = Sum.inr ((S_375, x_374)) := (Eq.trans (if_pos h0) rfl)
theorem F_m_mostBy_p1 {x_373 : Int32} {x_404 : Int32} {S_408 : dg_S} {x_410 : Int32} (h0 : x_410 = x_373 + 1) : F_m_mostBy_J3 x_373 x_404 S_408 = Sum.inl (x_410, x_404, S_408) := by
  replace h0 := Eq.symm h0
  subst h0
  exact rfl
theorem F_m_mostBy_p2 {x_373 : Int32} {x_434 : Int32} {S_424 : dg_S}  : F_m_mostBy_J4 x_373 x_434 S_424 = F_m_mostBy_J3 x_373 x_434 S_424 := rfl
theorem F_m_mostBy_p3 {o : Nat} {a1 : Int32} {a2 : Int32} {a3 : Int32} {x_373 : Int32} {x_374 : Int32} {S_375 : dg_S} {S_424 : dg_S} {x_379 : Int32} {x_413 : Int32} {x_414 : Int32} {x_415 : Int32} {x_416 : Int32} {x_418 : Int32} {x_419 : Int32} {x_421 : Int32} {x_422 : Int32} (h0 : ¬ ((20 : Int32) < x_373)) (h1 : x_379 = F_m_has2 o S_375 a1 x_373) (h2 : ¬ (x_379 = (0 : Int32))) (h3 : x_413 = (31 : Int32) * x_373) (h4 : x_414 = x_413 + a2) (h5 : x_415 = (64 : Int32) * x_414) (h6 : x_416 = x_415 + a3) (h7 : x_418 = S_375.2.1 48 (x_416 : Int32).toNatClampNeg) (h8 : x_419 = x_418 + (1 : Int32)) (h9 : x_421 = S_375.2.1 49 (x_419 : Int32).toNatClampNeg) (h10 : x_422 = x_421 + (1 : Int32)) (h11 : S_424 = dg_uf S_375 49 (upd (S_375.2.1 49) (x_419 : Int32).toNatClampNeg x_422)) (h12 : x_422 ≤ x_374) : (F_m_mostBy_B2 o a1 a2 a3) (x_373, x_374, S_375) = F_m_mostBy_J4 x_373 x_374 S_424 := by
  replace h1 := Eq.symm h1
  subst h1
  replace h3 := Eq.symm h3
  subst h3
  replace h4 := Eq.symm h4
  subst h4
  replace h5 := Eq.symm h5
  subst h5
  replace h6 := Eq.symm h6
  subst h6
  replace h7 := Eq.symm h7
  subst h7
  replace h8 := Eq.symm h8
  subst h8
  replace h9 := Eq.symm h9
  subst h9
  replace h10 := Eq.symm h10
  subst h10
  replace h11 := Eq.symm h11
  subst h11
  exact (Eq.trans (if_neg h0) (Eq.trans (if_neg h2) (Eq.trans (if_pos h12) rfl)))
theorem F_m_mostBy_p4 {o : Nat} {a1 : Int32} {a2 : Int32} {a3 : Int32} {x_373 : Int32} {x_374 : Int32} {S_375 : dg_S} {x_422 : Int32} {S_424 : dg_S} {x_379 : Int32} {x_413 : Int32} {x_414 : Int32} {x_415 : Int32} {x_416 : Int32} {x_418 : Int32} {x_419 : Int32} {x_421 : Int32} (h0 : ¬ ((20 : Int32) < x_373)) (h1 : x_379 = F_m_has2 o S_375 a1 x_373) (h2 : ¬ (x_379 = (0 : Int32))) (h3 : x_413 = (31 : Int32) * x_373) (h4 : x_414 = x_413 + a2) (h5 : x_415 = (64 : Int32) * x_414) (h6 : x_416 = x_415 + a3) (h7 : x_418 = S_375.2.1 48 (x_416 : Int32).toNatClampNeg) (h8 : x_419 = x_418 + (1 : Int32)) (h9 : x_421 = S_375.2.1 49 (x_419 : Int32).toNatClampNeg) (h10 : x_422 = x_421 + (1 : Int32)) (h11 : S_424 = dg_uf S_375 49 (upd (S_375.2.1 49) (x_419 : Int32).toNatClampNeg x_422)) (h12 : ¬ (x_422 ≤ x_374)) : (F_m_mostBy_B2 o a1 a2 a3) (x_373, x_374, S_375) = F_m_mostBy_J4 x_373 x_422 S_424 := by
  replace h1 := Eq.symm h1
  subst h1
  replace h3 := Eq.symm h3
  subst h3
  replace h4 := Eq.symm h4
  subst h4
  replace h5 := Eq.symm h5
  subst h5
  replace h6 := Eq.symm h6
  subst h6
  replace h7 := Eq.symm h7
  subst h7
  replace h8 := Eq.symm h8
  subst h8
  replace h9 := Eq.symm h9
  subst h9
  replace h10 := Eq.symm h10
  subst h10
  replace h11 := Eq.symm h11
  subst h11
  exact (Eq.trans (if_neg h0) (Eq.trans (if_neg h2) (Eq.trans (if_neg h12) rfl)))
theorem F_m_mostBy_p5 {o : Nat} {a1 : Int32} {a2 : Int32} {a3 : Int32} {x_373 : Int32} {x_374 : Int32} {S_375 : dg_S} {x_379 : Int32} (h0 : ¬ ((20 : Int32) < x_373)) (h1 : x_379 = F_m_has2 o S_375 a1 x_373) (h2 : x_379 = (0 : Int32)) : (F_m_mostBy_B2 o a1 a2 a3) (x_373, x_374, S_375) = F_m_mostBy_J3 x_373 x_374 S_375 := by
  replace h1 := Eq.symm h1
  subst h1
  exact (Eq.trans (if_neg h0) (Eq.trans (if_pos h2) rfl))
theorem F_m_mostBy_p6 {o : Nat} {a1 : Int32} {a2 : Int32} {a3 : Int32} {S : dg_S} {S_222 : dg_S}  : F_m_mostBy_J1 o a1 a2 a3 S S_222 = lp (F_m_mostBy_B2 o a1 a2 a3) (S, (0 : Int32)) ((22 - ((0 : Int32)).toInt).toNat + 1) ((0 : Int32), (0 : Int32), S_222) := rfl
theorem F_m_mostBy_p7 {o : Nat} {a1 : Int32} {a2 : Int32} {a3 : Int32} {S : dg_S} {x_484 : Int32} {S_485 : dg_S} (h0 : (10 : Int32) < x_484) : (F_m_mostBy_B5 o a1 a2 a3 S) (x_484, S_485) = Sum.inr (F_m_mostBy_J1 o a1 a2 a3 S S_485) := (Eq.trans (if_pos h0) rfl)
theorem F_m_mostBy_p8 {o : Nat} {a1 : Int32} {a2 : Int32} {a3 : Int32} {S : dg_S} {x_484 : Int32} {S_485 : dg_S} {x_492 : Int32} {S_490 : dg_S} (h0 : ¬ ((10 : Int32) < x_484)) (h1 : S_490 = dg_uf S_485 49 (upd (S_485.2.1 49) (x_484 : Int32).toNatClampNeg (0 : Int32))) (h2 : x_492 = x_484 + 1) : (F_m_mostBy_B5 o a1 a2 a3 S) (x_484, S_485) = Sum.inl (x_492, S_490) := by
  replace h1 := Eq.symm h1
  subst h1
  replace h2 := Eq.symm h2
  subst h2
  exact (Eq.trans (if_neg h0) rfl)
theorem F_m_mostBy_p9 {o : Nat} {S : dg_S} {a1 : Int32} {a2 : Int32} {a3 : Int32}  : F_m_mostBy o S a1 a2 a3 = lp (F_m_mostBy_B5 o a1 a2 a3 S) (S, (0 : Int32)) ((12 - ((0 : Int32)).toInt).toNat + 1) ((0 : Int32), S) := rfl
set_option maxHeartbeats 8000000 in
set_option maxRecDepth 100000 in
theorem c_m_mostBy (l : Launch) (g : Nat → ClassId) (D : va_G) (o : Nat) (S : dg_S) (a1 : Int32) (a2 : Int32) (b_a2 : 0 ≤ (a2).toInt ∧ (a2).toInt ≤ 30) (a3 : Int32) (b_a3 : 0 ≤ (a3).toInt ∧ (a3).toInt ≤ 63) (I : CM o S) (sz : Nat) : Met l yX12_mostBy (bw yX12_mostBy cX12_mostBy 7 (some .int)) ({ frames := 2, cells := 0, slots := 0, locals := 53 } : Room) (dk_Pc g D (dg_w g shM o rfM S) sz [.ref (o + 0), .int a1, .int a2, .int a3]) (va_Qi (fun (r : Int32) S' => CM o S' ∧ dg_sm shM [] [49] S S' ∧ (0 ≤ (r).toInt ∧ (r).toInt ≤ 2147483647) ∧ (S' = (F_m_mostBy o S a1 a2 a3).1 ∧ r = (F_m_mostBy o S a1 a2 a3).2) ∧ True) (dg_B g D shM o rfM) (dg_A o shM.length sz)) 0 0 (dg_A o shM.length sz) := by
  refine dg_met (cc := cX12_mostBy) (maxL := 7) (ret := (some .int)) (dk_dq rfl) rfl (Nat.le_of_ble_eq_true rfl) ?_
  intro p e s m args below meth c A hAe harg hx hb hr hml hts hown hlocks hin hP K hS hA1 hA ST hsz ls hl
  rw [← hAe]
  have F : CallFix p m c cX12_mostBy 7 s args (bw yX12_mostBy cX12_mostBy 7 (some .int)) RX12 := ⟨hx, hb, hml, hown, hts⟩
  have hl : lv_has ls 7 [(0, .ref (o + 0)), (1, .int a1), (2, .int a2), (3, .int a3)] := hl
  have M_0 : dg_sm shM [] [49] S S := dg_sm.rf
  refine lv_iconst (v := 0) hx hb dX12_mostBy_0 (by decide +kernel) ?_
  refine lv_istore (lv' := [(4, .int 0), (0, .ref (o + 0)), (1, .int a1), (2, .int a2), (3, .int a3)]) hx hb dX12_mostBy_1 hl (dk_dq rfl) rfl (fun ls hl => ?_)
  have J_223 : ∀ (x_38 : Int32), (11 ≤ (x_38).toInt ∧ (x_38).toInt ≤ 2147483647) → ∀ S_222 : dg_S, CM o S_222 → dg_sm shM [] [49] S S_222 → (F_m_mostBy o S a1 a2 a3 = F_m_mostBy_J1 o a1 a2 a3 S S_222) → ∀ (H : Heap) (locs : List Loc), va_P D vwCl (dg_w g shM o rfM S_222) H → va_S A s.heap H locs → ∀ ls : Array Slot, lv_has ls 7 [(4, .int x_38), (0, .ref (o + 0)), (1, .int a1), (2, .int a2), (3, .int a3)] → W p l e ({ frames := 2, cells := 0, slots := 0, locals := 53 } : Room) s m args below meth c H locs 0 0 (MQ below (va_Qi (fun (r : Int32) S' => CM o S' ∧ dg_sm shM [] [49] S S' ∧ (0 ≤ (r).toInt ∧ (r).toInt ≤ 2147483647) ∧ (S' = (F_m_mostBy o S a1 a2 a3).1 ∧ r = (F_m_mostBy o S a1 a2 a3).2) ∧ True) (dg_B g D shM o rfM) A) args s 0 0 A) (F0 m 24 ls []) := by
    as_aux_lemma =>
      intro x_38 b_x_38 S_222 I_222 M_222 hF_1 H locs hP hS ls hl
      refine lv_iconst (v := 0) hx hb dX12_mostBy_24 (by decide +kernel) ?_
      refine lv_istore (lv' := [(4, .int 0), (0, .ref (o + 0)), (1, .int a1), (2, .int a2), (3, .int a3)]) hx hb dX12_mostBy_25 hl (dk_dq rfl) rfl (fun ls hl => ?_)
      refine lv_iconst (v := 0) hx hb dX12_mostBy_27 (by decide +kernel) ?_
      refine lv_istore (lv' := [(5, .int 0), (4, .int 0), (0, .ref (o + 0)), (1, .int a1), (2, .int a2), (3, .int a3)]) hx hb dX12_mostBy_28 hl (dk_dq rfl) rfl (fun ls hl => ?_)
      have L_376 : ∀ (n : Nat) (x_373 : Int32) (x_374 : Int32), (0 ≤ (x_373).toInt ∧ (x_373).toInt ≤ 21) → (0 ≤ (x_374).toInt ∧ (x_374).toInt ≤ 2147483647) → ((22 - (x_373).toInt).toNat < n) → ∀ S_375 : dg_S, CM o S_375 → dg_sm shM [] [49] S S_375 → (F_m_mostBy o S a1 a2 a3 = lp (F_m_mostBy_B2 o a1 a2 a3) (S, (0 : Int32)) n (x_373, x_374, S_375)) → ∀ (H : Heap) (locs : List Loc), va_P D vwCl (dg_w g shM o rfM S_375) H → va_S A s.heap H locs → ∀ ls : Array Slot, lv_has ls 7 [(5, .int x_373), (4, .int x_374), (0, .ref (o + 0)), (1, .int a1), (2, .int a2), (3, .int a3)] → W p l e ({ frames := 2, cells := 0, slots := 0, locals := 53 } : Room) s m args below meth c H locs 0 0 (MQ below (va_Qi (fun (r : Int32) S' => CM o S' ∧ dg_sm shM [] [49] S S' ∧ (0 ≤ (r).toInt ∧ (r).toInt ≤ 2147483647) ∧ (S' = (F_m_mostBy o S a1 a2 a3).1 ∧ r = (F_m_mostBy o S a1 a2 a3).2) ∧ True) (dg_B g D shM o rfM) A) args s 0 0 A) (F0 m 30 ls []) := by
        as_aux_lemma =>
          intro n
          induction n with
          | zero =>
            intro x_373 x_374 b_x_373 b_x_374 hmu S_375 I_375 M_375 hF_2 H locs hP hS ls hl
            omega
          | succ n ih =>
            as_aux_lemma =>
              intro x_373 x_374 b_x_373 b_x_374 hmu S_375 I_375 M_375 hF_2 H locs hP hS ls hl
              refine lv_iload hx hb dX12_mostBy_30 (lv_at hl 0 rfl) ?_
              refine lv_bipush (v := 20) hx hb dX12_mostBy_32 (by decide +kernel) ?_
              refine lv_icmp_gt (tgt := 113) hx hb dX12_mostBy_34 (dk_dq rfl) (fun c_377 => ?_) (fun c_377 => ?_)
              · have jc_377 := dk_gtc (k := 20) (by decide +kernel) c_377
                refine lv_iload hx hb dX12_mostBy_113 (lv_at hl 1 rfl) ?_
                have hf_377 := dk_full x_374
                refine W.widen (k := 0) (n := 0) (Nat.le_of_ble_eq_true rfl) (Nat.le_of_ble_eq_true rfl) ?_
                exact dg_iret hx hb hr hlocks rfl hP hS ⟨I_375, M_375, (by omega), ⟨congrArg Prod.fst (Eq.symm (lp_r hF_2 (F_m_mostBy_p0 c_377))), congrArg Prod.snd (Eq.symm (lp_r hF_2 (F_m_mostBy_p0 c_377)))⟩, trivial⟩ dX12_mostBy_115
              · as_aux_lemma =>
                  have jc_377 := dk_ngtc (k := 20) (by decide +kernel) c_377
                  refine lv_iload_n hx hb dX12_mostBy_37 rfl (lv_at hl 3 rfl) ?_
                  refine lv_iload hx hb dX12_mostBy_38 (lv_at hl 0 rfl) ?_
                  refine dg_calli hS hA1 hA (va_runS (As := [.int a1, .int x_373]) (rest := []) F (c_m_has2 l g D o S_375 a1 x_373 I_375 H.size) (va_cwS 2 hts (bw_S wB_1165 wB_1166 wB_297 wB_1164) rfl rfl rfl (by decide +kernel) ⟨Nat.le_of_ble_eq_true rfl, Nat.le_of_ble_eq_true rfl⟩) (dg_preS K ST hP hS hA1 hA) rfl rfl hl.1 rfl (lv_room (Nat.le_of_ble_eq_true rfl)) dX12_mostBy_40 ⟨Nat.le_of_ble_eq_true rfl, Nat.le_of_ble_eq_true rfl⟩) (fun x_379 S_380 hw_380 H locs hP hS => ?_)
                  rw [hw_380.1] at hP
                  obtain ⟨hq_380, w_380_0, w_380_1, -⟩ := hw_380
                  have w_380_0 : 0 ≤ (x_379).toInt ∧ (x_379).toInt ≤ 1 := w_380_0
                  have J_409 : ∀ (x_404 : Int32), (0 ≤ (x_404).toInt ∧ (x_404).toInt ≤ 2147483647) → ∀ S_408 : dg_S, CM o S_408 → dg_sm shM [] [49] S S_408 → ((F_m_mostBy_B2 o a1 a2 a3) (x_373, x_374, S_375) = F_m_mostBy_J3 x_373 x_404 S_408) → ∀ (H : Heap) (locs : List Loc), va_P D vwCl (dg_w g shM o rfM S_408) H → va_S A s.heap H locs → ∀ ls : Array Slot, lv_has ls 7 [(4, .int x_404), (5, .int x_373), (0, .ref (o + 0)), (1, .int a1), (2, .int a2), (3, .int a3)] → W p l e ({ frames := 2, cells := 0, slots := 0, locals := 53 } : Room) s m args below meth c H locs 0 0 (MQ below (va_Qi (fun (r : Int32) S' => CM o S' ∧ dg_sm shM [] [49] S S' ∧ (0 ≤ (r).toInt ∧ (r).toInt ≤ 2147483647) ∧ (S' = (F_m_mostBy o S a1 a2 a3).1 ∧ r = (F_m_mostBy o S a1 a2 a3).2) ∧ True) (dg_B g D shM o rfM) A) args s 0 0 A) (F0 m 107 ls []) := by
                    intro x_404 b_x_404 S_408 I_408 M_408 hF_3 H locs hP hS ls hl
                    obtain ⟨x_410, ex_410⟩ : ∃ z, z = x_373 + 1 := ⟨_, rfl⟩
                    have jx_410 : (x_410).toInt = (x_373).toInt + 1 := by rw [ex_410]; exact dk_addT2 rfl (by decide +kernel) (by omega)
                    refine lv_iinc (v := x_410) (lv' := [(5, .int x_410), (4, .int x_404), (0, .ref (o + 0)), (1, .int a1), (2, .int a2), (3, .int a3)]) hx hb dX12_mostBy_107 hl (k := 1) rfl (by rw [ex_410]; rfl) (dk_dq rfl) rfl (fun ls hl => ?_)
                    refine lv_goto (tgt := 30) hx hb dX12_mostBy_110 (dk_dq rfl) ?_
                    have hf_410 := dk_full x_404
                    exact ih x_410 x_404 (by omega) (by omega) (by first | exact mu_lt hmu (by omega) (by omega) | omega) S_408 I_408 M_408  (lp_l hF_2 (Eq.trans hF_3 (F_m_mostBy_p1 ex_410))) _ _ hP hS _ (lv_sub hl [0, 1, 2, 3, 4, 5] rfl)
                  refine lv_if_ne (tgt := 49) hx hb dX12_mostBy_43 (dk_dq rfl) (fun c_412 => ?_) (fun c_412 => ?_)
                  · as_aux_lemma =>
                      have jc_412 := dk_neqc (k := 0) (by decide +kernel) c_412
                      refine lv_aload_n hx hb dX12_mostBy_49 rfl (lv_at hl 2 rfl) ?_
                      refine dg_get (C := RX12) (T := TX12) (N := 77) hx hb hts (fun w h => bw_mem (wU_X12 w h)) hown K hP sM_0 rfl 73 (dk_dq rfl) (hts _ (bw_mem wB_1262)) (fun _ h9 => h9) (v := .ref (o + 48)) (show S_375.1 0 73 = .ref (o + 48) from dg_I.rel (d := 48) I_375 sM_0 (by decide +kernel)) dX12_mostBy_50 ?_
                      refine lv_bipush (v := 64) hx hb dX12_mostBy_53 (by decide +kernel) ?_
                      refine lv_bipush (v := 31) hx hb dX12_mostBy_55 (by decide +kernel) ?_
                      refine lv_iload hx hb dX12_mostBy_57 (lv_at hl 0 rfl) ?_
                      refine lv_imul hx hb dX12_mostBy_59 ?_
                      refine lv_topi (fun x_413 ex_413 => ?_)
                      have jx_413 : (x_413).toInt = 31 * (x_373).toInt := by rw [ex_413]; exact dk_mulT2 (by decide +kernel) rfl (by omega)
                      refine lv_iload_n hx hb dX12_mostBy_60 rfl (lv_at hl 4 rfl) ?_
                      refine lv_iadd hx hb dX12_mostBy_61 ?_
                      refine lv_topi (fun x_414 ex_414 => ?_)
                      have jx_414 : (x_414).toInt = (x_413).toInt + (a2).toInt := by rw [ex_414]; exact dk_addT2 rfl rfl (by omega)
                      refine lv_imul hx hb dX12_mostBy_62 ?_
                      refine lv_topi (fun x_415 ex_415 => ?_)
                      have jx_415 : (x_415).toInt = 64 * (x_414).toInt := by rw [ex_415]; exact dk_mulT2 (by decide +kernel) rfl (by omega)
                      refine lv_iload_n hx hb dX12_mostBy_63 rfl (lv_at hl 5 rfl) ?_
                      refine lv_iadd hx hb dX12_mostBy_64 ?_
                      refine lv_topi (fun x_416 ex_416 => ?_)
                      have jx_416 : (x_416).toInt = (x_415).toInt + (a3).toInt := by rw [ex_416]; exact dk_addT2 rfl rfl (by omega)
                      have hin_417 : vp_in x_416 41664 := (dk_inv2 (by omega))
                      refine dg_iald hx hb K hP sM_48 hin_417 dX12_mostBy_65 (fun x_418 ex_418 => ?_)
                      have b_x_418 := dk_all_at (dg_I.row (lo := (-1)) (hi := 9) I_375 sM_48 (by decide +kernel)) hin_417 ex_418
                      refine lv_iconst (v := 1) hx hb dX12_mostBy_66 (by decide +kernel) ?_
                      refine lv_iadd hx hb dX12_mostBy_67 ?_
                      refine lv_topi (fun x_419 ex_419 => ?_)
                      have jx_419 : (x_419).toInt = (x_418).toInt + 1 := by rw [ex_419]; exact dk_addT2 rfl (by decide +kernel) (by omega)
                      refine lv_istore (lv' := [(6, .int x_419), (5, .int x_373), (4, .int x_374), (0, .ref (o + 0)), (1, .int a1), (2, .int a2), (3, .int a3)]) hx hb dX12_mostBy_68 hl (dk_dq rfl) rfl (fun ls hl => ?_)
                      refine lv_aload_n hx hb dX12_mostBy_70 rfl (lv_at hl 3 rfl) ?_
                      refine dg_get (C := RX12) (T := TX12) (N := 77) hx hb hts (fun w h => bw_mem (wU_X12 w h)) hown K hP sM_0 rfl 74 (dk_dq rfl) (hts _ (bw_mem wB_1261)) (fun _ h9 => h9) (v := .ref (o + 49)) (show S_375.1 0 74 = .ref (o + 49) from dg_I.rel (d := 49) I_375 sM_0 (by decide +kernel)) dX12_mostBy_71 ?_
                      refine lv_iload hx hb dX12_mostBy_74 (lv_at hl 0 rfl) ?_
                      refine lv_dup2_11 hx hb dX12_mostBy_76 rfl rfl ?_
                      have hin_420 : vp_in x_419 11 := (dk_inv2 (by omega))
                      refine dg_iald hx hb K hP sM_49 hin_420 dX12_mostBy_77 (fun x_421 ex_421 => ?_)
                      refine lv_iconst (v := 1) hx hb dX12_mostBy_78 (by decide +kernel) ?_
                      refine lv_iadd hx hb dX12_mostBy_79 ?_
                      refine lv_topi (fun x_422 ex_422 => ?_)
                      have hin_423 : vp_in x_419 11 := (dk_inv2 (by omega))
                      refine dg_iast hx hb K hP hS hA1 sM_49 hin_423 dX12_mostBy_80 (fun S_424 e_424 H locs hP hS => ?_)
                      have I_424 := dg_I.uf0 I_375 e_424 sM_49 (by decide +kernel)
                      have M_424 := dg_sm.uf M_375 e_424 sM_49 (dk_dq rfl)
                      as_aux_lemma =>
                        refine lv_aload_n hx hb dX12_mostBy_81 rfl (lv_at hl 3 rfl) ?_
                        refine dg_get (C := RX12) (T := TX12) (N := 77) hx hb hts (fun w h => bw_mem (wU_X12 w h)) hown K hP sM_0 rfl 74 (dk_dq rfl) (hts _ (bw_mem wB_1261)) (fun _ h9 => h9) (v := .ref (o + 49)) (show S_424.1 0 74 = .ref (o + 49) from dg_I.rel (d := 49) I_424 sM_0 (by decide +kernel)) dX12_mostBy_82 ?_
                        refine lv_iload hx hb dX12_mostBy_85 (lv_at hl 0 rfl) ?_
                        have hin_425 : vp_in x_419 11 := (dk_inv2 (by omega))
                        refine dg_iald hx hb K hP sM_49 hin_425 dX12_mostBy_87 (fun y_426 ey_426 => ?_)
                        obtain rfl : x_422 = y_426 := (ey_426.trans ((congrFun (dg_uf_at e_424) _).trans (dg_upd_at rfl))).symm
                        refine lv_iload hx hb dX12_mostBy_88 (lv_at hl 2 rfl) ?_
                        have J_436 : ∀ (x_434 : Int32), (0 ≤ (x_434).toInt ∧ (x_434).toInt ≤ 2147483647) → ((F_m_mostBy_B2 o a1 a2 a3) (x_373, x_374, S_375) = F_m_mostBy_J4 x_373 x_434 S_424) → ∀ (H : Heap) (locs : List Loc), va_P D vwCl (dg_w g shM o rfM S_424) H → va_S A s.heap H locs → ∀ ls : Array Slot, lv_has ls 7 [(6, .int x_419), (5, .int x_373), (4, .int x_374), (0, .ref (o + 0)), (1, .int a1), (2, .int a2), (3, .int a3)] → W p l e ({ frames := 2, cells := 0, slots := 0, locals := 53 } : Room) s m args below meth c H locs 0 0 (MQ below (va_Qi (fun (r : Int32) S' => CM o S' ∧ dg_sm shM [] [49] S S' ∧ (0 ≤ (r).toInt ∧ (r).toInt ≤ 2147483647) ∧ (S' = (F_m_mostBy o S a1 a2 a3).1 ∧ r = (F_m_mostBy o S a1 a2 a3).2) ∧ True) (dg_B g D shM o rfM) A) args s 0 0 A) (F0 m 105 ls [.int x_434]) := by
                          intro x_434 b_x_434 hF_4 H locs hP hS ls hl
                          refine lv_istore (lv' := [(4, .int x_434), (6, .int x_419), (5, .int x_373), (0, .ref (o + 0)), (1, .int a1), (2, .int a2), (3, .int a3)]) hx hb dX12_mostBy_105 hl (dk_dq rfl) rfl (fun ls hl => ?_)
                          have hf_436 := dk_full x_434
                          exact J_409 x_434 (by omega) S_424 I_424 M_424  (Eq.trans hF_4 (F_m_mostBy_p2)) _ _ hP hS _ (lv_sub hl [0, 2, 3, 4, 5, 6] rfl)
                        refine lv_icmp_le (tgt := 103) hx hb dX12_mostBy_90 (dk_dq rfl) (fun c_438 => ?_) (fun c_438 => ?_)
                        · have hf_438 := dk_full x_422
                          have hf_439 := dk_full x_374
                          have jc_438 := dk_lec (k := (x_374).toInt) rfl c_438
                          refine lv_iload hx hb dX12_mostBy_103 (lv_at hl 2 rfl) ?_
                          have hf_440 := dk_full x_374
                          exact J_436 x_374 (by omega) (F_m_mostBy_p3 c_377 w_380_1 c_412 ex_413 ex_414 ex_415 ex_416 (Eq.symm ex_418.symm) ex_419 (Eq.symm ex_421.symm) ex_422 e_424 c_438) _ _ hP hS _ (lv_sub hl [0, 1, 2, 3, 4, 5, 6] rfl)
                        · have hf_441 := dk_full x_422
                          have hf_442 := dk_full x_374
                          have jc_438 := dk_nlec (k := (x_374).toInt) rfl c_438
                          refine lv_aload_n hx hb dX12_mostBy_93 rfl (lv_at hl 3 rfl) ?_
                          refine dg_get (C := RX12) (T := TX12) (N := 77) hx hb hts (fun w h => bw_mem (wU_X12 w h)) hown K hP sM_0 rfl 74 (dk_dq rfl) (hts _ (bw_mem wB_1261)) (fun _ h9 => h9) (v := .ref (o + 49)) (show S_424.1 0 74 = .ref (o + 49) from dg_I.rel (d := 49) I_424 sM_0 (by decide +kernel)) dX12_mostBy_94 ?_
                          refine lv_iload hx hb dX12_mostBy_97 (lv_at hl 0 rfl) ?_
                          have hin_444 : vp_in x_419 11 := (dk_inv2 (by omega))
                          refine dg_iald hx hb K hP sM_49 hin_444 dX12_mostBy_99 (fun y_445 ey_445 => ?_)
                          obtain rfl : x_422 = y_445 := (ey_445.trans ((congrFun (dg_uf_at e_424) _).trans (dg_upd_at rfl))).symm
                          refine lv_goto (tgt := 105) hx hb dX12_mostBy_100 (dk_dq rfl) ?_
                          have hf_445 := dk_full x_422
                          exact J_436 x_422 (by omega) (F_m_mostBy_p4 c_377 w_380_1 c_412 ex_413 ex_414 ex_415 ex_416 (Eq.symm ex_418.symm) ex_419 (Eq.symm ex_421.symm) ex_422 e_424 c_438) _ _ hP hS _ (lv_sub hl [0, 1, 2, 3, 4, 5, 6] rfl)
                  · have jc_412 := dk_eqc (k := 0) (by decide +kernel) c_412
                    refine lv_goto (tgt := 107) hx hb dX12_mostBy_46 (dk_dq rfl) ?_
                    have hf_446 := dk_full x_374
                    exact J_409 x_374 (by omega) S_375 I_375 M_375  (F_m_mostBy_p5 c_377 w_380_1 c_412) _ _ hP hS _ (lv_sub hl [1, 0, 2, 3, 4, 5] rfl)
      have hz_448 : (0 : Int32).toInt = 0 := by decide +kernel
      have hz_449 : (0 : Int32).toInt = 0 := by decide +kernel
      have hz_450 : (0 : Int32).toInt = 0 := by decide +kernel
      have hz_451 : (0 : Int32).toInt = 0 := by decide +kernel
      exact L_376 ((22 - ((0 : Int32)).toInt).toNat + 1) 0 0 (by decide +kernel) (by decide +kernel) (by first | exact mu_lt hmu (by omega) (by omega) | omega) S_222 I_222 M_222  (Eq.trans hF_1 (F_m_mostBy_p6)) _ _ hP hS _ (lv_sub hl [0, 1, 2, 3, 4, 5] rfl)
  have L_486 : ∀ (n : Nat) (x_484 : Int32), (0 ≤ (x_484).toInt ∧ (x_484).toInt ≤ 11) → ((12 - (x_484).toInt).toNat < n) → ∀ S_485 : dg_S, CM o S_485 → dg_sm shM [] [49] S S_485 → (F_m_mostBy o S a1 a2 a3 = lp (F_m_mostBy_B5 o a1 a2 a3 S) (S, (0 : Int32)) n (x_484, S_485)) → ∀ (H : Heap) (locs : List Loc), va_P D vwCl (dg_w g shM o rfM S_485) H → va_S A s.heap H locs → ∀ ls : Array Slot, lv_has ls 7 [(4, .int x_484), (0, .ref (o + 0)), (1, .int a1), (2, .int a2), (3, .int a3)] → W p l e ({ frames := 2, cells := 0, slots := 0, locals := 53 } : Room) s m args below meth c H locs 0 0 (MQ below (va_Qi (fun (r : Int32) S' => CM o S' ∧ dg_sm shM [] [49] S S' ∧ (0 ≤ (r).toInt ∧ (r).toInt ≤ 2147483647) ∧ (S' = (F_m_mostBy o S a1 a2 a3).1 ∧ r = (F_m_mostBy o S a1 a2 a3).2) ∧ True) (dg_B g D shM o rfM) A) args s 0 0 A) (F0 m 3 ls []) := by
    as_aux_lemma =>
      intro n
      induction n with
      | zero =>
        intro x_484 b_x_484 hmu S_485 I_485 M_485 hF_5 H locs hP hS ls hl
        omega
      | succ n ih =>
        as_aux_lemma =>
          intro x_484 b_x_484 hmu S_485 I_485 M_485 hF_5 H locs hP hS ls hl
          refine lv_iload hx hb dX12_mostBy_3 (lv_at hl 0 rfl) ?_
          refine lv_bipush (v := 10) hx hb dX12_mostBy_5 (by decide +kernel) ?_
          refine lv_icmp_gt (tgt := 24) hx hb dX12_mostBy_7 (dk_dq rfl) (fun c_487 => ?_) (fun c_487 => ?_)
          · have jc_487 := dk_gtc (k := 10) (by decide +kernel) c_487
            have hf_487 := dk_full x_484
            exact J_223 x_484 (by omega) S_485 I_485 M_485  (lp_r hF_5 (F_m_mostBy_p7 c_487)) _ _ hP hS _ (lv_sub hl [0, 1, 2, 3, 4] rfl)
          · have jc_487 := dk_ngtc (k := 10) (by decide +kernel) c_487
            refine lv_aload_n hx hb dX12_mostBy_10 rfl (lv_at hl 1 rfl) ?_
            refine dg_get (C := RX12) (T := TX12) (N := 77) hx hb hts (fun w h => bw_mem (wU_X12 w h)) hown K hP sM_0 rfl 74 (dk_dq rfl) (hts _ (bw_mem wB_1261)) (fun _ h9 => h9) (v := .ref (o + 49)) (show S_485.1 0 74 = .ref (o + 49) from dg_I.rel (d := 49) I_485 sM_0 (by decide +kernel)) dX12_mostBy_11 ?_
            refine lv_iload hx hb dX12_mostBy_14 (lv_at hl 0 rfl) ?_
            refine lv_iconst (v := 0) hx hb dX12_mostBy_16 (by decide +kernel) ?_
            have hin_489 : vp_in x_484 11 := (dk_inv2 (by omega))
            have hz_491 : (0 : Int32).toInt = 0 := by decide +kernel
            refine dg_iast hx hb K hP hS hA1 sM_49 hin_489 dX12_mostBy_17 (fun S_490 e_490 H locs hP hS => ?_)
            have I_490 := dg_I.uf0 I_485 e_490 sM_49 (by decide +kernel)
            have M_490 := dg_sm.uf M_485 e_490 sM_49 (dk_dq rfl)
            obtain ⟨x_492, ex_492⟩ : ∃ z, z = x_484 + 1 := ⟨_, rfl⟩
            have jx_492 : (x_492).toInt = (x_484).toInt + 1 := by rw [ex_492]; exact dk_addT2 rfl (by decide +kernel) (by omega)
            refine lv_iinc (v := x_492) (lv' := [(4, .int x_492), (0, .ref (o + 0)), (1, .int a1), (2, .int a2), (3, .int a3)]) hx hb dX12_mostBy_18 hl (k := 0) rfl (by rw [ex_492]; rfl) (dk_dq rfl) rfl (fun ls hl => ?_)
            refine lv_goto (tgt := 3) hx hb dX12_mostBy_21 (dk_dq rfl) ?_
            exact ih x_492 (by omega) (by first | exact mu_lt hmu (by omega) (by omega) | omega) S_490 I_490 M_490  (lp_l hF_5 (F_m_mostBy_p8 c_487 e_490 ex_492)) _ _ hP hS _ (lv_sub hl [0, 1, 2, 3, 4] rfl)
  have hz_493 : (0 : Int32).toInt = 0 := by decide +kernel
  have hz_494 : (0 : Int32).toInt = 0 := by decide +kernel
  exact L_486 ((12 - ((0 : Int32)).toInt).toNat + 1) 0 (by decide +kernel) (by first | exact mu_lt hmu (by omega) (by omega) | omega) S I M_0  (F_m_mostBy_p9) _ _ hP hS _ (lv_sub hl [0, 1, 2, 3, 4] rfl)
