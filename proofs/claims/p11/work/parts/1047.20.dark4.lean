/-! 20.dark4.lean.txt -/
theorem dX11_shifts_0 : decode cX11_shifts 0 = .ok (.aload_n 0, 1) := dk_o42 (by decide +kernel)
theorem dX11_shifts_1 : decode cX11_shifts 1 = .ok (.iconst 1, 1) := dk_o4 (by decide +kernel)
theorem dX11_shifts_2 : decode cX11_shifts 2 = .ok (.iload_n 1, 1) := dk_o27 (by decide +kernel)
theorem dX11_shifts_3 : decode cX11_shifts 3 = .ok (.bipush 40, 2) := dk_o16 (by decide +kernel)
theorem dX11_shifts_5 : decode cX11_shifts 5 = .ok (.invokevirtual 261, 3) := dk_o182 (by decide +kernel)
theorem dX11_shifts_8 : decode cX11_shifts 8 = .ok (.ifCond .ne 9, 3) := dk_o154 (by decide +kernel)
theorem dX11_shifts_11 : decode cX11_shifts 11 = .ok (.aload_n 0, 1) := dk_o42 (by decide +kernel)
theorem dX11_shifts_12 : decode cX11_shifts 12 = .ok (.iconst 2, 1) := dk_o5 (by decide +kernel)
theorem dX11_shifts_13 : decode cX11_shifts 13 = .ok (.invokevirtual 100, 3) := dk_o182 (by decide +kernel)
theorem dX11_shifts_16 : decode cX11_shifts 16 = .ok (.ireturn, 1) := dk_o172 (by decide +kernel)
theorem dX11_shifts_17 : decode cX11_shifts 17 = .ok (.aload_n 0, 1) := dk_o42 (by decide +kernel)
theorem dX11_shifts_18 : decode cX11_shifts 18 = .ok (.invokevirtual 339, 3) := dk_o182 (by decide +kernel)
theorem dX11_shifts_21 : decode cX11_shifts 21 = .ok (.aload_n 0, 1) := dk_o42 (by decide +kernel)
theorem dX11_shifts_22 : decode cX11_shifts 22 = .ok (.getfield 70, 3) := dk_o180 (by decide +kernel)
theorem dX11_shifts_25 : decode cX11_shifts 25 = .ok (.aload_n 0, 1) := dk_o42 (by decide +kernel)
theorem dX11_shifts_26 : decode cX11_shifts 26 = .ok (.getfield 49, 3) := dk_o180 (by decide +kernel)
theorem dX11_shifts_29 : decode cX11_shifts 29 = .ok (.aload_n 0, 1) := dk_o42 (by decide +kernel)
theorem dX11_shifts_30 : decode cX11_shifts 30 = .ok (.getfield 19, 3) := dk_o180 (by decide +kernel)
theorem dX11_shifts_33 : decode cX11_shifts 33 = .ok (.aload_n 0, 1) := dk_o42 (by decide +kernel)
theorem dX11_shifts_34 : decode cX11_shifts 34 = .ok (.getfield 49, 3) := dk_o180 (by decide +kernel)
theorem dX11_shifts_37 : decode cX11_shifts 37 = .ok (.getfield 190, 3) := dk_o180 (by decide +kernel)
theorem dX11_shifts_40 : decode cX11_shifts 40 = .ok (.invokevirtual 193, 3) := dk_o182 (by decide +kernel)
theorem dX11_shifts_43 : decode cX11_shifts 43 = .ok (.iconst 0, 1) := dk_o3 (by decide +kernel)
theorem dX11_shifts_44 : decode cX11_shifts 44 = .ok (.istore_n 2, 1) := dk_o61 (by decide +kernel)
theorem dX11_shifts_45 : decode cX11_shifts 45 = .ok (.iconst 0, 1) := dk_o3 (by decide +kernel)
theorem dX11_shifts_46 : decode cX11_shifts 46 = .ok (.istore_n 3, 1) := dk_o62 (by decide +kernel)
theorem dX11_shifts_47 : decode cX11_shifts 47 = .ok (.iload_n 3, 1) := dk_o29 (by decide +kernel)
theorem dX11_shifts_48 : decode cX11_shifts 48 = .ok (.iload_n 1, 1) := dk_o27 (by decide +kernel)
theorem dX11_shifts_49 : decode cX11_shifts 49 = .ok (.if_icmp .ge 16, 3) := dk_o162 (by decide +kernel)
theorem dX11_shifts_52 : decode cX11_shifts 52 = .ok (.iload_n 2, 1) := dk_o28 (by decide +kernel)
theorem dX11_shifts_53 : decode cX11_shifts 53 = .ok (.aload_n 0, 1) := dk_o42 (by decide +kernel)
theorem dX11_shifts_54 : decode cX11_shifts 54 = .ok (.invokevirtual 342, 3) := dk_o182 (by decide +kernel)
theorem dX11_shifts_57 : decode cX11_shifts 57 = .ok (.iadd, 1) := dk_o96 (by decide +kernel)
theorem dX11_shifts_58 : decode cX11_shifts 58 = .ok (.istore_n 2, 1) := dk_o61 (by decide +kernel)
theorem dX11_shifts_59 : decode cX11_shifts 59 = .ok (.iinc 3 1, 3) := dk_o132 (by decide +kernel)
theorem dX11_shifts_62 : decode cX11_shifts 62 = .ok (.goto (-15), 3) := dk_o167 (by decide +kernel)
theorem dX11_shifts_65 : decode cX11_shifts 65 = .ok (.iload_n 2, 1) := dk_o28 (by decide +kernel)
theorem dX11_shifts_66 : decode cX11_shifts 66 = .ok (.ireturn, 1) := dk_o172 (by decide +kernel)
theorem dX11_chance_0 : decode cX11_chance 0 = .ok (.aload_n 0, 1) := dk_o42 (by decide +kernel)
theorem dX11_chance_1 : decode cX11_chance 1 = .ok (.iconst 1, 1) := dk_o4 (by decide +kernel)
theorem dX11_chance_2 : decode cX11_chance 2 = .ok (.iload_n 1, 1) := dk_o27 (by decide +kernel)
theorem dX11_chance_3 : decode cX11_chance 3 = .ok (.bipush 40, 2) := dk_o16 (by decide +kernel)
theorem dX11_chance_5 : decode cX11_chance 5 = .ok (.invokevirtual 261, 3) := dk_o182 (by decide +kernel)
theorem dX11_chance_8 : decode cX11_chance 8 = .ok (.ifCond .ne 9, 3) := dk_o154 (by decide +kernel)
theorem dX11_chance_11 : decode cX11_chance 11 = .ok (.aload_n 0, 1) := dk_o42 (by decide +kernel)
theorem dX11_chance_12 : decode cX11_chance 12 = .ok (.iconst 2, 1) := dk_o5 (by decide +kernel)
theorem dX11_chance_13 : decode cX11_chance 13 = .ok (.invokevirtual 100, 3) := dk_o182 (by decide +kernel)
theorem dX11_chance_16 : decode cX11_chance 16 = .ok (.ireturn, 1) := dk_o172 (by decide +kernel)
theorem dX11_chance_17 : decode cX11_chance 17 = .ok (.aload_n 0, 1) := dk_o42 (by decide +kernel)
theorem dX11_chance_18 : decode cX11_chance 18 = .ok (.invokevirtual 339, 3) := dk_o182 (by decide +kernel)
theorem dX11_chance_21 : decode cX11_chance 21 = .ok (.aload_n 0, 1) := dk_o42 (by decide +kernel)
theorem dX11_chance_22 : decode cX11_chance 22 = .ok (.getfield 70, 3) := dk_o180 (by decide +kernel)
theorem dX11_chance_25 : decode cX11_chance 25 = .ok (.aload_n 0, 1) := dk_o42 (by decide +kernel)
theorem dX11_chance_26 : decode cX11_chance 26 = .ok (.getfield 49, 3) := dk_o180 (by decide +kernel)
theorem dX11_chance_29 : decode cX11_chance 29 = .ok (.aload_n 0, 1) := dk_o42 (by decide +kernel)
theorem dX11_chance_30 : decode cX11_chance 30 = .ok (.getfield 19, 3) := dk_o180 (by decide +kernel)
theorem dX11_chance_33 : decode cX11_chance 33 = .ok (.aload_n 0, 1) := dk_o42 (by decide +kernel)
theorem dX11_chance_34 : decode cX11_chance 34 = .ok (.getfield 49, 3) := dk_o180 (by decide +kernel)
theorem dX11_chance_37 : decode cX11_chance 37 = .ok (.getfield 190, 3) := dk_o180 (by decide +kernel)
theorem dX11_chance_40 : decode cX11_chance 40 = .ok (.invokevirtual 193, 3) := dk_o182 (by decide +kernel)
theorem dX11_chance_43 : decode cX11_chance 43 = .ok (.iconst 0, 1) := dk_o3 (by decide +kernel)
theorem dX11_chance_44 : decode cX11_chance 44 = .ok (.istore_n 2, 1) := dk_o61 (by decide +kernel)
theorem dX11_chance_45 : decode cX11_chance 45 = .ok (.iconst 0, 1) := dk_o3 (by decide +kernel)
theorem dX11_chance_46 : decode cX11_chance 46 = .ok (.istore_n 3, 1) := dk_o62 (by decide +kernel)
theorem dX11_chance_47 : decode cX11_chance 47 = .ok (.iload_n 3, 1) := dk_o29 (by decide +kernel)
theorem dX11_chance_48 : decode cX11_chance 48 = .ok (.iload_n 1, 1) := dk_o27 (by decide +kernel)
theorem dX11_chance_49 : decode cX11_chance 49 = .ok (.if_icmp .ge 24, 3) := dk_o162 (by decide +kernel)
theorem dX11_chance_52 : decode cX11_chance 52 = .ok (.iload_n 2, 1) := dk_o28 (by decide +kernel)
theorem dX11_chance_53 : decode cX11_chance 53 = .ok (.aload_n 0, 1) := dk_o42 (by decide +kernel)
theorem dX11_chance_54 : decode cX11_chance 54 = .ok (.invokevirtual 345, 3) := dk_o182 (by decide +kernel)
theorem dX11_chance_57 : decode cX11_chance 57 = .ok (.invokestatic 203, 3) := dk_o184 (by decide +kernel)
theorem dX11_chance_60 : decode cX11_chance 60 = .ok (.iadd, 1) := dk_o96 (by decide +kernel)
theorem dX11_chance_61 : decode cX11_chance 61 = .ok (.istore_n 2, 1) := dk_o61 (by decide +kernel)
theorem dX11_chance_62 : decode cX11_chance 62 = .ok (.aload_n 0, 1) := dk_o42 (by decide +kernel)
theorem dX11_chance_63 : decode cX11_chance 63 = .ok (.invokevirtual 342, 3) := dk_o182 (by decide +kernel)
theorem dX11_chance_66 : decode cX11_chance 66 = .ok (.pop, 1) := dk_o87 (by decide +kernel)
theorem dX11_chance_67 : decode cX11_chance 67 = .ok (.iinc 3 1, 3) := dk_o132 (by decide +kernel)
theorem dX11_chance_70 : decode cX11_chance 70 = .ok (.goto (-23), 3) := dk_o167 (by decide +kernel)
theorem dX11_chance_73 : decode cX11_chance 73 = .ok (.iload_n 2, 1) := dk_o28 (by decide +kernel)
theorem dX11_chance_74 : decode cX11_chance 74 = .ok (.ireturn, 1) := dk_o172 (by decide +kernel)
theorem dX11_hang_0 : decode cX11_hang 0 = .ok (.aload_n 0, 1) := dk_o42 (by decide +kernel)
theorem dX11_hang_1 : decode cX11_hang 1 = .ok (.getfield 49, 3) := dk_o180 (by decide +kernel)
theorem dX11_hang_4 : decode cX11_hang 4 = .ok (.iload_n 1, 1) := dk_o27 (by decide +kernel)
theorem dX11_hang_5 : decode cX11_hang 5 = .ok (.iload_n 2, 1) := dk_o28 (by decide +kernel)
theorem dX11_hang_6 : decode cX11_hang 6 = .ok (.invokevirtual 187, 3) := dk_o182 (by decide +kernel)
theorem dX11_hang_9 : decode cX11_hang 9 = .ok (.istore 4, 2) := dk_o54 (by decide +kernel)
theorem dX11_hang_11 : decode cX11_hang 11 = .ok (.iload 4, 2) := dk_o21 (by decide +kernel)
theorem dX11_hang_13 : decode cX11_hang 13 = .ok (.iconst (-1), 1) := dk_o2 (by decide +kernel)
theorem dX11_hang_14 : decode cX11_hang 14 = .ok (.if_icmp .eq 24, 3) := dk_o159 (by decide +kernel)
theorem dX11_hang_17 : decode cX11_hang 17 = .ok (.iload 4, 2) := dk_o21 (by decide +kernel)
theorem dX11_hang_19 : decode cX11_hang 19 = .ok (.aload_n 0, 1) := dk_o42 (by decide +kernel)
theorem dX11_hang_20 : decode cX11_hang 20 = .ok (.getfield 49, 3) := dk_o180 (by decide +kernel)
theorem dX11_hang_23 : decode cX11_hang 23 = .ok (.getfield 348, 3) := dk_o180 (by decide +kernel)
theorem dX11_hang_26 : decode cX11_hang 26 = .ok (.if_icmp .eq 12, 3) := dk_o159 (by decide +kernel)
theorem dX11_hang_29 : decode cX11_hang 29 = .ok (.iload_n 3, 1) := dk_o29 (by decide +kernel)
theorem dX11_hang_30 : decode cX11_hang 30 = .ok (.ifCond .lt 8, 3) := dk_o155 (by decide +kernel)
theorem dX11_hang_33 : decode cX11_hang 33 = .ok (.iload_n 3, 1) := dk_o29 (by decide +kernel)
theorem dX11_hang_34 : decode cX11_hang 34 = .ok (.iconst 1, 1) := dk_o4 (by decide +kernel)
theorem dX11_hang_35 : decode cX11_hang 35 = .ok (.if_icmp .le 9, 3) := dk_o164 (by decide +kernel)
theorem dX11_hang_38 : decode cX11_hang 38 = .ok (.aload_n 0, 1) := dk_o42 (by decide +kernel)
theorem dX11_hang_39 : decode cX11_hang 39 = .ok (.iconst 3, 1) := dk_o6 (by decide +kernel)
theorem dX11_hang_40 : decode cX11_hang 40 = .ok (.invokevirtual 108, 3) := dk_o182 (by decide +kernel)
theorem dX11_hang_43 : decode cX11_hang 43 = .ok (.ireturn, 1) := dk_o172 (by decide +kernel)
theorem dX11_hang_44 : decode cX11_hang 44 = .ok (.iload_n 3, 1) := dk_o29 (by decide +kernel)
theorem dX11_hang_45 : decode cX11_hang 45 = .ok (.iconst 1, 1) := dk_o4 (by decide +kernel)
theorem dX11_hang_46 : decode cX11_hang 46 = .ok (.if_icmp .ne 9, 3) := dk_o160 (by decide +kernel)
theorem dX11_hang_49 : decode cX11_hang 49 = .ok (.sipush 255, 3) := dk_o17 (by decide +kernel)
theorem dX11_hang_52 : decode cX11_hang 52 = .ok (.goto 6, 3) := dk_o167 (by decide +kernel)
theorem dX11_hang_55 : decode cX11_hang 55 = .ok (.sipush 254, 3) := dk_o17 (by decide +kernel)
theorem dX11_hang_58 : decode cX11_hang 58 = .ok (.istore 5, 2) := dk_o54 (by decide +kernel)
theorem dX11_hang_60 : decode cX11_hang 60 = .ok (.aload_n 0, 1) := dk_o42 (by decide +kernel)
theorem dX11_hang_61 : decode cX11_hang 61 = .ok (.getfield 19, 3) := dk_o180 (by decide +kernel)
theorem dX11_hang_64 : decode cX11_hang 64 = .ok (.getfield 210, 3) := dk_o180 (by decide +kernel)
theorem dX11_hang_67 : decode cX11_hang 67 = .ok (.iload 4, 2) := dk_o21 (by decide +kernel)
theorem dX11_hang_69 : decode cX11_hang 69 = .ok (.iaload, 1) := dk_o46 (by decide +kernel)
theorem dX11_hang_70 : decode cX11_hang 70 = .ok (.iload 5, 2) := dk_o21 (by decide +kernel)
theorem dX11_hang_72 : decode cX11_hang 72 = .ok (.if_icmp .eq 9, 3) := dk_o159 (by decide +kernel)
theorem dX11_hang_75 : decode cX11_hang 75 = .ok (.aload_n 0, 1) := dk_o42 (by decide +kernel)
theorem dX11_hang_76 : decode cX11_hang 76 = .ok (.iconst 3, 1) := dk_o6 (by decide +kernel)
theorem dX11_hang_77 : decode cX11_hang 77 = .ok (.invokevirtual 108, 3) := dk_o182 (by decide +kernel)
theorem dX11_hang_80 : decode cX11_hang 80 = .ok (.ireturn, 1) := dk_o172 (by decide +kernel)
theorem dX11_hang_81 : decode cX11_hang 81 = .ok (.aload_n 0, 1) := dk_o42 (by decide +kernel)
theorem dX11_hang_82 : decode cX11_hang 82 = .ok (.invokevirtual 339, 3) := dk_o182 (by decide +kernel)
theorem dX11_hang_85 : decode cX11_hang 85 = .ok (.aload_n 0, 1) := dk_o42 (by decide +kernel)
theorem dX11_hang_86 : decode cX11_hang 86 = .ok (.getfield 19, 3) := dk_o180 (by decide +kernel)
theorem dX11_hang_89 : decode cX11_hang 89 = .ok (.getfield 210, 3) := dk_o180 (by decide +kernel)
theorem dX11_hang_92 : decode cX11_hang 92 = .ok (.iload 4, 2) := dk_o21 (by decide +kernel)
theorem dX11_hang_94 : decode cX11_hang 94 = .ok (.iload_n 3, 1) := dk_o29 (by decide +kernel)
theorem dX11_hang_95 : decode cX11_hang 95 = .ok (.iconst 1, 1) := dk_o4 (by decide +kernel)
theorem dX11_hang_96 : decode cX11_hang 96 = .ok (.if_icmp .ne 9, 3) := dk_o160 (by decide +kernel)
theorem dX11_hang_99 : decode cX11_hang 99 = .ok (.sipush 254, 3) := dk_o17 (by decide +kernel)
theorem dX11_hang_102 : decode cX11_hang 102 = .ok (.goto 6, 3) := dk_o167 (by decide +kernel)
theorem dX11_hang_105 : decode cX11_hang 105 = .ok (.sipush 255, 3) := dk_o17 (by decide +kernel)
theorem dX11_hang_108 : decode cX11_hang 108 = .ok (.iastore, 1) := dk_o79 (by decide +kernel)
theorem dX11_hang_109 : decode cX11_hang 109 = .ok (.iconst 1, 1) := dk_o4 (by decide +kernel)
theorem dX11_hang_110 : decode cX11_hang 110 = .ok (.ireturn, 1) := dk_o172 (by decide +kernel)
theorem dX11_send_0 : decode cX11_send 0 = .ok (.aload_n 0, 1) := dk_o42 (by decide +kernel)
theorem dX11_send_1 : decode cX11_send 1 = .ok (.getfield 49, 3) := dk_o180 (by decide +kernel)
theorem dX11_send_4 : decode cX11_send 4 = .ok (.iload_n 3, 1) := dk_o29 (by decide +kernel)
theorem dX11_send_5 : decode cX11_send 5 = .ok (.iload 4, 2) := dk_o21 (by decide +kernel)
theorem dX11_send_7 : decode cX11_send 7 = .ok (.invokevirtual 187, 3) := dk_o182 (by decide +kernel)
theorem dX11_send_10 : decode cX11_send 10 = .ok (.istore 5, 2) := dk_o54 (by decide +kernel)
theorem dX11_send_12 : decode cX11_send 12 = .ok (.iload 5, 2) := dk_o21 (by decide +kernel)
theorem dX11_send_14 : decode cX11_send 14 = .ok (.iconst (-1), 1) := dk_o2 (by decide +kernel)
theorem dX11_send_15 : decode cX11_send 15 = .ok (.if_icmp .eq 25, 3) := dk_o159 (by decide +kernel)
theorem dX11_send_18 : decode cX11_send 18 = .ok (.aload_n 0, 1) := dk_o42 (by decide +kernel)
theorem dX11_send_19 : decode cX11_send 19 = .ok (.getfield 49, 3) := dk_o180 (by decide +kernel)
theorem dX11_send_22 : decode cX11_send 22 = .ok (.iload_n 1, 1) := dk_o27 (by decide +kernel)
theorem dX11_send_23 : decode cX11_send 23 = .ok (.invokevirtual 225, 3) := dk_o182 (by decide +kernel)
theorem dX11_send_26 : decode cX11_send 26 = .ok (.ifCond .eq 14, 3) := dk_o153 (by decide +kernel)
theorem dX11_send_29 : decode cX11_send 29 = .ok (.aload_n 0, 1) := dk_o42 (by decide +kernel)
theorem dX11_send_30 : decode cX11_send 30 = .ok (.getfield 49, 3) := dk_o180 (by decide +kernel)
theorem dX11_send_33 : decode cX11_send 33 = .ok (.iload_n 2, 1) := dk_o28 (by decide +kernel)
theorem dX11_send_34 : decode cX11_send 34 = .ok (.invokevirtual 219, 3) := dk_o182 (by decide +kernel)
theorem dX11_send_37 : decode cX11_send 37 = .ok (.ifCond .ne 9, 3) := dk_o154 (by decide +kernel)
theorem dX11_send_40 : decode cX11_send 40 = .ok (.aload_n 0, 1) := dk_o42 (by decide +kernel)
theorem dX11_send_41 : decode cX11_send 41 = .ok (.iconst 3, 1) := dk_o6 (by decide +kernel)
theorem dX11_send_42 : decode cX11_send 42 = .ok (.invokevirtual 108, 3) := dk_o182 (by decide +kernel)
theorem dX11_send_45 : decode cX11_send 45 = .ok (.ireturn, 1) := dk_o172 (by decide +kernel)
theorem dX11_send_46 : decode cX11_send 46 = .ok (.aload_n 0, 1) := dk_o42 (by decide +kernel)
theorem dX11_send_47 : decode cX11_send 47 = .ok (.getfield 19, 3) := dk_o180 (by decide +kernel)
theorem dX11_send_50 : decode cX11_send 50 = .ok (.getfield 228, 3) := dk_o180 (by decide +kernel)
theorem dX11_send_53 : decode cX11_send 53 = .ok (.iload_n 1, 1) := dk_o27 (by decide +kernel)
theorem dX11_send_54 : decode cX11_send 54 = .ok (.iaload, 1) := dk_o46 (by decide +kernel)
theorem dX11_send_55 : decode cX11_send 55 = .ok (.iload_n 2, 1) := dk_o28 (by decide +kernel)
theorem dX11_send_56 : decode cX11_send 56 = .ok (.if_icmp .ne 23, 3) := dk_o160 (by decide +kernel)
theorem dX11_send_59 : decode cX11_send 59 = .ok (.aload_n 0, 1) := dk_o42 (by decide +kernel)
theorem dX11_send_60 : decode cX11_send 60 = .ok (.getfield 19, 3) := dk_o180 (by decide +kernel)
theorem dX11_send_63 : decode cX11_send 63 = .ok (.getfield 231, 3) := dk_o180 (by decide +kernel)
theorem dX11_send_66 : decode cX11_send 66 = .ok (.iload_n 1, 1) := dk_o27 (by decide +kernel)
theorem dX11_send_67 : decode cX11_send 67 = .ok (.iaload, 1) := dk_o46 (by decide +kernel)
theorem dX11_send_68 : decode cX11_send 68 = .ok (.iload 5, 2) := dk_o21 (by decide +kernel)
theorem dX11_send_70 : decode cX11_send 70 = .ok (.if_icmp .ne 9, 3) := dk_o160 (by decide +kernel)
theorem dX11_send_73 : decode cX11_send 73 = .ok (.aload_n 0, 1) := dk_o42 (by decide +kernel)
theorem dX11_send_74 : decode cX11_send 74 = .ok (.iconst 3, 1) := dk_o6 (by decide +kernel)
theorem dX11_send_75 : decode cX11_send 75 = .ok (.invokevirtual 108, 3) := dk_o182 (by decide +kernel)
theorem dX11_send_78 : decode cX11_send 78 = .ok (.ireturn, 1) := dk_o172 (by decide +kernel)
theorem dX11_send_79 : decode cX11_send 79 = .ok (.aload_n 0, 1) := dk_o42 (by decide +kernel)
theorem dX11_send_80 : decode cX11_send 80 = .ok (.invokevirtual 339, 3) := dk_o182 (by decide +kernel)
theorem dX11_send_83 : decode cX11_send 83 = .ok (.aload_n 0, 1) := dk_o42 (by decide +kernel)
theorem dX11_send_84 : decode cX11_send 84 = .ok (.getfield 19, 3) := dk_o180 (by decide +kernel)
theorem dX11_send_87 : decode cX11_send 87 = .ok (.getfield 228, 3) := dk_o180 (by decide +kernel)
theorem dX11_send_90 : decode cX11_send 90 = .ok (.iload_n 1, 1) := dk_o27 (by decide +kernel)
theorem dX11_send_91 : decode cX11_send 91 = .ok (.iload_n 2, 1) := dk_o28 (by decide +kernel)
theorem dX11_send_92 : decode cX11_send 92 = .ok (.iastore, 1) := dk_o79 (by decide +kernel)
theorem dX11_send_93 : decode cX11_send 93 = .ok (.aload_n 0, 1) := dk_o42 (by decide +kernel)
theorem dX11_send_94 : decode cX11_send 94 = .ok (.getfield 19, 3) := dk_o180 (by decide +kernel)
theorem dX11_send_97 : decode cX11_send 97 = .ok (.getfield 231, 3) := dk_o180 (by decide +kernel)
theorem dX11_send_100 : decode cX11_send 100 = .ok (.iload_n 1, 1) := dk_o27 (by decide +kernel)
theorem dX11_send_101 : decode cX11_send 101 = .ok (.iload 5, 2) := dk_o21 (by decide +kernel)
theorem dX11_send_103 : decode cX11_send 103 = .ok (.iastore, 1) := dk_o79 (by decide +kernel)
theorem dX11_send_104 : decode cX11_send 104 = .ok (.iconst 1, 1) := dk_o4 (by decide +kernel)
theorem dX11_send_105 : decode cX11_send 105 = .ok (.ireturn, 1) := dk_o172 (by decide +kernel)
theorem dX11_heal_0 : decode cX11_heal 0 = .ok (.aload_n 0, 1) := dk_o42 (by decide +kernel)
theorem dX11_heal_1 : decode cX11_heal 1 = .ok (.getfield 49, 3) := dk_o180 (by decide +kernel)
theorem dX11_heal_4 : decode cX11_heal 4 = .ok (.iload_n 1, 1) := dk_o27 (by decide +kernel)
theorem dX11_heal_5 : decode cX11_heal 5 = .ok (.invokevirtual 219, 3) := dk_o182 (by decide +kernel)
theorem dX11_heal_8 : decode cX11_heal 8 = .ok (.ifCond .eq 15, 3) := dk_o153 (by decide +kernel)
theorem dX11_heal_11 : decode cX11_heal 11 = .ok (.aload_n 0, 1) := dk_o42 (by decide +kernel)
theorem dX11_heal_12 : decode cX11_heal 12 = .ok (.getfield 19, 3) := dk_o180 (by decide +kernel)
theorem dX11_heal_15 : decode cX11_heal 15 = .ok (.getfield 222, 3) := dk_o180 (by decide +kernel)
theorem dX11_heal_18 : decode cX11_heal 18 = .ok (.iload_n 1, 1) := dk_o27 (by decide +kernel)
theorem dX11_heal_19 : decode cX11_heal 19 = .ok (.iaload, 1) := dk_o46 (by decide +kernel)
theorem dX11_heal_20 : decode cX11_heal 20 = .ok (.ifCond .ne 9, 3) := dk_o154 (by decide +kernel)
theorem dX11_heal_23 : decode cX11_heal 23 = .ok (.aload_n 0, 1) := dk_o42 (by decide +kernel)
theorem dX11_heal_24 : decode cX11_heal 24 = .ok (.iconst 3, 1) := dk_o6 (by decide +kernel)
theorem dX11_heal_25 : decode cX11_heal 25 = .ok (.invokevirtual 108, 3) := dk_o182 (by decide +kernel)
theorem dX11_heal_28 : decode cX11_heal 28 = .ok (.ireturn, 1) := dk_o172 (by decide +kernel)
theorem dX11_heal_29 : decode cX11_heal 29 = .ok (.aload_n 0, 1) := dk_o42 (by decide +kernel)
theorem dX11_heal_30 : decode cX11_heal 30 = .ok (.invokevirtual 339, 3) := dk_o182 (by decide +kernel)
theorem dX11_heal_33 : decode cX11_heal 33 = .ok (.aload_n 0, 1) := dk_o42 (by decide +kernel)
theorem dX11_heal_34 : decode cX11_heal 34 = .ok (.getfield 19, 3) := dk_o180 (by decide +kernel)
theorem dX11_heal_37 : decode cX11_heal 37 = .ok (.getfield 222, 3) := dk_o180 (by decide +kernel)
theorem dX11_heal_40 : decode cX11_heal 40 = .ok (.iload_n 1, 1) := dk_o27 (by decide +kernel)
theorem dX11_heal_41 : decode cX11_heal 41 = .ok (.iconst 0, 1) := dk_o3 (by decide +kernel)
theorem dX11_heal_42 : decode cX11_heal 42 = .ok (.iastore, 1) := dk_o79 (by decide +kernel)
theorem dX11_heal_43 : decode cX11_heal 43 = .ok (.iconst 1, 1) := dk_o4 (by decide +kernel)
theorem dX11_heal_44 : decode cX11_heal 44 = .ok (.ireturn, 1) := dk_o172 (by decide +kernel)
theorem dX11_sell_0 : decode cX11_sell 0 = .ok (.aload_n 0, 1) := dk_o42 (by decide +kernel)
theorem dX11_sell_1 : decode cX11_sell 1 = .ok (.getfield 49, 3) := dk_o180 (by decide +kernel)
theorem dX11_sell_4 : decode cX11_sell 4 = .ok (.iload_n 1, 1) := dk_o27 (by decide +kernel)
theorem dX11_sell_5 : decode cX11_sell 5 = .ok (.invokevirtual 240, 3) := dk_o182 (by decide +kernel)
theorem dX11_sell_8 : decode cX11_sell 8 = .ok (.ifCond .eq 11, 3) := dk_o153 (by decide +kernel)
theorem dX11_sell_11 : decode cX11_sell 11 = .ok (.aload_n 0, 1) := dk_o42 (by decide +kernel)
theorem dX11_sell_12 : decode cX11_sell 12 = .ok (.iload_n 1, 1) := dk_o27 (by decide +kernel)
theorem dX11_sell_13 : decode cX11_sell 13 = .ok (.invokevirtual 255, 3) := dk_o182 (by decide +kernel)
theorem dX11_sell_16 : decode cX11_sell 16 = .ok (.ifCond .ne 9, 3) := dk_o154 (by decide +kernel)
theorem dX11_sell_19 : decode cX11_sell 19 = .ok (.aload_n 0, 1) := dk_o42 (by decide +kernel)
theorem dX11_sell_20 : decode cX11_sell 20 = .ok (.iconst 3, 1) := dk_o6 (by decide +kernel)
theorem dX11_sell_21 : decode cX11_sell 21 = .ok (.invokevirtual 100, 3) := dk_o182 (by decide +kernel)
theorem dX11_sell_24 : decode cX11_sell 24 = .ok (.ireturn, 1) := dk_o172 (by decide +kernel)
theorem dX11_sell_25 : decode cX11_sell 25 = .ok (.aload_n 0, 1) := dk_o42 (by decide +kernel)
theorem dX11_sell_26 : decode cX11_sell 26 = .ok (.invokevirtual 339, 3) := dk_o182 (by decide +kernel)
theorem dX11_sell_29 : decode cX11_sell 29 = .ok (.aload_n 0, 1) := dk_o42 (by decide +kernel)
theorem dX11_sell_30 : decode cX11_sell 30 = .ok (.getfield 19, 3) := dk_o180 (by decide +kernel)
theorem dX11_sell_33 : decode cX11_sell 33 = .ok (.aload_n 0, 1) := dk_o42 (by decide +kernel)
theorem dX11_sell_34 : decode cX11_sell 34 = .ok (.getfield 49, 3) := dk_o180 (by decide +kernel)
theorem dX11_sell_37 : decode cX11_sell 37 = .ok (.getfield 243, 3) := dk_o180 (by decide +kernel)
theorem dX11_sell_40 : decode cX11_sell 40 = .ok (.iload_n 1, 1) := dk_o27 (by decide +kernel)
theorem dX11_sell_41 : decode cX11_sell 41 = .ok (.iaload, 1) := dk_o46 (by decide +kernel)
theorem dX11_sell_42 : decode cX11_sell 42 = .ok (.aload_n 0, 1) := dk_o42 (by decide +kernel)
theorem dX11_sell_43 : decode cX11_sell 43 = .ok (.getfield 49, 3) := dk_o180 (by decide +kernel)
theorem dX11_sell_46 : decode cX11_sell 46 = .ok (.getfield 246, 3) := dk_o180 (by decide +kernel)
theorem dX11_sell_49 : decode cX11_sell 49 = .ok (.iload_n 1, 1) := dk_o27 (by decide +kernel)
theorem dX11_sell_50 : decode cX11_sell 50 = .ok (.iaload, 1) := dk_o46 (by decide +kernel)
theorem dX11_sell_51 : decode cX11_sell 51 = .ok (.invokevirtual 351, 3) := dk_o182 (by decide +kernel)
theorem dX11_sell_54 : decode cX11_sell 54 = .ok (.aload_n 0, 1) := dk_o42 (by decide +kernel)
theorem dX11_sell_55 : decode cX11_sell 55 = .ok (.getfield 19, 3) := dk_o180 (by decide +kernel)
theorem dX11_sell_58 : decode cX11_sell 58 = .ok (.getfield 252, 3) := dk_o180 (by decide +kernel)
theorem dX11_sell_61 : decode cX11_sell 61 = .ok (.iload_n 1, 1) := dk_o27 (by decide +kernel)
theorem dX11_sell_62 : decode cX11_sell 62 = .ok (.iconst 1, 1) := dk_o4 (by decide +kernel)
theorem dX11_sell_63 : decode cX11_sell 63 = .ok (.iastore, 1) := dk_o79 (by decide +kernel)
theorem dX11_sell_64 : decode cX11_sell 64 = .ok (.aload_n 0, 1) := dk_o42 (by decide +kernel)
theorem dX11_sell_65 : decode cX11_sell 65 = .ok (.getfield 19, 3) := dk_o180 (by decide +kernel)
theorem dX11_sell_68 : decode cX11_sell 68 = .ok (.ldc_w 355, 3) := dk_o19 (by decide +kernel)
theorem dX11_sell_71 : decode cX11_sell 71 = .ok (.aload_n 0, 1) := dk_o42 (by decide +kernel)
theorem dX11_sell_72 : decode cX11_sell 72 = .ok (.getfield 19, 3) := dk_o180 (by decide +kernel)
theorem dX11_sell_75 : decode cX11_sell 75 = .ok (.getfield 165, 3) := dk_o180 (by decide +kernel)
theorem dX11_sell_78 : decode cX11_sell 78 = .ok (.aload_n 0, 1) := dk_o42 (by decide +kernel)
theorem dX11_sell_79 : decode cX11_sell 79 = .ok (.getfield 49, 3) := dk_o180 (by decide +kernel)
theorem dX11_sell_82 : decode cX11_sell 82 = .ok (.getfield 249, 3) := dk_o180 (by decide +kernel)
theorem dX11_sell_85 : decode cX11_sell 85 = .ok (.iload_n 1, 1) := dk_o27 (by decide +kernel)
theorem dX11_sell_86 : decode cX11_sell 86 = .ok (.iaload, 1) := dk_o46 (by decide +kernel)
theorem dX11_sell_87 : decode cX11_sell 87 = .ok (.iadd, 1) := dk_o96 (by decide +kernel)
theorem dX11_sell_88 : decode cX11_sell 88 = .ok (.invokestatic 268, 3) := dk_o184 (by decide +kernel)
theorem dX11_sell_91 : decode cX11_sell 91 = .ok (.putfield 165, 3) := dk_o181 (by decide +kernel)
theorem dX11_sell_94 : decode cX11_sell 94 = .ok (.aload_n 0, 1) := dk_o42 (by decide +kernel)
theorem dX11_sell_95 : decode cX11_sell 95 = .ok (.getfield 19, 3) := dk_o180 (by decide +kernel)
theorem dX11_sell_98 : decode cX11_sell 98 = .ok (.getfield 165, 3) := dk_o180 (by decide +kernel)
theorem dX11_sell_101 : decode cX11_sell 101 = .ok (.ireturn, 1) := dk_o172 (by decide +kernel)
theorem dX11_undo_0 : decode cX11_undo 0 = .ok (.aload_n 0, 1) := dk_o42 (by decide +kernel)
theorem dX11_undo_1 : decode cX11_undo 1 = .ok (.getfield 29, 3) := dk_o180 (by decide +kernel)
theorem dX11_undo_4 : decode cX11_undo 4 = .ok (.aload_n 0, 1) := dk_o42 (by decide +kernel)
theorem dX11_undo_5 : decode cX11_undo 5 = .ok (.getfield 19, 3) := dk_o180 (by decide +kernel)
theorem dX11_undo_8 : decode cX11_undo 8 = .ok (.invokevirtual 356, 3) := dk_o182 (by decide +kernel)
theorem dX11_undo_11 : decode cX11_undo 11 = .ok (.ifCond .ne 9, 3) := dk_o154 (by decide +kernel)
theorem dX11_undo_14 : decode cX11_undo 14 = .ok (.aload_n 0, 1) := dk_o42 (by decide +kernel)
theorem dX11_undo_15 : decode cX11_undo 15 = .ok (.iconst 4, 1) := dk_o7 (by decide +kernel)
theorem dX11_undo_16 : decode cX11_undo 16 = .ok (.invokevirtual 108, 3) := dk_o182 (by decide +kernel)
theorem dX11_undo_19 : decode cX11_undo 19 = .ok (.ireturn, 1) := dk_o172 (by decide +kernel)
theorem dX11_undo_20 : decode cX11_undo 20 = .ok (.aload_n 0, 1) := dk_o42 (by decide +kernel)
theorem dX11_undo_21 : decode cX11_undo 21 = .ok (.invokevirtual 122, 3) := dk_o182 (by decide +kernel)
theorem dX11_undo_24 : decode cX11_undo 24 = .ok (.iconst 1, 1) := dk_o4 (by decide +kernel)
theorem dX11_undo_25 : decode cX11_undo 25 = .ok (.ireturn, 1) := dk_o172 (by decide +kernel)
theorem dX11_seed_0 : decode cX11_seed 0 = .ok (.iload_n 1, 1) := dk_o27 (by decide +kernel)
theorem dX11_seed_1 : decode cX11_seed 1 = .ok (.ifCond .ge 9, 3) := dk_o156 (by decide +kernel)
theorem dX11_seed_4 : decode cX11_seed 4 = .ok (.aload_n 0, 1) := dk_o42 (by decide +kernel)
theorem dX11_seed_5 : decode cX11_seed 5 = .ok (.iconst 5, 1) := dk_o8 (by decide +kernel)
theorem dX11_seed_6 : decode cX11_seed 6 = .ok (.invokevirtual 108, 3) := dk_o182 (by decide +kernel)
theorem dX11_seed_9 : decode cX11_seed 9 = .ok (.ireturn, 1) := dk_o172 (by decide +kernel)
theorem dX11_seed_10 : decode cX11_seed 10 = .ok (.aload_n 0, 1) := dk_o42 (by decide +kernel)
theorem dX11_seed_11 : decode cX11_seed 11 = .ok (.iload_n 1, 1) := dk_o27 (by decide +kernel)
theorem dX11_seed_12 : decode cX11_seed 12 = .ok (.putfield 90, 3) := dk_o181 (by decide +kernel)
theorem dX11_seed_15 : decode cX11_seed 15 = .ok (.iconst 1, 1) := dk_o4 (by decide +kernel)
theorem dX11_seed_16 : decode cX11_seed 16 = .ok (.ireturn, 1) := dk_o172 (by decide +kernel)
theorem dX11_kept_0 : decode cX11_kept 0 = .ok (.iload_n 1, 1) := dk_o27 (by decide +kernel)
theorem dX11_kept_1 : decode cX11_kept 1 = .ok (.ifCond .lt 23, 3) := dk_o155 (by decide +kernel)
theorem dX11_kept_4 : decode cX11_kept 4 = .ok (.iload_n 1, 1) := dk_o27 (by decide +kernel)
theorem dX11_kept_5 : decode cX11_kept 5 = .ok (.aload_n 0, 1) := dk_o42 (by decide +kernel)
theorem dX11_kept_6 : decode cX11_kept 6 = .ok (.getfield 29, 3) := dk_o180 (by decide +kernel)
theorem dX11_kept_9 : decode cX11_kept 9 = .ok (.getfield 171, 3) := dk_o180 (by decide +kernel)
theorem dX11_kept_12 : decode cX11_kept 12 = .ok (.if_icmp .ge 12, 3) := dk_o162 (by decide +kernel)
theorem dX11_kept_15 : decode cX11_kept 15 = .ok (.iload_n 2, 1) := dk_o28 (by decide +kernel)
theorem dX11_kept_16 : decode cX11_kept 16 = .ok (.ifCond .lt 8, 3) := dk_o155 (by decide +kernel)
theorem dX11_kept_19 : decode cX11_kept 19 = .ok (.iload_n 2, 1) := dk_o28 (by decide +kernel)
theorem dX11_kept_20 : decode cX11_kept 20 = .ok (.iconst 4, 1) := dk_o7 (by decide +kernel)
theorem dX11_kept_21 : decode cX11_kept 21 = .ok (.if_icmp .lt 5, 3) := dk_o161 (by decide +kernel)
theorem dX11_kept_24 : decode cX11_kept 24 = .ok (.iconst (-1), 1) := dk_o2 (by decide +kernel)
theorem dX11_kept_25 : decode cX11_kept 25 = .ok (.ireturn, 1) := dk_o172 (by decide +kernel)
theorem dX11_kept_26 : decode cX11_kept 26 = .ok (.aload_n 0, 1) := dk_o42 (by decide +kernel)
theorem dX11_kept_27 : decode cX11_kept 27 = .ok (.getfield 29, 3) := dk_o180 (by decide +kernel)
theorem dX11_kept_30 : decode cX11_kept 30 = .ok (.getfield 360, 3) := dk_o180 (by decide +kernel)
theorem dX11_kept_33 : decode cX11_kept 33 = .ok (.iconst 4, 1) := dk_o7 (by decide +kernel)
theorem dX11_kept_34 : decode cX11_kept 34 = .ok (.iload_n 1, 1) := dk_o27 (by decide +kernel)
theorem dX11_kept_35 : decode cX11_kept 35 = .ok (.imul, 1) := dk_o104 (by decide +kernel)
theorem dX11_kept_36 : decode cX11_kept 36 = .ok (.iload_n 2, 1) := dk_o28 (by decide +kernel)
theorem dX11_kept_37 : decode cX11_kept 37 = .ok (.iadd, 1) := dk_o96 (by decide +kernel)
theorem dX11_kept_38 : decode cX11_kept 38 = .ok (.iaload, 1) := dk_o46 (by decide +kernel)
theorem dX11_kept_39 : decode cX11_kept 39 = .ok (.ireturn, 1) := dk_o172 (by decide +kernel)
theorem dX11_image_0 : decode cX11_image 0 = .ok (.aload_n 0, 1) := dk_o42 (by decide +kernel)
theorem dX11_image_1 : decode cX11_image 1 = .ok (.getfield 38, 3) := dk_o180 (by decide +kernel)
theorem dX11_image_4 : decode cX11_image 4 = .ok (.aload_n 0, 1) := dk_o42 (by decide +kernel)
theorem dX11_image_5 : decode cX11_image 5 = .ok (.getfield 49, 3) := dk_o180 (by decide +kernel)
theorem dX11_image_8 : decode cX11_image 8 = .ok (.aload_n 0, 1) := dk_o42 (by decide +kernel)
theorem dX11_image_9 : decode cX11_image 9 = .ok (.getfield 19, 3) := dk_o180 (by decide +kernel)
theorem dX11_image_12 : decode cX11_image 12 = .ok (.invokevirtual 363, 3) := dk_o182 (by decide +kernel)
theorem dX11_image_15 : decode cX11_image 15 = .ok (.aload_n 0, 1) := dk_o42 (by decide +kernel)
theorem dX11_image_16 : decode cX11_image 16 = .ok (.getfield 38, 3) := dk_o180 (by decide +kernel)
theorem dX11_image_19 : decode cX11_image 19 = .ok (.getfield 366, 3) := dk_o180 (by decide +kernel)
theorem dX11_image_22 : decode cX11_image 22 = .ok (.ireturn, 1) := dk_o172 (by decide +kernel)
theorem dX11_octet_0 : decode cX11_octet 0 = .ok (.iload_n 1, 1) := dk_o27 (by decide +kernel)
theorem dX11_octet_1 : decode cX11_octet 1 = .ok (.ifCond .lt 26, 3) := dk_o155 (by decide +kernel)
theorem dX11_octet_4 : decode cX11_octet 4 = .ok (.iload_n 1, 1) := dk_o27 (by decide +kernel)
theorem dX11_octet_5 : decode cX11_octet 5 = .ok (.aload_n 0, 1) := dk_o42 (by decide +kernel)
theorem dX11_octet_6 : decode cX11_octet 6 = .ok (.getfield 38, 3) := dk_o180 (by decide +kernel)
theorem dX11_octet_9 : decode cX11_octet 9 = .ok (.getfield 366, 3) := dk_o180 (by decide +kernel)
theorem dX11_octet_12 : decode cX11_octet 12 = .ok (.if_icmp .ge 15, 3) := dk_o162 (by decide +kernel)
theorem dX11_octet_15 : decode cX11_octet 15 = .ok (.aload_n 0, 1) := dk_o42 (by decide +kernel)
theorem dX11_octet_16 : decode cX11_octet 16 = .ok (.getfield 38, 3) := dk_o180 (by decide +kernel)
theorem dX11_octet_19 : decode cX11_octet 19 = .ok (.getfield 367, 3) := dk_o180 (by decide +kernel)
theorem dX11_octet_22 : decode cX11_octet 22 = .ok (.iload_n 1, 1) := dk_o27 (by decide +kernel)
theorem dX11_octet_23 : decode cX11_octet 23 = .ok (.iaload, 1) := dk_o46 (by decide +kernel)
theorem dX11_octet_24 : decode cX11_octet 24 = .ok (.goto 4, 3) := dk_o167 (by decide +kernel)
theorem dX11_octet_27 : decode cX11_octet 27 = .ok (.iconst (-1), 1) := dk_o2 (by decide +kernel)
theorem dX11_octet_28 : decode cX11_octet 28 = .ok (.ireturn, 1) := dk_o172 (by decide +kernel)
theorem dX11_on_0 : decode cX11_on 0 = .ok (.aload_n 0, 1) := dk_o42 (by decide +kernel)
theorem dX11_on_1 : decode cX11_on 1 = .ok (.getfield 49, 3) := dk_o180 (by decide +kernel)
theorem dX11_on_4 : decode cX11_on 4 = .ok (.invokevirtual 315, 3) := dk_o182 (by decide +kernel)
theorem dX11_on_7 : decode cX11_on 7 = .ok (.ifCond .eq 25, 3) := dk_o153 (by decide +kernel)
theorem dX11_on_10 : decode cX11_on 10 = .ok (.aload_n 0, 1) := dk_o42 (by decide +kernel)
theorem dX11_on_11 : decode cX11_on 11 = .ok (.getfield 38, 3) := dk_o180 (by decide +kernel)
theorem dX11_on_14 : decode cX11_on 14 = .ok (.aload_n 0, 1) := dk_o42 (by decide +kernel)
theorem dX11_on_15 : decode cX11_on 15 = .ok (.getfield 49, 3) := dk_o180 (by decide +kernel)
theorem dX11_on_18 : decode cX11_on 18 = .ok (.aload_n 0, 1) := dk_o42 (by decide +kernel)
theorem dX11_on_19 : decode cX11_on 19 = .ok (.getfield 23, 3) := dk_o180 (by decide +kernel)
theorem dX11_on_22 : decode cX11_on 22 = .ok (.invokevirtual 370, 3) := dk_o182 (by decide +kernel)
theorem dX11_on_25 : decode cX11_on 25 = .ok (.ifCond .eq 7, 3) := dk_o153 (by decide +kernel)
theorem dX11_on_28 : decode cX11_on 28 = .ok (.iconst 1, 1) := dk_o4 (by decide +kernel)
theorem dX11_on_29 : decode cX11_on 29 = .ok (.goto 4, 3) := dk_o167 (by decide +kernel)
theorem dX11_on_32 : decode cX11_on 32 = .ok (.iconst 0, 1) := dk_o3 (by decide +kernel)
theorem dX11_on_33 : decode cX11_on 33 = .ok (.istore_n 1, 1) := dk_o60 (by decide +kernel)
theorem dX11_on_34 : decode cX11_on 34 = .ok (.aload_n 0, 1) := dk_o42 (by decide +kernel)
theorem dX11_on_35 : decode cX11_on 35 = .ok (.getfield 10, 3) := dk_o180 (by decide +kernel)
theorem dX11_on_38 : decode cX11_on 38 = .ok (.iconst 0, 1) := dk_o3 (by decide +kernel)
theorem dX11_on_39 : decode cX11_on 39 = .ok (.putfield 97, 3) := dk_o181 (by decide +kernel)
theorem dX11_on_42 : decode cX11_on 42 = .ok (.iload_n 1, 1) := dk_o27 (by decide +kernel)
theorem dX11_on_43 : decode cX11_on 43 = .ok (.ifCond .ne 9, 3) := dk_o154 (by decide +kernel)
theorem dX11_on_46 : decode cX11_on 46 = .ok (.aload_n 0, 1) := dk_o42 (by decide +kernel)
theorem dX11_on_47 : decode cX11_on 47 = .ok (.iconst 5, 1) := dk_o8 (by decide +kernel)
theorem dX11_on_48 : decode cX11_on 48 = .ok (.invokevirtual 108, 3) := dk_o182 (by decide +kernel)
theorem dX11_on_51 : decode cX11_on 51 = .ok (.ireturn, 1) := dk_o172 (by decide +kernel)
theorem dX11_on_52 : decode cX11_on 52 = .ok (.aload_n 0, 1) := dk_o42 (by decide +kernel)
theorem dX11_on_53 : decode cX11_on 53 = .ok (.getfield 19, 3) := dk_o180 (by decide +kernel)
theorem dX11_on_56 : decode cX11_on 56 = .ok (.aload_n 0, 1) := dk_o42 (by decide +kernel)
theorem dX11_on_57 : decode cX11_on 57 = .ok (.getfield 23, 3) := dk_o180 (by decide +kernel)
theorem dX11_on_60 : decode cX11_on 60 = .ok (.invokevirtual 374, 3) := dk_o182 (by decide +kernel)
theorem dX11_on_63 : decode cX11_on 63 = .ok (.aload_n 0, 1) := dk_o42 (by decide +kernel)
theorem dX11_on_64 : decode cX11_on 64 = .ok (.getfield 29, 3) := dk_o180 (by decide +kernel)
theorem dX11_on_67 : decode cX11_on 67 = .ok (.invokevirtual 116, 3) := dk_o182 (by decide +kernel)
theorem dX11_on_70 : decode cX11_on 70 = .ok (.aload_n 0, 1) := dk_o42 (by decide +kernel)
theorem dX11_on_71 : decode cX11_on 71 = .ok (.invokevirtual 122, 3) := dk_o182 (by decide +kernel)
theorem dX11_on_74 : decode cX11_on 74 = .ok (.iconst 1, 1) := dk_o4 (by decide +kernel)
theorem dX11_on_75 : decode cX11_on 75 = .ok (.ireturn, 1) := dk_o172 (by decide +kernel)
theorem dX11_status_0 : decode cX11_status 0 = .ok (.iload_n 1, 1) := dk_o27 (by decide +kernel)
theorem dX11_status_1 : decode cX11_status 1 = .ok (.ifCond .lt 21, 3) := dk_o155 (by decide +kernel)
theorem dX11_status_4 : decode cX11_status 4 = .ok (.iload_n 1, 1) := dk_o27 (by decide +kernel)
theorem dX11_status_5 : decode cX11_status 5 = .ok (.aload_n 0, 1) := dk_o42 (by decide +kernel)
theorem dX11_status_6 : decode cX11_status 6 = .ok (.getfield 42, 3) := dk_o180 (by decide +kernel)
theorem dX11_status_9 : decode cX11_status 9 = .ok (.arraylength, 1) := dk_o190 (by decide +kernel)
theorem dX11_status_10 : decode cX11_status 10 = .ok (.if_icmp .ge 12, 3) := dk_o162 (by decide +kernel)
theorem dX11_status_13 : decode cX11_status 13 = .ok (.aload_n 0, 1) := dk_o42 (by decide +kernel)
theorem dX11_status_14 : decode cX11_status 14 = .ok (.getfield 42, 3) := dk_o180 (by decide +kernel)
theorem dX11_status_17 : decode cX11_status 17 = .ok (.iload_n 1, 1) := dk_o27 (by decide +kernel)
theorem dX11_status_18 : decode cX11_status 18 = .ok (.iaload, 1) := dk_o46 (by decide +kernel)
theorem dX11_status_19 : decode cX11_status 19 = .ok (.goto 4, 3) := dk_o167 (by decide +kernel)
theorem dX11_status_22 : decode cX11_status 22 = .ok (.iconst (-1), 1) := dk_o2 (by decide +kernel)
theorem dX11_status_23 : decode cX11_status 23 = .ok (.ireturn, 1) := dk_o172 (by decide +kernel)
theorem wB_1033 : Cond.code yX11_beginAct cX11_beginAct 1 none ∈ dgB := List.mem_filter.mpr ⟨tbl_6 _ (List.mem_of_getElem? (i := 33) rfl), rfl⟩
theorem wB_1034 : Cond.methodLink RX11 339 yX11_beginAct ∈ dgB := List.mem_filter.mpr ⟨tbl_6 _ (List.mem_of_getElem? (i := 30) (by decide +kernel)), by decide +kernel⟩
theorem wB_1035 : Cond.instanceMethod yX11_beginAct ∈ dgB := List.mem_filter.mpr ⟨tbl_6 _ (List.mem_of_getElem? (i := 32) (by decide +kernel)), by decide +kernel⟩
theorem wB_1036 : Cond.selects RX11 yX11_beginAct yX11_beginAct ∈ dgB := List.mem_filter.mpr ⟨List.mem_of_getElem? (i := 71) (by decide +kernel), by decide +kernel⟩
theorem wB_1037 : Cond.code yX11_passAndKeep cX11_passAndKeep 2 (some .int) ∈ dgB := List.mem_filter.mpr ⟨tbl_6 _ (List.mem_of_getElem? (i := 44) rfl), rfl⟩
theorem wB_1038 : Cond.methodLink RX11 342 yX11_passAndKeep ∈ dgB := List.mem_filter.mpr ⟨tbl_6 _ (List.mem_of_getElem? (i := 41) (by decide +kernel)), by decide +kernel⟩
theorem wB_1039 : Cond.instanceMethod yX11_passAndKeep ∈ dgB := List.mem_filter.mpr ⟨tbl_6 _ (List.mem_of_getElem? (i := 43) (by decide +kernel)), by decide +kernel⟩
theorem wB_1040 : Cond.selects RX11 yX11_passAndKeep yX11_passAndKeep ∈ dgB := List.mem_filter.mpr ⟨List.mem_of_getElem? (i := 72) (by decide +kernel), by decide +kernel⟩
theorem wB_1041 : Cond.code yX11_quakeCloses cX11_quakeCloses 3 (some .boolean) ∈ dgB := List.mem_filter.mpr ⟨tbl_6 _ (List.mem_of_getElem? (i := 56) rfl), rfl⟩
theorem wB_1042 : Cond.methodLink RX11 345 yX11_quakeCloses ∈ dgB := List.mem_filter.mpr ⟨tbl_6 _ (List.mem_of_getElem? (i := 53) (by decide +kernel)), by decide +kernel⟩
theorem wB_1043 : Cond.instanceMethod yX11_quakeCloses ∈ dgB := List.mem_filter.mpr ⟨tbl_6 _ (List.mem_of_getElem? (i := 55) (by decide +kernel)), by decide +kernel⟩
theorem wB_1044 : Cond.selects RX11 yX11_quakeCloses yX11_quakeCloses ∈ dgB := List.mem_filter.mpr ⟨List.mem_of_getElem? (i := 73) (by decide +kernel), by decide +kernel⟩
theorem wB_1045 : Cond.fieldLink RX11 348 "DarkMine$Ground" "shaftPlace" "I" ∈ dgB := List.mem_filter.mpr ⟨tbl_1 _ (List.mem_of_getElem? (i := 193) (by decide +kernel)), by decide +kernel⟩
theorem wB_1046 : Cond.code yX5_giveTubs cX5_giveTubs 6 none ∈ dgB := List.mem_filter.mpr ⟨tbl_6 _ (List.mem_of_getElem? (i := 84) rfl), rfl⟩
theorem wB_1047 : Cond.methodLink RX11 351 yX5_giveTubs ∈ dgB := List.mem_filter.mpr ⟨tbl_6 _ (List.mem_of_getElem? (i := 81) (by decide +kernel)), by decide +kernel⟩
theorem wB_1048 : Cond.instanceMethod yX5_giveTubs ∈ dgB := List.mem_filter.mpr ⟨tbl_6 _ (List.mem_of_getElem? (i := 82) (by decide +kernel)), by decide +kernel⟩
theorem wB_1049 : Cond.selects RX5 yX5_giveTubs yX5_giveTubs ∈ dgB := List.mem_filter.mpr ⟨tbl_6 _ (List.mem_of_getElem? (i := 83) (by decide +kernel)), by decide +kernel⟩
theorem wB_1050 : Cond.constant RX11 355 (99999) ∈ dgB := List.mem_filter.mpr ⟨tbl_6 _ (List.mem_of_getElem? (i := 85) (by decide +kernel)), by decide +kernel⟩
theorem wB_1051 : Cond.code yX3_takeBack cX3_takeBack 2 (some .boolean) ∈ dgB := List.mem_filter.mpr ⟨tbl_6 _ (List.mem_of_getElem? (i := 93) rfl), rfl⟩
theorem wB_1052 : Cond.methodLink RX11 356 yX3_takeBack ∈ dgB := List.mem_filter.mpr ⟨tbl_6 _ (List.mem_of_getElem? (i := 90) (by decide +kernel)), by decide +kernel⟩
theorem wB_1053 : Cond.instanceMethod yX3_takeBack ∈ dgB := List.mem_filter.mpr ⟨tbl_6 _ (List.mem_of_getElem? (i := 91) (by decide +kernel)), by decide +kernel⟩
theorem wB_1054 : Cond.selects RX3 yX3_takeBack yX3_takeBack ∈ dgB := List.mem_filter.mpr ⟨tbl_6 _ (List.mem_of_getElem? (i := 92) (by decide +kernel)), by decide +kernel⟩
theorem wB_1055 : Cond.fieldLink RX11 360 "DarkMine$History" "keptParts" "[I" ∈ dgB := List.mem_filter.mpr ⟨tbl_1 _ (List.mem_of_getElem? (i := 118) (by decide +kernel)), by decide +kernel⟩
theorem wB_1056 : Cond.fieldLink RX11 38 "DarkMine" "picture" "LDarkMine$Image;" ∈ dgB := List.mem_filter.mpr ⟨tbl_3 _ (List.mem_of_getElem? (i := 52) (by decide +kernel)), by decide +kernel⟩
theorem wB_1057 : Cond.code yX4_write cX4_write 4 none ∈ dgB := List.mem_filter.mpr ⟨tbl_6 _ (List.mem_of_getElem? (i := 109) rfl), rfl⟩
theorem wB_1058 : Cond.methodLink RX11 363 yX4_write ∈ dgB := List.mem_filter.mpr ⟨tbl_6 _ (List.mem_of_getElem? (i := 106) (by decide +kernel)), by decide +kernel⟩
theorem wB_1059 : Cond.instanceMethod yX4_write ∈ dgB := List.mem_filter.mpr ⟨tbl_6 _ (List.mem_of_getElem? (i := 107) (by decide +kernel)), by decide +kernel⟩
theorem wB_1060 : Cond.selects RX4 yX4_write yX4_write ∈ dgB := List.mem_filter.mpr ⟨tbl_6 _ (List.mem_of_getElem? (i := 108) (by decide +kernel)), by decide +kernel⟩
theorem wB_1061 : Cond.fieldLink RX11 366 "DarkMine$Image" "length" "I" ∈ dgB := List.mem_filter.mpr ⟨tbl_1 _ (List.mem_of_getElem? (i := 151) (by decide +kernel)), by decide +kernel⟩
theorem wB_1062 : Cond.fieldLink RX11 367 "DarkMine$Image" "bytes" "[I" ∈ dgB := List.mem_filter.mpr ⟨tbl_1 _ (List.mem_of_getElem? (i := 149) (by decide +kernel)), by decide +kernel⟩
theorem wB_1063 : Cond.code yX4_tellsPit cX4_tellsPit 4 (some .boolean) ∈ dgB := List.mem_filter.mpr ⟨tbl_6 _ (List.mem_of_getElem? (i := 131) rfl), rfl⟩
theorem wB_1064 : Cond.methodLink RX11 370 yX4_tellsPit ∈ dgB := List.mem_filter.mpr ⟨tbl_6 _ (List.mem_of_getElem? (i := 128) (by decide +kernel)), by decide +kernel⟩
theorem wB_1065 : Cond.instanceMethod yX4_tellsPit ∈ dgB := List.mem_filter.mpr ⟨tbl_6 _ (List.mem_of_getElem? (i := 129) (by decide +kernel)), by decide +kernel⟩
theorem wB_1066 : Cond.selects RX4 yX4_tellsPit yX4_tellsPit ∈ dgB := List.mem_filter.mpr ⟨tbl_6 _ (List.mem_of_getElem? (i := 130) (by decide +kernel)), by decide +kernel⟩
theorem wB_1067 : Cond.code yX3_clear cX3_clear 1 none ∈ dgB := List.mem_filter.mpr ⟨tbl_4 _ (List.mem_of_getElem? (i := 118) rfl), rfl⟩
theorem wB_1068 : Cond.methodLink RX11 116 yX3_clear ∈ dgB := List.mem_filter.mpr ⟨tbl_4 _ (List.mem_of_getElem? (i := 115) (by decide +kernel)), by decide +kernel⟩
theorem wB_1069 : Cond.instanceMethod yX3_clear ∈ dgB := List.mem_filter.mpr ⟨tbl_4 _ (List.mem_of_getElem? (i := 116) (by decide +kernel)), by decide +kernel⟩
theorem wB_1070 : Cond.selects RX3 yX3_clear yX3_clear ∈ dgB := List.mem_filter.mpr ⟨tbl_4 _ (List.mem_of_getElem? (i := 117) (by decide +kernel)), by decide +kernel⟩
noncomputable def F_d_shifts_B1 (a1 : Int32) (o : Nat) : (Int32 × Int32 × dg_S) → (Int32 × Int32 × dg_S) ⊕ (dg_S × Int32) := fun w9 => match w9 with | (x_60, x_61, S_62) => (if a1 ≤ x_60 then (Sum.inr ((S_62, x_61))) else let S_70 : dg_S := (F_d_passAndKeep o S_62).1; let x_69 : Int32 := (F_d_passAndKeep o S_62).2; let x_71 : Int32 := x_61 + x_69; let x_72 : Int32 := x_60 + 1; (Sum.inl (x_72, x_71, S_70)))
noncomputable def F_d_shifts (o : Nat) (S : dg_S) (a1 : Int32) : dg_S × Int32 := let x_1 : Int32 := F_d_shiftsCome o S (1 : Int32) a1 (40 : Int32); (if x_1 = (0 : Int32) then let S_79 : dg_S := (F_d_none o S (2 : Int32)).1; let x_78 : Int32 := (F_d_none o S (2 : Int32)).2; (S_79, x_78) else let S_4 : dg_S := F_d_beginAct o S; let y_5 : Int32 := zI S_4 221 2; let y_6 : Int32 := zI S_4 221 3; let y_7 : Int32 := zI S_4 229 4; let d_8 : Nat := zR o S 0 6; let x_9 : Int32 := zI S d_8 3; let S_10 : dg_S := F_w_enter o S_4 d_8 3 x_9; (lp (F_d_shifts_B1 a1 o) (S, (0 : Int32)) ((2147483648 - ((0 : Int32)).toInt).toNat + 1) ((0 : Int32), (0 : Int32), S_10)))
theorem F_d_shifts_p0 {a1 : Int32} {o : Nat} {x_60 : Int32} {x_61 : Int32} {S_62 : dg_S} (h0 : a1 ≤ x_60) : (F_d_shifts_B1 a1 o) (x_60, x_61, S_62) = Sum.inr ((S_62, x_61)) := (Eq.trans (if_pos h0) rfl)
theorem F_d_shifts_p1 {a1 : Int32} {o : Nat} {x_60 : Int32} {x_61 : Int32} {S_62 : dg_S} {x_72 : Int32} {x_71 : Int32} {S_70 : dg_S} {x_69 : Int32} (h0 : ¬ (a1 ≤ x_60)) (h1 : S_70 = (F_d_passAndKeep o S_62).1) (h2 : x_69 = (F_d_passAndKeep o S_62).2) (h3 : x_71 = x_61 + x_69) (h4 : x_72 = x_60 + 1) : (F_d_shifts_B1 a1 o) (x_60, x_61, S_62) = Sum.inl (x_72, x_71, S_70) := by
  replace h1 := Eq.symm h1
  subst h1
  replace h2 := Eq.symm h2
  subst h2
  replace h3 := Eq.symm h3
  subst h3
  replace h4 := Eq.symm h4
  subst h4
  exact (Eq.trans (if_neg h0) rfl)
theorem F_d_shifts_p2 {o : Nat} {S : dg_S} {a1 : Int32} {S_10 : dg_S} {x_1 : Int32} {S_4 : dg_S} {d_8 : Nat} {x_9 : Int32} (h0 : x_1 = F_d_shiftsCome o S (1 : Int32) a1 (40 : Int32)) (h1 : ¬ (x_1 = (0 : Int32))) (h2 : S_4 = F_d_beginAct o S) (h3 : d_8 = zR o S 0 6) (h4 : x_9 = zI S d_8 3) (h5 : S_10 = F_w_enter o S_4 d_8 3 x_9) : F_d_shifts o S a1 = lp (F_d_shifts_B1 a1 o) (S, (0 : Int32)) ((2147483648 - ((0 : Int32)).toInt).toNat + 1) ((0 : Int32), (0 : Int32), S_10) := by
  replace h0 := Eq.symm h0
  subst h0
  replace h2 := Eq.symm h2
  subst h2
  replace h3 := Eq.symm h3
  subst h3
  replace h4 := Eq.symm h4
  subst h4
  replace h5 := Eq.symm h5
  subst h5
  exact (Eq.trans (if_neg h1) rfl)
theorem F_d_shifts_p3 {o : Nat} {S : dg_S} {a1 : Int32} {S_79 : dg_S} {x_78 : Int32} {x_1 : Int32} (h0 : x_1 = F_d_shiftsCome o S (1 : Int32) a1 (40 : Int32)) (h1 : x_1 = (0 : Int32)) (h2 : S_79 = (F_d_none o S (2 : Int32)).1) (h3 : x_78 = (F_d_none o S (2 : Int32)).2) : F_d_shifts o S a1 = (S_79, x_78) := by
  replace h0 := Eq.symm h0
  subst h0
  replace h2 := Eq.symm h2
  subst h2
  replace h3 := Eq.symm h3
  subst h3
  exact (Eq.trans (if_pos h1) rfl)
set_option maxHeartbeats 8000000 in
set_option maxRecDepth 100000 in
theorem c_d_shifts (l : Launch) (g : Nat → ClassId) (D : va_G) (o : Nat) (S : dg_S) (a1 : Int32) (Z1 : Z1X S) (Z2 : Z2X S) (Z3 : Z3X o S) (Z4 : Z4X S) (Z6 : Z6X S) (I : CX o S) (sz : Nat) : Met l yX11_shifts (bw yX11_shifts cX11_shifts 4 (some .int)) ({ frames := 7, cells := 0, slots := 0, locals := 170 } : Room) (dk_Pc g D (dg_w g shX o rfX S) sz [.ref (o + 0), .int a1]) (va_Qi (fun (r : Int32) S' => CX o S' ∧ dg_sm shX [(3, 0), (3, 1), (10, 1), (10, 2), (10, 3), (36, 4), (36, 6), (36, 7), (36, 8), (36, 9), (36, 10), (36, 11), (36, 12), (37, 0), (37, 1), (37, 2), (37, 3), (37, 4), (37, 5), (37, 7), (43, 2), (43, 3), (44, 4)] [4, 5, 6, 7, 8, 9, 11, 14, 15, 18, 38, 39, 40, 41, 42] S S' ∧ (m_hid ((S' = (F_d_none o S (2 : Int32)).1 ∧ (r).toInt = -1) ∨ ((zI S' 221 2).toInt = 0 ∧ (zI S' 221 3).toInt = 0 ∧ (zI S' 229 4).toInt = 0 ∧ S'.2.1 184 = S.2.1 184))) ∧ Z2X S' ∧ Z3X o S' ∧ Z4X S' ∧ Z6X S' ∧ dg_FG S S' ∧ (S' = (F_d_shifts o S a1).1 ∧ r = (F_d_shifts o S a1).2) ∧ True) (dg_B g D shX o rfX) (dg_A o shX.length sz)) 0 0 (dg_A o shX.length sz) := by
  refine dg_met (cc := cX11_shifts) (maxL := 4) (ret := (some .int)) (dk_dq rfl) rfl (Nat.le_of_ble_eq_true rfl) ?_
  intro p e s m args below meth c A hAe harg hx hb hr hml hts hown hlocks hin hP K hS hA1 hA ST hsz ls hl
  rw [← hAe]
  have F : CallFix p m c cX11_shifts 4 s args (bw yX11_shifts cX11_shifts 4 (some .int)) RX11 := ⟨hx, hb, hml, hown, hts⟩
  have hl : lv_has ls 4 [(0, .ref (o + 0)), (1, .int a1)] := hl
  have M_0 : dg_sm shX [(3, 0), (3, 1), (10, 1), (10, 2), (10, 3), (36, 4), (36, 6), (36, 7), (36, 8), (36, 9), (36, 10), (36, 11), (36, 12), (37, 0), (37, 1), (37, 2), (37, 3), (37, 4), (37, 5), (37, 7), (43, 2), (43, 3), (44, 4)] [4, 5, 6, 7, 8, 9, 11, 14, 15, 18, 38, 39, 40, 41, 42] S S := dg_sm.rf
  refine lv_aload_n hx hb dX11_shifts_0 rfl (lv_at hl 0 rfl) ?_
  refine lv_iconst (v := 1) hx hb dX11_shifts_1 (by decide +kernel) ?_
  refine lv_iload_n hx hb dX11_shifts_2 rfl (lv_at hl 1 rfl) ?_
  refine lv_bipush (v := 40) hx hb dX11_shifts_3 (by decide +kernel) ?_
  refine dg_calli hS hA1 hA (va_runV (As := [.int 1, .int a1, .int 40]) (rest := []) F (c_d_shiftsCome l g D o S 1 a1 40 Z1 Z2 Z3 Z4 Z6 I s.heap.size) (cwV 3 hts (bw_V wB_984 wB_985 wB_986 wB_610 wB_983) rfl rfl rfl (by decide +kernel) ⟨Nat.le_of_ble_eq_true rfl, Nat.le_of_ble_eq_true rfl⟩) (dg_preV sX_0 rfl K ST hP hS hA1 hA) rfl rfl hl.1 rfl (lv_room (Nat.le_of_ble_eq_true rfl)) dX11_shifts_5 ⟨Nat.le_of_ble_eq_true rfl, Nat.le_of_ble_eq_true rfl⟩) (fun x_1 S_2 hw_2 H locs hP hS => ?_)
  rw [hw_2.1] at hP
  obtain ⟨hq_2, w_2_0, w_2_1, -⟩ := hw_2
  have w_2_0 : 0 ≤ (x_1).toInt ∧ (x_1).toInt ≤ 1 := w_2_0
  refine lv_if_ne (tgt := 17) hx hb dX11_shifts_8 (dk_dq rfl) (fun c_3 => ?_) (fun c_3 => ?_)
  · as_aux_lemma =>
      have jc_3 := dk_neqc (k := 0) (by decide +kernel) c_3
      refine lv_aload_n hx hb dX11_shifts_17 rfl (lv_at hl 0 rfl) ?_
      refine dg_callv hS hA1 hA (va_runV (As := []) (rest := []) F (c_d_beginAct l g D o S Z1 Z2 Z3 Z4 Z6 I H.size) (cwV 0 hts (bw_V wB_1034 wB_1035 wB_1036 wB_610 wB_1033) rfl rfl rfl (by decide +kernel) ⟨Nat.le_of_ble_eq_true rfl, Nat.le_of_ble_eq_true rfl⟩) (dg_preV sX_0 rfl K ST hP hS hA1 hA) rfl rfl hl.1 rfl (lv_room (Nat.le_of_ble_eq_true rfl)) dX11_shifts_18 ⟨Nat.le_of_ble_eq_true rfl, Nat.le_of_ble_eq_true rfl⟩) (fun S_4 hw_4 H locs hP hS => ?_)
      obtain ⟨I_4, m_4, w_4_0, w_4_1, w_4_2, w_4_3, w_4_4, w_4_5, w_4_6, w_4_7, -⟩ := hw_4
      have M_4 := dg_sm.tr M_0 m_4 (dk_dq rfl) (dk_dq rfl)
      obtain ⟨y_5, f_y_5, w_4_0⟩ := w_4_0
      have w_4_0 : (y_5).toInt = 0 := w_4_0
      obtain ⟨y_6, f_y_6, w_4_1⟩ := w_4_1
      have w_4_1 : (y_6).toInt = 0 := w_4_1
      obtain ⟨y_7, f_y_7, w_4_2⟩ := w_4_2
      have w_4_2 : (y_7).toInt = 0 := w_4_2
      have b_y_7 : 0 ≤ (y_7).toInt ∧ (y_7).toInt ≤ 1 := dg_I.intb (lo := 0) (hi := 1) I_4 sX_229 (by decide +kernel) f_y_7
      refine lv_aload_n hx hb dX11_shifts_21 rfl (lv_at hl 0 rfl) ?_
      refine dg_get (C := RX11) (T := TX11) (N := 13) hx hb hts (fun w h => bw_mem (wU_X11 w h)) hown K hP sX_0 rfl 9 (dk_dq rfl) (hts _ (bw_mem wB_858)) (fun _ h9 => h9) (v := .ref (o + 214)) (show S_4.1 0 9 = .ref (o + 214) from dg_I.rel (d := 214) I_4 sX_0 (by decide +kernel)) dX11_shifts_22 ?_
      refine lv_aload_n hx hb dX11_shifts_25 rfl (lv_at hl 0 rfl) ?_
      obtain ⟨d_8, hk_d_8, f_d_8⟩ := dg_I.one (i := 0) (k := 6) (d := 0) I sX_0 (by decide +kernel)
      have hk_d_8 : rX d_8 := hk_d_8
      refine dg_get (C := RX11) (T := TX11) (N := 13) hx hb hts (fun w h => bw_mem (wU_X11 w h)) hown K hP sX_0 rfl 6 (dk_dq rfl) (hts _ (bw_mem wB_286)) (fun _ h9 => h9) (v := .ref (o + d_8)) ((m_4.1 0 6 _ sX_0 (dk_dq rfl)).trans f_d_8) dX11_shifts_26 ?_
      refine lv_aload_n hx hb dX11_shifts_29 rfl (lv_at hl 0 rfl) ?_
      refine dg_get (C := RX11) (T := TX11) (N := 13) hx hb hts (fun w h => bw_mem (wU_X11 w h)) hown K hP sX_0 rfl 1 (dk_dq rfl) (hts _ (bw_mem wB_287)) (fun _ h9 => h9) (v := .ref (o + 3)) (show S_4.1 0 1 = .ref (o + 3) from dg_I.rel (d := 3) I_4 sX_0 (by decide +kernel)) dX11_shifts_30 ?_
      refine lv_aload_n hx hb dX11_shifts_33 rfl (lv_at hl 0 rfl) ?_
      refine dg_get (C := RX11) (T := TX11) (N := 13) hx hb hts (fun w h => bw_mem (wU_X11 w h)) hown K hP sX_0 rfl 6 (dk_dq rfl) (hts _ (bw_mem wB_286)) (fun _ h9 => h9) (v := .ref (o + d_8)) ((m_4.1 0 6 _ sX_0 (dk_dq rfl)).trans f_d_8) dX11_shifts_34 ?_
      obtain ⟨x_9, f_x_9, b_x_9⟩ := dg_I.int (i := d_8) (k := 3) (lo := (-2147483648)) (hi := 2147483647) I (rX_0 d_8 hk_d_8) (by decide +kernel)
      refine dg_get (C := RX2) (T := TX2) (N := 19) hx hb hts (fun w h => bw_mem (wU_X2 w h)) hown K hP (rX_0 d_8 hk_d_8) rfl 3 (dk_dq rfl) (hts _ (bw_mem wB_859)) (fun _ h9 => h9) (v := .int x_9) ((m_4.1 d_8 3 _ (rX_0 d_8 hk_d_8) (dk_dq rfl)).trans f_x_9) dX11_shifts_37 ?_
      refine dg_callv hS hA1 hA (va_runV (As := [.ref (o + d_8), .ref (o + 3), .int x_9]) (rest := []) F (c_w_enter l g D o S_4 d_8 hk_d_8 3 (by unfold pX; decide : pX 3) x_9 w_4_5 I_4 H.size) (cwV 3 hts (bw_V wB_860 wB_676 wB_677 wB_594 wB_674) rfl rfl rfl (by decide +kernel) ⟨Nat.le_of_ble_eq_true rfl, Nat.le_of_ble_eq_true rfl⟩) (dg_preV sX_214 rfl K ST hP hS hA1 hA) rfl rfl hl.1 rfl (lv_room (Nat.le_of_ble_eq_true rfl)) dX11_shifts_40 ⟨Nat.le_of_ble_eq_true rfl, Nat.le_of_ble_eq_true rfl⟩) (fun S_10 hw_10 H locs hP hS => ?_)
      obtain ⟨I_10, m_10, w_10_0, w_10_1, -⟩ := hw_10
      have M_10 := dg_sm.tr M_4 m_10 (dk_dq rfl) (dk_dq rfl)
      refine lv_iconst (v := 0) hx hb dX11_shifts_43 (by decide +kernel) ?_
      refine lv_istore_n (lv' := [(2, .int 0), (0, .ref (o + 0)), (1, .int a1)]) hx hb dX11_shifts_44 rfl hl (dk_dq rfl) rfl (fun ls hl => ?_)
      refine lv_iconst (v := 0) hx hb dX11_shifts_45 (by decide +kernel) ?_
      refine lv_istore_n (lv' := [(3, .int 0), (2, .int 0), (0, .ref (o + 0)), (1, .int a1)]) hx hb dX11_shifts_46 rfl hl (dk_dq rfl) rfl (fun ls hl => ?_)
      have L_63 : ∀ (n : Nat) (x_60 : Int32) (x_61 : Int32), (0 ≤ (x_60).toInt ∧ (x_60).toInt ≤ 2147483647) → ((2147483648 - (x_60).toInt).toNat < n) → ∀ S_62 : dg_S, CX o S_62 → dg_sm shX [(3, 0), (3, 1), (10, 1), (10, 2), (10, 3), (36, 4), (36, 6), (36, 7), (36, 8), (36, 9), (36, 10), (36, 11), (36, 12), (37, 0), (37, 1), (37, 2), (37, 3), (37, 4), (37, 5), (37, 7), (43, 2), (43, 3), (44, 4)] [4, 5, 6, 7, 8, 9, 11, 14, 15, 18, 38, 39, 40, 41, 42] S S_62 → dg_FG S S_62 → S_62.1 221 2 = .int y_5 → S_62.1 221 3 = .int y_6 → S_62.1 229 4 = .int y_7 → Z2X S_62 → Z3X o S_62 → Z4X S_62 → Z6X S_62 → (S_62.2.1 184 = S.2.1 184) → (F_d_shifts o S a1 = lp (F_d_shifts_B1 a1 o) (S, (0 : Int32)) n (x_60, x_61, S_62)) → ∀ (H : Heap) (locs : List Loc), va_P D vwCl (dg_w g shX o rfX S_62) H → va_S A s.heap H locs → ∀ ls : Array Slot, lv_has ls 4 [(3, .int x_60), (2, .int x_61), (0, .ref (o + 0)), (1, .int a1)] → W p l e ({ frames := 7, cells := 0, slots := 0, locals := 170 } : Room) s m args below meth c H locs 0 0 (MQ below (va_Qi (fun (r : Int32) S' => CX o S' ∧ dg_sm shX [(3, 0), (3, 1), (10, 1), (10, 2), (10, 3), (36, 4), (36, 6), (36, 7), (36, 8), (36, 9), (36, 10), (36, 11), (36, 12), (37, 0), (37, 1), (37, 2), (37, 3), (37, 4), (37, 5), (37, 7), (43, 2), (43, 3), (44, 4)] [4, 5, 6, 7, 8, 9, 11, 14, 15, 18, 38, 39, 40, 41, 42] S S' ∧ (m_hid ((S' = (F_d_none o S (2 : Int32)).1 ∧ (r).toInt = -1) ∨ ((zI S' 221 2).toInt = 0 ∧ (zI S' 221 3).toInt = 0 ∧ (zI S' 229 4).toInt = 0 ∧ S'.2.1 184 = S.2.1 184))) ∧ Z2X S' ∧ Z3X o S' ∧ Z4X S' ∧ Z6X S' ∧ dg_FG S S' ∧ (S' = (F_d_shifts o S a1).1 ∧ r = (F_d_shifts o S a1).2) ∧ True) (dg_B g D shX o rfX) A) args s 0 0 A) (F0 m 47 ls []) := by
        as_aux_lemma =>
          intro n
          induction n with
          | zero =>
            intro x_60 x_61 b_x_60 hmu S_62 I_62 M_62 G_62 ff_62_2_221 ff_62_3_221 ff_62_4_229 Z2_62 Z3_62 Z4_62 Z6_62 srel_62_0 hF_1 H locs hP hS ls hl
            omega
          | succ n ih =>
            as_aux_lemma =>
              intro x_60 x_61 b_x_60 hmu S_62 I_62 M_62 G_62 ff_62_2_221 ff_62_3_221 ff_62_4_229 Z2_62 Z3_62 Z4_62 Z6_62 srel_62_0 hF_1 H locs hP hS ls hl
              refine lv_iload_n hx hb dX11_shifts_47 rfl (lv_at hl 0 rfl) ?_
              refine lv_iload_n hx hb dX11_shifts_48 rfl (lv_at hl 3 rfl) ?_
              refine lv_icmp_ge (tgt := 65) hx hb dX11_shifts_49 (dk_dq rfl) (fun c_64 => ?_) (fun c_64 => ?_)
              · have hf_64 := dk_full x_60
                have hf_65 := dk_full a1
                have jc_64 := dk_gec (k := (a1).toInt) rfl c_64
                refine lv_iload_n hx hb dX11_shifts_65 rfl (lv_at hl 1 rfl) ?_
                refine W.widen (k := 0) (n := 0) (Nat.le_of_ble_eq_true rfl) (Nat.le_of_ble_eq_true rfl) ?_
                exact dg_iret hx hb hr hlocks rfl hP hS ⟨I_62, M_62, (m_hid.mk (Or.inr ⟨(by rw [← zI_eq ff_62_2_221]; first | omega | decide +kernel), (by rw [← zI_eq ff_62_3_221]; first | omega | decide +kernel), (by rw [← zI_eq ff_62_4_229]; first | omega | decide +kernel), srel_62_0⟩)), Z2_62, Z3_62, Z4_62, Z6_62, G_62, ⟨congrArg Prod.fst (Eq.symm (lp_r hF_1 (F_d_shifts_p0 c_64))), congrArg Prod.snd (Eq.symm (lp_r hF_1 (F_d_shifts_p0 c_64)))⟩, trivial⟩ dX11_shifts_66
              · as_aux_lemma =>
                  have hf_66 := dk_full x_60
                  have hf_67 := dk_full a1
                  have jc_64 := dk_ngec (k := (a1).toInt) rfl c_64
                  refine lv_iload_n hx hb dX11_shifts_52 rfl (lv_at hl 1 rfl) ?_
                  refine lv_aload_n hx hb dX11_shifts_53 rfl (lv_at hl 2 rfl) ?_
                  refine dg_calli hS hA1 hA (va_runV (As := []) (rest := [.int x_61]) F (c_d_passAndKeep l g D o S_62 (Z1X.keep Z1 M_62 (dk_dq rfl) (dk_dq rfl) (dk_dq rfl)) Z2_62 Z3_62 Z4_62 Z6_62 I_62 H.size) (cwV 0 hts (bw_V wB_1038 wB_1039 wB_1040 wB_610 wB_1037) rfl rfl rfl (by decide +kernel) ⟨Nat.le_of_ble_eq_true rfl, Nat.le_of_ble_eq_true rfl⟩) (dg_preV sX_0 rfl K ST hP hS hA1 hA) rfl rfl hl.1 rfl (lv_room (Nat.le_of_ble_eq_true rfl)) dX11_shifts_54 ⟨Nat.le_of_ble_eq_true rfl, Nat.le_of_ble_eq_true rfl⟩) (fun x_69 S_70 hw_70 H locs hP hS => ?_)
                  obtain ⟨I_70, m_70, w_70_0, w_70_1, w_70_2, w_70_3, w_70_4, w_70_5, w_70_6, -⟩ := hw_70
                  have M_70 := dg_sm.tr M_62 m_70 (dk_dq rfl) (dk_dq rfl)
                  have w_70_0 : 0 ≤ (x_69).toInt ∧ (x_69).toInt ≤ 1 := w_70_0
                  refine lv_iadd hx hb dX11_shifts_57 ?_
                  refine lv_topi (fun x_71 ex_71 => ?_)
                  refine lv_istore_n (lv' := [(2, .int x_71), (3, .int x_60), (0, .ref (o + 0)), (1, .int a1)]) hx hb dX11_shifts_58 rfl hl (dk_dq rfl) rfl (fun ls hl => ?_)
                  obtain ⟨x_72, ex_72⟩ : ∃ z, z = x_60 + 1 := ⟨_, rfl⟩
                  have jx_72 : (x_72).toInt = (x_60).toInt + 1 := by rw [ex_72]; exact dk_addT2 rfl (by decide +kernel) (by omega)
                  refine lv_iinc (v := x_72) (lv' := [(3, .int x_72), (2, .int x_71), (0, .ref (o + 0)), (1, .int a1)]) hx hb dX11_shifts_59 hl (k := 1) rfl (by rw [ex_72]; rfl) (dk_dq rfl) rfl (fun ls hl => ?_)
                  refine lv_goto (tgt := 47) hx hb dX11_shifts_62 (dk_dq rfl) ?_
                  have hf_72 := dk_full x_72
                  exact ih x_72 x_71 (by omega) (by first | exact mu_lt hmu (by omega) (by omega) | omega) S_70 I_70 M_70 (dg_FG.tr G_62 w_70_5) ((m_70.1 221 2 _ sX_221 (dk_dq rfl)).trans ff_62_2_221) ((m_70.1 221 3 _ sX_221 (dk_dq rfl)).trans ff_62_3_221) ((m_70.1 229 4 _ sX_229 (dk_dq rfl)).trans ff_62_4_229) w_70_1 w_70_2 w_70_3 w_70_4 ((m_70.2 184 _ sX_184 (dk_dq rfl)).1.trans srel_62_0) (lp_l hF_1 (F_d_shifts_p1 c_64 w_70_6.1 w_70_6.2 ex_71 ex_72)) _ _ hP hS _ (lv_sub hl [0, 1, 2, 3] rfl)
      have hz_74 : (0 : Int32).toInt = 0 := by decide +kernel
      have hz_75 : (0 : Int32).toInt = 0 := by decide +kernel
      have hz_76 : (0 : Int32).toInt = 0 := by decide +kernel
      exact L_63 ((2147483648 - ((0 : Int32)).toInt).toNat + 1) 0 0 (by decide +kernel) (by first | exact mu_lt hmu (by omega) (by omega) | omega) S_10 I_10 M_10 (dg_FG.tr w_4_6 (dg_FG.sm m_10 (dk_dq rfl))) ((m_10.1 221 2 _ sX_221 (dk_dq rfl)).trans f_y_5) ((m_10.1 221 3 _ sX_221 (dk_dq rfl)).trans f_y_6) ((m_10.1 229 4 _ sX_229 (dk_dq rfl)).trans f_y_7) (Z2X.keep (Z2X.keep Z2 m_4 (dk_dq rfl) (dk_dq rfl)) m_10 (dk_dq rfl) (dk_dq rfl)) w_10_0 (Z4X.keep w_4_4 m_10 (dg_FG.sm m_10 (dk_dq rfl)) (dk_dq rfl) (dk_dq rfl)) (Z6X.keep w_4_5 m_10 (dg_FG.sm m_10 (dk_dq rfl))) ((m_10.2 184 _ sX_184 (dk_dq rfl)).1.trans (m_4.2 184 _ sX_184 (dk_dq rfl)).1) (F_d_shifts_p2 w_2_1 c_3 w_4_7 (zR_eq f_d_8) (zI_eq f_x_9) w_10_1) _ _ hP hS _ (lv_sub hl [0, 1, 2, 3] rfl)
  · have jc_3 := dk_eqc (k := 0) (by decide +kernel) c_3
    refine lv_aload_n hx hb dX11_shifts_11 rfl (lv_at hl 0 rfl) ?_
    refine lv_iconst (v := 2) hx hb dX11_shifts_12 (by decide +kernel) ?_
    have hz_77 : (2 : Int32).toInt = 2 := by decide +kernel
    refine dg_calli hS hA1 hA (va_runV (As := [.int 2]) (rest := []) F (c_d_none l g D o S 2 (by decide +kernel) Z1 Z2 Z3 Z4 Z6 I H.size) (cwV 1 hts (bw_V wB_920 wB_921 wB_922 wB_610 wB_919) rfl rfl rfl (by decide +kernel) ⟨Nat.le_of_ble_eq_true rfl, Nat.le_of_ble_eq_true rfl⟩) (dg_preV sX_0 rfl K ST hP hS hA1 hA) rfl rfl hl.1 rfl (lv_room (Nat.le_of_ble_eq_true rfl)) dX11_shifts_13 ⟨Nat.le_of_ble_eq_true rfl, Nat.le_of_ble_eq_true rfl⟩) (fun x_78 S_79 hw_79 H locs hP hS => ?_)
    obtain ⟨I_79, m_79, w_79_0, w_79_1, -⟩ := hw_79
    have M_79 := dg_sm.tr M_0 m_79 (dk_dq rfl) (dk_dq rfl)
    have w_79_0 : (-1) ≤ (x_78).toInt ∧ (x_78).toInt ≤ (-1) := w_79_0
    refine W.widen (k := 0) (n := 0) (Nat.le_of_ble_eq_true rfl) (Nat.le_of_ble_eq_true rfl) ?_
    exact dg_iret hx hb hr hlocks rfl hP hS ⟨I_79, M_79, (m_hid.mk (Or.inl ⟨w_79_1.1, by first | omega | decide +kernel⟩)), (Z2X.keep Z2 m_79 (dk_dq rfl) (dk_dq rfl)), (Z3X.keep Z3 m_79 (dg_FG.sm m_79 (dk_dq rfl)) (dk_dq rfl)), (Z4X.keep Z4 m_79 (dg_FG.sm m_79 (dk_dq rfl)) (dk_dq rfl) (dk_dq rfl)), (Z6X.keep Z6 m_79 (dg_FG.sm m_79 (dk_dq rfl))), (dg_FG.sm m_79 (dk_dq rfl)), ⟨congrArg Prod.fst (Eq.symm (F_d_shifts_p3 w_2_1 c_3 w_79_1.1 w_79_1.2)), congrArg Prod.snd (Eq.symm (F_d_shifts_p3 w_2_1 c_3 w_79_1.1 w_79_1.2))⟩, trivial⟩ dX11_shifts_16
noncomputable def F_d_chance_B1 (a1 : Int32) (o : Nat) : (Int32 × Int32 × dg_S) → (Int32 × Int32 × dg_S) ⊕ (dg_S × Int32) := fun w9 => match w9 with | (x_80, x_81, S_82) => (if a1 ≤ x_80 then (Sum.inr ((S_82, x_81))) else let S_90 : dg_S := (F_d_quakeCloses o S_82).1; let x_89 : Int32 := (F_d_quakeCloses o S_82).2; let x_91 : Int32 := F_flag o S_90 x_89; let x_93 : Int32 := x_81 + x_91; let S_95 : dg_S := (F_d_passAndKeep o S_90).1; let x_94 : Int32 := (F_d_passAndKeep o S_90).2; let x_96 : Int32 := x_80 + 1; (Sum.inl (x_96, x_93, S_95)))
noncomputable def F_d_chance (o : Nat) (S : dg_S) (a1 : Int32) : dg_S × Int32 := let x_1 : Int32 := F_d_shiftsCome o S (1 : Int32) a1 (40 : Int32); (if x_1 = (0 : Int32) then let S_103 : dg_S := (F_d_none o S (2 : Int32)).1; let x_102 : Int32 := (F_d_none o S (2 : Int32)).2; (S_103, x_102) else let S_4 : dg_S := F_d_beginAct o S; let y_5 : Int32 := zI S_4 221 2; let y_6 : Int32 := zI S_4 221 3; let y_7 : Int32 := zI S_4 229 4; let d_8 : Nat := zR o S 0 6; let x_9 : Int32 := zI S d_8 3; let S_10 : dg_S := F_w_enter o S_4 d_8 3 x_9; (lp (F_d_chance_B1 a1 o) (S, (0 : Int32)) ((2147483648 - ((0 : Int32)).toInt).toNat + 1) ((0 : Int32), (0 : Int32), S_10)))
theorem F_d_chance_p0 {a1 : Int32} {o : Nat} {x_80 : Int32} {x_81 : Int32} {S_82 : dg_S} (h0 : a1 ≤ x_80) : (F_d_chance_B1 a1 o) (x_80, x_81, S_82) = Sum.inr ((S_82, x_81)) := (Eq.trans (if_pos h0) rfl)
theorem F_d_chance_p1 {a1 : Int32} {o : Nat} {x_80 : Int32} {x_81 : Int32} {S_82 : dg_S} {x_96 : Int32} {x_93 : Int32} {S_95 : dg_S} {S_90 : dg_S} {x_89 : Int32} {x_91 : Int32} (h0 : ¬ (a1 ≤ x_80)) (h1 : S_90 = (F_d_quakeCloses o S_82).1) (h2 : x_89 = (F_d_quakeCloses o S_82).2) (h3 : x_91 = F_flag o S_90 x_89) (h4 : x_93 = x_81 + x_91) (h5 : S_95 = (F_d_passAndKeep o S_90).1) (h6 : x_96 = x_80 + 1) : (F_d_chance_B1 a1 o) (x_80, x_81, S_82) = Sum.inl (x_96, x_93, S_95) := by
  replace h1 := Eq.symm h1
  subst h1
  replace h2 := Eq.symm h2
  subst h2
  replace h3 := Eq.symm h3
  subst h3
  replace h4 := Eq.symm h4
  subst h4
  replace h5 := Eq.symm h5
  subst h5
  replace h6 := Eq.symm h6
  subst h6
  exact (Eq.trans (if_neg h0) rfl)
theorem F_d_chance_p2 {o : Nat} {S : dg_S} {a1 : Int32} {S_10 : dg_S} {x_1 : Int32} {S_4 : dg_S} {d_8 : Nat} {x_9 : Int32} (h0 : x_1 = F_d_shiftsCome o S (1 : Int32) a1 (40 : Int32)) (h1 : ¬ (x_1 = (0 : Int32))) (h2 : S_4 = F_d_beginAct o S) (h3 : d_8 = zR o S 0 6) (h4 : x_9 = zI S d_8 3) (h5 : S_10 = F_w_enter o S_4 d_8 3 x_9) : F_d_chance o S a1 = lp (F_d_chance_B1 a1 o) (S, (0 : Int32)) ((2147483648 - ((0 : Int32)).toInt).toNat + 1) ((0 : Int32), (0 : Int32), S_10) := by
  replace h0 := Eq.symm h0
  subst h0
  replace h2 := Eq.symm h2
  subst h2
  replace h3 := Eq.symm h3
  subst h3
  replace h4 := Eq.symm h4
  subst h4
  replace h5 := Eq.symm h5
  subst h5
  exact (Eq.trans (if_neg h1) rfl)
theorem F_d_chance_p3 {o : Nat} {S : dg_S} {a1 : Int32} {S_103 : dg_S} {x_102 : Int32} {x_1 : Int32} (h0 : x_1 = F_d_shiftsCome o S (1 : Int32) a1 (40 : Int32)) (h1 : x_1 = (0 : Int32)) (h2 : S_103 = (F_d_none o S (2 : Int32)).1) (h3 : x_102 = (F_d_none o S (2 : Int32)).2) : F_d_chance o S a1 = (S_103, x_102) := by
  replace h0 := Eq.symm h0
  subst h0
  replace h2 := Eq.symm h2
  subst h2
  replace h3 := Eq.symm h3
  subst h3
  exact (Eq.trans (if_pos h1) rfl)
set_option maxHeartbeats 8000000 in
set_option maxRecDepth 100000 in
theorem c_d_chance (l : Launch) (g : Nat → ClassId) (D : va_G) (o : Nat) (S : dg_S) (a1 : Int32) (Z1 : Z1X S) (Z2 : Z2X S) (Z3 : Z3X o S) (Z4 : Z4X S) (Z6 : Z6X S) (I : CX o S) (sz : Nat) : Met l yX11_chance (bw yX11_chance cX11_chance 4 (some .int)) ({ frames := 7, cells := 0, slots := 0, locals := 170 } : Room) (dk_Pc g D (dg_w g shX o rfX S) sz [.ref (o + 0), .int a1]) (va_Qi (fun (r : Int32) S' => CX o S' ∧ dg_sm shX [(0, 12), (3, 0), (3, 1), (10, 1), (10, 2), (10, 3), (36, 4), (36, 6), (36, 7), (36, 8), (36, 9), (36, 10), (36, 11), (36, 12), (37, 0), (37, 1), (37, 2), (37, 3), (37, 4), (37, 5), (37, 7), (43, 2), (43, 3), (44, 4)] [4, 5, 6, 7, 8, 9, 11, 14, 15, 18, 38, 39, 40, 41, 42] S S' ∧ (m_hid ((S' = (F_d_none o S (2 : Int32)).1 ∧ (r).toInt = -1) ∨ ((zI S' 221 2).toInt = 0 ∧ (zI S' 221 3).toInt = 0 ∧ (zI S' 229 4).toInt = 0 ∧ S'.2.1 184 = S.2.1 184))) ∧ Z2X S' ∧ Z3X o S' ∧ Z4X S' ∧ Z6X S' ∧ dg_FG S S' ∧ (S' = (F_d_chance o S a1).1 ∧ r = (F_d_chance o S a1).2) ∧ True) (dg_B g D shX o rfX) (dg_A o shX.length sz)) 0 0 (dg_A o shX.length sz) := by
  refine dg_met (cc := cX11_chance) (maxL := 4) (ret := (some .int)) (dk_dq rfl) rfl (Nat.le_of_ble_eq_true rfl) ?_
  intro p e s m args below meth c A hAe harg hx hb hr hml hts hown hlocks hin hP K hS hA1 hA ST hsz ls hl
  rw [← hAe]
  have F : CallFix p m c cX11_chance 4 s args (bw yX11_chance cX11_chance 4 (some .int)) RX11 := ⟨hx, hb, hml, hown, hts⟩
  have hl : lv_has ls 4 [(0, .ref (o + 0)), (1, .int a1)] := hl
  have M_0 : dg_sm shX [(0, 12), (3, 0), (3, 1), (10, 1), (10, 2), (10, 3), (36, 4), (36, 6), (36, 7), (36, 8), (36, 9), (36, 10), (36, 11), (36, 12), (37, 0), (37, 1), (37, 2), (37, 3), (37, 4), (37, 5), (37, 7), (43, 2), (43, 3), (44, 4)] [4, 5, 6, 7, 8, 9, 11, 14, 15, 18, 38, 39, 40, 41, 42] S S := dg_sm.rf
  refine lv_aload_n hx hb dX11_chance_0 rfl (lv_at hl 0 rfl) ?_
  refine lv_iconst (v := 1) hx hb dX11_chance_1 (by decide +kernel) ?_
  refine lv_iload_n hx hb dX11_chance_2 rfl (lv_at hl 1 rfl) ?_
  refine lv_bipush (v := 40) hx hb dX11_chance_3 (by decide +kernel) ?_
  refine dg_calli hS hA1 hA (va_runV (As := [.int 1, .int a1, .int 40]) (rest := []) F (c_d_shiftsCome l g D o S 1 a1 40 Z1 Z2 Z3 Z4 Z6 I s.heap.size) (cwV 3 hts (bw_V wB_984 wB_985 wB_986 wB_610 wB_983) rfl rfl rfl (by decide +kernel) ⟨Nat.le_of_ble_eq_true rfl, Nat.le_of_ble_eq_true rfl⟩) (dg_preV sX_0 rfl K ST hP hS hA1 hA) rfl rfl hl.1 rfl (lv_room (Nat.le_of_ble_eq_true rfl)) dX11_chance_5 ⟨Nat.le_of_ble_eq_true rfl, Nat.le_of_ble_eq_true rfl⟩) (fun x_1 S_2 hw_2 H locs hP hS => ?_)
  rw [hw_2.1] at hP
  obtain ⟨hq_2, w_2_0, w_2_1, -⟩ := hw_2
  have w_2_0 : 0 ≤ (x_1).toInt ∧ (x_1).toInt ≤ 1 := w_2_0
  refine lv_if_ne (tgt := 17) hx hb dX11_chance_8 (dk_dq rfl) (fun c_3 => ?_) (fun c_3 => ?_)
  · as_aux_lemma =>
      have jc_3 := dk_neqc (k := 0) (by decide +kernel) c_3
      refine lv_aload_n hx hb dX11_chance_17 rfl (lv_at hl 0 rfl) ?_
      refine dg_callv hS hA1 hA (va_runV (As := []) (rest := []) F (c_d_beginAct l g D o S Z1 Z2 Z3 Z4 Z6 I H.size) (cwV 0 hts (bw_V wB_1034 wB_1035 wB_1036 wB_610 wB_1033) rfl rfl rfl (by decide +kernel) ⟨Nat.le_of_ble_eq_true rfl, Nat.le_of_ble_eq_true rfl⟩) (dg_preV sX_0 rfl K ST hP hS hA1 hA) rfl rfl hl.1 rfl (lv_room (Nat.le_of_ble_eq_true rfl)) dX11_chance_18 ⟨Nat.le_of_ble_eq_true rfl, Nat.le_of_ble_eq_true rfl⟩) (fun S_4 hw_4 H locs hP hS => ?_)
      obtain ⟨I_4, m_4, w_4_0, w_4_1, w_4_2, w_4_3, w_4_4, w_4_5, w_4_6, w_4_7, -⟩ := hw_4
      have M_4 := dg_sm.tr M_0 m_4 (dk_dq rfl) (dk_dq rfl)
      obtain ⟨y_5, f_y_5, w_4_0⟩ := w_4_0
      have w_4_0 : (y_5).toInt = 0 := w_4_0
      obtain ⟨y_6, f_y_6, w_4_1⟩ := w_4_1
      have w_4_1 : (y_6).toInt = 0 := w_4_1
      obtain ⟨y_7, f_y_7, w_4_2⟩ := w_4_2
      have w_4_2 : (y_7).toInt = 0 := w_4_2
      have b_y_7 : 0 ≤ (y_7).toInt ∧ (y_7).toInt ≤ 1 := dg_I.intb (lo := 0) (hi := 1) I_4 sX_229 (by decide +kernel) f_y_7
      refine lv_aload_n hx hb dX11_chance_21 rfl (lv_at hl 0 rfl) ?_
      refine dg_get (C := RX11) (T := TX11) (N := 13) hx hb hts (fun w h => bw_mem (wU_X11 w h)) hown K hP sX_0 rfl 9 (dk_dq rfl) (hts _ (bw_mem wB_858)) (fun _ h9 => h9) (v := .ref (o + 214)) (show S_4.1 0 9 = .ref (o + 214) from dg_I.rel (d := 214) I_4 sX_0 (by decide +kernel)) dX11_chance_22 ?_
      refine lv_aload_n hx hb dX11_chance_25 rfl (lv_at hl 0 rfl) ?_
      obtain ⟨d_8, hk_d_8, f_d_8⟩ := dg_I.one (i := 0) (k := 6) (d := 0) I sX_0 (by decide +kernel)
      have hk_d_8 : rX d_8 := hk_d_8
      refine dg_get (C := RX11) (T := TX11) (N := 13) hx hb hts (fun w h => bw_mem (wU_X11 w h)) hown K hP sX_0 rfl 6 (dk_dq rfl) (hts _ (bw_mem wB_286)) (fun _ h9 => h9) (v := .ref (o + d_8)) ((m_4.1 0 6 _ sX_0 (dk_dq rfl)).trans f_d_8) dX11_chance_26 ?_
      refine lv_aload_n hx hb dX11_chance_29 rfl (lv_at hl 0 rfl) ?_
      refine dg_get (C := RX11) (T := TX11) (N := 13) hx hb hts (fun w h => bw_mem (wU_X11 w h)) hown K hP sX_0 rfl 1 (dk_dq rfl) (hts _ (bw_mem wB_287)) (fun _ h9 => h9) (v := .ref (o + 3)) (show S_4.1 0 1 = .ref (o + 3) from dg_I.rel (d := 3) I_4 sX_0 (by decide +kernel)) dX11_chance_30 ?_
      refine lv_aload_n hx hb dX11_chance_33 rfl (lv_at hl 0 rfl) ?_
      refine dg_get (C := RX11) (T := TX11) (N := 13) hx hb hts (fun w h => bw_mem (wU_X11 w h)) hown K hP sX_0 rfl 6 (dk_dq rfl) (hts _ (bw_mem wB_286)) (fun _ h9 => h9) (v := .ref (o + d_8)) ((m_4.1 0 6 _ sX_0 (dk_dq rfl)).trans f_d_8) dX11_chance_34 ?_
      obtain ⟨x_9, f_x_9, b_x_9⟩ := dg_I.int (i := d_8) (k := 3) (lo := (-2147483648)) (hi := 2147483647) I (rX_0 d_8 hk_d_8) (by decide +kernel)
      refine dg_get (C := RX2) (T := TX2) (N := 19) hx hb hts (fun w h => bw_mem (wU_X2 w h)) hown K hP (rX_0 d_8 hk_d_8) rfl 3 (dk_dq rfl) (hts _ (bw_mem wB_859)) (fun _ h9 => h9) (v := .int x_9) ((m_4.1 d_8 3 _ (rX_0 d_8 hk_d_8) (dk_dq rfl)).trans f_x_9) dX11_chance_37 ?_
      refine dg_callv hS hA1 hA (va_runV (As := [.ref (o + d_8), .ref (o + 3), .int x_9]) (rest := []) F (c_w_enter l g D o S_4 d_8 hk_d_8 3 (by unfold pX; decide : pX 3) x_9 w_4_5 I_4 H.size) (cwV 3 hts (bw_V wB_860 wB_676 wB_677 wB_594 wB_674) rfl rfl rfl (by decide +kernel) ⟨Nat.le_of_ble_eq_true rfl, Nat.le_of_ble_eq_true rfl⟩) (dg_preV sX_214 rfl K ST hP hS hA1 hA) rfl rfl hl.1 rfl (lv_room (Nat.le_of_ble_eq_true rfl)) dX11_chance_40 ⟨Nat.le_of_ble_eq_true rfl, Nat.le_of_ble_eq_true rfl⟩) (fun S_10 hw_10 H locs hP hS => ?_)
      obtain ⟨I_10, m_10, w_10_0, w_10_1, -⟩ := hw_10
      have M_10 := dg_sm.tr M_4 m_10 (dk_dq rfl) (dk_dq rfl)
      refine lv_iconst (v := 0) hx hb dX11_chance_43 (by decide +kernel) ?_
      refine lv_istore_n (lv' := [(2, .int 0), (0, .ref (o + 0)), (1, .int a1)]) hx hb dX11_chance_44 rfl hl (dk_dq rfl) rfl (fun ls hl => ?_)
      refine lv_iconst (v := 0) hx hb dX11_chance_45 (by decide +kernel) ?_
      refine lv_istore_n (lv' := [(3, .int 0), (2, .int 0), (0, .ref (o + 0)), (1, .int a1)]) hx hb dX11_chance_46 rfl hl (dk_dq rfl) rfl (fun ls hl => ?_)
      have L_83 : ∀ (n : Nat) (x_80 : Int32) (x_81 : Int32), (0 ≤ (x_80).toInt ∧ (x_80).toInt ≤ 2147483647) → ((2147483648 - (x_80).toInt).toNat < n) → ∀ S_82 : dg_S, CX o S_82 → dg_sm shX [(0, 12), (3, 0), (3, 1), (10, 1), (10, 2), (10, 3), (36, 4), (36, 6), (36, 7), (36, 8), (36, 9), (36, 10), (36, 11), (36, 12), (37, 0), (37, 1), (37, 2), (37, 3), (37, 4), (37, 5), (37, 7), (43, 2), (43, 3), (44, 4)] [4, 5, 6, 7, 8, 9, 11, 14, 15, 18, 38, 39, 40, 41, 42] S S_82 → dg_FG S S_82 → S_82.1 221 2 = .int y_5 → S_82.1 221 3 = .int y_6 → S_82.1 229 4 = .int y_7 → Z2X S_82 → Z3X o S_82 → Z4X S_82 → Z6X S_82 → (S_82.2.1 184 = S.2.1 184) → (F_d_chance o S a1 = lp (F_d_chance_B1 a1 o) (S, (0 : Int32)) n (x_80, x_81, S_82)) → ∀ (H : Heap) (locs : List Loc), va_P D vwCl (dg_w g shX o rfX S_82) H → va_S A s.heap H locs → ∀ ls : Array Slot, lv_has ls 4 [(3, .int x_80), (2, .int x_81), (0, .ref (o + 0)), (1, .int a1)] → W p l e ({ frames := 7, cells := 0, slots := 0, locals := 170 } : Room) s m args below meth c H locs 0 0 (MQ below (va_Qi (fun (r : Int32) S' => CX o S' ∧ dg_sm shX [(0, 12), (3, 0), (3, 1), (10, 1), (10, 2), (10, 3), (36, 4), (36, 6), (36, 7), (36, 8), (36, 9), (36, 10), (36, 11), (36, 12), (37, 0), (37, 1), (37, 2), (37, 3), (37, 4), (37, 5), (37, 7), (43, 2), (43, 3), (44, 4)] [4, 5, 6, 7, 8, 9, 11, 14, 15, 18, 38, 39, 40, 41, 42] S S' ∧ (m_hid ((S' = (F_d_none o S (2 : Int32)).1 ∧ (r).toInt = -1) ∨ ((zI S' 221 2).toInt = 0 ∧ (zI S' 221 3).toInt = 0 ∧ (zI S' 229 4).toInt = 0 ∧ S'.2.1 184 = S.2.1 184))) ∧ Z2X S' ∧ Z3X o S' ∧ Z4X S' ∧ Z6X S' ∧ dg_FG S S' ∧ (S' = (F_d_chance o S a1).1 ∧ r = (F_d_chance o S a1).2) ∧ True) (dg_B g D shX o rfX) A) args s 0 0 A) (F0 m 47 ls []) := by
        as_aux_lemma =>
          intro n
          induction n with
          | zero =>
            intro x_80 x_81 b_x_80 hmu S_82 I_82 M_82 G_82 ff_82_2_221 ff_82_3_221 ff_82_4_229 Z2_82 Z3_82 Z4_82 Z6_82 srel_82_0 hF_1 H locs hP hS ls hl
            omega
          | succ n ih =>
            as_aux_lemma =>
              intro x_80 x_81 b_x_80 hmu S_82 I_82 M_82 G_82 ff_82_2_221 ff_82_3_221 ff_82_4_229 Z2_82 Z3_82 Z4_82 Z6_82 srel_82_0 hF_1 H locs hP hS ls hl
              refine lv_iload_n hx hb dX11_chance_47 rfl (lv_at hl 0 rfl) ?_
              refine lv_iload_n hx hb dX11_chance_48 rfl (lv_at hl 3 rfl) ?_
              refine lv_icmp_ge (tgt := 73) hx hb dX11_chance_49 (dk_dq rfl) (fun c_84 => ?_) (fun c_84 => ?_)
              · have hf_84 := dk_full x_80
                have hf_85 := dk_full a1
                have jc_84 := dk_gec (k := (a1).toInt) rfl c_84
                refine lv_iload_n hx hb dX11_chance_73 rfl (lv_at hl 1 rfl) ?_
                refine W.widen (k := 0) (n := 0) (Nat.le_of_ble_eq_true rfl) (Nat.le_of_ble_eq_true rfl) ?_
                exact dg_iret hx hb hr hlocks rfl hP hS ⟨I_82, M_82, (m_hid.mk (Or.inr ⟨(by rw [← zI_eq ff_82_2_221]; first | omega | decide +kernel), (by rw [← zI_eq ff_82_3_221]; first | omega | decide +kernel), (by rw [← zI_eq ff_82_4_229]; first | omega | decide +kernel), srel_82_0⟩)), Z2_82, Z3_82, Z4_82, Z6_82, G_82, ⟨congrArg Prod.fst (Eq.symm (lp_r hF_1 (F_d_chance_p0 c_84))), congrArg Prod.snd (Eq.symm (lp_r hF_1 (F_d_chance_p0 c_84)))⟩, trivial⟩ dX11_chance_74
              · as_aux_lemma =>
                  have hf_86 := dk_full x_80
                  have hf_87 := dk_full a1
                  have jc_84 := dk_ngec (k := (a1).toInt) rfl c_84
                  refine lv_iload_n hx hb dX11_chance_52 rfl (lv_at hl 1 rfl) ?_
                  refine lv_aload_n hx hb dX11_chance_53 rfl (lv_at hl 2 rfl) ?_
                  refine dg_calli hS hA1 hA (va_runV (As := []) (rest := [.int x_81]) F (c_d_quakeCloses l g D o S_82 (Z1X.keep Z1 M_82 (dk_dq rfl) (dk_dq rfl) (dk_dq rfl)) Z2_82 Z3_82 Z4_82 Z6_82 I_82 H.size) (cwV 0 hts (bw_V wB_1042 wB_1043 wB_1044 wB_610 wB_1041) rfl rfl rfl (by decide +kernel) ⟨Nat.le_of_ble_eq_true rfl, Nat.le_of_ble_eq_true rfl⟩) (dg_preV sX_0 rfl K ST hP hS hA1 hA) rfl rfl hl.1 rfl (lv_room (Nat.le_of_ble_eq_true rfl)) dX11_chance_54 ⟨Nat.le_of_ble_eq_true rfl, Nat.le_of_ble_eq_true rfl⟩) (fun x_89 S_90 hw_90 H locs hP hS => ?_)
                  obtain ⟨I_90, m_90, w_90_0, w_90_1, w_90_2, w_90_3, w_90_4, w_90_5, -⟩ := hw_90
                  have M_90 := dg_sm.tr M_82 m_90 (dk_dq rfl) (dk_dq rfl)
                  have w_90_0 : 0 ≤ (x_89).toInt ∧ (x_89).toInt ≤ 1 := w_90_0
                  refine dg_calli hS hA1 hA (va_runS (As := [.int x_89]) (rest := [.int x_81]) F (c_flag l g D o S_90 x_89 (by omega) I_90 H.size) (va_cwS 1 hts (bw_S wB_884 wB_885 wB_610 wB_883) rfl rfl rfl (by decide +kernel) ⟨Nat.le_of_ble_eq_true rfl, Nat.le_of_ble_eq_true rfl⟩) (dg_preS K ST hP hS hA1 hA) rfl rfl hl.1 rfl (lv_room (Nat.le_of_ble_eq_true rfl)) dX11_chance_57 ⟨Nat.le_of_ble_eq_true rfl, Nat.le_of_ble_eq_true rfl⟩) (fun x_91 S_92 hw_92 H locs hP hS => ?_)
                  rw [hw_92.1] at hP
                  obtain ⟨hq_92, w_92_0, w_92_1, -⟩ := hw_92
                  have w_92_0 : 0 ≤ (x_91).toInt ∧ (x_91).toInt ≤ 1 := w_92_0
                  refine lv_iadd hx hb dX11_chance_60 ?_
                  refine lv_topi (fun x_93 ex_93 => ?_)
                  refine lv_istore_n (lv' := [(2, .int x_93), (3, .int x_80), (0, .ref (o + 0)), (1, .int a1)]) hx hb dX11_chance_61 rfl hl (dk_dq rfl) rfl (fun ls hl => ?_)
                  refine lv_aload_n hx hb dX11_chance_62 rfl (lv_at hl 2 rfl) ?_
                  refine dg_calli hS hA1 hA (va_runV (As := []) (rest := []) F (c_d_passAndKeep l g D o S_90 (Z1X.keep (Z1X.keep Z1 M_82 (dk_dq rfl) (dk_dq rfl) (dk_dq rfl)) m_90 (dk_dq rfl) (dk_dq rfl) (dk_dq rfl)) (Z2X.keep Z2_82 m_90 (dk_dq rfl) (dk_dq rfl)) w_90_1 w_90_2 w_90_3 I_90 H.size) (cwV 0 hts (bw_V wB_1038 wB_1039 wB_1040 wB_610 wB_1037) rfl rfl rfl (by decide +kernel) ⟨Nat.le_of_ble_eq_true rfl, Nat.le_of_ble_eq_true rfl⟩) (dg_preV sX_0 rfl K ST hP hS hA1 hA) rfl rfl hl.1 rfl (lv_room (Nat.le_of_ble_eq_true rfl)) dX11_chance_63 ⟨Nat.le_of_ble_eq_true rfl, Nat.le_of_ble_eq_true rfl⟩) (fun x_94 S_95 hw_95 H locs hP hS => ?_)
                  obtain ⟨I_95, m_95, w_95_0, w_95_1, w_95_2, w_95_3, w_95_4, w_95_5, w_95_6, -⟩ := hw_95
                  have M_95 := dg_sm.tr M_90 m_95 (dk_dq rfl) (dk_dq rfl)
                  have w_95_0 : 0 ≤ (x_94).toInt ∧ (x_94).toInt ≤ 1 := w_95_0
                  refine lv_pop hx hb dX11_chance_66 rfl ?_
                  obtain ⟨x_96, ex_96⟩ : ∃ z, z = x_80 + 1 := ⟨_, rfl⟩
                  have jx_96 : (x_96).toInt = (x_80).toInt + 1 := by rw [ex_96]; exact dk_addT2 rfl (by decide +kernel) (by omega)
                  refine lv_iinc (v := x_96) (lv' := [(3, .int x_96), (2, .int x_93), (0, .ref (o + 0)), (1, .int a1)]) hx hb dX11_chance_67 hl (k := 1) rfl (by rw [ex_96]; rfl) (dk_dq rfl) rfl (fun ls hl => ?_)
                  refine lv_goto (tgt := 47) hx hb dX11_chance_70 (dk_dq rfl) ?_
                  have hf_96 := dk_full x_96
                  exact ih x_96 x_93 (by omega) (by first | exact mu_lt hmu (by omega) (by omega) | omega) S_95 I_95 M_95 (dg_FG.tr (dg_FG.tr G_82 w_90_4) w_95_5) (((m_95.1 221 2 _ sX_221 (dk_dq rfl)).trans (m_90.1 221 2 _ sX_221 (dk_dq rfl))).trans ff_82_2_221) (((m_95.1 221 3 _ sX_221 (dk_dq rfl)).trans (m_90.1 221 3 _ sX_221 (dk_dq rfl))).trans ff_82_3_221) (((m_95.1 229 4 _ sX_229 (dk_dq rfl)).trans (m_90.1 229 4 _ sX_229 (dk_dq rfl))).trans ff_82_4_229) w_95_1 w_95_2 w_95_3 w_95_4 (((m_95.2 184 _ sX_184 (dk_dq rfl)).1.trans (m_90.2 184 _ sX_184 (dk_dq rfl)).1).trans srel_82_0) (lp_l hF_1 (F_d_chance_p1 c_84 w_90_5.1 w_90_5.2 w_92_1 ex_93 w_95_6.1 ex_96)) _ _ hP hS _ (lv_sub hl [0, 1, 2, 3] rfl)
      have hz_98 : (0 : Int32).toInt = 0 := by decide +kernel
      have hz_99 : (0 : Int32).toInt = 0 := by decide +kernel
      have hz_100 : (0 : Int32).toInt = 0 := by decide +kernel
      exact L_83 ((2147483648 - ((0 : Int32)).toInt).toNat + 1) 0 0 (by decide +kernel) (by first | exact mu_lt hmu (by omega) (by omega) | omega) S_10 I_10 M_10 (dg_FG.tr w_4_6 (dg_FG.sm m_10 (dk_dq rfl))) ((m_10.1 221 2 _ sX_221 (dk_dq rfl)).trans f_y_5) ((m_10.1 221 3 _ sX_221 (dk_dq rfl)).trans f_y_6) ((m_10.1 229 4 _ sX_229 (dk_dq rfl)).trans f_y_7) (Z2X.keep (Z2X.keep Z2 m_4 (dk_dq rfl) (dk_dq rfl)) m_10 (dk_dq rfl) (dk_dq rfl)) w_10_0 (Z4X.keep w_4_4 m_10 (dg_FG.sm m_10 (dk_dq rfl)) (dk_dq rfl) (dk_dq rfl)) (Z6X.keep w_4_5 m_10 (dg_FG.sm m_10 (dk_dq rfl))) ((m_10.2 184 _ sX_184 (dk_dq rfl)).1.trans (m_4.2 184 _ sX_184 (dk_dq rfl)).1) (F_d_chance_p2 w_2_1 c_3 w_4_7 (zR_eq f_d_8) (zI_eq f_x_9) w_10_1) _ _ hP hS _ (lv_sub hl [0, 1, 2, 3] rfl)
  · have jc_3 := dk_eqc (k := 0) (by decide +kernel) c_3
    refine lv_aload_n hx hb dX11_chance_11 rfl (lv_at hl 0 rfl) ?_
    refine lv_iconst (v := 2) hx hb dX11_chance_12 (by decide +kernel) ?_
    have hz_101 : (2 : Int32).toInt = 2 := by decide +kernel
    refine dg_calli hS hA1 hA (va_runV (As := [.int 2]) (rest := []) F (c_d_none l g D o S 2 (by decide +kernel) Z1 Z2 Z3 Z4 Z6 I H.size) (cwV 1 hts (bw_V wB_920 wB_921 wB_922 wB_610 wB_919) rfl rfl rfl (by decide +kernel) ⟨Nat.le_of_ble_eq_true rfl, Nat.le_of_ble_eq_true rfl⟩) (dg_preV sX_0 rfl K ST hP hS hA1 hA) rfl rfl hl.1 rfl (lv_room (Nat.le_of_ble_eq_true rfl)) dX11_chance_13 ⟨Nat.le_of_ble_eq_true rfl, Nat.le_of_ble_eq_true rfl⟩) (fun x_102 S_103 hw_103 H locs hP hS => ?_)
    obtain ⟨I_103, m_103, w_103_0, w_103_1, -⟩ := hw_103
    have M_103 := dg_sm.tr M_0 m_103 (dk_dq rfl) (dk_dq rfl)
    have w_103_0 : (-1) ≤ (x_102).toInt ∧ (x_102).toInt ≤ (-1) := w_103_0
    refine W.widen (k := 0) (n := 0) (Nat.le_of_ble_eq_true rfl) (Nat.le_of_ble_eq_true rfl) ?_
    exact dg_iret hx hb hr hlocks rfl hP hS ⟨I_103, M_103, (m_hid.mk (Or.inl ⟨w_103_1.1, by first | omega | decide +kernel⟩)), (Z2X.keep Z2 m_103 (dk_dq rfl) (dk_dq rfl)), (Z3X.keep Z3 m_103 (dg_FG.sm m_103 (dk_dq rfl)) (dk_dq rfl)), (Z4X.keep Z4 m_103 (dg_FG.sm m_103 (dk_dq rfl)) (dk_dq rfl) (dk_dq rfl)), (Z6X.keep Z6 m_103 (dg_FG.sm m_103 (dk_dq rfl))), (dg_FG.sm m_103 (dk_dq rfl)), ⟨congrArg Prod.fst (Eq.symm (F_d_chance_p3 w_2_1 c_3 w_103_1.1 w_103_1.2)), congrArg Prod.snd (Eq.symm (F_d_chance_p3 w_2_1 c_3 w_103_1.1 w_103_1.2))⟩, trivial⟩ dX11_chance_16
noncomputable def F_d_hang_J1 (S : dg_S) (x_4 : Int32) (x_21 : Int32) (o : Nat) (a3 : Int32) : dg_S × Int32 := let x_47 : Int32 := S.2.1 4 (x_4 : Int32).toNatClampNeg; (if x_47 = x_21 then let S_49 : dg_S := F_d_beginAct o S; let y_50 : Int32 := zI S_49 221 2; let y_51 : Int32 := zI S_49 221 3; let y_52 : Int32 := zI S_49 229 4; (if a3 = (1 : Int32) then let S_61 : dg_S := dg_uf S_49 4 (upd (S_49.2.1 4) (x_4 : Int32).toNatClampNeg (254 : Int32)); (S_61, (1 : Int32)) else let S_55 : dg_S := dg_uf S_49 4 (upd (S_49.2.1 4) (x_4 : Int32).toNatClampNeg (255 : Int32)); (S_55, (1 : Int32))) else let S_68 : dg_S := (F_d_no o S (3 : Int32)).1; let x_67 : Int32 := (F_d_no o S (3 : Int32)).2; (S_68, x_67))
noncomputable def F_d_hang (o : Nat) (S : dg_S) (a1 : Int32) (a2 : Int32) (a3 : Int32) : dg_S × Int32 := let d_1 : Nat := zR o S 0 6; let x_2 : Int32 := zI S d_1 0; let x_3 : Int32 := zI S d_1 1; let x_4 : Int32 := F_g_placeOf o S d_1 a1 a2; (if x_4 = (-1 : Int32) then let S_9 : dg_S := (F_d_no o S (3 : Int32)).1; let x_8 : Int32 := (F_d_no o S (3 : Int32)).2; (S_9, x_8) else let x_10 : Int32 := zI S d_1 2; (if x_4 = x_10 then let S_14 : dg_S := (F_d_no o S (3 : Int32)).1; let x_13 : Int32 := (F_d_no o S (3 : Int32)).2; (S_14, x_13) else (if a3 < (0 : Int32) then let S_18 : dg_S := (F_d_no o S (3 : Int32)).1; let x_17 : Int32 := (F_d_no o S (3 : Int32)).2; (S_18, x_17) else (if a3 ≤ (1 : Int32) then (if a3 = (1 : Int32) then (F_d_hang_J1 S x_4 (255 : Int32) o a3) else (F_d_hang_J1 S x_4 (254 : Int32) o a3)) else let S_74 : dg_S := (F_d_no o S (3 : Int32)).1; let x_73 : Int32 := (F_d_no o S (3 : Int32)).2; (S_74, x_73)))))
theorem F_d_hang_p0 {o : Nat} {S : dg_S} {a1 : Int32} {a2 : Int32} {a3 : Int32} {S_9 : dg_S} {x_8 : Int32} {d_1 : Nat} {x_4 : Int32} (h0 : d_1 = zR o S 0 6) (h1 : x_4 = F_g_placeOf o S d_1 a1 a2) (h2 : x_4 = (-1 : Int32)) (h3 : S_9 = (F_d_no o S (3 : Int32)).1) (h4 : x_8 = (F_d_no o S (3 : Int32)).2) : F_d_hang o S a1 a2 a3 = (S_9, x_8) := by
  replace h0 := Eq.symm h0
  subst h0
  replace h1 := Eq.symm h1
  subst h1
  replace h3 := Eq.symm h3
  subst h3
  replace h4 := Eq.symm h4
  subst h4
  exact (Eq.trans (if_pos h2) rfl)
theorem F_d_hang_p1 {o : Nat} {S : dg_S} {a1 : Int32} {a2 : Int32} {a3 : Int32} {S_14 : dg_S} {x_13 : Int32} {d_1 : Nat} {x_4 : Int32} {x_10 : Int32} (h0 : d_1 = zR o S 0 6) (h1 : x_4 = F_g_placeOf o S d_1 a1 a2) (h2 : ¬ (x_4 = (-1 : Int32))) (h3 : x_10 = zI S d_1 2) (h4 : x_4 = x_10) (h5 : S_14 = (F_d_no o S (3 : Int32)).1) (h6 : x_13 = (F_d_no o S (3 : Int32)).2) : F_d_hang o S a1 a2 a3 = (S_14, x_13) := by
  replace h0 := Eq.symm h0
  subst h0
  replace h1 := Eq.symm h1
  subst h1
  replace h3 := Eq.symm h3
  subst h3
  replace h5 := Eq.symm h5
  subst h5
  replace h6 := Eq.symm h6
  subst h6
  exact (Eq.trans (if_neg h2) (Eq.trans (if_pos h4) rfl))
theorem F_d_hang_p2 {o : Nat} {S : dg_S} {a1 : Int32} {a2 : Int32} {a3 : Int32} {S_18 : dg_S} {x_17 : Int32} {d_1 : Nat} {x_4 : Int32} {x_10 : Int32} (h0 : d_1 = zR o S 0 6) (h1 : x_4 = F_g_placeOf o S d_1 a1 a2) (h2 : ¬ (x_4 = (-1 : Int32))) (h3 : x_10 = zI S d_1 2) (h4 : ¬ (x_4 = x_10)) (h5 : a3 < (0 : Int32)) (h6 : S_18 = (F_d_no o S (3 : Int32)).1) (h7 : x_17 = (F_d_no o S (3 : Int32)).2) : F_d_hang o S a1 a2 a3 = (S_18, x_17) := by
  replace h0 := Eq.symm h0
  subst h0
  replace h1 := Eq.symm h1
  subst h1
  replace h3 := Eq.symm h3
  subst h3
  replace h6 := Eq.symm h6
  subst h6
  replace h7 := Eq.symm h7
  subst h7
  exact (Eq.trans (if_neg h2) (Eq.trans (if_neg h4) (Eq.trans (if_pos h5) rfl)))
theorem F_d_hang_p3 {S : dg_S} {x_4 : Int32} {x_21 : Int32} {o : Nat} {a3 : Int32} {S_55 : dg_S} {x_47 : Int32} {S_49 : dg_S} (h0 : x_47 = S.2.1 4 (x_4 : Int32).toNatClampNeg) (h1 : x_47 = x_21) (h2 : S_49 = F_d_beginAct o S) (h3 : ¬ (a3 = (1 : Int32))) (h4 : S_55 = dg_uf S_49 4 (upd (S_49.2.1 4) (x_4 : Int32).toNatClampNeg (255 : Int32))) : F_d_hang_J1 S x_4 x_21 o a3 = (S_55, (1 : Int32)) := by
  replace h0 := Eq.symm h0
  subst h0
  replace h2 := Eq.symm h2
  subst h2
  replace h4 := Eq.symm h4
  subst h4
  exact (Eq.trans (if_pos h1) (Eq.trans (if_neg h3) rfl))
theorem F_d_hang_p4 {S : dg_S} {x_4 : Int32} {x_21 : Int32} {o : Nat} {a3 : Int32} {S_61 : dg_S} {x_47 : Int32} {S_49 : dg_S} (h0 : x_47 = S.2.1 4 (x_4 : Int32).toNatClampNeg) (h1 : x_47 = x_21) (h2 : S_49 = F_d_beginAct o S) (h3 : a3 = (1 : Int32)) (h4 : S_61 = dg_uf S_49 4 (upd (S_49.2.1 4) (x_4 : Int32).toNatClampNeg (254 : Int32))) : F_d_hang_J1 S x_4 x_21 o a3 = (S_61, (1 : Int32)) := by
  replace h0 := Eq.symm h0
  subst h0
  replace h2 := Eq.symm h2
  subst h2
  replace h4 := Eq.symm h4
  subst h4
  exact (Eq.trans (if_pos h1) (Eq.trans (if_pos h3) rfl))
theorem F_d_hang_p5 {S : dg_S} {x_4 : Int32} {x_21 : Int32} {o : Nat} {a3 : Int32} {S_68 : dg_S} {x_67 : Int32} {x_47 : Int32} (h0 : x_47 = S.2.1 4 (x_4 : Int32).toNatClampNeg) (h1 : ¬ (x_47 = x_21)) (h2 : S_68 = (F_d_no o S (3 : Int32)).1) (h3 : x_67 = (F_d_no o S (3 : Int32)).2) : F_d_hang_J1 S x_4 x_21 o a3 = (S_68, x_67) := by
  replace h0 := Eq.symm h0
  subst h0
  replace h2 := Eq.symm h2
  subst h2
  replace h3 := Eq.symm h3
  subst h3
  exact (Eq.trans (if_neg h1) rfl)
theorem F_d_hang_p6 {o : Nat} {S : dg_S} {a1 : Int32} {a2 : Int32} {a3 : Int32} {x_4 : Int32} {d_1 : Nat} {x_10 : Int32} (h0 : d_1 = zR o S 0 6) (h1 : x_4 = F_g_placeOf o S d_1 a1 a2) (h2 : ¬ (x_4 = (-1 : Int32))) (h3 : x_10 = zI S d_1 2) (h4 : ¬ (x_4 = x_10)) (h5 : ¬ (a3 < (0 : Int32))) (h6 : a3 ≤ (1 : Int32)) (h7 : ¬ (a3 = (1 : Int32))) : F_d_hang o S a1 a2 a3 = F_d_hang_J1 S x_4 (254 : Int32) o a3 := by
  replace h0 := Eq.symm h0
  subst h0
  replace h1 := Eq.symm h1
  subst h1
  replace h3 := Eq.symm h3
  subst h3
  exact (Eq.trans (if_neg h2) (Eq.trans (if_neg h4) (Eq.trans (if_neg h5) (Eq.trans (if_pos h6) (Eq.trans (if_neg h7) rfl)))))
theorem F_d_hang_p7 {o : Nat} {S : dg_S} {a1 : Int32} {a2 : Int32} {a3 : Int32} {x_4 : Int32} {d_1 : Nat} {x_10 : Int32} (h0 : d_1 = zR o S 0 6) (h1 : x_4 = F_g_placeOf o S d_1 a1 a2) (h2 : ¬ (x_4 = (-1 : Int32))) (h3 : x_10 = zI S d_1 2) (h4 : ¬ (x_4 = x_10)) (h5 : ¬ (a3 < (0 : Int32))) (h6 : a3 ≤ (1 : Int32)) (h7 : a3 = (1 : Int32)) : F_d_hang o S a1 a2 a3 = F_d_hang_J1 S x_4 (255 : Int32) o a3 := by
  replace h0 := Eq.symm h0
  subst h0
  replace h1 := Eq.symm h1
  subst h1
  replace h3 := Eq.symm h3
  subst h3
  exact (Eq.trans (if_neg h2) (Eq.trans (if_neg h4) (Eq.trans (if_neg h5) (Eq.trans (if_pos h6) (Eq.trans (if_pos h7) rfl)))))
theorem F_d_hang_p8 {o : Nat} {S : dg_S} {a1 : Int32} {a2 : Int32} {a3 : Int32} {S_74 : dg_S} {x_73 : Int32} {d_1 : Nat} {x_4 : Int32} {x_10 : Int32} (h0 : d_1 = zR o S 0 6) (h1 : x_4 = F_g_placeOf o S d_1 a1 a2) (h2 : ¬ (x_4 = (-1 : Int32))) (h3 : x_10 = zI S d_1 2) (h4 : ¬ (x_4 = x_10)) (h5 : ¬ (a3 < (0 : Int32))) (h6 : ¬ (a3 ≤ (1 : Int32))) (h7 : S_74 = (F_d_no o S (3 : Int32)).1) (h8 : x_73 = (F_d_no o S (3 : Int32)).2) : F_d_hang o S a1 a2 a3 = (S_74, x_73) := by
  replace h0 := Eq.symm h0
  subst h0
  replace h1 := Eq.symm h1
  subst h1
  replace h3 := Eq.symm h3
  subst h3
  replace h7 := Eq.symm h7
  subst h7
  replace h8 := Eq.symm h8
  subst h8
  exact (Eq.trans (if_neg h2) (Eq.trans (if_neg h4) (Eq.trans (if_neg h5) (Eq.trans (if_neg h6) rfl))))
set_option maxHeartbeats 8000000 in
set_option maxRecDepth 100000 in
theorem c_d_hang (l : Launch) (g : Nat → ClassId) (D : va_G) (o : Nat) (S : dg_S) (a1 : Int32) (a2 : Int32) (a3 : Int32) (Z1 : Z1X S) (Z2 : Z2X S) (Z3 : Z3X o S) (Z4 : Z4X S) (Z6 : Z6X S) (I : CX o S) (sz : Nat) : Met l yX11_hang (bw yX11_hang cX11_hang 6 (some .boolean)) ({ frames := 5, cells := 0, slots := 0, locals := 102 } : Room) (dk_Pc g D (dg_w g shX o rfX S) sz [.ref (o + 0), .int a1, .int a2, .int a3]) (va_Qi (fun (r : Int32) S' => CX o S' ∧ dg_sm shX [(3, 0), (3, 1), (10, 2), (10, 3), (43, 2), (43, 3), (44, 4)] [4, 5, 6, 7, 8, 9, 14, 15, 18] S S' ∧ (0 ≤ (r).toInt ∧ (r).toInt ≤ 1) ∧ (m_hid ((S' = (F_d_no o S (3 : Int32)).1 ∧ (r).toInt = 0) ∨ ((zI S' 221 2).toInt = 0 ∧ (zI S' 221 3).toInt = 0 ∧ (zI S' 229 4).toInt = 0 ∧ S'.2.1 184 = S.2.1 184 ∧ (r).toInt ≠ 0))) ∧ Z3X o S' ∧ Z4X S' ∧ Z6X S' ∧ dg_FG S S' ∧ (S' = (F_d_hang o S a1 a2 a3).1 ∧ r = (F_d_hang o S a1 a2 a3).2) ∧ True) (dg_B g D shX o rfX) (dg_A o shX.length sz)) 0 0 (dg_A o shX.length sz) := by
  refine dg_met (cc := cX11_hang) (maxL := 6) (ret := (some .boolean)) (dk_dq rfl) rfl (Nat.le_of_ble_eq_true rfl) ?_
  intro p e s m args below meth c A hAe harg hx hb hr hml hts hown hlocks hin hP K hS hA1 hA ST hsz ls hl
  rw [← hAe]
  have F : CallFix p m c cX11_hang 6 s args (bw yX11_hang cX11_hang 6 (some .boolean)) RX11 := ⟨hx, hb, hml, hown, hts⟩
  have hl : lv_has ls 6 [(0, .ref (o + 0)), (1, .int a1), (2, .int a2), (3, .int a3)] := hl
  have M_0 : dg_sm shX [(3, 0), (3, 1), (10, 2), (10, 3), (43, 2), (43, 3), (44, 4)] [4, 5, 6, 7, 8, 9, 14, 15, 18] S S := dg_sm.rf
  refine lv_aload_n hx hb dX11_hang_0 rfl (lv_at hl 0 rfl) ?_
  obtain ⟨d_1, hk_d_1, f_d_1⟩ := dg_I.one (i := 0) (k := 6) (d := 0) I sX_0 (by decide +kernel)
  have hk_d_1 : rX d_1 := hk_d_1
  refine dg_get (C := RX11) (T := TX11) (N := 13) hx hb hts (fun w h => bw_mem (wU_X11 w h)) hown K hP sX_0 rfl 6 (dk_dq rfl) (hts _ (bw_mem wB_286)) (fun _ h9 => h9) (v := .ref (o + d_1)) f_d_1 dX11_hang_1 ?_
  refine lv_iload_n hx hb dX11_hang_4 rfl (lv_at hl 1 rfl) ?_
  refine lv_iload_n hx hb dX11_hang_5 rfl (lv_at hl 2 rfl) ?_
  obtain ⟨x_2, f_x_2, b_x_2⟩ := dg_I.int (i := d_1) (k := 0) (lo := 0) (hi := 7) I (rX_0 d_1 hk_d_1) (by decide +kernel)
  obtain ⟨x_3, f_x_3, b_x_3⟩ := dg_I.int (i := d_1) (k := 1) (lo := 0) (hi := 7) I (rX_0 d_1 hk_d_1) (by decide +kernel)
  refine dg_calli hS hA1 hA (va_runV (As := [.int a1, .int a2]) (rest := []) F (c_g_placeOfR l g D o S d_1 hk_d_1 a1 a2 x_2 f_x_2 (by omega) x_3 f_x_3 (by omega) I s.heap.size) (cwV 2 hts (bw_V wB_880 wB_55 wB_56 wB_9 wB_53) rfl rfl rfl (by decide +kernel) ⟨Nat.le_of_ble_eq_true rfl, Nat.le_of_ble_eq_true rfl⟩) (dg_preV (rX_0 d_1 hk_d_1) rfl K ST hP hS hA1 hA) rfl rfl hl.1 rfl (lv_room (Nat.le_of_ble_eq_true rfl)) dX11_hang_6 ⟨Nat.le_of_ble_eq_true rfl, Nat.le_of_ble_eq_true rfl⟩) (fun x_4 S_5 hw_5 H locs hP hS => ?_)
  rw [hw_5.1] at hP
  obtain ⟨hq_5, w_5_0, w_5_1, w_5_2, -⟩ := hw_5
  have w_5_0 : ((-1) ≤ (x_4).toInt ∧ (x_4).toInt ≤ 62) ∧ ((x_4).toInt ≤ (-1) ∨ 8 ≤ (x_4).toInt) := w_5_0
  have w_5_1 : (0 ≤ (a1).toInt ∧ (a1).toInt < (x_2).toInt ∧ 0 ≤ (a2).toInt ∧ (a2).toInt < (x_3).toInt) → 8 ≤ (x_4).toInt := w_5_1
  refine lv_istore (lv' := [(4, .int x_4), (0, .ref (o + 0)), (1, .int a1), (2, .int a2), (3, .int a3)]) hx hb dX11_hang_9 hl (dk_dq rfl) rfl (fun ls hl => ?_)
  refine lv_iload hx hb dX11_hang_11 (lv_at hl 0 rfl) ?_
  refine lv_iconst (v := (-1)) hx hb dX11_hang_13 (by decide +kernel) ?_
  refine lv_icmp_eq (tgt := 38) hx hb dX11_hang_14 (dk_dq rfl) (fun c_6 => ?_) (fun c_6 => ?_)
  · have jc_6 := dk_eqc (k := (-1)) (by decide +kernel) c_6
    refine lv_aload_n hx hb dX11_hang_38 rfl (lv_at hl 1 rfl) ?_
    refine lv_iconst (v := 3) hx hb dX11_hang_39 (by decide +kernel) ?_
    have hz_7 : (3 : Int32).toInt = 3 := by decide +kernel
    refine dg_calli hS hA1 hA (va_runV (As := [.int 3]) (rest := []) F (c_d_no l g D o S 3 (by decide +kernel) Z1 Z2 Z3 Z4 Z6 I H.size) (cwV 1 hts (bw_V wB_924 wB_925 wB_926 wB_610 wB_923) rfl rfl rfl (by decide +kernel) ⟨Nat.le_of_ble_eq_true rfl, Nat.le_of_ble_eq_true rfl⟩) (dg_preV sX_0 rfl K ST hP hS hA1 hA) rfl rfl hl.1 rfl (lv_room (Nat.le_of_ble_eq_true rfl)) dX11_hang_40 ⟨Nat.le_of_ble_eq_true rfl, Nat.le_of_ble_eq_true rfl⟩) (fun x_8 S_9 hw_9 H locs hP hS => ?_)
    obtain ⟨I_9, m_9, w_9_0, w_9_1, -⟩ := hw_9
    have M_9 := dg_sm.tr M_0 m_9 (dk_dq rfl) (dk_dq rfl)
    have w_9_0 : 0 ≤ (x_8).toInt ∧ (x_8).toInt ≤ 0 := w_9_0
    refine W.widen (k := 0) (n := 0) (Nat.le_of_ble_eq_true rfl) (Nat.le_of_ble_eq_true rfl) ?_
    exact dg_iret hx hb hr hlocks (dk_znar2 (by omega)) hP hS ⟨I_9, M_9, (by omega), (m_hid.mk (Or.inl ⟨w_9_1.1, by first | omega | decide +kernel⟩)), (Z3X.keep Z3 m_9 (dg_FG.sm m_9 (dk_dq rfl)) (dk_dq rfl)), (Z4X.keep Z4 m_9 (dg_FG.sm m_9 (dk_dq rfl)) (dk_dq rfl) (dk_dq rfl)), (Z6X.keep Z6 m_9 (dg_FG.sm m_9 (dk_dq rfl))), (dg_FG.sm m_9 (dk_dq rfl)), ⟨congrArg Prod.fst (Eq.symm (F_d_hang_p0 (zR_eq f_d_1) w_5_2 c_6 w_9_1.1 w_9_1.2)), congrArg Prod.snd (Eq.symm (F_d_hang_p0 (zR_eq f_d_1) w_5_2 c_6 w_9_1.1 w_9_1.2))⟩, trivial⟩ dX11_hang_43
  · as_aux_lemma =>
      have jc_6 := dk_neqc (k := (-1)) (by decide +kernel) c_6
      refine lv_iload hx hb dX11_hang_17 (lv_at hl 0 rfl) ?_
      refine lv_aload_n hx hb dX11_hang_19 rfl (lv_at hl 1 rfl) ?_
      refine dg_get (C := RX11) (T := TX11) (N := 13) hx hb hts (fun w h => bw_mem (wU_X11 w h)) hown K hP sX_0 rfl 6 (dk_dq rfl) (hts _ (bw_mem wB_286)) (fun _ h9 => h9) (v := .ref (o + d_1)) f_d_1 dX11_hang_20 ?_
      obtain ⟨x_10, f_x_10, b_x_10⟩ := dg_I.int (i := d_1) (k := 2) (lo := (-1)) (hi := 63) I (rX_0 d_1 hk_d_1) (by decide +kernel)
      refine dg_get (C := RX2) (T := TX2) (N := 19) hx hb hts (fun w h => bw_mem (wU_X2 w h)) hown K hP (rX_0 d_1 hk_d_1) rfl 2 (dk_dq rfl) (hts _ (bw_mem wB_1045)) (fun _ h9 => h9) (v := .int x_10) f_x_10 dX11_hang_23 ?_
      refine lv_icmp_eq (tgt := 38) hx hb dX11_hang_26 (dk_dq rfl) (fun c_11 => ?_) (fun c_11 => ?_)
      · have jc_11 := dk_eqc (k := (x_10).toInt) rfl c_11
        refine lv_aload_n hx hb dX11_hang_38 rfl (lv_at hl 1 rfl) ?_
        refine lv_iconst (v := 3) hx hb dX11_hang_39 (by decide +kernel) ?_
        have hz_12 : (3 : Int32).toInt = 3 := by decide +kernel
        refine dg_calli hS hA1 hA (va_runV (As := [.int 3]) (rest := []) F (c_d_no l g D o S 3 (by decide +kernel) Z1 Z2 Z3 Z4 Z6 I H.size) (cwV 1 hts (bw_V wB_924 wB_925 wB_926 wB_610 wB_923) rfl rfl rfl (by decide +kernel) ⟨Nat.le_of_ble_eq_true rfl, Nat.le_of_ble_eq_true rfl⟩) (dg_preV sX_0 rfl K ST hP hS hA1 hA) rfl rfl hl.1 rfl (lv_room (Nat.le_of_ble_eq_true rfl)) dX11_hang_40 ⟨Nat.le_of_ble_eq_true rfl, Nat.le_of_ble_eq_true rfl⟩) (fun x_13 S_14 hw_14 H locs hP hS => ?_)
        obtain ⟨I_14, m_14, w_14_0, w_14_1, -⟩ := hw_14
        have M_14 := dg_sm.tr M_0 m_14 (dk_dq rfl) (dk_dq rfl)
        have w_14_0 : 0 ≤ (x_13).toInt ∧ (x_13).toInt ≤ 0 := w_14_0
        refine W.widen (k := 0) (n := 0) (Nat.le_of_ble_eq_true rfl) (Nat.le_of_ble_eq_true rfl) ?_
        exact dg_iret hx hb hr hlocks (dk_znar2 (by omega)) hP hS ⟨I_14, M_14, (by omega), (m_hid.mk (Or.inl ⟨w_14_1.1, by first | omega | decide +kernel⟩)), (Z3X.keep Z3 m_14 (dg_FG.sm m_14 (dk_dq rfl)) (dk_dq rfl)), (Z4X.keep Z4 m_14 (dg_FG.sm m_14 (dk_dq rfl)) (dk_dq rfl) (dk_dq rfl)), (Z6X.keep Z6 m_14 (dg_FG.sm m_14 (dk_dq rfl))), (dg_FG.sm m_14 (dk_dq rfl)), ⟨congrArg Prod.fst (Eq.symm (F_d_hang_p1 (zR_eq f_d_1) w_5_2 c_6 (zI_eq f_x_10) c_11 w_14_1.1 w_14_1.2)), congrArg Prod.snd (Eq.symm (F_d_hang_p1 (zR_eq f_d_1) w_5_2 c_6 (zI_eq f_x_10) c_11 w_14_1.1 w_14_1.2))⟩, trivial⟩ dX11_hang_43
      · as_aux_lemma =>
          have jc_11 := dk_neqc (k := (x_10).toInt) rfl c_11
          refine lv_iload_n hx hb dX11_hang_29 rfl (lv_at hl 4 rfl) ?_
          refine lv_if_lt (tgt := 38) hx hb dX11_hang_30 (dk_dq rfl) (fun c_15 => ?_) (fun c_15 => ?_)
          · have jc_15 := dk_ltc (k := 0) (by decide +kernel) c_15
            refine lv_aload_n hx hb dX11_hang_38 rfl (lv_at hl 1 rfl) ?_
            refine lv_iconst (v := 3) hx hb dX11_hang_39 (by decide +kernel) ?_
            have hz_16 : (3 : Int32).toInt = 3 := by decide +kernel
            refine dg_calli hS hA1 hA (va_runV (As := [.int 3]) (rest := []) F (c_d_no l g D o S 3 (by decide +kernel) Z1 Z2 Z3 Z4 Z6 I H.size) (cwV 1 hts (bw_V wB_924 wB_925 wB_926 wB_610 wB_923) rfl rfl rfl (by decide +kernel) ⟨Nat.le_of_ble_eq_true rfl, Nat.le_of_ble_eq_true rfl⟩) (dg_preV sX_0 rfl K ST hP hS hA1 hA) rfl rfl hl.1 rfl (lv_room (Nat.le_of_ble_eq_true rfl)) dX11_hang_40 ⟨Nat.le_of_ble_eq_true rfl, Nat.le_of_ble_eq_true rfl⟩) (fun x_17 S_18 hw_18 H locs hP hS => ?_)
            obtain ⟨I_18, m_18, w_18_0, w_18_1, -⟩ := hw_18
            have M_18 := dg_sm.tr M_0 m_18 (dk_dq rfl) (dk_dq rfl)
            have w_18_0 : 0 ≤ (x_17).toInt ∧ (x_17).toInt ≤ 0 := w_18_0
            refine W.widen (k := 0) (n := 0) (Nat.le_of_ble_eq_true rfl) (Nat.le_of_ble_eq_true rfl) ?_
            exact dg_iret hx hb hr hlocks (dk_znar2 (by omega)) hP hS ⟨I_18, M_18, (by omega), (m_hid.mk (Or.inl ⟨w_18_1.1, by first | omega | decide +kernel⟩)), (Z3X.keep Z3 m_18 (dg_FG.sm m_18 (dk_dq rfl)) (dk_dq rfl)), (Z4X.keep Z4 m_18 (dg_FG.sm m_18 (dk_dq rfl)) (dk_dq rfl) (dk_dq rfl)), (Z6X.keep Z6 m_18 (dg_FG.sm m_18 (dk_dq rfl))), (dg_FG.sm m_18 (dk_dq rfl)), ⟨congrArg Prod.fst (Eq.symm (F_d_hang_p2 (zR_eq f_d_1) w_5_2 c_6 (zI_eq f_x_10) c_11 c_15 w_18_1.1 w_18_1.2)), congrArg Prod.snd (Eq.symm (F_d_hang_p2 (zR_eq f_d_1) w_5_2 c_6 (zI_eq f_x_10) c_11 c_15 w_18_1.1 w_18_1.2))⟩, trivial⟩ dX11_hang_43
          · as_aux_lemma =>
              have jc_15 := dk_nltc (k := 0) (by decide +kernel) c_15
              refine lv_iload_n hx hb dX11_hang_33 rfl (lv_at hl 4 rfl) ?_
              refine lv_iconst (v := 1) hx hb dX11_hang_34 (by decide +kernel) ?_
              refine lv_icmp_le (tgt := 44) hx hb dX11_hang_35 (dk_dq rfl) (fun c_19 => ?_) (fun c_19 => ?_)
              · as_aux_lemma =>
                  have jc_19 := dk_lec (k := 1) (by decide +kernel) c_19
                  refine lv_iload_n hx hb dX11_hang_44 rfl (lv_at hl 4 rfl) ?_
                  refine lv_iconst (v := 1) hx hb dX11_hang_45 (by decide +kernel) ?_
                  have J_45 : ∀ (x_21 : Int32), (254 ≤ (x_21).toInt ∧ (x_21).toInt ≤ 255) → (F_d_hang o S a1 a2 a3 = F_d_hang_J1 S x_4 x_21 o a3) → ∀ (H : Heap) (locs : List Loc), va_P D vwCl (dg_w g shX o rfX S) H → va_S A s.heap H locs → ∀ ls : Array Slot, lv_has ls 6 [(4, .int x_4), (0, .ref (o + 0)), (1, .int a1), (2, .int a2), (3, .int a3)] → W p l e ({ frames := 5, cells := 0, slots := 0, locals := 102 } : Room) s m args below meth c H locs 0 0 (MQ below (va_Qi (fun (r : Int32) S' => CX o S' ∧ dg_sm shX [(3, 0), (3, 1), (10, 2), (10, 3), (43, 2), (43, 3), (44, 4)] [4, 5, 6, 7, 8, 9, 14, 15, 18] S S' ∧ (0 ≤ (r).toInt ∧ (r).toInt ≤ 1) ∧ (m_hid ((S' = (F_d_no o S (3 : Int32)).1 ∧ (r).toInt = 0) ∨ ((zI S' 221 2).toInt = 0 ∧ (zI S' 221 3).toInt = 0 ∧ (zI S' 229 4).toInt = 0 ∧ S'.2.1 184 = S.2.1 184 ∧ (r).toInt ≠ 0))) ∧ Z3X o S' ∧ Z4X S' ∧ Z6X S' ∧ dg_FG S S' ∧ (S' = (F_d_hang o S a1 a2 a3).1 ∧ r = (F_d_hang o S a1 a2 a3).2) ∧ True) (dg_B g D shX o rfX) A) args s 0 0 A) (F0 m 58 ls [.int x_21]) := by
                    as_aux_lemma =>
                      intro x_21 b_x_21 hF_1 H locs hP hS ls hl
                      refine lv_istore (lv' := [(5, .int x_21), (4, .int x_4), (0, .ref (o + 0)), (1, .int a1), (2, .int a2), (3, .int a3)]) hx hb dX11_hang_58 hl (dk_dq rfl) rfl (fun ls hl => ?_)
                      refine lv_aload_n hx hb dX11_hang_60 rfl (lv_at hl 2 rfl) ?_
                      refine dg_get (C := RX11) (T := TX11) (N := 13) hx hb hts (fun w h => bw_mem (wU_X11 w h)) hown K hP sX_0 rfl 1 (dk_dq rfl) (hts _ (bw_mem wB_287)) (fun _ h9 => h9) (v := .ref (o + 3)) (show S.1 0 1 = .ref (o + 3) from dg_I.rel (d := 3) I sX_0 (by decide +kernel)) dX11_hang_61 ?_
                      refine dg_get (C := RX5) (T := TX5) (N := 8) hx hb hts (fun w h => bw_mem (wU_X5 w h)) hown K hP (pX_0 3 (dk_dq rfl)) rfl 2 (dk_dq rfl) (hts _ (bw_mem wB_890)) (fun _ h9 => h9) (v := .ref (o + 4)) (show S.1 3 2 = .ref (o + 4) from dg_I.rel (d := 1) I (pX_0 3 (dk_dq rfl)) (by decide +kernel)) dX11_hang_64 ?_
                      refine lv_iload hx hb dX11_hang_67 (lv_at hl 1 rfl) ?_
                      have hin_46 : vp_in x_4 72 := (dk_inv2 (by omega))
                      refine dg_iald hx hb K hP (pX_1 3 (dk_dq rfl)) hin_46 dX11_hang_69 (fun x_47 ex_47 => ?_)
                      have b_x_47 := dg_cel_at (dg_I.cel (lo := 0) (hi := 255) I (pX_1 3 (dk_dq rfl)) (by decide +kernel) Z6) hin_46 ex_47
                      refine lv_iload hx hb dX11_hang_70 (lv_at hl 0 rfl) ?_
                      refine lv_icmp_eq (tgt := 81) hx hb dX11_hang_72 (dk_dq rfl) (fun c_48 => ?_) (fun c_48 => ?_)
                      · as_aux_lemma =>
                          have jc_48 := dk_eqc (k := (x_21).toInt) rfl c_48
                          refine lv_aload_n hx hb dX11_hang_81 rfl (lv_at hl 2 rfl) ?_
                          refine dg_callv hS hA1 hA (va_runV (As := []) (rest := []) F (c_d_beginAct l g D o S Z1 Z2 Z3 Z4 Z6 I H.size) (cwV 0 hts (bw_V wB_1034 wB_1035 wB_1036 wB_610 wB_1033) rfl rfl rfl (by decide +kernel) ⟨Nat.le_of_ble_eq_true rfl, Nat.le_of_ble_eq_true rfl⟩) (dg_preV sX_0 rfl K ST hP hS hA1 hA) rfl rfl hl.1 rfl (lv_room (Nat.le_of_ble_eq_true rfl)) dX11_hang_82 ⟨Nat.le_of_ble_eq_true rfl, Nat.le_of_ble_eq_true rfl⟩) (fun S_49 hw_49 H locs hP hS => ?_)
                          obtain ⟨I_49, m_49, w_49_0, w_49_1, w_49_2, w_49_3, w_49_4, w_49_5, w_49_6, w_49_7, -⟩ := hw_49
                          have M_49 := dg_sm.tr M_0 m_49 (dk_dq rfl) (dk_dq rfl)
                          obtain ⟨y_50, f_y_50, w_49_0⟩ := w_49_0
                          have w_49_0 : (y_50).toInt = 0 := w_49_0
                          obtain ⟨y_51, f_y_51, w_49_1⟩ := w_49_1
                          have w_49_1 : (y_51).toInt = 0 := w_49_1
                          obtain ⟨y_52, f_y_52, w_49_2⟩ := w_49_2
                          have w_49_2 : (y_52).toInt = 0 := w_49_2
                          have b_y_52 : 0 ≤ (y_52).toInt ∧ (y_52).toInt ≤ 1 := dg_I.intb (lo := 0) (hi := 1) I_49 sX_229 (by decide +kernel) f_y_52
                          refine lv_aload_n hx hb dX11_hang_85 rfl (lv_at hl 2 rfl) ?_
                          refine dg_get (C := RX11) (T := TX11) (N := 13) hx hb hts (fun w h => bw_mem (wU_X11 w h)) hown K hP sX_0 rfl 1 (dk_dq rfl) (hts _ (bw_mem wB_287)) (fun _ h9 => h9) (v := .ref (o + 3)) (show S_49.1 0 1 = .ref (o + 3) from dg_I.rel (d := 3) I_49 sX_0 (by decide +kernel)) dX11_hang_86 ?_
                          refine dg_get (C := RX5) (T := TX5) (N := 8) hx hb hts (fun w h => bw_mem (wU_X5 w h)) hown K hP (pX_0 3 (dk_dq rfl)) rfl 2 (dk_dq rfl) (hts _ (bw_mem wB_890)) (fun _ h9 => h9) (v := .ref (o + 4)) (show S_49.1 3 2 = .ref (o + 4) from dg_I.rel (d := 1) I_49 (pX_0 3 (dk_dq rfl)) (by decide +kernel)) dX11_hang_89 ?_
                          refine lv_iload hx hb dX11_hang_92 (lv_at hl 1 rfl) ?_
                          refine lv_iload_n hx hb dX11_hang_94 rfl (lv_at hl 5 rfl) ?_
                          refine lv_iconst (v := 1) hx hb dX11_hang_95 (by decide +kernel) ?_
                          refine lv_icmp_ne (tgt := 105) hx hb dX11_hang_96 (dk_dq rfl) (fun c_53 => ?_) (fun c_53 => ?_)
                          · have jc_53 := dk_neqc (k := 1) (by decide +kernel) c_53
                            refine lv_sipush (v := 255) hx hb dX11_hang_105 (by decide +kernel) ?_
                            have hin_54 : vp_in x_4 72 := (dk_inv2 (by omega))
                            have hz_56 : (255 : Int32).toInt = 255 := by decide +kernel
                            refine dg_iast hx hb K hP hS hA1 (pX_1 3 (dk_dq rfl)) hin_54 dX11_hang_108 (fun S_55 e_55 H locs hP hS => ?_)
                            have I_55 := dg_I.ufc (lo := 0) (hi := 255) I_49 e_55 (pX_1 3 (dk_dq rfl)) (by decide +kernel) hin_54 (show dg_Pcel _ _ from by unfold dg_Pcel; omega) (by omega)
                            have gs_55 := dg_FG.st e_55 (by omega)
                            have M_55 := dg_sm.uf M_49 e_55 (pX_1 3 (dk_dq rfl)) (dk_dq rfl)
                            refine lv_iconst (v := 1) hx hb dX11_hang_109 (by decide +kernel) ?_
                            have hz_57 : (1 : Int32).toInt = 1 := by decide +kernel
                            have hz_58 : (1 : Int32).toInt = 1 := by decide +kernel
                            have hz_59 : (1 : Int32).toInt = 1 := by decide +kernel
                            refine W.widen (k := 0) (n := 0) (Nat.le_of_ble_eq_true rfl) (Nat.le_of_ble_eq_true rfl) ?_
                            exact dg_iret hx hb hr hlocks (by decide +kernel) hP hS ⟨I_55, M_55, (by decide +kernel), (m_hid.mk (Or.inr ⟨(by rw [← zI_eq ((dg_uf_F e_55 221 2).trans f_y_50)]; first | omega | decide +kernel), (by rw [← zI_eq ((dg_uf_F e_55 221 3).trans f_y_51)]; first | omega | decide +kernel), (by rw [← zI_eq ((dg_uf_F e_55 229 4).trans f_y_52)]; first | omega | decide +kernel), ((dg_uf_ne e_55 (dk_dq rfl)).trans (m_49.2 184 _ sX_184 (dk_dq rfl)).1), by first | omega | decide +kernel⟩)), (Z3X.keep w_49_3 (dg_sm.uf (WF := []) (WA := [4]) dg_sm.rf e_55 (pX_1 3 (dk_dq rfl)) (dk_dq rfl)) gs_55 (dk_dq rfl)), (Z4X.keep w_49_4 (dg_sm.uf (WF := []) (WA := [4]) dg_sm.rf e_55 (pX_1 3 (dk_dq rfl)) (dk_dq rfl)) gs_55 (dk_dq rfl) (dk_dq rfl)), (Z6X.keep w_49_5 (dg_sm.uf (WF := []) (WA := [4]) dg_sm.rf e_55 (pX_1 3 (dk_dq rfl)) (dk_dq rfl)) gs_55), (dg_FG.tr w_49_6 gs_55), ⟨congrArg Prod.fst (Eq.symm (Eq.trans hF_1 (F_d_hang_p3 (Eq.symm ex_47.symm) c_48 w_49_7 c_53 e_55))), congrArg Prod.snd (Eq.symm (Eq.trans hF_1 (F_d_hang_p3 (Eq.symm ex_47.symm) c_48 w_49_7 c_53 e_55)))⟩, trivial⟩ dX11_hang_110
                          · have jc_53 := dk_eqc (k := 1) (by decide +kernel) c_53
                            refine lv_sipush (v := 254) hx hb dX11_hang_99 (by decide +kernel) ?_
                            refine lv_goto (tgt := 108) hx hb dX11_hang_102 (dk_dq rfl) ?_
                            have hin_60 : vp_in x_4 72 := (dk_inv2 (by omega))
                            have hz_62 : (254 : Int32).toInt = 254 := by decide +kernel
                            refine dg_iast hx hb K hP hS hA1 (pX_1 3 (dk_dq rfl)) hin_60 dX11_hang_108 (fun S_61 e_61 H locs hP hS => ?_)
                            have I_61 := dg_I.ufc (lo := 0) (hi := 255) I_49 e_61 (pX_1 3 (dk_dq rfl)) (by decide +kernel) hin_60 (show dg_Pcel _ _ from by unfold dg_Pcel; omega) (by omega)
                            have gs_61 := dg_FG.st e_61 (by omega)
                            have M_61 := dg_sm.uf M_49 e_61 (pX_1 3 (dk_dq rfl)) (dk_dq rfl)
                            refine lv_iconst (v := 1) hx hb dX11_hang_109 (by decide +kernel) ?_
                            have hz_63 : (1 : Int32).toInt = 1 := by decide +kernel
                            have hz_64 : (1 : Int32).toInt = 1 := by decide +kernel
                            have hz_65 : (1 : Int32).toInt = 1 := by decide +kernel
                            refine W.widen (k := 0) (n := 0) (Nat.le_of_ble_eq_true rfl) (Nat.le_of_ble_eq_true rfl) ?_
                            exact dg_iret hx hb hr hlocks (by decide +kernel) hP hS ⟨I_61, M_61, (by decide +kernel), (m_hid.mk (Or.inr ⟨(by rw [← zI_eq ((dg_uf_F e_61 221 2).trans f_y_50)]; first | omega | decide +kernel), (by rw [← zI_eq ((dg_uf_F e_61 221 3).trans f_y_51)]; first | omega | decide +kernel), (by rw [← zI_eq ((dg_uf_F e_61 229 4).trans f_y_52)]; first | omega | decide +kernel), ((dg_uf_ne e_61 (dk_dq rfl)).trans (m_49.2 184 _ sX_184 (dk_dq rfl)).1), by first | omega | decide +kernel⟩)), (Z3X.keep w_49_3 (dg_sm.uf (WF := []) (WA := [4]) dg_sm.rf e_61 (pX_1 3 (dk_dq rfl)) (dk_dq rfl)) gs_61 (dk_dq rfl)), (Z4X.keep w_49_4 (dg_sm.uf (WF := []) (WA := [4]) dg_sm.rf e_61 (pX_1 3 (dk_dq rfl)) (dk_dq rfl)) gs_61 (dk_dq rfl) (dk_dq rfl)), (Z6X.keep w_49_5 (dg_sm.uf (WF := []) (WA := [4]) dg_sm.rf e_61 (pX_1 3 (dk_dq rfl)) (dk_dq rfl)) gs_61), (dg_FG.tr w_49_6 gs_61), ⟨congrArg Prod.fst (Eq.symm (Eq.trans hF_1 (F_d_hang_p4 (Eq.symm ex_47.symm) c_48 w_49_7 c_53 e_61))), congrArg Prod.snd (Eq.symm (Eq.trans hF_1 (F_d_hang_p4 (Eq.symm ex_47.symm) c_48 w_49_7 c_53 e_61)))⟩, trivial⟩ dX11_hang_110
                      · have jc_48 := dk_neqc (k := (x_21).toInt) rfl c_48
                        refine lv_aload_n hx hb dX11_hang_75 rfl (lv_at hl 2 rfl) ?_
                        refine lv_iconst (v := 3) hx hb dX11_hang_76 (by decide +kernel) ?_
                        have hz_66 : (3 : Int32).toInt = 3 := by decide +kernel
                        refine dg_calli hS hA1 hA (va_runV (As := [.int 3]) (rest := []) F (c_d_no l g D o S 3 (by decide +kernel) Z1 Z2 Z3 Z4 Z6 I H.size) (cwV 1 hts (bw_V wB_924 wB_925 wB_926 wB_610 wB_923) rfl rfl rfl (by decide +kernel) ⟨Nat.le_of_ble_eq_true rfl, Nat.le_of_ble_eq_true rfl⟩) (dg_preV sX_0 rfl K ST hP hS hA1 hA) rfl rfl hl.1 rfl (lv_room (Nat.le_of_ble_eq_true rfl)) dX11_hang_77 ⟨Nat.le_of_ble_eq_true rfl, Nat.le_of_ble_eq_true rfl⟩) (fun x_67 S_68 hw_68 H locs hP hS => ?_)
                        obtain ⟨I_68, m_68, w_68_0, w_68_1, -⟩ := hw_68
                        have M_68 := dg_sm.tr M_0 m_68 (dk_dq rfl) (dk_dq rfl)
                        have w_68_0 : 0 ≤ (x_67).toInt ∧ (x_67).toInt ≤ 0 := w_68_0
                        refine W.widen (k := 0) (n := 0) (Nat.le_of_ble_eq_true rfl) (Nat.le_of_ble_eq_true rfl) ?_
                        exact dg_iret hx hb hr hlocks (dk_znar2 (by omega)) hP hS ⟨I_68, M_68, (by omega), (m_hid.mk (Or.inl ⟨w_68_1.1, by first | omega | decide +kernel⟩)), (Z3X.keep Z3 m_68 (dg_FG.sm m_68 (dk_dq rfl)) (dk_dq rfl)), (Z4X.keep Z4 m_68 (dg_FG.sm m_68 (dk_dq rfl)) (dk_dq rfl) (dk_dq rfl)), (Z6X.keep Z6 m_68 (dg_FG.sm m_68 (dk_dq rfl))), (dg_FG.sm m_68 (dk_dq rfl)), ⟨congrArg Prod.fst (Eq.symm (Eq.trans hF_1 (F_d_hang_p5 (Eq.symm ex_47.symm) c_48 w_68_1.1 w_68_1.2))), congrArg Prod.snd (Eq.symm (Eq.trans hF_1 (F_d_hang_p5 (Eq.symm ex_47.symm) c_48 w_68_1.1 w_68_1.2)))⟩, trivial⟩ dX11_hang_80
                  refine lv_icmp_ne (tgt := 55) hx hb dX11_hang_46 (dk_dq rfl) (fun c_69 => ?_) (fun c_69 => ?_)
                  · have jc_69 := dk_neqc (k := 1) (by decide +kernel) c_69
                    refine lv_sipush (v := 254) hx hb dX11_hang_55 (by decide +kernel) ?_
                    have hz_70 : (254 : Int32).toInt = 254 := by decide +kernel
                    exact J_45 254 (by decide +kernel) (F_d_hang_p6 (zR_eq f_d_1) w_5_2 c_6 (zI_eq f_x_10) c_11 c_15 c_19 c_69) _ _ hP hS _ (lv_sub hl [0, 1, 2, 3, 4] rfl)
                  · have jc_69 := dk_eqc (k := 1) (by decide +kernel) c_69
                    refine lv_sipush (v := 255) hx hb dX11_hang_49 (by decide +kernel) ?_
                    refine lv_goto (tgt := 58) hx hb dX11_hang_52 (dk_dq rfl) ?_
                    have hz_71 : (255 : Int32).toInt = 255 := by decide +kernel
                    exact J_45 255 (by decide +kernel) (F_d_hang_p7 (zR_eq f_d_1) w_5_2 c_6 (zI_eq f_x_10) c_11 c_15 c_19 c_69) _ _ hP hS _ (lv_sub hl [0, 1, 2, 3, 4] rfl)
              · have jc_19 := dk_nlec (k := 1) (by decide +kernel) c_19
                refine lv_aload_n hx hb dX11_hang_38 rfl (lv_at hl 1 rfl) ?_
                refine lv_iconst (v := 3) hx hb dX11_hang_39 (by decide +kernel) ?_
                have hz_72 : (3 : Int32).toInt = 3 := by decide +kernel
                refine dg_calli hS hA1 hA (va_runV (As := [.int 3]) (rest := []) F (c_d_no l g D o S 3 (by decide +kernel) Z1 Z2 Z3 Z4 Z6 I H.size) (cwV 1 hts (bw_V wB_924 wB_925 wB_926 wB_610 wB_923) rfl rfl rfl (by decide +kernel) ⟨Nat.le_of_ble_eq_true rfl, Nat.le_of_ble_eq_true rfl⟩) (dg_preV sX_0 rfl K ST hP hS hA1 hA) rfl rfl hl.1 rfl (lv_room (Nat.le_of_ble_eq_true rfl)) dX11_hang_40 ⟨Nat.le_of_ble_eq_true rfl, Nat.le_of_ble_eq_true rfl⟩) (fun x_73 S_74 hw_74 H locs hP hS => ?_)
                obtain ⟨I_74, m_74, w_74_0, w_74_1, -⟩ := hw_74
                have M_74 := dg_sm.tr M_0 m_74 (dk_dq rfl) (dk_dq rfl)
                have w_74_0 : 0 ≤ (x_73).toInt ∧ (x_73).toInt ≤ 0 := w_74_0
                refine W.widen (k := 0) (n := 0) (Nat.le_of_ble_eq_true rfl) (Nat.le_of_ble_eq_true rfl) ?_
                exact dg_iret hx hb hr hlocks (dk_znar2 (by omega)) hP hS ⟨I_74, M_74, (by omega), (m_hid.mk (Or.inl ⟨w_74_1.1, by first | omega | decide +kernel⟩)), (Z3X.keep Z3 m_74 (dg_FG.sm m_74 (dk_dq rfl)) (dk_dq rfl)), (Z4X.keep Z4 m_74 (dg_FG.sm m_74 (dk_dq rfl)) (dk_dq rfl) (dk_dq rfl)), (Z6X.keep Z6 m_74 (dg_FG.sm m_74 (dk_dq rfl))), (dg_FG.sm m_74 (dk_dq rfl)), ⟨congrArg Prod.fst (Eq.symm (F_d_hang_p8 (zR_eq f_d_1) w_5_2 c_6 (zI_eq f_x_10) c_11 c_15 c_19 w_74_1.1 w_74_1.2)), congrArg Prod.snd (Eq.symm (F_d_hang_p8 (zR_eq f_d_1) w_5_2 c_6 (zI_eq f_x_10) c_11 c_15 c_19 w_74_1.1 w_74_1.2))⟩, trivial⟩ dX11_hang_43
noncomputable def F_d_send_J1 (o : Nat) (S : dg_S) (a1 : Int32) (a2 : Int32) (x_4 : Int32) : dg_S × Int32 := let S_44 : dg_S := F_d_beginAct o S; let y_45 : Int32 := zI S_44 221 2; let y_46 : Int32 := zI S_44 221 3; let y_47 : Int32 := zI S_44 229 4; let S_49 : dg_S := dg_uf S_44 6 (upd (S_44.2.1 6) (a1 : Int32).toNatClampNeg a2); let S_51 : dg_S := dg_uf S_49 7 (upd (S_49.2.1 7) (a1 : Int32).toNatClampNeg x_4); (S_51, (1 : Int32))
noncomputable def F_d_send (o : Nat) (S : dg_S) (a1 : Int32) (a2 : Int32) (a3 : Int32) (a4 : Int32) : dg_S × Int32 := let d_1 : Nat := zR o S 0 6; let x_2 : Int32 := zI S d_1 0; let x_3 : Int32 := zI S d_1 1; let x_4 : Int32 := F_g_placeOf o S d_1 a3 a4; (if x_4 = (-1 : Int32) then let S_9 : dg_S := (F_d_no o S (3 : Int32)).1; let x_8 : Int32 := (F_d_no o S (3 : Int32)).2; (S_9, x_8) else let x_10 : Int32 := zI S d_1 8; let x_11 : Int32 := F_g_hasPlanRow o S d_1 a1; (if x_11 = (0 : Int32) then let S_16 : dg_S := (F_d_no o S (3 : Int32)).1; let x_15 : Int32 := (F_d_no o S (3 : Int32)).2; (S_16, x_15) else let x_17 : Int32 := zI S d_1 6; let x_18 : Int32 := F_g_hasMiner o S d_1 a2; (if x_18 = (0 : Int32) then let S_66 : dg_S := (F_d_no o S (3 : Int32)).1; let x_65 : Int32 := (F_d_no o S (3 : Int32)).2; (S_66, x_65) else let x_22 : Int32 := S.2.1 6 (a1 : Int32).toNatClampNeg; (if x_22 = a2 then let x_59 : Int32 := S.2.1 7 (a1 : Int32).toNatClampNeg; (if x_59 = x_4 then let S_63 : dg_S := (F_d_no o S (3 : Int32)).1; let x_62 : Int32 := (F_d_no o S (3 : Int32)).2; (S_63, x_62) else (F_d_send_J1 o S a1 a2 x_4)) else (F_d_send_J1 o S a1 a2 x_4)))))
theorem F_d_send_p0 {o : Nat} {S : dg_S} {a1 : Int32} {a2 : Int32} {a3 : Int32} {a4 : Int32} {S_9 : dg_S} {x_8 : Int32} {d_1 : Nat} {x_4 : Int32} (h0 : d_1 = zR o S 0 6) (h1 : x_4 = F_g_placeOf o S d_1 a3 a4) (h2 : x_4 = (-1 : Int32)) (h3 : S_9 = (F_d_no o S (3 : Int32)).1) (h4 : x_8 = (F_d_no o S (3 : Int32)).2) : F_d_send o S a1 a2 a3 a4 = (S_9, x_8) := by
  replace h0 := Eq.symm h0
  subst h0
  replace h1 := Eq.symm h1
  subst h1
  replace h3 := Eq.symm h3
  subst h3
  replace h4 := Eq.symm h4
  subst h4
  exact (Eq.trans (if_pos h2) rfl)
theorem F_d_send_p1 {o : Nat} {S : dg_S} {a1 : Int32} {a2 : Int32} {a3 : Int32} {a4 : Int32} {S_16 : dg_S} {x_15 : Int32} {d_1 : Nat} {x_4 : Int32} {x_11 : Int32} (h0 : d_1 = zR o S 0 6) (h1 : x_4 = F_g_placeOf o S d_1 a3 a4) (h2 : ¬ (x_4 = (-1 : Int32))) (h3 : x_11 = F_g_hasPlanRow o S d_1 a1) (h4 : x_11 = (0 : Int32)) (h5 : S_16 = (F_d_no o S (3 : Int32)).1) (h6 : x_15 = (F_d_no o S (3 : Int32)).2) : F_d_send o S a1 a2 a3 a4 = (S_16, x_15) := by
  replace h0 := Eq.symm h0
  subst h0
  replace h1 := Eq.symm h1
  subst h1
  replace h3 := Eq.symm h3
  subst h3
  replace h5 := Eq.symm h5
  subst h5
  replace h6 := Eq.symm h6
  subst h6
  exact (Eq.trans (if_neg h2) (Eq.trans (if_pos h4) rfl))
theorem F_d_send_p2 {o : Nat} {S : dg_S} {a1 : Int32} {a2 : Int32} {x_4 : Int32} {S_51 : dg_S} {S_44 : dg_S} {S_49 : dg_S} (h0 : S_44 = F_d_beginAct o S) (h1 : S_49 = dg_uf S_44 6 (upd (S_44.2.1 6) (a1 : Int32).toNatClampNeg a2)) (h2 : S_51 = dg_uf S_49 7 (upd (S_49.2.1 7) (a1 : Int32).toNatClampNeg x_4)) : F_d_send_J1 o S a1 a2 x_4 = (S_51, (1 : Int32)) := by
  replace h0 := Eq.symm h0
  subst h0
  replace h1 := Eq.symm h1
  subst h1
  replace h2 := Eq.symm h2
  subst h2
  exact rfl
theorem F_d_send_p3 {o : Nat} {S : dg_S} {a1 : Int32} {a2 : Int32} {a3 : Int32} {a4 : Int32} {x_4 : Int32} {d_1 : Nat} {x_11 : Int32} {x_18 : Int32} {x_22 : Int32} (h0 : d_1 = zR o S 0 6) (h1 : x_4 = F_g_placeOf o S d_1 a3 a4) (h2 : ¬ (x_4 = (-1 : Int32))) (h3 : x_11 = F_g_hasPlanRow o S d_1 a1) (h4 : ¬ (x_11 = (0 : Int32))) (h5 : x_18 = F_g_hasMiner o S d_1 a2) (h6 : ¬ (x_18 = (0 : Int32))) (h7 : x_22 = S.2.1 6 (a1 : Int32).toNatClampNeg) (h8 : ¬ (x_22 = a2)) : F_d_send o S a1 a2 a3 a4 = F_d_send_J1 o S a1 a2 x_4 := by
  replace h0 := Eq.symm h0
  subst h0
  replace h1 := Eq.symm h1
  subst h1
  replace h3 := Eq.symm h3
  subst h3
  replace h5 := Eq.symm h5
  subst h5
  replace h7 := Eq.symm h7
  subst h7
  exact (Eq.trans (if_neg h2) (Eq.trans (if_neg h4) (Eq.trans (if_neg h6) (Eq.trans (if_neg h8) rfl))))
theorem F_d_send_p4 {o : Nat} {S : dg_S} {a1 : Int32} {a2 : Int32} {a3 : Int32} {a4 : Int32} {x_4 : Int32} {d_1 : Nat} {x_11 : Int32} {x_18 : Int32} {x_22 : Int32} {x_59 : Int32} (h0 : d_1 = zR o S 0 6) (h1 : x_4 = F_g_placeOf o S d_1 a3 a4) (h2 : ¬ (x_4 = (-1 : Int32))) (h3 : x_11 = F_g_hasPlanRow o S d_1 a1) (h4 : ¬ (x_11 = (0 : Int32))) (h5 : x_18 = F_g_hasMiner o S d_1 a2) (h6 : ¬ (x_18 = (0 : Int32))) (h7 : x_22 = S.2.1 6 (a1 : Int32).toNatClampNeg) (h8 : x_22 = a2) (h9 : x_59 = S.2.1 7 (a1 : Int32).toNatClampNeg) (h10 : ¬ (x_59 = x_4)) : F_d_send o S a1 a2 a3 a4 = F_d_send_J1 o S a1 a2 x_4 := by
  replace h0 := Eq.symm h0
  subst h0
  replace h1 := Eq.symm h1
  subst h1
  replace h3 := Eq.symm h3
  subst h3
  replace h5 := Eq.symm h5
  subst h5
  replace h7 := Eq.symm h7
  subst h7
  replace h9 := Eq.symm h9
  subst h9
  exact (Eq.trans (if_neg h2) (Eq.trans (if_neg h4) (Eq.trans (if_neg h6) (Eq.trans (if_pos h8) (Eq.trans (if_neg h10) rfl)))))
theorem F_d_send_p5 {o : Nat} {S : dg_S} {a1 : Int32} {a2 : Int32} {a3 : Int32} {a4 : Int32} {S_63 : dg_S} {x_62 : Int32} {d_1 : Nat} {x_4 : Int32} {x_11 : Int32} {x_18 : Int32} {x_22 : Int32} {x_59 : Int32} (h0 : d_1 = zR o S 0 6) (h1 : x_4 = F_g_placeOf o S d_1 a3 a4) (h2 : ¬ (x_4 = (-1 : Int32))) (h3 : x_11 = F_g_hasPlanRow o S d_1 a1) (h4 : ¬ (x_11 = (0 : Int32))) (h5 : x_18 = F_g_hasMiner o S d_1 a2) (h6 : ¬ (x_18 = (0 : Int32))) (h7 : x_22 = S.2.1 6 (a1 : Int32).toNatClampNeg) (h8 : x_22 = a2) (h9 : x_59 = S.2.1 7 (a1 : Int32).toNatClampNeg) (h10 : x_59 = x_4) (h11 : S_63 = (F_d_no o S (3 : Int32)).1) (h12 : x_62 = (F_d_no o S (3 : Int32)).2) : F_d_send o S a1 a2 a3 a4 = (S_63, x_62) := by
  replace h0 := Eq.symm h0
  subst h0
  replace h1 := Eq.symm h1
  subst h1
  replace h3 := Eq.symm h3
  subst h3
  replace h5 := Eq.symm h5
  subst h5
  replace h7 := Eq.symm h7
  subst h7
  replace h9 := Eq.symm h9
  subst h9
  replace h11 := Eq.symm h11
  subst h11
  replace h12 := Eq.symm h12
  subst h12
  exact (Eq.trans (if_neg h2) (Eq.trans (if_neg h4) (Eq.trans (if_neg h6) (Eq.trans (if_pos h8) (Eq.trans (if_pos h10) rfl)))))
theorem F_d_send_p6 {o : Nat} {S : dg_S} {a1 : Int32} {a2 : Int32} {a3 : Int32} {a4 : Int32} {S_66 : dg_S} {x_65 : Int32} {d_1 : Nat} {x_4 : Int32} {x_11 : Int32} {x_18 : Int32} (h0 : d_1 = zR o S 0 6) (h1 : x_4 = F_g_placeOf o S d_1 a3 a4) (h2 : ¬ (x_4 = (-1 : Int32))) (h3 : x_11 = F_g_hasPlanRow o S d_1 a1) (h4 : ¬ (x_11 = (0 : Int32))) (h5 : x_18 = F_g_hasMiner o S d_1 a2) (h6 : x_18 = (0 : Int32)) (h7 : S_66 = (F_d_no o S (3 : Int32)).1) (h8 : x_65 = (F_d_no o S (3 : Int32)).2) : F_d_send o S a1 a2 a3 a4 = (S_66, x_65) := by
  replace h0 := Eq.symm h0
  subst h0
  replace h1 := Eq.symm h1
  subst h1
  replace h3 := Eq.symm h3
  subst h3
  replace h5 := Eq.symm h5
  subst h5
  replace h7 := Eq.symm h7
  subst h7
  replace h8 := Eq.symm h8
  subst h8
  exact (Eq.trans (if_neg h2) (Eq.trans (if_neg h4) (Eq.trans (if_pos h6) rfl)))
set_option maxHeartbeats 8000000 in
set_option maxRecDepth 100000 in
theorem c_d_send (l : Launch) (g : Nat → ClassId) (D : va_G) (o : Nat) (S : dg_S) (a1 : Int32) (a2 : Int32) (a3 : Int32) (a4 : Int32) (Z1 : Z1X S) (Z2 : Z2X S) (Z3 : Z3X o S) (Z4 : Z4X S) (Z6 : Z6X S) (I : CX o S) (sz : Nat) : Met l yX11_send (bw yX11_send cX11_send 6 (some .boolean)) ({ frames := 5, cells := 0, slots := 0, locals := 102 } : Room) (dk_Pc g D (dg_w g shX o rfX S) sz [.ref (o + 0), .int a1, .int a2, .int a3, .int a4]) (va_Qi (fun (r : Int32) S' => CX o S' ∧ dg_sm shX [(3, 0), (3, 1), (10, 2), (10, 3), (43, 2), (43, 3), (44, 4)] [4, 5, 6, 7, 8, 9, 14, 15, 18] S S' ∧ (0 ≤ (r).toInt ∧ (r).toInt ≤ 1) ∧ (m_hid ((S' = (F_d_no o S (3 : Int32)).1 ∧ (r).toInt = 0) ∨ ((zI S' 221 2).toInt = 0 ∧ (zI S' 221 3).toInt = 0 ∧ (zI S' 229 4).toInt = 0 ∧ S'.2.1 184 = S.2.1 184 ∧ (r).toInt ≠ 0))) ∧ Z3X o S' ∧ Z4X S' ∧ Z6X S' ∧ dg_FG S S' ∧ (S' = (F_d_send o S a1 a2 a3 a4).1 ∧ r = (F_d_send o S a1 a2 a3 a4).2) ∧ True) (dg_B g D shX o rfX) (dg_A o shX.length sz)) 0 0 (dg_A o shX.length sz) := by
  refine dg_met (cc := cX11_send) (maxL := 6) (ret := (some .boolean)) (dk_dq rfl) rfl (Nat.le_of_ble_eq_true rfl) ?_
  intro p e s m args below meth c A hAe harg hx hb hr hml hts hown hlocks hin hP K hS hA1 hA ST hsz ls hl
  rw [← hAe]
  have F : CallFix p m c cX11_send 6 s args (bw yX11_send cX11_send 6 (some .boolean)) RX11 := ⟨hx, hb, hml, hown, hts⟩
  have hl : lv_has ls 6 [(0, .ref (o + 0)), (1, .int a1), (2, .int a2), (3, .int a3), (4, .int a4)] := hl
  have M_0 : dg_sm shX [(3, 0), (3, 1), (10, 2), (10, 3), (43, 2), (43, 3), (44, 4)] [4, 5, 6, 7, 8, 9, 14, 15, 18] S S := dg_sm.rf
  refine lv_aload_n hx hb dX11_send_0 rfl (lv_at hl 0 rfl) ?_
  obtain ⟨d_1, hk_d_1, f_d_1⟩ := dg_I.one (i := 0) (k := 6) (d := 0) I sX_0 (by decide +kernel)
  have hk_d_1 : rX d_1 := hk_d_1
  refine dg_get (C := RX11) (T := TX11) (N := 13) hx hb hts (fun w h => bw_mem (wU_X11 w h)) hown K hP sX_0 rfl 6 (dk_dq rfl) (hts _ (bw_mem wB_286)) (fun _ h9 => h9) (v := .ref (o + d_1)) f_d_1 dX11_send_1 ?_
  refine lv_iload_n hx hb dX11_send_4 rfl (lv_at hl 3 rfl) ?_
  refine lv_iload hx hb dX11_send_5 (lv_at hl 4 rfl) ?_
  obtain ⟨x_2, f_x_2, b_x_2⟩ := dg_I.int (i := d_1) (k := 0) (lo := 0) (hi := 7) I (rX_0 d_1 hk_d_1) (by decide +kernel)
  obtain ⟨x_3, f_x_3, b_x_3⟩ := dg_I.int (i := d_1) (k := 1) (lo := 0) (hi := 7) I (rX_0 d_1 hk_d_1) (by decide +kernel)
  refine dg_calli hS hA1 hA (va_runV (As := [.int a3, .int a4]) (rest := []) F (c_g_placeOfR l g D o S d_1 hk_d_1 a3 a4 x_2 f_x_2 (by omega) x_3 f_x_3 (by omega) I s.heap.size) (cwV 2 hts (bw_V wB_880 wB_55 wB_56 wB_9 wB_53) rfl rfl rfl (by decide +kernel) ⟨Nat.le_of_ble_eq_true rfl, Nat.le_of_ble_eq_true rfl⟩) (dg_preV (rX_0 d_1 hk_d_1) rfl K ST hP hS hA1 hA) rfl rfl hl.1 rfl (lv_room (Nat.le_of_ble_eq_true rfl)) dX11_send_7 ⟨Nat.le_of_ble_eq_true rfl, Nat.le_of_ble_eq_true rfl⟩) (fun x_4 S_5 hw_5 H locs hP hS => ?_)
  rw [hw_5.1] at hP
  obtain ⟨hq_5, w_5_0, w_5_1, w_5_2, -⟩ := hw_5
  have w_5_0 : ((-1) ≤ (x_4).toInt ∧ (x_4).toInt ≤ 62) ∧ ((x_4).toInt ≤ (-1) ∨ 8 ≤ (x_4).toInt) := w_5_0
  have w_5_1 : (0 ≤ (a3).toInt ∧ (a3).toInt < (x_2).toInt ∧ 0 ≤ (a4).toInt ∧ (a4).toInt < (x_3).toInt) → 8 ≤ (x_4).toInt := w_5_1
  refine lv_istore (lv' := [(5, .int x_4), (0, .ref (o + 0)), (1, .int a1), (2, .int a2), (3, .int a3), (4, .int a4)]) hx hb dX11_send_10 hl (dk_dq rfl) rfl (fun ls hl => ?_)
  refine lv_iload hx hb dX11_send_12 (lv_at hl 0 rfl) ?_
  refine lv_iconst (v := (-1)) hx hb dX11_send_14 (by decide +kernel) ?_
  refine lv_icmp_eq (tgt := 40) hx hb dX11_send_15 (dk_dq rfl) (fun c_6 => ?_) (fun c_6 => ?_)
  · have jc_6 := dk_eqc (k := (-1)) (by decide +kernel) c_6
    refine lv_aload_n hx hb dX11_send_40 rfl (lv_at hl 1 rfl) ?_
    refine lv_iconst (v := 3) hx hb dX11_send_41 (by decide +kernel) ?_
    have hz_7 : (3 : Int32).toInt = 3 := by decide +kernel
    refine dg_calli hS hA1 hA (va_runV (As := [.int 3]) (rest := []) F (c_d_no l g D o S 3 (by decide +kernel) Z1 Z2 Z3 Z4 Z6 I H.size) (cwV 1 hts (bw_V wB_924 wB_925 wB_926 wB_610 wB_923) rfl rfl rfl (by decide +kernel) ⟨Nat.le_of_ble_eq_true rfl, Nat.le_of_ble_eq_true rfl⟩) (dg_preV sX_0 rfl K ST hP hS hA1 hA) rfl rfl hl.1 rfl (lv_room (Nat.le_of_ble_eq_true rfl)) dX11_send_42 ⟨Nat.le_of_ble_eq_true rfl, Nat.le_of_ble_eq_true rfl⟩) (fun x_8 S_9 hw_9 H locs hP hS => ?_)
    obtain ⟨I_9, m_9, w_9_0, w_9_1, -⟩ := hw_9
    have M_9 := dg_sm.tr M_0 m_9 (dk_dq rfl) (dk_dq rfl)
    have w_9_0 : 0 ≤ (x_8).toInt ∧ (x_8).toInt ≤ 0 := w_9_0
    refine W.widen (k := 0) (n := 0) (Nat.le_of_ble_eq_true rfl) (Nat.le_of_ble_eq_true rfl) ?_
    exact dg_iret hx hb hr hlocks (dk_znar2 (by omega)) hP hS ⟨I_9, M_9, (by omega), (m_hid.mk (Or.inl ⟨w_9_1.1, by first | omega | decide +kernel⟩)), (Z3X.keep Z3 m_9 (dg_FG.sm m_9 (dk_dq rfl)) (dk_dq rfl)), (Z4X.keep Z4 m_9 (dg_FG.sm m_9 (dk_dq rfl)) (dk_dq rfl) (dk_dq rfl)), (Z6X.keep Z6 m_9 (dg_FG.sm m_9 (dk_dq rfl))), (dg_FG.sm m_9 (dk_dq rfl)), ⟨congrArg Prod.fst (Eq.symm (F_d_send_p0 (zR_eq f_d_1) w_5_2 c_6 w_9_1.1 w_9_1.2)), congrArg Prod.snd (Eq.symm (F_d_send_p0 (zR_eq f_d_1) w_5_2 c_6 w_9_1.1 w_9_1.2))⟩, trivial⟩ dX11_send_45
  · as_aux_lemma =>
      have jc_6 := dk_neqc (k := (-1)) (by decide +kernel) c_6
      refine lv_aload_n hx hb dX11_send_18 rfl (lv_at hl 1 rfl) ?_
      refine dg_get (C := RX11) (T := TX11) (N := 13) hx hb hts (fun w h => bw_mem (wU_X11 w h)) hown K hP sX_0 rfl 6 (dk_dq rfl) (hts _ (bw_mem wB_286)) (fun _ h9 => h9) (v := .ref (o + d_1)) f_d_1 dX11_send_19 ?_
      refine lv_iload_n hx hb dX11_send_22 rfl (lv_at hl 2 rfl) ?_
      obtain ⟨x_10, f_x_10, b_x_10⟩ := dg_I.int (i := d_1) (k := 8) (lo := 0) (hi := 16) I (rX_0 d_1 hk_d_1) (by decide +kernel)
      refine dg_calli hS hA1 hA (va_runV (As := [.int a1]) (rest := []) F (c_g_hasPlanRow l g D o S d_1 hk_d_1 a1 x_10 f_x_10 (by omega) I H.size) (cwV 1 hts (bw_V wB_967 wB_968 wB_969 wB_9 wB_966) rfl rfl rfl (by decide +kernel) ⟨Nat.le_of_ble_eq_true rfl, Nat.le_of_ble_eq_true rfl⟩) (dg_preV (rX_0 d_1 hk_d_1) rfl K ST hP hS hA1 hA) rfl rfl hl.1 rfl (lv_room (Nat.le_of_ble_eq_true rfl)) dX11_send_23 ⟨Nat.le_of_ble_eq_true rfl, Nat.le_of_ble_eq_true rfl⟩) (fun x_11 S_12 hw_12 H locs hP hS => ?_)
      rw [hw_12.1] at hP
      obtain ⟨hq_12, w_12_0, w_12_1, w_12_2, -⟩ := hw_12
      have w_12_0 : 0 ≤ (x_11).toInt ∧ (x_11).toInt ≤ 1 := w_12_0
      have w_12_1 : (x_11).toInt = 1 ↔ (0 ≤ (a1).toInt ∧ (a1).toInt < (x_10).toInt) := w_12_1
      refine lv_if_eq (tgt := 40) hx hb dX11_send_26 (dk_dq rfl) (fun c_13 => ?_) (fun c_13 => ?_)
      · have jc_13 := dk_eqc (k := 0) (by decide +kernel) c_13
        refine lv_aload_n hx hb dX11_send_40 rfl (lv_at hl 1 rfl) ?_
        refine lv_iconst (v := 3) hx hb dX11_send_41 (by decide +kernel) ?_
        have hz_14 : (3 : Int32).toInt = 3 := by decide +kernel
        refine dg_calli hS hA1 hA (va_runV (As := [.int 3]) (rest := []) F (c_d_no l g D o S 3 (by decide +kernel) Z1 Z2 Z3 Z4 Z6 I H.size) (cwV 1 hts (bw_V wB_924 wB_925 wB_926 wB_610 wB_923) rfl rfl rfl (by decide +kernel) ⟨Nat.le_of_ble_eq_true rfl, Nat.le_of_ble_eq_true rfl⟩) (dg_preV sX_0 rfl K ST hP hS hA1 hA) rfl rfl hl.1 rfl (lv_room (Nat.le_of_ble_eq_true rfl)) dX11_send_42 ⟨Nat.le_of_ble_eq_true rfl, Nat.le_of_ble_eq_true rfl⟩) (fun x_15 S_16 hw_16 H locs hP hS => ?_)
        obtain ⟨I_16, m_16, w_16_0, w_16_1, -⟩ := hw_16
        have M_16 := dg_sm.tr M_0 m_16 (dk_dq rfl) (dk_dq rfl)
        have w_16_0 : 0 ≤ (x_15).toInt ∧ (x_15).toInt ≤ 0 := w_16_0
        refine W.widen (k := 0) (n := 0) (Nat.le_of_ble_eq_true rfl) (Nat.le_of_ble_eq_true rfl) ?_
        exact dg_iret hx hb hr hlocks (dk_znar2 (by omega)) hP hS ⟨I_16, M_16, (by omega), (m_hid.mk (Or.inl ⟨w_16_1.1, by first | omega | decide +kernel⟩)), (Z3X.keep Z3 m_16 (dg_FG.sm m_16 (dk_dq rfl)) (dk_dq rfl)), (Z4X.keep Z4 m_16 (dg_FG.sm m_16 (dk_dq rfl)) (dk_dq rfl) (dk_dq rfl)), (Z6X.keep Z6 m_16 (dg_FG.sm m_16 (dk_dq rfl))), (dg_FG.sm m_16 (dk_dq rfl)), ⟨congrArg Prod.fst (Eq.symm (F_d_send_p1 (zR_eq f_d_1) w_5_2 c_6 w_12_2 c_13 w_16_1.1 w_16_1.2)), congrArg Prod.snd (Eq.symm (F_d_send_p1 (zR_eq f_d_1) w_5_2 c_6 w_12_2 c_13 w_16_1.1 w_16_1.2))⟩, trivial⟩ dX11_send_45
      · as_aux_lemma =>
          have jc_13 := dk_neqc (k := 0) (by decide +kernel) c_13
          refine lv_aload_n hx hb dX11_send_29 rfl (lv_at hl 1 rfl) ?_
          refine dg_get (C := RX11) (T := TX11) (N := 13) hx hb hts (fun w h => bw_mem (wU_X11 w h)) hown K hP sX_0 rfl 6 (dk_dq rfl) (hts _ (bw_mem wB_286)) (fun _ h9 => h9) (v := .ref (o + d_1)) f_d_1 dX11_send_30 ?_
          refine lv_iload_n hx hb dX11_send_33 rfl (lv_at hl 3 rfl) ?_
          obtain ⟨x_17, f_x_17, b_x_17⟩ := dg_I.int (i := d_1) (k := 6) (lo := 0) (hi := 6) I (rX_0 d_1 hk_d_1) (by decide +kernel)
          refine dg_calli hS hA1 hA (va_runV (As := [.int a2]) (rest := []) F (c_g_hasMiner l g D o S d_1 hk_d_1 a2 x_17 f_x_17 (by omega) I H.size) (cwV 1 hts (bw_V wB_963 wB_964 wB_965 wB_9 wB_962) rfl rfl rfl (by decide +kernel) ⟨Nat.le_of_ble_eq_true rfl, Nat.le_of_ble_eq_true rfl⟩) (dg_preV (rX_0 d_1 hk_d_1) rfl K ST hP hS hA1 hA) rfl rfl hl.1 rfl (lv_room (Nat.le_of_ble_eq_true rfl)) dX11_send_34 ⟨Nat.le_of_ble_eq_true rfl, Nat.le_of_ble_eq_true rfl⟩) (fun x_18 S_19 hw_19 H locs hP hS => ?_)
          rw [hw_19.1] at hP
          obtain ⟨hq_19, w_19_0, w_19_1, w_19_2, -⟩ := hw_19
          have w_19_0 : 0 ≤ (x_18).toInt ∧ (x_18).toInt ≤ 1 := w_19_0
          have w_19_1 : (x_18).toInt = 1 ↔ (0 ≤ (a2).toInt ∧ (a2).toInt < (x_17).toInt) := w_19_1
          refine lv_if_ne (tgt := 46) hx hb dX11_send_37 (dk_dq rfl) (fun c_20 => ?_) (fun c_20 => ?_)
          · as_aux_lemma =>
              have jc_20 := dk_neqc (k := 0) (by decide +kernel) c_20
              refine lv_aload_n hx hb dX11_send_46 rfl (lv_at hl 1 rfl) ?_
              refine dg_get (C := RX11) (T := TX11) (N := 13) hx hb hts (fun w h => bw_mem (wU_X11 w h)) hown K hP sX_0 rfl 1 (dk_dq rfl) (hts _ (bw_mem wB_287)) (fun _ h9 => h9) (v := .ref (o + 3)) (show S.1 0 1 = .ref (o + 3) from dg_I.rel (d := 3) I sX_0 (by decide +kernel)) dX11_send_47 ?_
              refine dg_get (C := RX5) (T := TX5) (N := 8) hx hb hts (fun w h => bw_mem (wU_X5 w h)) hown K hP (pX_0 3 (dk_dq rfl)) rfl 4 (dk_dq rfl) (hts _ (bw_mem wB_970)) (fun _ h9 => h9) (v := .ref (o + 6)) (show S.1 3 4 = .ref (o + 6) from dg_I.rel (d := 3) I (pX_0 3 (dk_dq rfl)) (by decide +kernel)) dX11_send_50 ?_
              refine lv_iload_n hx hb dX11_send_53 rfl (lv_at hl 2 rfl) ?_
              have hin_21 : vp_in a1 16 := (dk_inv2 (by omega))
              refine dg_iald hx hb K hP (pX_3 3 (dk_dq rfl)) hin_21 dX11_send_54 (fun x_22 ex_22 => ?_)
              have b_x_22 := dk_all_at (dg_I.row (lo := 0) (hi := 5) I (pX_3 3 (dk_dq rfl)) (by decide +kernel)) hin_21 ex_22
              refine lv_iload_n hx hb dX11_send_55 rfl (lv_at hl 3 rfl) ?_
              have J_43 : (F_d_send o S a1 a2 a3 a4 = F_d_send_J1 o S a1 a2 x_4) → ∀ (H : Heap) (locs : List Loc), va_P D vwCl (dg_w g shX o rfX S) H → va_S A s.heap H locs → ∀ ls : Array Slot, lv_has ls 6 [(5, .int x_4), (0, .ref (o + 0)), (1, .int a1), (2, .int a2), (3, .int a3), (4, .int a4)] → W p l e ({ frames := 5, cells := 0, slots := 0, locals := 102 } : Room) s m args below meth c H locs 0 0 (MQ below (va_Qi (fun (r : Int32) S' => CX o S' ∧ dg_sm shX [(3, 0), (3, 1), (10, 2), (10, 3), (43, 2), (43, 3), (44, 4)] [4, 5, 6, 7, 8, 9, 14, 15, 18] S S' ∧ (0 ≤ (r).toInt ∧ (r).toInt ≤ 1) ∧ (m_hid ((S' = (F_d_no o S (3 : Int32)).1 ∧ (r).toInt = 0) ∨ ((zI S' 221 2).toInt = 0 ∧ (zI S' 221 3).toInt = 0 ∧ (zI S' 229 4).toInt = 0 ∧ S'.2.1 184 = S.2.1 184 ∧ (r).toInt ≠ 0))) ∧ Z3X o S' ∧ Z4X S' ∧ Z6X S' ∧ dg_FG S S' ∧ (S' = (F_d_send o S a1 a2 a3 a4).1 ∧ r = (F_d_send o S a1 a2 a3 a4).2) ∧ True) (dg_B g D shX o rfX) A) args s 0 0 A) (F0 m 79 ls []) := by
                as_aux_lemma =>
                  intro hF_1 H locs hP hS ls hl
                  refine lv_aload_n hx hb dX11_send_79 rfl (lv_at hl 1 rfl) ?_
                  refine dg_callv hS hA1 hA (va_runV (As := []) (rest := []) F (c_d_beginAct l g D o S Z1 Z2 Z3 Z4 Z6 I H.size) (cwV 0 hts (bw_V wB_1034 wB_1035 wB_1036 wB_610 wB_1033) rfl rfl rfl (by decide +kernel) ⟨Nat.le_of_ble_eq_true rfl, Nat.le_of_ble_eq_true rfl⟩) (dg_preV sX_0 rfl K ST hP hS hA1 hA) rfl rfl hl.1 rfl (lv_room (Nat.le_of_ble_eq_true rfl)) dX11_send_80 ⟨Nat.le_of_ble_eq_true rfl, Nat.le_of_ble_eq_true rfl⟩) (fun S_44 hw_44 H locs hP hS => ?_)
                  obtain ⟨I_44, m_44, w_44_0, w_44_1, w_44_2, w_44_3, w_44_4, w_44_5, w_44_6, w_44_7, -⟩ := hw_44
                  have M_44 := dg_sm.tr M_0 m_44 (dk_dq rfl) (dk_dq rfl)
                  obtain ⟨y_45, f_y_45, w_44_0⟩ := w_44_0
                  have w_44_0 : (y_45).toInt = 0 := w_44_0
                  obtain ⟨y_46, f_y_46, w_44_1⟩ := w_44_1
                  have w_44_1 : (y_46).toInt = 0 := w_44_1
                  obtain ⟨y_47, f_y_47, w_44_2⟩ := w_44_2
                  have w_44_2 : (y_47).toInt = 0 := w_44_2
                  have b_y_47 : 0 ≤ (y_47).toInt ∧ (y_47).toInt ≤ 1 := dg_I.intb (lo := 0) (hi := 1) I_44 sX_229 (by decide +kernel) f_y_47
                  refine lv_aload_n hx hb dX11_send_83 rfl (lv_at hl 1 rfl) ?_
                  refine dg_get (C := RX11) (T := TX11) (N := 13) hx hb hts (fun w h => bw_mem (wU_X11 w h)) hown K hP sX_0 rfl 1 (dk_dq rfl) (hts _ (bw_mem wB_287)) (fun _ h9 => h9) (v := .ref (o + 3)) (show S_44.1 0 1 = .ref (o + 3) from dg_I.rel (d := 3) I_44 sX_0 (by decide +kernel)) dX11_send_84 ?_
                  refine dg_get (C := RX5) (T := TX5) (N := 8) hx hb hts (fun w h => bw_mem (wU_X5 w h)) hown K hP (pX_0 3 (dk_dq rfl)) rfl 4 (dk_dq rfl) (hts _ (bw_mem wB_970)) (fun _ h9 => h9) (v := .ref (o + 6)) (show S_44.1 3 4 = .ref (o + 6) from dg_I.rel (d := 3) I_44 (pX_0 3 (dk_dq rfl)) (by decide +kernel)) dX11_send_87 ?_
                  refine lv_iload_n hx hb dX11_send_90 rfl (lv_at hl 2 rfl) ?_
                  refine lv_iload_n hx hb dX11_send_91 rfl (lv_at hl 3 rfl) ?_
                  have hin_48 : vp_in a1 16 := (dk_inv2 (by omega))
                  refine dg_iast hx hb K hP hS hA1 (pX_3 3 (dk_dq rfl)) hin_48 dX11_send_92 (fun S_49 e_49 H locs hP hS => ?_)
                  have I_49 := dg_I.ufu (lo := 0) (hi := 5) I_44 e_49 (pX_3 3 (dk_dq rfl)) (by decide +kernel) (show 0 ≤ (a2).toInt ∧ (a2).toInt ≤ 5 from (by omega))
                  have M_49 := dg_sm.uf M_44 e_49 (pX_3 3 (dk_dq rfl)) (dk_dq rfl)
                  refine lv_aload_n hx hb dX11_send_93 rfl (lv_at hl 1 rfl) ?_
                  refine dg_get (C := RX11) (T := TX11) (N := 13) hx hb hts (fun w h => bw_mem (wU_X11 w h)) hown K hP sX_0 rfl 1 (dk_dq rfl) (hts _ (bw_mem wB_287)) (fun _ h9 => h9) (v := .ref (o + 3)) (show S_49.1 0 1 = .ref (o + 3) from dg_I.rel (d := 3) I_49 sX_0 (by decide +kernel)) dX11_send_94 ?_
                  refine dg_get (C := RX5) (T := TX5) (N := 8) hx hb hts (fun w h => bw_mem (wU_X5 w h)) hown K hP (pX_0 3 (dk_dq rfl)) rfl 5 (dk_dq rfl) (hts _ (bw_mem wB_971)) (fun _ h9 => h9) (v := .ref (o + 7)) (show S_49.1 3 5 = .ref (o + 7) from dg_I.rel (d := 4) I_49 (pX_0 3 (dk_dq rfl)) (by decide +kernel)) dX11_send_97 ?_
                  refine lv_iload_n hx hb dX11_send_100 rfl (lv_at hl 2 rfl) ?_
                  refine lv_iload hx hb dX11_send_101 (lv_at hl 0 rfl) ?_
                  have hin_50 : vp_in a1 16 := (dk_inv2 (by omega))
                  refine dg_iast hx hb K hP hS hA1 (pX_4 3 (dk_dq rfl)) hin_50 dX11_send_103 (fun S_51 e_51 H locs hP hS => ?_)
                  have I_51 := dg_I.ufu (lo := 0) (hi := 63) I_49 e_51 (pX_4 3 (dk_dq rfl)) (by decide +kernel) (show 0 ≤ (x_4).toInt ∧ (x_4).toInt ≤ 63 from (by omega))
                  have M_51 := dg_sm.uf M_49 e_51 (pX_4 3 (dk_dq rfl)) (dk_dq rfl)
                  refine lv_iconst (v := 1) hx hb dX11_send_104 (by decide +kernel) ?_
                  have hz_52 : (1 : Int32).toInt = 1 := by decide +kernel
                  have hz_53 : (1 : Int32).toInt = 1 := by decide +kernel
                  have hz_54 : (1 : Int32).toInt = 1 := by decide +kernel
                  refine W.widen (k := 0) (n := 0) (Nat.le_of_ble_eq_true rfl) (Nat.le_of_ble_eq_true rfl) ?_
                  exact dg_iret hx hb hr hlocks (by decide +kernel) hP hS ⟨I_51, M_51, (by decide +kernel), (m_hid.mk (Or.inr ⟨(by rw [← zI_eq (((dg_uf_F e_51 221 2).trans (dg_uf_F e_49 221 2)).trans f_y_45)]; first | omega | decide +kernel), (by rw [← zI_eq (((dg_uf_F e_51 221 3).trans (dg_uf_F e_49 221 3)).trans f_y_46)]; first | omega | decide +kernel), (by rw [← zI_eq (((dg_uf_F e_51 229 4).trans (dg_uf_F e_49 229 4)).trans f_y_47)]; first | omega | decide +kernel), ((dg_uf_ne e_51 (dk_dq rfl)).trans ((dg_uf_ne e_49 (dk_dq rfl)).trans (m_44.2 184 _ sX_184 (dk_dq rfl)).1)), by first | omega | decide +kernel⟩)), (Z3X.keep (Z3X.keep w_44_3 (dg_sm.uf (WF := []) (WA := [6]) dg_sm.rf e_49 (pX_3 3 (dk_dq rfl)) (dk_dq rfl)) (dg_FG.uf e_49 (pX_3 3 (dk_dq rfl)) (dk_dq rfl)) (dk_dq rfl)) (dg_sm.uf (WF := []) (WA := [7]) dg_sm.rf e_51 (pX_4 3 (dk_dq rfl)) (dk_dq rfl)) (dg_FG.uf e_51 (pX_4 3 (dk_dq rfl)) (dk_dq rfl)) (dk_dq rfl)), (Z4X.keep (Z4X.keep w_44_4 (dg_sm.uf (WF := []) (WA := [6]) dg_sm.rf e_49 (pX_3 3 (dk_dq rfl)) (dk_dq rfl)) (dg_FG.uf e_49 (pX_3 3 (dk_dq rfl)) (dk_dq rfl)) (dk_dq rfl) (dk_dq rfl)) (dg_sm.uf (WF := []) (WA := [7]) dg_sm.rf e_51 (pX_4 3 (dk_dq rfl)) (dk_dq rfl)) (dg_FG.uf e_51 (pX_4 3 (dk_dq rfl)) (dk_dq rfl)) (dk_dq rfl) (dk_dq rfl)), (Z6X.keep (Z6X.keep w_44_5 (dg_sm.uf (WF := []) (WA := [6]) dg_sm.rf e_49 (pX_3 3 (dk_dq rfl)) (dk_dq rfl)) (dg_FG.uf e_49 (pX_3 3 (dk_dq rfl)) (dk_dq rfl))) (dg_sm.uf (WF := []) (WA := [7]) dg_sm.rf e_51 (pX_4 3 (dk_dq rfl)) (dk_dq rfl)) (dg_FG.uf e_51 (pX_4 3 (dk_dq rfl)) (dk_dq rfl))), (dg_FG.tr (dg_FG.tr w_44_6 (dg_FG.uf e_49 (pX_3 3 (dk_dq rfl)) (dk_dq rfl))) (dg_FG.uf e_51 (pX_4 3 (dk_dq rfl)) (dk_dq rfl))), ⟨congrArg Prod.fst (Eq.symm (Eq.trans hF_1 (F_d_send_p2 w_44_7 e_49 e_51))), congrArg Prod.snd (Eq.symm (Eq.trans hF_1 (F_d_send_p2 w_44_7 e_49 e_51)))⟩, trivial⟩ dX11_send_105
              refine lv_icmp_ne (tgt := 79) hx hb dX11_send_56 (dk_dq rfl) (fun c_55 => ?_) (fun c_55 => ?_)
              · have hf_55 := dk_full a2
                have jc_55 := dk_neqc (k := (a2).toInt) rfl c_55
                exact J_43   (F_d_send_p3 (zR_eq f_d_1) w_5_2 c_6 w_12_2 c_13 w_19_2 c_20 (Eq.symm ex_22.symm) c_55) _ _ hP hS _ (lv_sub hl [0, 1, 2, 3, 4, 5] rfl)
              · as_aux_lemma =>
                  have hf_56 := dk_full a2
                  have jc_55 := dk_eqc (k := (a2).toInt) rfl c_55
                  refine lv_aload_n hx hb dX11_send_59 rfl (lv_at hl 1 rfl) ?_
                  refine dg_get (C := RX11) (T := TX11) (N := 13) hx hb hts (fun w h => bw_mem (wU_X11 w h)) hown K hP sX_0 rfl 1 (dk_dq rfl) (hts _ (bw_mem wB_287)) (fun _ h9 => h9) (v := .ref (o + 3)) (show S.1 0 1 = .ref (o + 3) from dg_I.rel (d := 3) I sX_0 (by decide +kernel)) dX11_send_60 ?_
                  refine dg_get (C := RX5) (T := TX5) (N := 8) hx hb hts (fun w h => bw_mem (wU_X5 w h)) hown K hP (pX_0 3 (dk_dq rfl)) rfl 5 (dk_dq rfl) (hts _ (bw_mem wB_971)) (fun _ h9 => h9) (v := .ref (o + 7)) (show S.1 3 5 = .ref (o + 7) from dg_I.rel (d := 4) I (pX_0 3 (dk_dq rfl)) (by decide +kernel)) dX11_send_63 ?_
                  refine lv_iload_n hx hb dX11_send_66 rfl (lv_at hl 2 rfl) ?_
                  have hin_58 : vp_in a1 16 := (dk_inv2 (by omega))
                  refine dg_iald hx hb K hP (pX_4 3 (dk_dq rfl)) hin_58 dX11_send_67 (fun x_59 ex_59 => ?_)
                  have b_x_59 := dk_all_at (dg_I.row (lo := 0) (hi := 63) I (pX_4 3 (dk_dq rfl)) (by decide +kernel)) hin_58 ex_59
                  refine lv_iload hx hb dX11_send_68 (lv_at hl 0 rfl) ?_
                  refine lv_icmp_ne (tgt := 79) hx hb dX11_send_70 (dk_dq rfl) (fun c_60 => ?_) (fun c_60 => ?_)
                  · have jc_60 := dk_neqc (k := (x_4).toInt) rfl c_60
                    exact J_43   (F_d_send_p4 (zR_eq f_d_1) w_5_2 c_6 w_12_2 c_13 w_19_2 c_20 (Eq.symm ex_22.symm) c_55 (Eq.symm ex_59.symm) c_60) _ _ hP hS _ (lv_sub hl [0, 1, 2, 3, 4, 5] rfl)
                  · have jc_60 := dk_eqc (k := (x_4).toInt) rfl c_60
                    refine lv_aload_n hx hb dX11_send_73 rfl (lv_at hl 1 rfl) ?_
                    refine lv_iconst (v := 3) hx hb dX11_send_74 (by decide +kernel) ?_
                    have hz_61 : (3 : Int32).toInt = 3 := by decide +kernel
                    refine dg_calli hS hA1 hA (va_runV (As := [.int 3]) (rest := []) F (c_d_no l g D o S 3 (by decide +kernel) Z1 Z2 Z3 Z4 Z6 I H.size) (cwV 1 hts (bw_V wB_924 wB_925 wB_926 wB_610 wB_923) rfl rfl rfl (by decide +kernel) ⟨Nat.le_of_ble_eq_true rfl, Nat.le_of_ble_eq_true rfl⟩) (dg_preV sX_0 rfl K ST hP hS hA1 hA) rfl rfl hl.1 rfl (lv_room (Nat.le_of_ble_eq_true rfl)) dX11_send_75 ⟨Nat.le_of_ble_eq_true rfl, Nat.le_of_ble_eq_true rfl⟩) (fun x_62 S_63 hw_63 H locs hP hS => ?_)
                    obtain ⟨I_63, m_63, w_63_0, w_63_1, -⟩ := hw_63
                    have M_63 := dg_sm.tr M_0 m_63 (dk_dq rfl) (dk_dq rfl)
                    have w_63_0 : 0 ≤ (x_62).toInt ∧ (x_62).toInt ≤ 0 := w_63_0
                    refine W.widen (k := 0) (n := 0) (Nat.le_of_ble_eq_true rfl) (Nat.le_of_ble_eq_true rfl) ?_
                    exact dg_iret hx hb hr hlocks (dk_znar2 (by omega)) hP hS ⟨I_63, M_63, (by omega), (m_hid.mk (Or.inl ⟨w_63_1.1, by first | omega | decide +kernel⟩)), (Z3X.keep Z3 m_63 (dg_FG.sm m_63 (dk_dq rfl)) (dk_dq rfl)), (Z4X.keep Z4 m_63 (dg_FG.sm m_63 (dk_dq rfl)) (dk_dq rfl) (dk_dq rfl)), (Z6X.keep Z6 m_63 (dg_FG.sm m_63 (dk_dq rfl))), (dg_FG.sm m_63 (dk_dq rfl)), ⟨congrArg Prod.fst (Eq.symm (F_d_send_p5 (zR_eq f_d_1) w_5_2 c_6 w_12_2 c_13 w_19_2 c_20 (Eq.symm ex_22.symm) c_55 (Eq.symm ex_59.symm) c_60 w_63_1.1 w_63_1.2)), congrArg Prod.snd (Eq.symm (F_d_send_p5 (zR_eq f_d_1) w_5_2 c_6 w_12_2 c_13 w_19_2 c_20 (Eq.symm ex_22.symm) c_55 (Eq.symm ex_59.symm) c_60 w_63_1.1 w_63_1.2))⟩, trivial⟩ dX11_send_78
          · have jc_20 := dk_eqc (k := 0) (by decide +kernel) c_20
            refine lv_aload_n hx hb dX11_send_40 rfl (lv_at hl 1 rfl) ?_
            refine lv_iconst (v := 3) hx hb dX11_send_41 (by decide +kernel) ?_
            have hz_64 : (3 : Int32).toInt = 3 := by decide +kernel
            refine dg_calli hS hA1 hA (va_runV (As := [.int 3]) (rest := []) F (c_d_no l g D o S 3 (by decide +kernel) Z1 Z2 Z3 Z4 Z6 I H.size) (cwV 1 hts (bw_V wB_924 wB_925 wB_926 wB_610 wB_923) rfl rfl rfl (by decide +kernel) ⟨Nat.le_of_ble_eq_true rfl, Nat.le_of_ble_eq_true rfl⟩) (dg_preV sX_0 rfl K ST hP hS hA1 hA) rfl rfl hl.1 rfl (lv_room (Nat.le_of_ble_eq_true rfl)) dX11_send_42 ⟨Nat.le_of_ble_eq_true rfl, Nat.le_of_ble_eq_true rfl⟩) (fun x_65 S_66 hw_66 H locs hP hS => ?_)
            obtain ⟨I_66, m_66, w_66_0, w_66_1, -⟩ := hw_66
            have M_66 := dg_sm.tr M_0 m_66 (dk_dq rfl) (dk_dq rfl)
            have w_66_0 : 0 ≤ (x_65).toInt ∧ (x_65).toInt ≤ 0 := w_66_0
            refine W.widen (k := 0) (n := 0) (Nat.le_of_ble_eq_true rfl) (Nat.le_of_ble_eq_true rfl) ?_
            exact dg_iret hx hb hr hlocks (dk_znar2 (by omega)) hP hS ⟨I_66, M_66, (by omega), (m_hid.mk (Or.inl ⟨w_66_1.1, by first | omega | decide +kernel⟩)), (Z3X.keep Z3 m_66 (dg_FG.sm m_66 (dk_dq rfl)) (dk_dq rfl)), (Z4X.keep Z4 m_66 (dg_FG.sm m_66 (dk_dq rfl)) (dk_dq rfl) (dk_dq rfl)), (Z6X.keep Z6 m_66 (dg_FG.sm m_66 (dk_dq rfl))), (dg_FG.sm m_66 (dk_dq rfl)), ⟨congrArg Prod.fst (Eq.symm (F_d_send_p6 (zR_eq f_d_1) w_5_2 c_6 w_12_2 c_13 w_19_2 c_20 w_66_1.1 w_66_1.2)), congrArg Prod.snd (Eq.symm (F_d_send_p6 (zR_eq f_d_1) w_5_2 c_6 w_12_2 c_13 w_19_2 c_20 w_66_1.1 w_66_1.2))⟩, trivial⟩ dX11_send_45
noncomputable def F_d_heal (o : Nat) (S : dg_S) (a1 : Int32) : dg_S × Int32 := let d_1 : Nat := zR o S 0 6; let x_2 : Int32 := zI S d_1 6; let x_3 : Int32 := F_g_hasMiner o S d_1 a1; (if x_3 = (0 : Int32) then let S_8 : dg_S := (F_d_no o S (3 : Int32)).1; let x_7 : Int32 := (F_d_no o S (3 : Int32)).2; (S_8, x_7) else let x_10 : Int32 := S.2.1 5 (a1 : Int32).toNatClampNeg; (if x_10 = (0 : Int32) then let S_24 : dg_S := (F_d_no o S (3 : Int32)).1; let x_23 : Int32 := (F_d_no o S (3 : Int32)).2; (S_24, x_23) else let S_12 : dg_S := F_d_beginAct o S; let y_13 : Int32 := zI S_12 221 2; let y_14 : Int32 := zI S_12 221 3; let y_15 : Int32 := zI S_12 229 4; let S_17 : dg_S := dg_uf S_12 5 (upd (S_12.2.1 5) (a1 : Int32).toNatClampNeg (0 : Int32)); (S_17, (1 : Int32))))
theorem F_d_heal_p0 {o : Nat} {S : dg_S} {a1 : Int32} {S_8 : dg_S} {x_7 : Int32} {d_1 : Nat} {x_3 : Int32} (h0 : d_1 = zR o S 0 6) (h1 : x_3 = F_g_hasMiner o S d_1 a1) (h2 : x_3 = (0 : Int32)) (h3 : S_8 = (F_d_no o S (3 : Int32)).1) (h4 : x_7 = (F_d_no o S (3 : Int32)).2) : F_d_heal o S a1 = (S_8, x_7) := by
  replace h0 := Eq.symm h0
  subst h0
  replace h1 := Eq.symm h1
  subst h1
  replace h3 := Eq.symm h3
  subst h3
  replace h4 := Eq.symm h4
  subst h4
  exact (Eq.trans (if_pos h2) rfl)
theorem F_d_heal_p1 {o : Nat} {S : dg_S} {a1 : Int32} {S_17 : dg_S} {d_1 : Nat} {x_3 : Int32} {x_10 : Int32} {S_12 : dg_S} (h0 : d_1 = zR o S 0 6) (h1 : x_3 = F_g_hasMiner o S d_1 a1) (h2 : ¬ (x_3 = (0 : Int32))) (h3 : x_10 = S.2.1 5 (a1 : Int32).toNatClampNeg) (h4 : ¬ (x_10 = (0 : Int32))) (h5 : S_12 = F_d_beginAct o S) (h6 : S_17 = dg_uf S_12 5 (upd (S_12.2.1 5) (a1 : Int32).toNatClampNeg (0 : Int32))) : F_d_heal o S a1 = (S_17, (1 : Int32)) := by
  replace h0 := Eq.symm h0
  subst h0
  replace h1 := Eq.symm h1
  subst h1
  replace h3 := Eq.symm h3
  subst h3
  replace h5 := Eq.symm h5
  subst h5
  replace h6 := Eq.symm h6
  subst h6
  exact (Eq.trans (if_neg h2) (Eq.trans (if_neg h4) rfl))
theorem F_d_heal_p2 {o : Nat} {S : dg_S} {a1 : Int32} {S_24 : dg_S} {x_23 : Int32} {d_1 : Nat} {x_3 : Int32} {x_10 : Int32} (h0 : d_1 = zR o S 0 6) (h1 : x_3 = F_g_hasMiner o S d_1 a1) (h2 : ¬ (x_3 = (0 : Int32))) (h3 : x_10 = S.2.1 5 (a1 : Int32).toNatClampNeg) (h4 : x_10 = (0 : Int32)) (h5 : S_24 = (F_d_no o S (3 : Int32)).1) (h6 : x_23 = (F_d_no o S (3 : Int32)).2) : F_d_heal o S a1 = (S_24, x_23) := by
  replace h0 := Eq.symm h0
  subst h0
  replace h1 := Eq.symm h1
  subst h1
  replace h3 := Eq.symm h3
  subst h3
  replace h5 := Eq.symm h5
  subst h5
  replace h6 := Eq.symm h6
  subst h6
  exact (Eq.trans (if_neg h2) (Eq.trans (if_pos h4) rfl))
set_option maxHeartbeats 8000000 in
set_option maxRecDepth 100000 in
theorem c_d_heal (l : Launch) (g : Nat → ClassId) (D : va_G) (o : Nat) (S : dg_S) (a1 : Int32) (Z1 : Z1X S) (Z2 : Z2X S) (Z3 : Z3X o S) (Z4 : Z4X S) (Z6 : Z6X S) (I : CX o S) (sz : Nat) : Met l yX11_heal (bw yX11_heal cX11_heal 2 (some .boolean)) ({ frames := 5, cells := 0, slots := 0, locals := 102 } : Room) (dk_Pc g D (dg_w g shX o rfX S) sz [.ref (o + 0), .int a1]) (va_Qi (fun (r : Int32) S' => CX o S' ∧ dg_sm shX [(3, 0), (3, 1), (10, 2), (10, 3), (43, 2), (43, 3), (44, 4)] [4, 5, 6, 7, 8, 9, 14, 15, 18] S S' ∧ (0 ≤ (r).toInt ∧ (r).toInt ≤ 1) ∧ (m_hid ((S' = (F_d_no o S (3 : Int32)).1 ∧ (r).toInt = 0) ∨ ((zI S' 221 2).toInt = 0 ∧ (zI S' 221 3).toInt = 0 ∧ (zI S' 229 4).toInt = 0 ∧ S'.2.1 184 = S.2.1 184 ∧ (r).toInt ≠ 0))) ∧ Z3X o S' ∧ Z4X S' ∧ Z6X S' ∧ dg_FG S S' ∧ (S' = (F_d_heal o S a1).1 ∧ r = (F_d_heal o S a1).2) ∧ True) (dg_B g D shX o rfX) (dg_A o shX.length sz)) 0 0 (dg_A o shX.length sz) := by
  refine dg_met (cc := cX11_heal) (maxL := 2) (ret := (some .boolean)) (dk_dq rfl) rfl (Nat.le_of_ble_eq_true rfl) ?_
  intro p e s m args below meth c A hAe harg hx hb hr hml hts hown hlocks hin hP K hS hA1 hA ST hsz ls hl
  rw [← hAe]
  have F : CallFix p m c cX11_heal 2 s args (bw yX11_heal cX11_heal 2 (some .boolean)) RX11 := ⟨hx, hb, hml, hown, hts⟩
  have hl : lv_has ls 2 [(0, .ref (o + 0)), (1, .int a1)] := hl
  have M_0 : dg_sm shX [(3, 0), (3, 1), (10, 2), (10, 3), (43, 2), (43, 3), (44, 4)] [4, 5, 6, 7, 8, 9, 14, 15, 18] S S := dg_sm.rf
  refine lv_aload_n hx hb dX11_heal_0 rfl (lv_at hl 0 rfl) ?_
  obtain ⟨d_1, hk_d_1, f_d_1⟩ := dg_I.one (i := 0) (k := 6) (d := 0) I sX_0 (by decide +kernel)
  have hk_d_1 : rX d_1 := hk_d_1
  refine dg_get (C := RX11) (T := TX11) (N := 13) hx hb hts (fun w h => bw_mem (wU_X11 w h)) hown K hP sX_0 rfl 6 (dk_dq rfl) (hts _ (bw_mem wB_286)) (fun _ h9 => h9) (v := .ref (o + d_1)) f_d_1 dX11_heal_1 ?_
  refine lv_iload_n hx hb dX11_heal_4 rfl (lv_at hl 1 rfl) ?_
  obtain ⟨x_2, f_x_2, b_x_2⟩ := dg_I.int (i := d_1) (k := 6) (lo := 0) (hi := 6) I (rX_0 d_1 hk_d_1) (by decide +kernel)
  refine dg_calli hS hA1 hA (va_runV (As := [.int a1]) (rest := []) F (c_g_hasMiner l g D o S d_1 hk_d_1 a1 x_2 f_x_2 (by omega) I s.heap.size) (cwV 1 hts (bw_V wB_963 wB_964 wB_965 wB_9 wB_962) rfl rfl rfl (by decide +kernel) ⟨Nat.le_of_ble_eq_true rfl, Nat.le_of_ble_eq_true rfl⟩) (dg_preV (rX_0 d_1 hk_d_1) rfl K ST hP hS hA1 hA) rfl rfl hl.1 rfl (lv_room (Nat.le_of_ble_eq_true rfl)) dX11_heal_5 ⟨Nat.le_of_ble_eq_true rfl, Nat.le_of_ble_eq_true rfl⟩) (fun x_3 S_4 hw_4 H locs hP hS => ?_)
  rw [hw_4.1] at hP
  obtain ⟨hq_4, w_4_0, w_4_1, w_4_2, -⟩ := hw_4
  have w_4_0 : 0 ≤ (x_3).toInt ∧ (x_3).toInt ≤ 1 := w_4_0
  have w_4_1 : (x_3).toInt = 1 ↔ (0 ≤ (a1).toInt ∧ (a1).toInt < (x_2).toInt) := w_4_1
  refine lv_if_eq (tgt := 23) hx hb dX11_heal_8 (dk_dq rfl) (fun c_5 => ?_) (fun c_5 => ?_)
  · have jc_5 := dk_eqc (k := 0) (by decide +kernel) c_5
    refine lv_aload_n hx hb dX11_heal_23 rfl (lv_at hl 0 rfl) ?_
    refine lv_iconst (v := 3) hx hb dX11_heal_24 (by decide +kernel) ?_
    have hz_6 : (3 : Int32).toInt = 3 := by decide +kernel
    refine dg_calli hS hA1 hA (va_runV (As := [.int 3]) (rest := []) F (c_d_no l g D o S 3 (by decide +kernel) Z1 Z2 Z3 Z4 Z6 I H.size) (cwV 1 hts (bw_V wB_924 wB_925 wB_926 wB_610 wB_923) rfl rfl rfl (by decide +kernel) ⟨Nat.le_of_ble_eq_true rfl, Nat.le_of_ble_eq_true rfl⟩) (dg_preV sX_0 rfl K ST hP hS hA1 hA) rfl rfl hl.1 rfl (lv_room (Nat.le_of_ble_eq_true rfl)) dX11_heal_25 ⟨Nat.le_of_ble_eq_true rfl, Nat.le_of_ble_eq_true rfl⟩) (fun x_7 S_8 hw_8 H locs hP hS => ?_)
    obtain ⟨I_8, m_8, w_8_0, w_8_1, -⟩ := hw_8
    have M_8 := dg_sm.tr M_0 m_8 (dk_dq rfl) (dk_dq rfl)
    have w_8_0 : 0 ≤ (x_7).toInt ∧ (x_7).toInt ≤ 0 := w_8_0
    refine W.widen (k := 0) (n := 0) (Nat.le_of_ble_eq_true rfl) (Nat.le_of_ble_eq_true rfl) ?_
    exact dg_iret hx hb hr hlocks (dk_znar2 (by omega)) hP hS ⟨I_8, M_8, (by omega), (m_hid.mk (Or.inl ⟨w_8_1.1, by first | omega | decide +kernel⟩)), (Z3X.keep Z3 m_8 (dg_FG.sm m_8 (dk_dq rfl)) (dk_dq rfl)), (Z4X.keep Z4 m_8 (dg_FG.sm m_8 (dk_dq rfl)) (dk_dq rfl) (dk_dq rfl)), (Z6X.keep Z6 m_8 (dg_FG.sm m_8 (dk_dq rfl))), (dg_FG.sm m_8 (dk_dq rfl)), ⟨congrArg Prod.fst (Eq.symm (F_d_heal_p0 (zR_eq f_d_1) w_4_2 c_5 w_8_1.1 w_8_1.2)), congrArg Prod.snd (Eq.symm (F_d_heal_p0 (zR_eq f_d_1) w_4_2 c_5 w_8_1.1 w_8_1.2))⟩, trivial⟩ dX11_heal_28
  · as_aux_lemma =>
      have jc_5 := dk_neqc (k := 0) (by decide +kernel) c_5
      refine lv_aload_n hx hb dX11_heal_11 rfl (lv_at hl 0 rfl) ?_
      refine dg_get (C := RX11) (T := TX11) (N := 13) hx hb hts (fun w h => bw_mem (wU_X11 w h)) hown K hP sX_0 rfl 1 (dk_dq rfl) (hts _ (bw_mem wB_287)) (fun _ h9 => h9) (v := .ref (o + 3)) (show S.1 0 1 = .ref (o + 3) from dg_I.rel (d := 3) I sX_0 (by decide +kernel)) dX11_heal_12 ?_
      refine dg_get (C := RX5) (T := TX5) (N := 8) hx hb hts (fun w h => bw_mem (wU_X5 w h)) hown K hP (pX_0 3 (dk_dq rfl)) rfl 3 (dk_dq rfl) (hts _ (bw_mem wB_892)) (fun _ h9 => h9) (v := .ref (o + 5)) (show S.1 3 3 = .ref (o + 5) from dg_I.rel (d := 2) I (pX_0 3 (dk_dq rfl)) (by decide +kernel)) dX11_heal_15 ?_
      refine lv_iload_n hx hb dX11_heal_18 rfl (lv_at hl 1 rfl) ?_
      have hin_9 : vp_in a1 6 := (dk_inv2 (by omega))
      refine dg_iald hx hb K hP (pX_2 3 (dk_dq rfl)) hin_9 dX11_heal_19 (fun x_10 ex_10 => ?_)
      refine lv_if_ne (tgt := 29) hx hb dX11_heal_20 (dk_dq rfl) (fun c_11 => ?_) (fun c_11 => ?_)
      · as_aux_lemma =>
          have jc_11 := dk_neqc (k := 0) (by decide +kernel) c_11
          refine lv_aload_n hx hb dX11_heal_29 rfl (lv_at hl 0 rfl) ?_
          refine dg_callv hS hA1 hA (va_runV (As := []) (rest := []) F (c_d_beginAct l g D o S Z1 Z2 Z3 Z4 Z6 I H.size) (cwV 0 hts (bw_V wB_1034 wB_1035 wB_1036 wB_610 wB_1033) rfl rfl rfl (by decide +kernel) ⟨Nat.le_of_ble_eq_true rfl, Nat.le_of_ble_eq_true rfl⟩) (dg_preV sX_0 rfl K ST hP hS hA1 hA) rfl rfl hl.1 rfl (lv_room (Nat.le_of_ble_eq_true rfl)) dX11_heal_30 ⟨Nat.le_of_ble_eq_true rfl, Nat.le_of_ble_eq_true rfl⟩) (fun S_12 hw_12 H locs hP hS => ?_)
          obtain ⟨I_12, m_12, w_12_0, w_12_1, w_12_2, w_12_3, w_12_4, w_12_5, w_12_6, w_12_7, -⟩ := hw_12
          have M_12 := dg_sm.tr M_0 m_12 (dk_dq rfl) (dk_dq rfl)
          obtain ⟨y_13, f_y_13, w_12_0⟩ := w_12_0
          have w_12_0 : (y_13).toInt = 0 := w_12_0
          obtain ⟨y_14, f_y_14, w_12_1⟩ := w_12_1
          have w_12_1 : (y_14).toInt = 0 := w_12_1
          obtain ⟨y_15, f_y_15, w_12_2⟩ := w_12_2
          have w_12_2 : (y_15).toInt = 0 := w_12_2
          have b_y_15 : 0 ≤ (y_15).toInt ∧ (y_15).toInt ≤ 1 := dg_I.intb (lo := 0) (hi := 1) I_12 sX_229 (by decide +kernel) f_y_15
          refine lv_aload_n hx hb dX11_heal_33 rfl (lv_at hl 0 rfl) ?_
          refine dg_get (C := RX11) (T := TX11) (N := 13) hx hb hts (fun w h => bw_mem (wU_X11 w h)) hown K hP sX_0 rfl 1 (dk_dq rfl) (hts _ (bw_mem wB_287)) (fun _ h9 => h9) (v := .ref (o + 3)) (show S_12.1 0 1 = .ref (o + 3) from dg_I.rel (d := 3) I_12 sX_0 (by decide +kernel)) dX11_heal_34 ?_
          refine dg_get (C := RX5) (T := TX5) (N := 8) hx hb hts (fun w h => bw_mem (wU_X5 w h)) hown K hP (pX_0 3 (dk_dq rfl)) rfl 3 (dk_dq rfl) (hts _ (bw_mem wB_892)) (fun _ h9 => h9) (v := .ref (o + 5)) (show S_12.1 3 3 = .ref (o + 5) from dg_I.rel (d := 2) I_12 (pX_0 3 (dk_dq rfl)) (by decide +kernel)) dX11_heal_37 ?_
          refine lv_iload_n hx hb dX11_heal_40 rfl (lv_at hl 1 rfl) ?_
          refine lv_iconst (v := 0) hx hb dX11_heal_41 (by decide +kernel) ?_
          have hin_16 : vp_in a1 6 := (dk_inv2 (by omega))
          have hz_18 : (0 : Int32).toInt = 0 := by decide +kernel
          refine dg_iast hx hb K hP hS hA1 (pX_2 3 (dk_dq rfl)) hin_16 dX11_heal_42 (fun S_17 e_17 H locs hP hS => ?_)
          have I_17 := dg_I.uf0 I_12 e_17 (pX_2 3 (dk_dq rfl)) (by decide +kernel)
          have M_17 := dg_sm.uf M_12 e_17 (pX_2 3 (dk_dq rfl)) (dk_dq rfl)
          refine lv_iconst (v := 1) hx hb dX11_heal_43 (by decide +kernel) ?_
          have hz_19 : (1 : Int32).toInt = 1 := by decide +kernel
          have hz_20 : (1 : Int32).toInt = 1 := by decide +kernel
          have hz_21 : (1 : Int32).toInt = 1 := by decide +kernel
          refine W.widen (k := 0) (n := 0) (Nat.le_of_ble_eq_true rfl) (Nat.le_of_ble_eq_true rfl) ?_
          exact dg_iret hx hb hr hlocks (by decide +kernel) hP hS ⟨I_17, M_17, (by decide +kernel), (m_hid.mk (Or.inr ⟨(by rw [← zI_eq ((dg_uf_F e_17 221 2).trans f_y_13)]; first | omega | decide +kernel), (by rw [← zI_eq ((dg_uf_F e_17 221 3).trans f_y_14)]; first | omega | decide +kernel), (by rw [← zI_eq ((dg_uf_F e_17 229 4).trans f_y_15)]; first | omega | decide +kernel), ((dg_uf_ne e_17 (dk_dq rfl)).trans (m_12.2 184 _ sX_184 (dk_dq rfl)).1), by first | omega | decide +kernel⟩)), (Z3X.keep w_12_3 (dg_sm.uf (WF := []) (WA := [5]) dg_sm.rf e_17 (pX_2 3 (dk_dq rfl)) (dk_dq rfl)) (dg_FG.uf e_17 (pX_2 3 (dk_dq rfl)) (dk_dq rfl)) (dk_dq rfl)), (Z4X.keep w_12_4 (dg_sm.uf (WF := []) (WA := [5]) dg_sm.rf e_17 (pX_2 3 (dk_dq rfl)) (dk_dq rfl)) (dg_FG.uf e_17 (pX_2 3 (dk_dq rfl)) (dk_dq rfl)) (dk_dq rfl) (dk_dq rfl)), (Z6X.keep w_12_5 (dg_sm.uf (WF := []) (WA := [5]) dg_sm.rf e_17 (pX_2 3 (dk_dq rfl)) (dk_dq rfl)) (dg_FG.uf e_17 (pX_2 3 (dk_dq rfl)) (dk_dq rfl))), (dg_FG.tr w_12_6 (dg_FG.uf e_17 (pX_2 3 (dk_dq rfl)) (dk_dq rfl))), ⟨congrArg Prod.fst (Eq.symm (F_d_heal_p1 (zR_eq f_d_1) w_4_2 c_5 (Eq.symm ex_10.symm) c_11 w_12_7 e_17)), congrArg Prod.snd (Eq.symm (F_d_heal_p1 (zR_eq f_d_1) w_4_2 c_5 (Eq.symm ex_10.symm) c_11 w_12_7 e_17))⟩, trivial⟩ dX11_heal_44
      · have jc_11 := dk_eqc (k := 0) (by decide +kernel) c_11
        refine lv_aload_n hx hb dX11_heal_23 rfl (lv_at hl 0 rfl) ?_
        refine lv_iconst (v := 3) hx hb dX11_heal_24 (by decide +kernel) ?_
        have hz_22 : (3 : Int32).toInt = 3 := by decide +kernel
        refine dg_calli hS hA1 hA (va_runV (As := [.int 3]) (rest := []) F (c_d_no l g D o S 3 (by decide +kernel) Z1 Z2 Z3 Z4 Z6 I H.size) (cwV 1 hts (bw_V wB_924 wB_925 wB_926 wB_610 wB_923) rfl rfl rfl (by decide +kernel) ⟨Nat.le_of_ble_eq_true rfl, Nat.le_of_ble_eq_true rfl⟩) (dg_preV sX_0 rfl K ST hP hS hA1 hA) rfl rfl hl.1 rfl (lv_room (Nat.le_of_ble_eq_true rfl)) dX11_heal_25 ⟨Nat.le_of_ble_eq_true rfl, Nat.le_of_ble_eq_true rfl⟩) (fun x_23 S_24 hw_24 H locs hP hS => ?_)
        obtain ⟨I_24, m_24, w_24_0, w_24_1, -⟩ := hw_24
        have M_24 := dg_sm.tr M_0 m_24 (dk_dq rfl) (dk_dq rfl)
        have w_24_0 : 0 ≤ (x_23).toInt ∧ (x_23).toInt ≤ 0 := w_24_0
        refine W.widen (k := 0) (n := 0) (Nat.le_of_ble_eq_true rfl) (Nat.le_of_ble_eq_true rfl) ?_
        exact dg_iret hx hb hr hlocks (dk_znar2 (by omega)) hP hS ⟨I_24, M_24, (by omega), (m_hid.mk (Or.inl ⟨w_24_1.1, by first | omega | decide +kernel⟩)), (Z3X.keep Z3 m_24 (dg_FG.sm m_24 (dk_dq rfl)) (dk_dq rfl)), (Z4X.keep Z4 m_24 (dg_FG.sm m_24 (dk_dq rfl)) (dk_dq rfl) (dk_dq rfl)), (Z6X.keep Z6 m_24 (dg_FG.sm m_24 (dk_dq rfl))), (dg_FG.sm m_24 (dk_dq rfl)), ⟨congrArg Prod.fst (Eq.symm (F_d_heal_p2 (zR_eq f_d_1) w_4_2 c_5 (Eq.symm ex_10.symm) c_11 w_24_1.1 w_24_1.2)), congrArg Prod.snd (Eq.symm (F_d_heal_p2 (zR_eq f_d_1) w_4_2 c_5 (Eq.symm ex_10.symm) c_11 w_24_1.1 w_24_1.2))⟩, trivial⟩ dX11_heal_28
noncomputable def F_d_sell_J1 (S_30 : dg_S) (x_29 : Int32) : dg_S × Int32 := (S_30, x_29)
noncomputable def F_d_sell (o : Nat) (S : dg_S) (a1 : Int32) : dg_S × Int32 := let d_1 : Nat := zR o S 0 6; let x_2 : Int32 := zI S d_1 11; let x_3 : Int32 := F_g_hasOrder o S d_1 a1; (if x_3 = (0 : Int32) then let S_8 : dg_S := (F_d_none o S (3 : Int32)).1; let x_7 : Int32 := (F_d_none o S (3 : Int32)).2; (S_8, x_7) else let x_10 : Int32 := F_d_canBeSold o S a1; (if x_10 = (0 : Int32) then let S_34 : dg_S := (F_d_none o S (3 : Int32)).1; let x_33 : Int32 := (F_d_none o S (3 : Int32)).2; (S_34, x_33) else let S_13 : dg_S := F_d_beginAct o S; let y_14 : Int32 := zI S_13 221 2; let y_15 : Int32 := zI S_13 221 3; let y_16 : Int32 := zI S_13 229 4; let x_18 : Int32 := S_13.2.1 (d_1 + 6) (a1 : Int32).toNatClampNeg; let x_20 : Int32 := S_13.2.1 (d_1 + 7) (a1 : Int32).toNatClampNeg; let S_21 : dg_S := F_p_giveTubs o S_13 3 x_18 x_20; let S_23 : dg_S := dg_uf S_21 8 (upd (S_21.2.1 8) (a1 : Int32).toNatClampNeg (1 : Int32)); let x_25 : Int32 := zI S_23 3 1; let x_27 : Int32 := S_23.2.1 (d_1 + 8) (a1 : Int32).toNatClampNeg; let x_28 : Int32 := x_25 + x_27; let x_29 : Int32 := if x_28 < (99999 : Int32) then x_28 else (99999 : Int32); let S_30 : dg_S := dg_uF S_23 3 1 (.int x_29); (F_d_sell_J1 S_30 x_29)))
theorem F_d_sell_p0 {o : Nat} {S : dg_S} {a1 : Int32} {S_8 : dg_S} {x_7 : Int32} {d_1 : Nat} {x_3 : Int32} (h0 : d_1 = zR o S 0 6) (h1 : x_3 = F_g_hasOrder o S d_1 a1) (h2 : x_3 = (0 : Int32)) (h3 : S_8 = (F_d_none o S (3 : Int32)).1) (h4 : x_7 = (F_d_none o S (3 : Int32)).2) : F_d_sell o S a1 = (S_8, x_7) := by
  replace h0 := Eq.symm h0
  subst h0
  replace h1 := Eq.symm h1
  subst h1
  replace h3 := Eq.symm h3
  subst h3
  replace h4 := Eq.symm h4
  subst h4
  exact (Eq.trans (if_pos h2) rfl)
theorem F_d_sell_p1 {S_30 : dg_S} {x_29 : Int32}  : F_d_sell_J1 S_30 x_29 = (S_30, x_29) := rfl
theorem F_d_sell_p2 {o : Nat} {S : dg_S} {a1 : Int32} {S_30 : dg_S} {x_29 : Int32} {d_1 : Nat} {x_3 : Int32} {x_10 : Int32} {S_13 : dg_S} {x_18 : Int32} {x_20 : Int32} {S_21 : dg_S} {S_23 : dg_S} {x_25 : Int32} {x_27 : Int32} {x_28 : Int32} (h0 : d_1 = zR o S 0 6) (h1 : x_3 = F_g_hasOrder o S d_1 a1) (h2 : ¬ (x_3 = (0 : Int32))) (h3 : x_10 = F_d_canBeSold o S a1) (h4 : ¬ (x_10 = (0 : Int32))) (h5 : S_13 = F_d_beginAct o S) (h6 : x_18 = S_13.2.1 (d_1 + 6) (a1 : Int32).toNatClampNeg) (h7 : x_20 = S_13.2.1 (d_1 + 7) (a1 : Int32).toNatClampNeg) (h8 : S_21 = F_p_giveTubs o S_13 3 x_18 x_20) (h9 : S_23 = dg_uf S_21 8 (upd (S_21.2.1 8) (a1 : Int32).toNatClampNeg (1 : Int32))) (h10 : x_25 = zI S_23 3 1) (h11 : x_27 = S_23.2.1 (d_1 + 8) (a1 : Int32).toNatClampNeg) (h12 : x_28 = x_25 + x_27) (h13 : x_29 = if x_28 < (99999 : Int32) then x_28 else (99999 : Int32)) (h14 : S_30 = dg_uF S_23 3 1 (.int x_29)) : F_d_sell o S a1 = F_d_sell_J1 S_30 x_29 := by
  replace h0 := Eq.symm h0
  subst h0
  replace h1 := Eq.symm h1
  subst h1
  replace h3 := Eq.symm h3
  subst h3
  replace h5 := Eq.symm h5
  subst h5
  replace h6 := Eq.symm h6
  subst h6
  replace h7 := Eq.symm h7
  subst h7
  replace h8 := Eq.symm h8
  subst h8
  replace h9 := Eq.symm h9
  subst h9
  replace h10 := Eq.symm h10
  subst h10
  replace h11 := Eq.symm h11
  subst h11
  replace h12 := Eq.symm h12
  subst h12
  replace h13 := Eq.symm h13
  subst h13
  replace h14 := Eq.symm h14
  subst h14
  exact (Eq.trans (if_neg h2) (Eq.trans (if_neg h4) rfl))
theorem F_d_sell_p3 {o : Nat} {S : dg_S} {a1 : Int32} {S_34 : dg_S} {x_33 : Int32} {d_1 : Nat} {x_3 : Int32} {x_10 : Int32} (h0 : d_1 = zR o S 0 6) (h1 : x_3 = F_g_hasOrder o S d_1 a1) (h2 : ¬ (x_3 = (0 : Int32))) (h3 : x_10 = F_d_canBeSold o S a1) (h4 : x_10 = (0 : Int32)) (h5 : S_34 = (F_d_none o S (3 : Int32)).1) (h6 : x_33 = (F_d_none o S (3 : Int32)).2) : F_d_sell o S a1 = (S_34, x_33) := by
  replace h0 := Eq.symm h0
  subst h0
  replace h1 := Eq.symm h1
  subst h1
  replace h3 := Eq.symm h3
  subst h3
  replace h5 := Eq.symm h5
  subst h5
  replace h6 := Eq.symm h6
  subst h6
  exact (Eq.trans (if_neg h2) (Eq.trans (if_pos h4) rfl))
set_option maxHeartbeats 8000000 in
set_option maxRecDepth 100000 in
theorem c_d_sell (l : Launch) (g : Nat → ClassId) (D : va_G) (o : Nat) (S : dg_S) (a1 : Int32) (Z1 : Z1X S) (Z2 : Z2X S) (Z3 : Z3X o S) (Z4 : Z4X S) (Z6 : Z6X S) (I : CX o S) (sz : Nat) : Met l yX11_sell (bw yX11_sell cX11_sell 2 (some .int)) ({ frames := 5, cells := 0, slots := 0, locals := 102 } : Room) (dk_Pc g D (dg_w g shX o rfX S) sz [.ref (o + 0), .int a1]) (va_Qi (fun (r : Int32) S' => CX o S' ∧ dg_sm shX [(3, 0), (3, 1), (10, 2), (10, 3), (43, 2), (43, 3), (44, 4)] [4, 5, 6, 7, 8, 9, 14, 15, 18] S S' ∧ ((-2147483648) ≤ (r).toInt ∧ (r).toInt ≤ 99999) ∧ (m_hid ((S' = (F_d_none o S (3 : Int32)).1 ∧ (r).toInt = -1) ∨ ((zI S' 221 2).toInt = 0 ∧ (zI S' 221 3).toInt = 0 ∧ (zI S' 229 4).toInt = 0 ∧ S'.2.1 184 = S.2.1 184))) ∧ Z3X o S' ∧ Z4X S' ∧ Z6X S' ∧ dg_FG S S' ∧ (S' = (F_d_sell o S a1).1 ∧ r = (F_d_sell o S a1).2) ∧ True) (dg_B g D shX o rfX) (dg_A o shX.length sz)) 0 0 (dg_A o shX.length sz) := by
  refine dg_met (cc := cX11_sell) (maxL := 2) (ret := (some .int)) (dk_dq rfl) rfl (Nat.le_of_ble_eq_true rfl) ?_
  intro p e s m args below meth c A hAe harg hx hb hr hml hts hown hlocks hin hP K hS hA1 hA ST hsz ls hl
  rw [← hAe]
  have F : CallFix p m c cX11_sell 2 s args (bw yX11_sell cX11_sell 2 (some .int)) RX11 := ⟨hx, hb, hml, hown, hts⟩
  have hl : lv_has ls 2 [(0, .ref (o + 0)), (1, .int a1)] := hl
  have M_0 : dg_sm shX [(3, 0), (3, 1), (10, 2), (10, 3), (43, 2), (43, 3), (44, 4)] [4, 5, 6, 7, 8, 9, 14, 15, 18] S S := dg_sm.rf
  refine lv_aload_n hx hb dX11_sell_0 rfl (lv_at hl 0 rfl) ?_
  obtain ⟨d_1, hk_d_1, f_d_1⟩ := dg_I.one (i := 0) (k := 6) (d := 0) I sX_0 (by decide +kernel)
  have hk_d_1 : rX d_1 := hk_d_1
  refine dg_get (C := RX11) (T := TX11) (N := 13) hx hb hts (fun w h => bw_mem (wU_X11 w h)) hown K hP sX_0 rfl 6 (dk_dq rfl) (hts _ (bw_mem wB_286)) (fun _ h9 => h9) (v := .ref (o + d_1)) f_d_1 dX11_sell_1 ?_
  refine lv_iload_n hx hb dX11_sell_4 rfl (lv_at hl 1 rfl) ?_
  obtain ⟨x_2, f_x_2, b_x_2⟩ := dg_I.int (i := d_1) (k := 11) (lo := 0) (hi := 5) I (rX_0 d_1 hk_d_1) (by decide +kernel)
  refine dg_calli hS hA1 hA (va_runV (As := [.int a1]) (rest := []) F (c_g_hasOrder l g D o S d_1 hk_d_1 a1 x_2 f_x_2 (by omega) I s.heap.size) (cwV 1 hts (bw_V wB_975 wB_976 wB_977 wB_9 wB_974) rfl rfl rfl (by decide +kernel) ⟨Nat.le_of_ble_eq_true rfl, Nat.le_of_ble_eq_true rfl⟩) (dg_preV (rX_0 d_1 hk_d_1) rfl K ST hP hS hA1 hA) rfl rfl hl.1 rfl (lv_room (Nat.le_of_ble_eq_true rfl)) dX11_sell_5 ⟨Nat.le_of_ble_eq_true rfl, Nat.le_of_ble_eq_true rfl⟩) (fun x_3 S_4 hw_4 H locs hP hS => ?_)
  rw [hw_4.1] at hP
  obtain ⟨hq_4, w_4_0, w_4_1, w_4_2, -⟩ := hw_4
  have w_4_0 : 0 ≤ (x_3).toInt ∧ (x_3).toInt ≤ 1 := w_4_0
  have w_4_1 : (x_3).toInt = 1 ↔ (0 ≤ (a1).toInt ∧ (a1).toInt < (x_2).toInt) := w_4_1
  refine lv_if_eq (tgt := 19) hx hb dX11_sell_8 (dk_dq rfl) (fun c_5 => ?_) (fun c_5 => ?_)
  · have jc_5 := dk_eqc (k := 0) (by decide +kernel) c_5
    refine lv_aload_n hx hb dX11_sell_19 rfl (lv_at hl 0 rfl) ?_
    refine lv_iconst (v := 3) hx hb dX11_sell_20 (by decide +kernel) ?_
    have hz_6 : (3 : Int32).toInt = 3 := by decide +kernel
    refine dg_calli hS hA1 hA (va_runV (As := [.int 3]) (rest := []) F (c_d_none l g D o S 3 (by decide +kernel) Z1 Z2 Z3 Z4 Z6 I H.size) (cwV 1 hts (bw_V wB_920 wB_921 wB_922 wB_610 wB_919) rfl rfl rfl (by decide +kernel) ⟨Nat.le_of_ble_eq_true rfl, Nat.le_of_ble_eq_true rfl⟩) (dg_preV sX_0 rfl K ST hP hS hA1 hA) rfl rfl hl.1 rfl (lv_room (Nat.le_of_ble_eq_true rfl)) dX11_sell_21 ⟨Nat.le_of_ble_eq_true rfl, Nat.le_of_ble_eq_true rfl⟩) (fun x_7 S_8 hw_8 H locs hP hS => ?_)
    obtain ⟨I_8, m_8, w_8_0, w_8_1, -⟩ := hw_8
    have M_8 := dg_sm.tr M_0 m_8 (dk_dq rfl) (dk_dq rfl)
    have w_8_0 : (-1) ≤ (x_7).toInt ∧ (x_7).toInt ≤ (-1) := w_8_0
    have hf_8 := dk_full x_7
    refine W.widen (k := 0) (n := 0) (Nat.le_of_ble_eq_true rfl) (Nat.le_of_ble_eq_true rfl) ?_
    exact dg_iret hx hb hr hlocks rfl hP hS ⟨I_8, M_8, (by omega), (m_hid.mk (Or.inl ⟨w_8_1.1, by first | omega | decide +kernel⟩)), (Z3X.keep Z3 m_8 (dg_FG.sm m_8 (dk_dq rfl)) (dk_dq rfl)), (Z4X.keep Z4 m_8 (dg_FG.sm m_8 (dk_dq rfl)) (dk_dq rfl) (dk_dq rfl)), (Z6X.keep Z6 m_8 (dg_FG.sm m_8 (dk_dq rfl))), (dg_FG.sm m_8 (dk_dq rfl)), ⟨congrArg Prod.fst (Eq.symm (F_d_sell_p0 (zR_eq f_d_1) w_4_2 c_5 w_8_1.1 w_8_1.2)), congrArg Prod.snd (Eq.symm (F_d_sell_p0 (zR_eq f_d_1) w_4_2 c_5 w_8_1.1 w_8_1.2))⟩, trivial⟩ dX11_sell_24
  · as_aux_lemma =>
      have jc_5 := dk_neqc (k := 0) (by decide +kernel) c_5
      refine lv_aload_n hx hb dX11_sell_11 rfl (lv_at hl 0 rfl) ?_
      refine lv_iload_n hx hb dX11_sell_12 rfl (lv_at hl 1 rfl) ?_
      refine dg_calli hS hA1 hA (va_runV (As := [.int a1]) (rest := []) F (c_d_canBeSold l g D o S a1 (by omega) Z1 Z2 Z3 Z4 Z6 I H.size) (cwV 1 hts (bw_V wB_979 wB_980 wB_981 wB_610 wB_978) rfl rfl rfl (by decide +kernel) ⟨Nat.le_of_ble_eq_true rfl, Nat.le_of_ble_eq_true rfl⟩) (dg_preV sX_0 rfl K ST hP hS hA1 hA) rfl rfl hl.1 rfl (lv_room (Nat.le_of_ble_eq_true rfl)) dX11_sell_13 ⟨Nat.le_of_ble_eq_true rfl, Nat.le_of_ble_eq_true rfl⟩) (fun x_10 S_11 hw_11 H locs hP hS => ?_)
      rw [hw_11.1] at hP
      obtain ⟨hq_11, w_11_0, w_11_1, -⟩ := hw_11
      have w_11_0 : 0 ≤ (x_10).toInt ∧ (x_10).toInt ≤ 1 := w_11_0
      refine lv_if_ne (tgt := 25) hx hb dX11_sell_16 (dk_dq rfl) (fun c_12 => ?_) (fun c_12 => ?_)
      · as_aux_lemma =>
          have jc_12 := dk_neqc (k := 0) (by decide +kernel) c_12
          refine lv_aload_n hx hb dX11_sell_25 rfl (lv_at hl 0 rfl) ?_
          refine dg_callv hS hA1 hA (va_runV (As := []) (rest := []) F (c_d_beginAct l g D o S Z1 Z2 Z3 Z4 Z6 I H.size) (cwV 0 hts (bw_V wB_1034 wB_1035 wB_1036 wB_610 wB_1033) rfl rfl rfl (by decide +kernel) ⟨Nat.le_of_ble_eq_true rfl, Nat.le_of_ble_eq_true rfl⟩) (dg_preV sX_0 rfl K ST hP hS hA1 hA) rfl rfl hl.1 rfl (lv_room (Nat.le_of_ble_eq_true rfl)) dX11_sell_26 ⟨Nat.le_of_ble_eq_true rfl, Nat.le_of_ble_eq_true rfl⟩) (fun S_13 hw_13 H locs hP hS => ?_)
          obtain ⟨I_13, m_13, w_13_0, w_13_1, w_13_2, w_13_3, w_13_4, w_13_5, w_13_6, w_13_7, -⟩ := hw_13
          have M_13 := dg_sm.tr M_0 m_13 (dk_dq rfl) (dk_dq rfl)
          obtain ⟨y_14, f_y_14, w_13_0⟩ := w_13_0
          have w_13_0 : (y_14).toInt = 0 := w_13_0
          obtain ⟨y_15, f_y_15, w_13_1⟩ := w_13_1
          have w_13_1 : (y_15).toInt = 0 := w_13_1
          obtain ⟨y_16, f_y_16, w_13_2⟩ := w_13_2
          have w_13_2 : (y_16).toInt = 0 := w_13_2
          have b_y_16 : 0 ≤ (y_16).toInt ∧ (y_16).toInt ≤ 1 := dg_I.intb (lo := 0) (hi := 1) I_13 sX_229 (by decide +kernel) f_y_16
          refine lv_aload_n hx hb dX11_sell_29 rfl (lv_at hl 0 rfl) ?_
          refine dg_get (C := RX11) (T := TX11) (N := 13) hx hb hts (fun w h => bw_mem (wU_X11 w h)) hown K hP sX_0 rfl 1 (dk_dq rfl) (hts _ (bw_mem wB_287)) (fun _ h9 => h9) (v := .ref (o + 3)) (show S_13.1 0 1 = .ref (o + 3) from dg_I.rel (d := 3) I_13 sX_0 (by decide +kernel)) dX11_sell_30 ?_
          refine lv_aload_n hx hb dX11_sell_33 rfl (lv_at hl 0 rfl) ?_
          refine dg_get (C := RX11) (T := TX11) (N := 13) hx hb hts (fun w h => bw_mem (wU_X11 w h)) hown K hP sX_0 rfl 6 (dk_dq rfl) (hts _ (bw_mem wB_286)) (fun _ h9 => h9) (v := .ref (o + d_1)) ((m_13.1 0 6 _ sX_0 (dk_dq rfl)).trans f_d_1) dX11_sell_34 ?_
          refine dg_get (C := RX2) (T := TX2) (N := 19) hx hb hts (fun w h => bw_mem (wU_X2 w h)) hown K hP (rX_0 d_1 hk_d_1) rfl 13 (dk_dq rfl) (hts _ (bw_mem wB_894)) (fun _ h9 => h9) (v := .ref (o + (d_1 + 6))) (show S_13.1 d_1 13 = .ref (o + (d_1 + 6)) from dg_I.rel (d := 6) I_13 (rX_0 d_1 hk_d_1) (by decide +kernel)) dX11_sell_37 ?_
          refine lv_iload_n hx hb dX11_sell_40 rfl (lv_at hl 1 rfl) ?_
          have hin_17 : vp_in a1 5 := (dk_inv2 (by omega))
          refine dg_iald hx hb K hP (rX_6 d_1 hk_d_1) hin_17 dX11_sell_41 (fun x_18 ex_18 => ?_)
          have b_x_18 := dk_all_at (dg_I.row (lo := 0) (hi := 9) I_13 (rX_6 d_1 hk_d_1) (by decide +kernel)) hin_17 ex_18
          refine lv_aload_n hx hb dX11_sell_42 rfl (lv_at hl 0 rfl) ?_
          refine dg_get (C := RX11) (T := TX11) (N := 13) hx hb hts (fun w h => bw_mem (wU_X11 w h)) hown K hP sX_0 rfl 6 (dk_dq rfl) (hts _ (bw_mem wB_286)) (fun _ h9 => h9) (v := .ref (o + d_1)) ((m_13.1 0 6 _ sX_0 (dk_dq rfl)).trans f_d_1) dX11_sell_43 ?_
          refine dg_get (C := RX2) (T := TX2) (N := 19) hx hb hts (fun w h => bw_mem (wU_X2 w h)) hown K hP (rX_0 d_1 hk_d_1) rfl 14 (dk_dq rfl) (hts _ (bw_mem wB_899)) (fun _ h9 => h9) (v := .ref (o + (d_1 + 7))) (show S_13.1 d_1 14 = .ref (o + (d_1 + 7)) from dg_I.rel (d := 7) I_13 (rX_0 d_1 hk_d_1) (by decide +kernel)) dX11_sell_46 ?_
          refine lv_iload_n hx hb dX11_sell_49 rfl (lv_at hl 1 rfl) ?_
          have hin_19 : vp_in a1 5 := (dk_inv2 (by omega))
          refine dg_iald hx hb K hP (rX_7 d_1 hk_d_1) hin_19 dX11_sell_50 (fun x_20 ex_20 => ?_)
          refine dg_callv hS hA1 hA (va_runV (As := [.int x_18, .int x_20]) (rest := []) F (c_p_giveTubs l g D o S_13 3 (by unfold pX; decide : pX 3) x_18 (by omega) x_20 I_13 H.size) (cwV 2 hts (bw_V wB_1047 wB_1048 wB_1049 wB_493 wB_1046) rfl rfl rfl (by decide +kernel) ⟨Nat.le_of_ble_eq_true rfl, Nat.le_of_ble_eq_true rfl⟩) (dg_preV (pX_0 3 (dk_dq rfl)) rfl K ST hP hS hA1 hA) rfl rfl hl.1 rfl (lv_room (Nat.le_of_ble_eq_true rfl)) dX11_sell_51 ⟨Nat.le_of_ble_eq_true rfl, Nat.le_of_ble_eq_true rfl⟩) (fun S_21 hw_21 H locs hP hS => ?_)
          obtain ⟨I_21, m_21, w_21_0, -⟩ := hw_21
          have M_21 := dg_sm.tr M_13 m_21 (dk_dq rfl) (dk_dq rfl)
          refine lv_aload_n hx hb dX11_sell_54 rfl (lv_at hl 0 rfl) ?_
          refine dg_get (C := RX11) (T := TX11) (N := 13) hx hb hts (fun w h => bw_mem (wU_X11 w h)) hown K hP sX_0 rfl 1 (dk_dq rfl) (hts _ (bw_mem wB_287)) (fun _ h9 => h9) (v := .ref (o + 3)) (show S_21.1 0 1 = .ref (o + 3) from dg_I.rel (d := 3) I_21 sX_0 (by decide +kernel)) dX11_sell_55 ?_
          refine dg_get (C := RX5) (T := TX5) (N := 8) hx hb hts (fun w h => bw_mem (wU_X5 w h)) hown K hP (pX_0 3 (dk_dq rfl)) rfl 6 (dk_dq rfl) (hts _ (bw_mem wB_893)) (fun _ h9 => h9) (v := .ref (o + 8)) (show S_21.1 3 6 = .ref (o + 8) from dg_I.rel (d := 5) I_21 (pX_0 3 (dk_dq rfl)) (by decide +kernel)) dX11_sell_58 ?_
          refine lv_iload_n hx hb dX11_sell_61 rfl (lv_at hl 1 rfl) ?_
          refine lv_iconst (v := 1) hx hb dX11_sell_62 (by decide +kernel) ?_
          have hin_22 : vp_in a1 5 := (dk_inv2 (by omega))
          have hz_24 : (1 : Int32).toInt = 1 := by decide +kernel
          refine dg_iast hx hb K hP hS hA1 (pX_5 3 (dk_dq rfl)) hin_22 dX11_sell_63 (fun S_23 e_23 H locs hP hS => ?_)
          have I_23 := dg_I.uf0 I_21 e_23 (pX_5 3 (dk_dq rfl)) (by decide +kernel)
          have M_23 := dg_sm.uf M_21 e_23 (pX_5 3 (dk_dq rfl)) (dk_dq rfl)
          as_aux_lemma =>
            refine lv_aload_n hx hb dX11_sell_64 rfl (lv_at hl 0 rfl) ?_
            refine dg_get (C := RX11) (T := TX11) (N := 13) hx hb hts (fun w h => bw_mem (wU_X11 w h)) hown K hP sX_0 rfl 1 (dk_dq rfl) (hts _ (bw_mem wB_287)) (fun _ h9 => h9) (v := .ref (o + 3)) (show S_23.1 0 1 = .ref (o + 3) from dg_I.rel (d := 3) I_23 sX_0 (by decide +kernel)) dX11_sell_65 ?_
            refine lv_ldcw hx hb hown (hts _ (bw_mem wB_1050)) dX11_sell_68 ?_
            refine lv_aload_n hx hb dX11_sell_71 rfl (lv_at hl 0 rfl) ?_
            refine dg_get (C := RX11) (T := TX11) (N := 13) hx hb hts (fun w h => bw_mem (wU_X11 w h)) hown K hP sX_0 rfl 1 (dk_dq rfl) (hts _ (bw_mem wB_287)) (fun _ h9 => h9) (v := .ref (o + 3)) (show S_23.1 0 1 = .ref (o + 3) from dg_I.rel (d := 3) I_23 sX_0 (by decide +kernel)) dX11_sell_72 ?_
            obtain ⟨x_25, f_x_25, b_x_25⟩ := dg_I.int (i := 3) (k := 1) (lo := (-2147483648)) (hi := 2147483647) I_23 (pX_0 3 (dk_dq rfl)) (by decide +kernel)
            refine dg_get (C := RX5) (T := TX5) (N := 8) hx hb hts (fun w h => bw_mem (wU_X5 w h)) hown K hP (pX_0 3 (dk_dq rfl)) rfl 1 (dk_dq rfl) (hts _ (bw_mem wB_946)) (fun _ h9 => h9) (v := .int x_25) f_x_25 dX11_sell_75 ?_
            refine lv_aload_n hx hb dX11_sell_78 rfl (lv_at hl 0 rfl) ?_
            refine dg_get (C := RX11) (T := TX11) (N := 13) hx hb hts (fun w h => bw_mem (wU_X11 w h)) hown K hP sX_0 rfl 6 (dk_dq rfl) (hts _ (bw_mem wB_286)) (fun _ h9 => h9) (v := .ref (o + d_1)) (((dg_uf_F e_23 0 6).trans ((m_21.1 0 6 _ sX_0 (dk_dq rfl)).trans (m_13.1 0 6 _ sX_0 (dk_dq rfl)))).trans f_d_1) dX11_sell_79 ?_
            refine dg_get (C := RX2) (T := TX2) (N := 19) hx hb hts (fun w h => bw_mem (wU_X2 w h)) hown K hP (rX_0 d_1 hk_d_1) rfl 15 (dk_dq rfl) (hts _ (bw_mem wB_901)) (fun _ h9 => h9) (v := .ref (o + (d_1 + 8))) (show S_23.1 d_1 15 = .ref (o + (d_1 + 8)) from dg_I.rel (d := 8) I_23 (rX_0 d_1 hk_d_1) (by decide +kernel)) dX11_sell_82 ?_
            refine lv_iload_n hx hb dX11_sell_85 rfl (lv_at hl 1 rfl) ?_
            have hin_26 : vp_in a1 5 := (dk_inv2 (by omega))
            refine dg_iald hx hb K hP (rX_8 d_1 hk_d_1) hin_26 dX11_sell_86 (fun x_27 ex_27 => ?_)
            refine lv_iadd hx hb dX11_sell_87 ?_
            refine lv_topi (fun x_28 ex_28 => ?_)
            refine va_mmin hx hb (by rw [hml]; exact hl.1.symm) hown (hts _ (bw_mem wB_991)) (hts _ (bw_mem wB_504)) (hts _ (bw_mem wB_505)) (hts _ (bw_mem wB_506)) (Nat.le_of_ble_eq_true rfl) (Nat.le_of_ble_eq_true rfl) (Nat.le_of_ble_eq_true rfl) (Nat.le_of_ble_eq_true rfl) dX11_sell_88 ?_
            refine lv_topi (fun x_29 ex_29 => ?_)
            have jx_29 := dk_minT (a := 99999) (b := (x_28).toInt) (by decide +kernel) rfl ex_29
            refine dg_put (ci := 5) (v := .int x_29) (ty := tyX5 1) (C := RX5) (T := TX5) (N := 8) hx hb hts (fun w h => bw_mem (wU_X5 w h)) tyX5 tyX5_ok nmX5 hown K hP hS hA1 (pX_0 3 (dk_dq rfl)) rfl 1 (dk_dq rfl) (hts _ (bw_mem wB_946)) (fun _ h9 => h9) rfl (by decide +kernel) rfl rfl dX11_sell_91 (fun S_30 e_30 H locs hP hS => ?_)
            have I_30 := dg_I.uFi (lo := (-2147483648)) (hi := 2147483647) I_23 e_30 (pX_0 3 (dk_dq rfl)) (by decide +kernel) (show (-2147483648) ≤ (x_29).toInt ∧ (x_29).toInt ≤ 2147483647 from (dk_full _))
            have M_30 := dg_sm.uF M_23 e_30 (pX_0 3 (dk_dq rfl)) (dk_dq rfl)
            have hF_1 : F_d_sell o S a1 = F_d_sell_J1 S_30 x_29 := (F_d_sell_p2 (zR_eq f_d_1) w_4_2 c_5 w_11_1 c_12 w_13_7 (Eq.symm ex_18.symm) (Eq.symm ex_20.symm) w_21_0 e_23 (zI_eq f_x_25) (Eq.symm ex_27.symm) ex_28 ex_29 e_30)
            refine lv_aload_n hx hb dX11_sell_94 rfl (lv_at hl 0 rfl) ?_
            refine dg_get (C := RX11) (T := TX11) (N := 13) hx hb hts (fun w h => bw_mem (wU_X11 w h)) hown K hP sX_0 rfl 1 (dk_dq rfl) (hts _ (bw_mem wB_287)) (fun _ h9 => h9) (v := .ref (o + 3)) (show S_30.1 0 1 = .ref (o + 3) from dg_I.rel (d := 3) I_30 sX_0 (by decide +kernel)) dX11_sell_95 ?_
            refine dg_get (C := RX5) (T := TX5) (N := 8) hx hb hts (fun w h => bw_mem (wU_X5 w h)) hown K hP (pX_0 3 (dk_dq rfl)) rfl 1 (dk_dq rfl) (hts _ (bw_mem wB_946)) (fun _ h9 => h9) (v := .int x_29) (dg_uF_at e_30) dX11_sell_98 ?_
            have hf_30 := dk_full x_29
            refine W.widen (k := 0) (n := 0) (Nat.le_of_ble_eq_true rfl) (Nat.le_of_ble_eq_true rfl) ?_
            exact dg_iret hx hb hr hlocks rfl hP hS ⟨I_30, M_30, (by omega), (m_hid.mk (Or.inr ⟨(by rw [← zI_eq (((dg_uF_ne e_30 (fun z => absurd z.2 (dk_dq rfl))).trans ((dg_uf_F e_23 221 2).trans (m_21.1 221 2 _ sX_221 (dk_dq rfl)))).trans f_y_14)]; first | omega | decide +kernel), (by rw [← zI_eq (((dg_uF_ne e_30 (fun z => absurd z.2 (dk_dq rfl))).trans ((dg_uf_F e_23 221 3).trans (m_21.1 221 3 _ sX_221 (dk_dq rfl)))).trans f_y_15)]; first | omega | decide +kernel), (by rw [← zI_eq (((dg_uF_ne e_30 (fun z => absurd z.2 (dk_dq rfl))).trans ((dg_uf_F e_23 229 4).trans (m_21.1 229 4 _ sX_229 (dk_dq rfl)))).trans f_y_16)]; first | omega | decide +kernel), ((dg_uF_f e_30 184).trans ((dg_uf_ne e_23 (dk_dq rfl)).trans ((m_21.2 184 _ sX_184 (dk_dq rfl)).1.trans (m_13.2 184 _ sX_184 (dk_dq rfl)).1)))⟩)), (Z3X.keep (Z3X.keep (Z3X.keep w_13_3 m_21 (dg_FG.sm m_21 (dk_dq rfl)) (dk_dq rfl)) (dg_sm.uf (WF := []) (WA := [8]) dg_sm.rf e_23 (pX_5 3 (dk_dq rfl)) (dk_dq rfl)) (dg_FG.uf e_23 (pX_5 3 (dk_dq rfl)) (dk_dq rfl)) (dk_dq rfl)) (dg_sm.uF (WF := [(3, 1)]) (WA := []) dg_sm.rf e_30 (pX_0 3 (dk_dq rfl)) (dk_dq rfl)) (dg_FG.uF e_30) (dk_dq rfl)), (Z4X.keep (Z4X.keep (Z4X.keep w_13_4 m_21 (dg_FG.sm m_21 (dk_dq rfl)) (dk_dq rfl) (dk_dq rfl)) (dg_sm.uf (WF := []) (WA := [8]) dg_sm.rf e_23 (pX_5 3 (dk_dq rfl)) (dk_dq rfl)) (dg_FG.uf e_23 (pX_5 3 (dk_dq rfl)) (dk_dq rfl)) (dk_dq rfl) (dk_dq rfl)) (dg_sm.uF (WF := [(3, 1)]) (WA := []) dg_sm.rf e_30 (pX_0 3 (dk_dq rfl)) (dk_dq rfl)) (dg_FG.uF e_30) (dk_dq rfl) (dk_dq rfl)), (Z6X.keep (Z6X.keep (Z6X.keep w_13_5 m_21 (dg_FG.sm m_21 (dk_dq rfl))) (dg_sm.uf (WF := []) (WA := [8]) dg_sm.rf e_23 (pX_5 3 (dk_dq rfl)) (dk_dq rfl)) (dg_FG.uf e_23 (pX_5 3 (dk_dq rfl)) (dk_dq rfl))) (dg_sm.uF (WF := [(3, 1)]) (WA := []) dg_sm.rf e_30 (pX_0 3 (dk_dq rfl)) (dk_dq rfl)) (dg_FG.uF e_30)), (dg_FG.tr (dg_FG.tr (dg_FG.tr w_13_6 (dg_FG.sm m_21 (dk_dq rfl))) (dg_FG.uf e_23 (pX_5 3 (dk_dq rfl)) (dk_dq rfl))) (dg_FG.uF e_30)), ⟨congrArg Prod.fst (Eq.symm (Eq.trans hF_1 (F_d_sell_p1))), congrArg Prod.snd (Eq.symm (Eq.trans hF_1 (F_d_sell_p1)))⟩, trivial⟩ dX11_sell_101
      · have jc_12 := dk_eqc (k := 0) (by decide +kernel) c_12
        refine lv_aload_n hx hb dX11_sell_19 rfl (lv_at hl 0 rfl) ?_
        refine lv_iconst (v := 3) hx hb dX11_sell_20 (by decide +kernel) ?_
        have hz_32 : (3 : Int32).toInt = 3 := by decide +kernel
        refine dg_calli hS hA1 hA (va_runV (As := [.int 3]) (rest := []) F (c_d_none l g D o S 3 (by decide +kernel) Z1 Z2 Z3 Z4 Z6 I H.size) (cwV 1 hts (bw_V wB_920 wB_921 wB_922 wB_610 wB_919) rfl rfl rfl (by decide +kernel) ⟨Nat.le_of_ble_eq_true rfl, Nat.le_of_ble_eq_true rfl⟩) (dg_preV sX_0 rfl K ST hP hS hA1 hA) rfl rfl hl.1 rfl (lv_room (Nat.le_of_ble_eq_true rfl)) dX11_sell_21 ⟨Nat.le_of_ble_eq_true rfl, Nat.le_of_ble_eq_true rfl⟩) (fun x_33 S_34 hw_34 H locs hP hS => ?_)
        obtain ⟨I_34, m_34, w_34_0, w_34_1, -⟩ := hw_34
        have M_34 := dg_sm.tr M_0 m_34 (dk_dq rfl) (dk_dq rfl)
        have w_34_0 : (-1) ≤ (x_33).toInt ∧ (x_33).toInt ≤ (-1) := w_34_0
        have hf_34 := dk_full x_33
        refine W.widen (k := 0) (n := 0) (Nat.le_of_ble_eq_true rfl) (Nat.le_of_ble_eq_true rfl) ?_
        exact dg_iret hx hb hr hlocks rfl hP hS ⟨I_34, M_34, (by omega), (m_hid.mk (Or.inl ⟨w_34_1.1, by first | omega | decide +kernel⟩)), (Z3X.keep Z3 m_34 (dg_FG.sm m_34 (dk_dq rfl)) (dk_dq rfl)), (Z4X.keep Z4 m_34 (dg_FG.sm m_34 (dk_dq rfl)) (dk_dq rfl) (dk_dq rfl)), (Z6X.keep Z6 m_34 (dg_FG.sm m_34 (dk_dq rfl))), (dg_FG.sm m_34 (dk_dq rfl)), ⟨congrArg Prod.fst (Eq.symm (F_d_sell_p3 (zR_eq f_d_1) w_4_2 c_5 w_11_1 c_12 w_34_1.1 w_34_1.2)), congrArg Prod.snd (Eq.symm (F_d_sell_p3 (zR_eq f_d_1) w_4_2 c_5 w_11_1 c_12 w_34_1.1 w_34_1.2))⟩, trivial⟩ dX11_sell_24
noncomputable def F_d_undo (o : Nat) (S : dg_S) : dg_S × Int32 := let S_2 : dg_S := (F_h_takeBack o S 3).1; let x_1 : Int32 := (F_h_takeBack o S 3).2; (if x_1 = (0 : Int32) then let S_13 : dg_S := (F_d_no o S_2 (4 : Int32)).1; let x_12 : Int32 := (F_d_no o S_2 (4 : Int32)).2; (S_13, x_12) else let S_4 : dg_S := F_d_forgetTrials o S_2; let y_5 : Int32 := zI S_4 221 2; let y_6 : Int32 := zI S_4 221 3; let y_7 : Int32 := zI S_4 229 4; (S_4, (1 : Int32)))
theorem F_d_undo_p0 {o : Nat} {S : dg_S} {S_4 : dg_S} {S_2 : dg_S} {x_1 : Int32} (h0 : S_2 = (F_h_takeBack o S 3).1) (h1 : x_1 = (F_h_takeBack o S 3).2) (h2 : ¬ (x_1 = (0 : Int32))) (h3 : S_4 = F_d_forgetTrials o S_2) : F_d_undo o S = (S_4, (1 : Int32)) := by
  replace h0 := Eq.symm h0
  subst h0
  replace h1 := Eq.symm h1
  subst h1
  replace h3 := Eq.symm h3
  subst h3
  exact (Eq.trans (if_neg h2) rfl)
theorem F_d_undo_p1 {o : Nat} {S : dg_S} {S_13 : dg_S} {x_12 : Int32} {S_2 : dg_S} {x_1 : Int32} (h0 : S_2 = (F_h_takeBack o S 3).1) (h1 : x_1 = (F_h_takeBack o S 3).2) (h2 : x_1 = (0 : Int32)) (h3 : S_13 = (F_d_no o S_2 (4 : Int32)).1) (h4 : x_12 = (F_d_no o S_2 (4 : Int32)).2) : F_d_undo o S = (S_13, x_12) := by
  replace h0 := Eq.symm h0
  subst h0
  replace h1 := Eq.symm h1
  subst h1
  replace h3 := Eq.symm h3
  subst h3
  replace h4 := Eq.symm h4
  subst h4
  exact (Eq.trans (if_pos h2) rfl)
set_option maxHeartbeats 8000000 in
set_option maxRecDepth 100000 in
theorem c_d_undo (l : Launch) (g : Nat → ClassId) (D : va_G) (o : Nat) (S : dg_S) (Z1 : Z1X S) (Z2 : Z2X S) (Z3 : Z3X o S) (Z4 : Z4X S) (Z6 : Z6X S) (I : CX o S) (sz : Nat) : Met l yX11_undo (bw yX11_undo cX11_undo 1 (some .boolean)) ({ frames := 4, cells := 0, slots := 0, locals := 82 } : Room) (dk_Pc g D (dg_w g shX o rfX S) sz [.ref (o + 0)]) (va_Qi (fun (r : Int32) S' => CX o S' ∧ dg_sm shX [(3, 0), (3, 1), (10, 1), (10, 2), (10, 3), (43, 2), (43, 3), (44, 4)] [4, 5, 6, 7, 8, 9, 11, 18] S S' ∧ (0 ≤ (r).toInt ∧ (r).toInt ≤ 1) ∧ (m_hid (((r).toInt = 0) ∨ ((zI S' 221 2).toInt = 0 ∧ (zI S' 221 3).toInt = 0 ∧ (zI S' 229 4).toInt = 0 ∧ S'.2.1 184 = S.2.1 184 ∧ (r).toInt ≠ 0))) ∧ Z3X o S' ∧ Z4X S' ∧ Z6X S' ∧ dg_FG S S' ∧ (S' = (F_d_undo o S).1 ∧ r = (F_d_undo o S).2) ∧ True) (dg_B g D shX o rfX) (dg_A o shX.length sz)) 0 0 (dg_A o shX.length sz) := by
  refine dg_met (cc := cX11_undo) (maxL := 1) (ret := (some .boolean)) (dk_dq rfl) rfl (Nat.le_of_ble_eq_true rfl) ?_
  intro p e s m args below meth c A hAe harg hx hb hr hml hts hown hlocks hin hP K hS hA1 hA ST hsz ls hl
  rw [← hAe]
  have F : CallFix p m c cX11_undo 1 s args (bw yX11_undo cX11_undo 1 (some .boolean)) RX11 := ⟨hx, hb, hml, hown, hts⟩
  have hl : lv_has ls 1 [(0, .ref (o + 0))] := hl
  have M_0 : dg_sm shX [(3, 0), (3, 1), (10, 1), (10, 2), (10, 3), (43, 2), (43, 3), (44, 4)] [4, 5, 6, 7, 8, 9, 11, 18] S S := dg_sm.rf
  refine lv_aload_n hx hb dX11_undo_0 rfl (lv_at hl 0 rfl) ?_
  refine dg_get (C := RX11) (T := TX11) (N := 13) hx hb hts (fun w h => bw_mem (wU_X11 w h)) hown K hP sX_0 rfl 3 (dk_dq rfl) (hts _ (bw_mem wB_844)) (fun _ h9 => h9) (v := .ref (o + 17)) (show S.1 0 3 = .ref (o + 17) from dg_I.rel (d := 17) I sX_0 (by decide +kernel)) dX11_undo_1 ?_
  refine lv_aload_n hx hb dX11_undo_4 rfl (lv_at hl 0 rfl) ?_
  refine dg_get (C := RX11) (T := TX11) (N := 13) hx hb hts (fun w h => bw_mem (wU_X11 w h)) hown K hP sX_0 rfl 1 (dk_dq rfl) (hts _ (bw_mem wB_287)) (fun _ h9 => h9) (v := .ref (o + 3)) (show S.1 0 1 = .ref (o + 3) from dg_I.rel (d := 3) I sX_0 (by decide +kernel)) dX11_undo_5 ?_
  refine dg_calli hS hA1 hA (va_runV (As := [.ref (o + 3)]) (rest := []) F (c_h_takeBack l g D o S 3 (by unfold pX; decide : pX 3) Z4 I s.heap.size) (cwV 1 hts (bw_V wB_1052 wB_1053 wB_1054 wB_849 wB_1051) rfl rfl rfl (by decide +kernel) ⟨Nat.le_of_ble_eq_true rfl, Nat.le_of_ble_eq_true rfl⟩) (dg_preV sX_17 rfl K ST hP hS hA1 hA) rfl rfl hl.1 rfl (lv_room (Nat.le_of_ble_eq_true rfl)) dX11_undo_8 ⟨Nat.le_of_ble_eq_true rfl, Nat.le_of_ble_eq_true rfl⟩) (fun x_1 S_2 hw_2 H locs hP hS => ?_)
  obtain ⟨I_2, m_2, w_2_0, w_2_1, w_2_2, w_2_3, -⟩ := hw_2
  have M_2 := dg_sm.tr M_0 m_2 (dk_dq rfl) (dk_dq rfl)
  have w_2_0 : 0 ≤ (x_1).toInt ∧ (x_1).toInt ≤ 1 := w_2_0
  refine lv_if_ne (tgt := 20) hx hb dX11_undo_11 (dk_dq rfl) (fun c_3 => ?_) (fun c_3 => ?_)
  · as_aux_lemma =>
      have jc_3 := dk_neqc (k := 0) (by decide +kernel) c_3
      refine lv_aload_n hx hb dX11_undo_20 rfl (lv_at hl 0 rfl) ?_
      refine dg_callv hS hA1 hA (va_runV (As := []) (rest := []) F (c_d_forgetTrials l g D o S_2 (Z1X.keep Z1 m_2 (dk_dq rfl) (dk_dq rfl) (dk_dq rfl)) (Z2X.keep Z2 m_2 (dk_dq rfl) (dk_dq rfl)) (Z3X.keep Z3 m_2 w_2_2 (dk_dq rfl)) w_2_1 (Z6X.keep Z6 m_2 w_2_2) I_2 H.size) (cwV 0 hts (bw_V wB_851 wB_852 wB_853 wB_610 wB_850) rfl rfl rfl (by decide +kernel) ⟨Nat.le_of_ble_eq_true rfl, Nat.le_of_ble_eq_true rfl⟩) (dg_preV sX_0 rfl K ST hP hS hA1 hA) rfl rfl hl.1 rfl (lv_room (Nat.le_of_ble_eq_true rfl)) dX11_undo_21 ⟨Nat.le_of_ble_eq_true rfl, Nat.le_of_ble_eq_true rfl⟩) (fun S_4 hw_4 H locs hP hS => ?_)
      obtain ⟨I_4, m_4, w_4_0, w_4_1, w_4_2, w_4_3, -⟩ := hw_4
      have M_4 := dg_sm.tr M_2 m_4 (dk_dq rfl) (dk_dq rfl)
      obtain ⟨y_5, f_y_5, w_4_0⟩ := w_4_0
      have w_4_0 : (y_5).toInt = 0 := w_4_0
      obtain ⟨y_6, f_y_6, w_4_1⟩ := w_4_1
      have w_4_1 : (y_6).toInt = 0 := w_4_1
      obtain ⟨y_7, f_y_7, w_4_2⟩ := w_4_2
      have w_4_2 : (y_7).toInt = 0 := w_4_2
      have b_y_7 : 0 ≤ (y_7).toInt ∧ (y_7).toInt ≤ 1 := dg_I.intb (lo := 0) (hi := 1) I_4 sX_229 (by decide +kernel) f_y_7
      refine lv_iconst (v := 1) hx hb dX11_undo_24 (by decide +kernel) ?_
      have hz_8 : (1 : Int32).toInt = 1 := by decide +kernel
      have hz_9 : (1 : Int32).toInt = 1 := by decide +kernel
      have hz_10 : (1 : Int32).toInt = 1 := by decide +kernel
      refine W.widen (k := 0) (n := 0) (Nat.le_of_ble_eq_true rfl) (Nat.le_of_ble_eq_true rfl) ?_
      exact dg_iret hx hb hr hlocks (by decide +kernel) hP hS ⟨I_4, M_4, (by decide +kernel), (m_hid.mk (Or.inr ⟨(by rw [← zI_eq f_y_5]; first | omega | decide +kernel), (by rw [← zI_eq f_y_6]; first | omega | decide +kernel), (by rw [← zI_eq f_y_7]; first | omega | decide +kernel), ((m_4.2 184 _ sX_184 (dk_dq rfl)).1.trans (m_2.2 184 _ sX_184 (dk_dq rfl)).1), by first | omega | decide +kernel⟩)), (Z3X.keep (Z3X.keep Z3 m_2 w_2_2 (dk_dq rfl)) m_4 (dg_FG.sm m_4 (dk_dq rfl)) (dk_dq rfl)), (Z4X.keep w_2_1 m_4 (dg_FG.sm m_4 (dk_dq rfl)) (dk_dq rfl) (dk_dq rfl)), (Z6X.keep (Z6X.keep Z6 m_2 w_2_2) m_4 (dg_FG.sm m_4 (dk_dq rfl))), (dg_FG.tr w_2_2 (dg_FG.sm m_4 (dk_dq rfl))), ⟨congrArg Prod.fst (Eq.symm (F_d_undo_p0 w_2_3.1 w_2_3.2 c_3 w_4_3)), congrArg Prod.snd (Eq.symm (F_d_undo_p0 w_2_3.1 w_2_3.2 c_3 w_4_3))⟩, trivial⟩ dX11_undo_25
  · have jc_3 := dk_eqc (k := 0) (by decide +kernel) c_3
    refine lv_aload_n hx hb dX11_undo_14 rfl (lv_at hl 0 rfl) ?_
    refine lv_iconst (v := 4) hx hb dX11_undo_15 (by decide +kernel) ?_
    have hz_11 : (4 : Int32).toInt = 4 := by decide +kernel
    refine dg_calli hS hA1 hA (va_runV (As := [.int 4]) (rest := []) F (c_d_no l g D o S_2 4 (by decide +kernel) (Z1X.keep Z1 m_2 (dk_dq rfl) (dk_dq rfl) (dk_dq rfl)) (Z2X.keep Z2 m_2 (dk_dq rfl) (dk_dq rfl)) (Z3X.keep Z3 m_2 w_2_2 (dk_dq rfl)) w_2_1 (Z6X.keep Z6 m_2 w_2_2) I_2 H.size) (cwV 1 hts (bw_V wB_924 wB_925 wB_926 wB_610 wB_923) rfl rfl rfl (by decide +kernel) ⟨Nat.le_of_ble_eq_true rfl, Nat.le_of_ble_eq_true rfl⟩) (dg_preV sX_0 rfl K ST hP hS hA1 hA) rfl rfl hl.1 rfl (lv_room (Nat.le_of_ble_eq_true rfl)) dX11_undo_16 ⟨Nat.le_of_ble_eq_true rfl, Nat.le_of_ble_eq_true rfl⟩) (fun x_12 S_13 hw_13 H locs hP hS => ?_)
    obtain ⟨I_13, m_13, w_13_0, w_13_1, -⟩ := hw_13
    have M_13 := dg_sm.tr M_2 m_13 (dk_dq rfl) (dk_dq rfl)
    have w_13_0 : 0 ≤ (x_12).toInt ∧ (x_12).toInt ≤ 0 := w_13_0
    refine W.widen (k := 0) (n := 0) (Nat.le_of_ble_eq_true rfl) (Nat.le_of_ble_eq_true rfl) ?_
    exact dg_iret hx hb hr hlocks (dk_znar2 (by omega)) hP hS ⟨I_13, M_13, (by omega), (m_hid.mk (Or.inl (by first | omega | decide +kernel))), (Z3X.keep (Z3X.keep Z3 m_2 w_2_2 (dk_dq rfl)) m_13 (dg_FG.sm m_13 (dk_dq rfl)) (dk_dq rfl)), (Z4X.keep w_2_1 m_13 (dg_FG.sm m_13 (dk_dq rfl)) (dk_dq rfl) (dk_dq rfl)), (Z6X.keep (Z6X.keep Z6 m_2 w_2_2) m_13 (dg_FG.sm m_13 (dk_dq rfl))), (dg_FG.tr w_2_2 (dg_FG.sm m_13 (dk_dq rfl))), ⟨congrArg Prod.fst (Eq.symm (F_d_undo_p1 w_2_3.1 w_2_3.2 c_3 w_13_1.1 w_13_1.2)), congrArg Prod.snd (Eq.symm (F_d_undo_p1 w_2_3.1 w_2_3.2 c_3 w_13_1.1 w_13_1.2))⟩, trivial⟩ dX11_undo_19
noncomputable def F_d_seed (o : Nat) (S : dg_S) (a1 : Int32) : dg_S × Int32 := (if (0 : Int32) ≤ a1 then let S_2 : dg_S := dg_uF S 0 12 (.int a1); (S_2, (1 : Int32)) else let S_7 : dg_S := (F_d_no o S (5 : Int32)).1; let x_6 : Int32 := (F_d_no o S (5 : Int32)).2; (S_7, x_6))
theorem F_d_seed_p0 {o : Nat} {S : dg_S} {a1 : Int32} {S_2 : dg_S} (h0 : (0 : Int32) ≤ a1) (h1 : S_2 = dg_uF S 0 12 (.int a1)) : F_d_seed o S a1 = (S_2, (1 : Int32)) := by
  replace h1 := Eq.symm h1
  subst h1
  exact (Eq.trans (if_pos h0) rfl)
theorem F_d_seed_p1 {o : Nat} {S : dg_S} {a1 : Int32} {S_7 : dg_S} {x_6 : Int32} (h0 : ¬ ((0 : Int32) ≤ a1)) (h1 : S_7 = (F_d_no o S (5 : Int32)).1) (h2 : x_6 = (F_d_no o S (5 : Int32)).2) : F_d_seed o S a1 = (S_7, x_6) := by
  replace h1 := Eq.symm h1
  subst h1
  replace h2 := Eq.symm h2
  subst h2
  exact (Eq.trans (if_neg h0) rfl)
set_option maxHeartbeats 8000000 in
set_option maxRecDepth 100000 in
theorem c_d_seed (l : Launch) (g : Nat → ClassId) (D : va_G) (o : Nat) (S : dg_S) (a1 : Int32) (Z1 : Z1X S) (Z2 : Z2X S) (Z3 : Z3X o S) (Z4 : Z4X S) (Z6 : Z6X S) (I : CX o S) (sz : Nat) : Met l yX11_seed (bw yX11_seed cX11_seed 2 (some .boolean)) ({ frames := 2, cells := 0, slots := 0, locals := 53 } : Room) (dk_Pc g D (dg_w g shX o rfX S) sz [.ref (o + 0), .int a1]) (va_Qi (fun (r : Int32) S' => CX o S' ∧ dg_sm shX [(0, 12)] [18] S S' ∧ (0 ≤ (r).toInt ∧ (r).toInt ≤ 1) ∧ ((r).toInt = 1 ↔ 0 ≤ (a1).toInt) ∧ (S' = (F_d_seed o S a1).1 ∧ r = (F_d_seed o S a1).2) ∧ True) (dg_B g D shX o rfX) (dg_A o shX.length sz)) 0 0 (dg_A o shX.length sz) := by
  refine dg_met (cc := cX11_seed) (maxL := 2) (ret := (some .boolean)) (dk_dq rfl) rfl (Nat.le_of_ble_eq_true rfl) ?_
  intro p e s m args below meth c A hAe harg hx hb hr hml hts hown hlocks hin hP K hS hA1 hA ST hsz ls hl
  rw [← hAe]
  have F : CallFix p m c cX11_seed 2 s args (bw yX11_seed cX11_seed 2 (some .boolean)) RX11 := ⟨hx, hb, hml, hown, hts⟩
  have hl : lv_has ls 2 [(0, .ref (o + 0)), (1, .int a1)] := hl
  have M_0 : dg_sm shX [(0, 12)] [18] S S := dg_sm.rf
  refine lv_iload_n hx hb dX11_seed_0 rfl (lv_at hl 1 rfl) ?_
  refine lv_if_ge (tgt := 10) hx hb dX11_seed_1 (dk_dq rfl) (fun c_1 => ?_) (fun c_1 => ?_)
  · have jc_1 := dk_gec (k := 0) (by decide +kernel) c_1
    refine lv_aload_n hx hb dX11_seed_10 rfl (lv_at hl 0 rfl) ?_
    refine lv_iload_n hx hb dX11_seed_11 rfl (lv_at hl 1 rfl) ?_
    refine dg_put (ci := 11) (v := .int a1) (ty := tyX11 12) (C := RX11) (T := TX11) (N := 13) hx hb hts (fun w h => bw_mem (wU_X11 w h)) tyX11 tyX11_ok nmX11 hown K hP hS hA1 sX_0 rfl 12 (dk_dq rfl) (hts _ (bw_mem wB_870)) (fun _ h9 => h9) rfl (by decide +kernel) rfl rfl dX11_seed_12 (fun S_2 e_2 H locs hP hS => ?_)
    have I_2 := dg_I.uFi (lo := (-2147483648)) (hi := 2147483647) I e_2 sX_0 (by decide +kernel) (show (-2147483648) ≤ (a1).toInt ∧ (a1).toInt ≤ 2147483647 from (dk_full _))
    have M_2 := dg_sm.uF M_0 e_2 sX_0 (dk_dq rfl)
    refine lv_iconst (v := 1) hx hb dX11_seed_15 (by decide +kernel) ?_
    have hz_3 : (1 : Int32).toInt = 1 := by decide +kernel
    have hz_4 : (1 : Int32).toInt = 1 := by decide +kernel
    refine W.widen (k := 0) (n := 0) (Nat.le_of_ble_eq_true rfl) (Nat.le_of_ble_eq_true rfl) ?_
    exact dg_iret hx hb hr hlocks (by decide +kernel) hP hS ⟨I_2, M_2, (by decide +kernel), (by omega), ⟨congrArg Prod.fst (Eq.symm (F_d_seed_p0 c_1 e_2)), congrArg Prod.snd (Eq.symm (F_d_seed_p0 c_1 e_2))⟩, trivial⟩ dX11_seed_16
  · have jc_1 := dk_ngec (k := 0) (by decide +kernel) c_1
    refine lv_aload_n hx hb dX11_seed_4 rfl (lv_at hl 0 rfl) ?_
    refine lv_iconst (v := 5) hx hb dX11_seed_5 (by decide +kernel) ?_
    have hz_5 : (5 : Int32).toInt = 5 := by decide +kernel
    refine dg_calli hS hA1 hA (va_runV (As := [.int 5]) (rest := []) F (c_d_no l g D o S 5 (by decide +kernel) Z1 Z2 Z3 Z4 Z6 I s.heap.size) (cwV 1 hts (bw_V wB_924 wB_925 wB_926 wB_610 wB_923) rfl rfl rfl (by decide +kernel) ⟨Nat.le_of_ble_eq_true rfl, Nat.le_of_ble_eq_true rfl⟩) (dg_preV sX_0 rfl K ST hP hS hA1 hA) rfl rfl hl.1 rfl (lv_room (Nat.le_of_ble_eq_true rfl)) dX11_seed_6 ⟨Nat.le_of_ble_eq_true rfl, Nat.le_of_ble_eq_true rfl⟩) (fun x_6 S_7 hw_7 H locs hP hS => ?_)
    obtain ⟨I_7, m_7, w_7_0, w_7_1, -⟩ := hw_7
    have M_7 := dg_sm.tr M_0 m_7 (dk_dq rfl) (dk_dq rfl)
    have w_7_0 : 0 ≤ (x_6).toInt ∧ (x_6).toInt ≤ 0 := w_7_0
    refine W.widen (k := 0) (n := 0) (Nat.le_of_ble_eq_true rfl) (Nat.le_of_ble_eq_true rfl) ?_
    exact dg_iret hx hb hr hlocks (dk_znar2 (by omega)) hP hS ⟨I_7, M_7, (by omega), (by omega), ⟨congrArg Prod.fst (Eq.symm (F_d_seed_p1 c_1 w_7_1.1 w_7_1.2)), congrArg Prod.snd (Eq.symm (F_d_seed_p1 c_1 w_7_1.1 w_7_1.2))⟩, trivial⟩ dX11_seed_9
noncomputable def F_d_kept (o : Nat) (S : dg_S) (a1 : Int32) (a2 : Int32) : Int32 := (if a1 < (0 : Int32) then (-1 : Int32) else let x_2 : Int32 := zI S 17 1; (if x_2 ≤ a1 then (-1 : Int32) else (if a2 < (0 : Int32) then (-1 : Int32) else (if a2 < (4 : Int32) then let x_8 : Int32 := (4 : Int32) * a1; let x_9 : Int32 := x_8 + a2; let x_11 : Int32 := S.2.1 18 (x_9 : Int32).toNatClampNeg; x_11 else (-1 : Int32)))))
theorem F_d_kept_p0 {o : Nat} {S : dg_S} {a1 : Int32} {a2 : Int32} (h0 : a1 < (0 : Int32)) : F_d_kept o S a1 a2 = (-1 : Int32) := (Eq.trans (if_pos h0) rfl)
theorem F_d_kept_p1 {o : Nat} {S : dg_S} {a1 : Int32} {a2 : Int32} {x_2 : Int32} (h0 : ¬ (a1 < (0 : Int32))) (h1 : x_2 = zI S 17 1) (h2 : x_2 ≤ a1) : F_d_kept o S a1 a2 = (-1 : Int32) := by
  replace h1 := Eq.symm h1
  subst h1
  exact (Eq.trans (if_neg h0) (Eq.trans (if_pos h2) rfl))
theorem F_d_kept_p2 {o : Nat} {S : dg_S} {a1 : Int32} {a2 : Int32} {x_2 : Int32} (h0 : ¬ (a1 < (0 : Int32))) (h1 : x_2 = zI S 17 1) (h2 : ¬ (x_2 ≤ a1)) (h3 : a2 < (0 : Int32)) : F_d_kept o S a1 a2 = (-1 : Int32) := by
  replace h1 := Eq.symm h1
  subst h1
  exact (Eq.trans (if_neg h0) (Eq.trans (if_neg h2) (Eq.trans (if_pos h3) rfl)))
theorem F_d_kept_p3 {o : Nat} {S : dg_S} {a1 : Int32} {a2 : Int32} {x_11 : Int32} {x_2 : Int32} {x_8 : Int32} {x_9 : Int32} (h0 : ¬ (a1 < (0 : Int32))) (h1 : x_2 = zI S 17 1) (h2 : ¬ (x_2 ≤ a1)) (h3 : ¬ (a2 < (0 : Int32))) (h4 : a2 < (4 : Int32)) (h5 : x_8 = (4 : Int32) * a1) (h6 : x_9 = x_8 + a2) (h7 : x_11 = S.2.1 18 (x_9 : Int32).toNatClampNeg) : F_d_kept o S a1 a2 = x_11 := by
  replace h1 := Eq.symm h1
  subst h1
  replace h5 := Eq.symm h5
  subst h5
  replace h6 := Eq.symm h6
  subst h6
  replace h7 := Eq.symm h7
  subst h7
  exact (Eq.trans (if_neg h0) (Eq.trans (if_neg h2) (Eq.trans (if_neg h3) (Eq.trans (if_pos h4) rfl))))
theorem F_d_kept_p4 {o : Nat} {S : dg_S} {a1 : Int32} {a2 : Int32} {x_2 : Int32} (h0 : ¬ (a1 < (0 : Int32))) (h1 : x_2 = zI S 17 1) (h2 : ¬ (x_2 ≤ a1)) (h3 : ¬ (a2 < (0 : Int32))) (h4 : ¬ (a2 < (4 : Int32))) : F_d_kept o S a1 a2 = (-1 : Int32) := by
  replace h1 := Eq.symm h1
  subst h1
  exact (Eq.trans (if_neg h0) (Eq.trans (if_neg h2) (Eq.trans (if_neg h3) (Eq.trans (if_neg h4) rfl))))
set_option maxHeartbeats 8000000 in
set_option maxRecDepth 100000 in
theorem c_d_kept (l : Launch) (g : Nat → ClassId) (D : va_G) (o : Nat) (S : dg_S) (a1 : Int32) (a2 : Int32) (Z1 : Z1X S) (Z2 : Z2X S) (Z3 : Z3X o S) (Z4 : Z4X S) (Z6 : Z6X S) (I : CX o S) (sz : Nat) : Met l yX11_kept (bw yX11_kept cX11_kept 3 (some .int)) ({ frames := 1, cells := 0, slots := 0, locals := 32 } : Room) (dk_Pc g D (dg_w g shX o rfX S) sz [.ref (o + 0), .int a1, .int a2]) (va_Qi (fun (r : Int32) S' => S' = S ∧ (r = F_d_kept o S a1 a2) ∧ True) (dg_B g D shX o rfX) (dg_A o shX.length sz)) 0 0 (dg_A o shX.length sz) := by
  refine dg_met (cc := cX11_kept) (maxL := 3) (ret := (some .int)) (dk_dq rfl) rfl (Nat.le_of_ble_eq_true rfl) ?_
  intro p e s m args below meth c A hAe harg hx hb hr hml hts hown hlocks hin hP K hS hA1 hA ST hsz ls hl
  rw [← hAe]
  have F : CallFix p m c cX11_kept 3 s args (bw yX11_kept cX11_kept 3 (some .int)) RX11 := ⟨hx, hb, hml, hown, hts⟩
  have hl : lv_has ls 3 [(0, .ref (o + 0)), (1, .int a1), (2, .int a2)] := hl
  have M_0 : dg_sm shX [] [] S S := dg_sm.rf
  refine lv_iload_n hx hb dX11_kept_0 rfl (lv_at hl 1 rfl) ?_
  refine lv_if_lt (tgt := 24) hx hb dX11_kept_1 (dk_dq rfl) (fun c_1 => ?_) (fun c_1 => ?_)
  · have jc_1 := dk_ltc (k := 0) (by decide +kernel) c_1
    refine lv_iconst (v := (-1)) hx hb dX11_kept_24 (by decide +kernel) ?_
    refine W.widen (k := 0) (n := 0) (Nat.le_of_ble_eq_true rfl) (Nat.le_of_ble_eq_true rfl) ?_
    exact dg_iret hx hb hr hlocks rfl hP hS ⟨rfl, (Eq.symm (F_d_kept_p0 c_1)), trivial⟩ dX11_kept_25
  · as_aux_lemma =>
      have jc_1 := dk_nltc (k := 0) (by decide +kernel) c_1
      refine lv_iload_n hx hb dX11_kept_4 rfl (lv_at hl 1 rfl) ?_
      refine lv_aload_n hx hb dX11_kept_5 rfl (lv_at hl 0 rfl) ?_
      refine dg_get (C := RX11) (T := TX11) (N := 13) hx hb hts (fun w h => bw_mem (wU_X11 w h)) hown K hP sX_0 rfl 3 (dk_dq rfl) (hts _ (bw_mem wB_844)) (fun _ h9 => h9) (v := .ref (o + 17)) (show S.1 0 3 = .ref (o + 17) from dg_I.rel (d := 17) I sX_0 (by decide +kernel)) dX11_kept_6 ?_
      obtain ⟨x_2, f_x_2, b_x_2⟩ := dg_I.int (i := 17) (k := 1) (lo := 0) (hi := 40) I sX_17 (by decide +kernel)
      refine dg_get (C := RX3) (T := TX3) (N := 7) hx hb hts (fun w h => bw_mem (wU_X3 w h)) hown K hP sX_17 rfl 1 (dk_dq rfl) (hts _ (bw_mem wB_948)) (fun _ h9 => h9) (v := .int x_2) f_x_2 dX11_kept_9 ?_
      refine lv_icmp_ge (tgt := 24) hx hb dX11_kept_12 (dk_dq rfl) (fun c_3 => ?_) (fun c_3 => ?_)
      · have hf_3 := dk_full a1
        have jc_3 := dk_gec (k := (x_2).toInt) rfl c_3
        refine lv_iconst (v := (-1)) hx hb dX11_kept_24 (by decide +kernel) ?_
        refine W.widen (k := 0) (n := 0) (Nat.le_of_ble_eq_true rfl) (Nat.le_of_ble_eq_true rfl) ?_
        exact dg_iret hx hb hr hlocks rfl hP hS ⟨rfl, (Eq.symm (F_d_kept_p1 c_1 (zI_eq f_x_2) c_3)), trivial⟩ dX11_kept_25
      · as_aux_lemma =>
          have hf_4 := dk_full a1
          have jc_3 := dk_ngec (k := (x_2).toInt) rfl c_3
          refine lv_iload_n hx hb dX11_kept_15 rfl (lv_at hl 2 rfl) ?_
          refine lv_if_lt (tgt := 24) hx hb dX11_kept_16 (dk_dq rfl) (fun c_6 => ?_) (fun c_6 => ?_)
          · have jc_6 := dk_ltc (k := 0) (by decide +kernel) c_6
            refine lv_iconst (v := (-1)) hx hb dX11_kept_24 (by decide +kernel) ?_
            refine W.widen (k := 0) (n := 0) (Nat.le_of_ble_eq_true rfl) (Nat.le_of_ble_eq_true rfl) ?_
            exact dg_iret hx hb hr hlocks rfl hP hS ⟨rfl, (Eq.symm (F_d_kept_p2 c_1 (zI_eq f_x_2) c_3 c_6)), trivial⟩ dX11_kept_25
          · as_aux_lemma =>
              have jc_6 := dk_nltc (k := 0) (by decide +kernel) c_6
              refine lv_iload_n hx hb dX11_kept_19 rfl (lv_at hl 2 rfl) ?_
              refine lv_iconst (v := 4) hx hb dX11_kept_20 (by decide +kernel) ?_
              refine lv_icmp_lt (tgt := 26) hx hb dX11_kept_21 (dk_dq rfl) (fun c_7 => ?_) (fun c_7 => ?_)
              · as_aux_lemma =>
                  have jc_7 := dk_ltc (k := 4) (by decide +kernel) c_7
                  refine lv_aload_n hx hb dX11_kept_26 rfl (lv_at hl 0 rfl) ?_
                  refine dg_get (C := RX11) (T := TX11) (N := 13) hx hb hts (fun w h => bw_mem (wU_X11 w h)) hown K hP sX_0 rfl 3 (dk_dq rfl) (hts _ (bw_mem wB_844)) (fun _ h9 => h9) (v := .ref (o + 17)) (show S.1 0 3 = .ref (o + 17) from dg_I.rel (d := 17) I sX_0 (by decide +kernel)) dX11_kept_27 ?_
                  refine dg_get (C := RX3) (T := TX3) (N := 7) hx hb hts (fun w h => bw_mem (wU_X3 w h)) hown K hP sX_17 rfl 0 (dk_dq rfl) (hts _ (bw_mem wB_1055)) (fun _ h9 => h9) (v := .ref (o + 18)) (show S.1 17 0 = .ref (o + 18) from dg_I.rel (d := 1) I sX_17 (by decide +kernel)) dX11_kept_30 ?_
                  refine lv_iconst (v := 4) hx hb dX11_kept_33 (by decide +kernel) ?_
                  refine lv_iload_n hx hb dX11_kept_34 rfl (lv_at hl 1 rfl) ?_
                  refine lv_imul hx hb dX11_kept_35 ?_
                  refine lv_topi (fun x_8 ex_8 => ?_)
                  have jx_8 : (x_8).toInt = 4 * (a1).toInt := by rw [ex_8]; exact dk_mulT2 (by decide +kernel) rfl (by omega)
                  refine lv_iload_n hx hb dX11_kept_36 rfl (lv_at hl 2 rfl) ?_
                  refine lv_iadd hx hb dX11_kept_37 ?_
                  refine lv_topi (fun x_9 ex_9 => ?_)
                  have jx_9 : (x_9).toInt = (x_8).toInt + (a2).toInt := by rw [ex_9]; exact dk_addT2 rfl rfl (by omega)
                  have hin_10 : vp_in x_9 160 := (dk_inv2 (by omega))
                  refine dg_iald hx hb K hP sX_18 hin_10 dX11_kept_38 (fun x_11 ex_11 => ?_)
                  refine W.widen (k := 0) (n := 0) (Nat.le_of_ble_eq_true rfl) (Nat.le_of_ble_eq_true rfl) ?_
                  exact dg_iret hx hb hr hlocks rfl hP hS ⟨rfl, (Eq.symm (F_d_kept_p3 c_1 (zI_eq f_x_2) c_3 c_6 c_7 ex_8 ex_9 (Eq.symm ex_11.symm))), trivial⟩ dX11_kept_39
              · have jc_7 := dk_nltc (k := 4) (by decide +kernel) c_7
                refine lv_iconst (v := (-1)) hx hb dX11_kept_24 (by decide +kernel) ?_
                refine W.widen (k := 0) (n := 0) (Nat.le_of_ble_eq_true rfl) (Nat.le_of_ble_eq_true rfl) ?_
                exact dg_iret hx hb hr hlocks rfl hP hS ⟨rfl, (Eq.symm (F_d_kept_p4 c_1 (zI_eq f_x_2) c_3 c_6 c_7)), trivial⟩ dX11_kept_25
noncomputable def F_d_image (o : Nat) (S : dg_S) : dg_S × Int32 := let d_1 : Nat := zR o S 0 6; let S_2 : dg_S := F_i_write o S d_1 3; let x_3 : Int32 := zI S_2 182 1; (S_2, x_3)
theorem F_d_image_p0 {o : Nat} {S : dg_S} {S_2 : dg_S} {x_3 : Int32} {d_1 : Nat} (h0 : d_1 = zR o S 0 6) (h1 : S_2 = F_i_write o S d_1 3) (h2 : x_3 = zI S_2 182 1) : F_d_image o S = (S_2, x_3) := by
  replace h0 := Eq.symm h0
  subst h0
  replace h1 := Eq.symm h1
  subst h1
  replace h2 := Eq.symm h2
  subst h2
  exact rfl
set_option maxHeartbeats 8000000 in
set_option maxRecDepth 100000 in
theorem c_d_image (l : Launch) (g : Nat → ClassId) (D : va_G) (o : Nat) (S : dg_S) (Z1 : Z1X S) (Z2 : Z2X S) (Z3 : Z3X o S) (Z4 : Z4X S) (Z6 : Z6X S) (I : CX o S) (sz : Nat) : Met l yX11_image (bw yX11_image cX11_image 1 (some .int)) ({ frames := 4, cells := 0, slots := 0, locals := 100 } : Room) (dk_Pc g D (dg_w g shX o rfX S) sz [.ref (o + 0)]) (va_Qi (fun (r : Int32) S' => CX o S' ∧ dg_sm shX [(16, 1), (16, 3)] [17] S S' ∧ (0 ≤ (r).toInt ∧ (r).toInt ≤ 124) ∧ (S' = (F_d_image o S).1 ∧ r = (F_d_image o S).2) ∧ True) (dg_B g D shX o rfX) (dg_A o shX.length sz)) 0 0 (dg_A o shX.length sz) := by
  refine dg_met (cc := cX11_image) (maxL := 1) (ret := (some .int)) (dk_dq rfl) rfl (Nat.le_of_ble_eq_true rfl) ?_
  intro p e s m args below meth c A hAe harg hx hb hr hml hts hown hlocks hin hP K hS hA1 hA ST hsz ls hl
  rw [← hAe]
  have F : CallFix p m c cX11_image 1 s args (bw yX11_image cX11_image 1 (some .int)) RX11 := ⟨hx, hb, hml, hown, hts⟩
  have hl : lv_has ls 1 [(0, .ref (o + 0))] := hl
  have M_0 : dg_sm shX [(16, 1), (16, 3)] [17] S S := dg_sm.rf
  refine lv_aload_n hx hb dX11_image_0 rfl (lv_at hl 0 rfl) ?_
  refine dg_get (C := RX11) (T := TX11) (N := 13) hx hb hts (fun w h => bw_mem (wU_X11 w h)) hown K hP sX_0 rfl 4 (dk_dq rfl) (hts _ (bw_mem wB_1056)) (fun _ h9 => h9) (v := .ref (o + 182)) (show S.1 0 4 = .ref (o + 182) from dg_I.rel (d := 182) I sX_0 (by decide +kernel)) dX11_image_1 ?_
  refine lv_aload_n hx hb dX11_image_4 rfl (lv_at hl 0 rfl) ?_
  obtain ⟨d_1, hk_d_1, f_d_1⟩ := dg_I.one (i := 0) (k := 6) (d := 0) I sX_0 (by decide +kernel)
  have hk_d_1 : rX d_1 := hk_d_1
  refine dg_get (C := RX11) (T := TX11) (N := 13) hx hb hts (fun w h => bw_mem (wU_X11 w h)) hown K hP sX_0 rfl 6 (dk_dq rfl) (hts _ (bw_mem wB_286)) (fun _ h9 => h9) (v := .ref (o + d_1)) f_d_1 dX11_image_5 ?_
  refine lv_aload_n hx hb dX11_image_8 rfl (lv_at hl 0 rfl) ?_
  refine dg_get (C := RX11) (T := TX11) (N := 13) hx hb hts (fun w h => bw_mem (wU_X11 w h)) hown K hP sX_0 rfl 1 (dk_dq rfl) (hts _ (bw_mem wB_287)) (fun _ h9 => h9) (v := .ref (o + 3)) (show S.1 0 1 = .ref (o + 3) from dg_I.rel (d := 3) I sX_0 (by decide +kernel)) dX11_image_9 ?_
  refine dg_callv hS hA1 hA (va_runV (As := [.ref (o + d_1), .ref (o + 3)]) (rest := []) F (c_i_write l g D o S d_1 hk_d_1 3 (by unfold pX; decide : pX 3) I s.heap.size) (cwV 2 hts (bw_V wB_1058 wB_1059 wB_1060 wB_784 wB_1057) rfl rfl rfl (by decide +kernel) ⟨Nat.le_of_ble_eq_true rfl, Nat.le_of_ble_eq_true rfl⟩) (dg_preV sX_182 rfl K ST hP hS hA1 hA) rfl rfl hl.1 rfl (lv_room (Nat.le_of_ble_eq_true rfl)) dX11_image_12 ⟨Nat.le_of_ble_eq_true rfl, Nat.le_of_ble_eq_true rfl⟩) (fun S_2 hw_2 H locs hP hS => ?_)
  obtain ⟨I_2, m_2, w_2_0, -⟩ := hw_2
  have M_2 := dg_sm.tr M_0 m_2 (dk_dq rfl) (dk_dq rfl)
  refine lv_aload_n hx hb dX11_image_15 rfl (lv_at hl 0 rfl) ?_
  refine dg_get (C := RX11) (T := TX11) (N := 13) hx hb hts (fun w h => bw_mem (wU_X11 w h)) hown K hP sX_0 rfl 4 (dk_dq rfl) (hts _ (bw_mem wB_1056)) (fun _ h9 => h9) (v := .ref (o + 182)) (show S_2.1 0 4 = .ref (o + 182) from dg_I.rel (d := 182) I_2 sX_0 (by decide +kernel)) dX11_image_16 ?_
  obtain ⟨x_3, f_x_3, b_x_3⟩ := dg_I.int (i := 182) (k := 1) (lo := 0) (hi := 124) I_2 sX_182 (by decide +kernel)
  refine dg_get (C := RX4) (T := TX4) (N := 6) hx hb hts (fun w h => bw_mem (wU_X4 w h)) hown K hP sX_182 rfl 1 (dk_dq rfl) (hts _ (bw_mem wB_1061)) (fun _ h9 => h9) (v := .int x_3) f_x_3 dX11_image_19 ?_
  refine W.widen (k := 0) (n := 0) (Nat.le_of_ble_eq_true rfl) (Nat.le_of_ble_eq_true rfl) ?_
  exact dg_iret hx hb hr hlocks rfl hP hS ⟨I_2, M_2, (by omega), ⟨congrArg Prod.fst (Eq.symm (F_d_image_p0 (zR_eq f_d_1) w_2_0 (zI_eq f_x_3))), congrArg Prod.snd (Eq.symm (F_d_image_p0 (zR_eq f_d_1) w_2_0 (zI_eq f_x_3)))⟩, trivial⟩ dX11_image_22
noncomputable def F_d_octet (o : Nat) (S : dg_S) (a1 : Int32) : Int32 := (if a1 < (0 : Int32) then (-1 : Int32) else let x_2 : Int32 := zI S 182 1; (if x_2 ≤ a1 then (-1 : Int32) else let x_7 : Int32 := S.2.1 183 (a1 : Int32).toNatClampNeg; x_7))
theorem F_d_octet_p0 {o : Nat} {S : dg_S} {a1 : Int32} (h0 : a1 < (0 : Int32)) : F_d_octet o S a1 = (-1 : Int32) := (Eq.trans (if_pos h0) rfl)
theorem F_d_octet_p1 {o : Nat} {S : dg_S} {a1 : Int32} {x_2 : Int32} (h0 : ¬ (a1 < (0 : Int32))) (h1 : x_2 = zI S 182 1) (h2 : x_2 ≤ a1) : F_d_octet o S a1 = (-1 : Int32) := by
  replace h1 := Eq.symm h1
  subst h1
  exact (Eq.trans (if_neg h0) (Eq.trans (if_pos h2) rfl))
theorem F_d_octet_p2 {o : Nat} {S : dg_S} {a1 : Int32} {x_7 : Int32} {x_2 : Int32} (h0 : ¬ (a1 < (0 : Int32))) (h1 : x_2 = zI S 182 1) (h2 : ¬ (x_2 ≤ a1)) (h3 : x_7 = S.2.1 183 (a1 : Int32).toNatClampNeg) : F_d_octet o S a1 = x_7 := by
  replace h1 := Eq.symm h1
  subst h1
  replace h3 := Eq.symm h3
  subst h3
  exact (Eq.trans (if_neg h0) (Eq.trans (if_neg h2) rfl))
set_option maxHeartbeats 8000000 in
set_option maxRecDepth 100000 in
theorem c_d_octet (l : Launch) (g : Nat → ClassId) (D : va_G) (o : Nat) (S : dg_S) (a1 : Int32) (Z1 : Z1X S) (Z2 : Z2X S) (Z3 : Z3X o S) (Z4 : Z4X S) (Z6 : Z6X S) (I : CX o S) (sz : Nat) : Met l yX11_octet (bw yX11_octet cX11_octet 2 (some .int)) ({ frames := 1, cells := 0, slots := 0, locals := 32 } : Room) (dk_Pc g D (dg_w g shX o rfX S) sz [.ref (o + 0), .int a1]) (va_Qi (fun (r : Int32) S' => S' = S ∧ (r = F_d_octet o S a1) ∧ True) (dg_B g D shX o rfX) (dg_A o shX.length sz)) 0 0 (dg_A o shX.length sz) := by
  refine dg_met (cc := cX11_octet) (maxL := 2) (ret := (some .int)) (dk_dq rfl) rfl (Nat.le_of_ble_eq_true rfl) ?_
  intro p e s m args below meth c A hAe harg hx hb hr hml hts hown hlocks hin hP K hS hA1 hA ST hsz ls hl
  rw [← hAe]
  have F : CallFix p m c cX11_octet 2 s args (bw yX11_octet cX11_octet 2 (some .int)) RX11 := ⟨hx, hb, hml, hown, hts⟩
  have hl : lv_has ls 2 [(0, .ref (o + 0)), (1, .int a1)] := hl
  have M_0 : dg_sm shX [] [] S S := dg_sm.rf
  refine lv_iload_n hx hb dX11_octet_0 rfl (lv_at hl 1 rfl) ?_
  refine lv_if_lt (tgt := 27) hx hb dX11_octet_1 (dk_dq rfl) (fun c_1 => ?_) (fun c_1 => ?_)
  · have jc_1 := dk_ltc (k := 0) (by decide +kernel) c_1
    refine lv_iconst (v := (-1)) hx hb dX11_octet_27 (by decide +kernel) ?_
    refine W.widen (k := 0) (n := 0) (Nat.le_of_ble_eq_true rfl) (Nat.le_of_ble_eq_true rfl) ?_
    exact dg_iret hx hb hr hlocks rfl hP hS ⟨rfl, (Eq.symm (F_d_octet_p0 c_1)), trivial⟩ dX11_octet_28
  · have jc_1 := dk_nltc (k := 0) (by decide +kernel) c_1
    refine lv_iload_n hx hb dX11_octet_4 rfl (lv_at hl 1 rfl) ?_
    refine lv_aload_n hx hb dX11_octet_5 rfl (lv_at hl 0 rfl) ?_
    refine dg_get (C := RX11) (T := TX11) (N := 13) hx hb hts (fun w h => bw_mem (wU_X11 w h)) hown K hP sX_0 rfl 4 (dk_dq rfl) (hts _ (bw_mem wB_1056)) (fun _ h9 => h9) (v := .ref (o + 182)) (show S.1 0 4 = .ref (o + 182) from dg_I.rel (d := 182) I sX_0 (by decide +kernel)) dX11_octet_6 ?_
    obtain ⟨x_2, f_x_2, b_x_2⟩ := dg_I.int (i := 182) (k := 1) (lo := 0) (hi := 124) I sX_182 (by decide +kernel)
    refine dg_get (C := RX4) (T := TX4) (N := 6) hx hb hts (fun w h => bw_mem (wU_X4 w h)) hown K hP sX_182 rfl 1 (dk_dq rfl) (hts _ (bw_mem wB_1061)) (fun _ h9 => h9) (v := .int x_2) f_x_2 dX11_octet_9 ?_
    refine lv_icmp_ge (tgt := 27) hx hb dX11_octet_12 (dk_dq rfl) (fun c_3 => ?_) (fun c_3 => ?_)
    · have hf_3 := dk_full a1
      have jc_3 := dk_gec (k := (x_2).toInt) rfl c_3
      refine lv_iconst (v := (-1)) hx hb dX11_octet_27 (by decide +kernel) ?_
      refine W.widen (k := 0) (n := 0) (Nat.le_of_ble_eq_true rfl) (Nat.le_of_ble_eq_true rfl) ?_
      exact dg_iret hx hb hr hlocks rfl hP hS ⟨rfl, (Eq.symm (F_d_octet_p1 c_1 (zI_eq f_x_2) c_3)), trivial⟩ dX11_octet_28
    · have hf_4 := dk_full a1
      have jc_3 := dk_ngec (k := (x_2).toInt) rfl c_3
      refine lv_aload_n hx hb dX11_octet_15 rfl (lv_at hl 0 rfl) ?_
      refine dg_get (C := RX11) (T := TX11) (N := 13) hx hb hts (fun w h => bw_mem (wU_X11 w h)) hown K hP sX_0 rfl 4 (dk_dq rfl) (hts _ (bw_mem wB_1056)) (fun _ h9 => h9) (v := .ref (o + 182)) (show S.1 0 4 = .ref (o + 182) from dg_I.rel (d := 182) I sX_0 (by decide +kernel)) dX11_octet_16 ?_
      refine dg_get (C := RX4) (T := TX4) (N := 6) hx hb hts (fun w h => bw_mem (wU_X4 w h)) hown K hP sX_182 rfl 0 (dk_dq rfl) (hts _ (bw_mem wB_1062)) (fun _ h9 => h9) (v := .ref (o + 183)) (show S.1 182 0 = .ref (o + 183) from dg_I.rel (d := 1) I sX_182 (by decide +kernel)) dX11_octet_19 ?_
      refine lv_iload_n hx hb dX11_octet_22 rfl (lv_at hl 1 rfl) ?_
      have hin_6 : vp_in a1 124 := (dk_inv2 (by omega))
      refine dg_iald hx hb K hP sX_183 hin_6 dX11_octet_23 (fun x_7 ex_7 => ?_)
      refine lv_goto (tgt := 28) hx hb dX11_octet_24 (dk_dq rfl) ?_
      refine W.widen (k := 0) (n := 0) (Nat.le_of_ble_eq_true rfl) (Nat.le_of_ble_eq_true rfl) ?_
      exact dg_iret hx hb hr hlocks rfl hP hS ⟨rfl, (Eq.symm (F_d_octet_p2 c_1 (zI_eq f_x_2) c_3 (Eq.symm ex_7.symm))), trivial⟩ dX11_octet_28
noncomputable def F_d_on_J1 (o : Nat) (S_26 : dg_S) : dg_S × Int32 := let S_27 : dg_S := F_d_forgetTrials o S_26; let y_28 : Int32 := zI S_27 221 2; let y_29 : Int32 := zI S_27 221 3; let y_30 : Int32 := zI S_27 229 4; (S_27, (1 : Int32))
noncomputable def F_d_on (o : Nat) (S : dg_S) : dg_S × Int32 := let d_1 : Nat := zR o S 0 6; let x_2 : Int32 := zI S d_1 0; let x_3 : Int32 := F_g_hasSeam o S d_1; (if x_3 = (0 : Int32) then let S_7 : dg_S := dg_uF S 1 1 (.int (0 : Int32)); let S_10 : dg_S := (F_d_no o S_7 (5 : Int32)).1; let x_9 : Int32 := (F_d_no o S_7 (5 : Int32)).2; (S_10, x_9) else let x_12 : Int32 := zI S d_1 2; let x_13 : Int32 := zI S d_1 1; let S_15 : dg_S := (F_i_tellsPit o S d_1 10).1; let x_14 : Int32 := (F_i_tellsPit o S d_1 10).2; (if x_14 = (0 : Int32) then let S_18 : dg_S := dg_uF S_15 1 1 (.int (0 : Int32)); let S_21 : dg_S := (F_d_no o S_18 (5 : Int32)).1; let x_20 : Int32 := (F_d_no o S_18 (5 : Int32)).2; (S_21, x_20) else let S_24 : dg_S := dg_uF S_15 1 1 (.int (0 : Int32)); let S_25 : dg_S := F_p_copy o S_24 3 10; let S_26 : dg_S := F_h_clear o S_25; (F_d_on_J1 o S_26)))
theorem F_d_on_p0 {o : Nat} {S : dg_S} {S_10 : dg_S} {x_9 : Int32} {d_1 : Nat} {x_3 : Int32} {S_7 : dg_S} (h0 : d_1 = zR o S 0 6) (h1 : x_3 = F_g_hasSeam o S d_1) (h2 : x_3 = (0 : Int32)) (h3 : S_7 = dg_uF S 1 1 (.int (0 : Int32))) (h4 : S_10 = (F_d_no o S_7 (5 : Int32)).1) (h5 : x_9 = (F_d_no o S_7 (5 : Int32)).2) : F_d_on o S = (S_10, x_9) := by
  replace h0 := Eq.symm h0
  subst h0
  replace h1 := Eq.symm h1
  subst h1
  replace h3 := Eq.symm h3
  subst h3
  replace h4 := Eq.symm h4
  subst h4
  replace h5 := Eq.symm h5
  subst h5
  exact (Eq.trans (if_pos h2) rfl)
theorem F_d_on_p1 {o : Nat} {S : dg_S} {S_21 : dg_S} {x_20 : Int32} {d_1 : Nat} {x_3 : Int32} {S_15 : dg_S} {x_14 : Int32} {S_18 : dg_S} (h0 : d_1 = zR o S 0 6) (h1 : x_3 = F_g_hasSeam o S d_1) (h2 : ¬ (x_3 = (0 : Int32))) (h3 : S_15 = (F_i_tellsPit o S d_1 10).1) (h4 : x_14 = (F_i_tellsPit o S d_1 10).2) (h5 : x_14 = (0 : Int32)) (h6 : S_18 = dg_uF S_15 1 1 (.int (0 : Int32))) (h7 : S_21 = (F_d_no o S_18 (5 : Int32)).1) (h8 : x_20 = (F_d_no o S_18 (5 : Int32)).2) : F_d_on o S = (S_21, x_20) := by
  replace h0 := Eq.symm h0
  subst h0
  replace h1 := Eq.symm h1
  subst h1
  replace h3 := Eq.symm h3
  subst h3
  replace h4 := Eq.symm h4
  subst h4
  replace h6 := Eq.symm h6
  subst h6
  replace h7 := Eq.symm h7
  subst h7
  replace h8 := Eq.symm h8
  subst h8
  exact (Eq.trans (if_neg h2) (Eq.trans (if_pos h5) rfl))
theorem F_d_on_p2 {o : Nat} {S_26 : dg_S} {S_27 : dg_S} (h0 : S_27 = F_d_forgetTrials o S_26) : F_d_on_J1 o S_26 = (S_27, (1 : Int32)) := by
  replace h0 := Eq.symm h0
  subst h0
  exact rfl
theorem F_d_on_p3 {o : Nat} {S : dg_S} {S_26 : dg_S} {d_1 : Nat} {x_3 : Int32} {S_15 : dg_S} {x_14 : Int32} {S_24 : dg_S} {S_25 : dg_S} (h0 : d_1 = zR o S 0 6) (h1 : x_3 = F_g_hasSeam o S d_1) (h2 : ¬ (x_3 = (0 : Int32))) (h3 : S_15 = (F_i_tellsPit o S d_1 10).1) (h4 : x_14 = (F_i_tellsPit o S d_1 10).2) (h5 : ¬ (x_14 = (0 : Int32))) (h6 : S_24 = dg_uF S_15 1 1 (.int (0 : Int32))) (h7 : S_25 = F_p_copy o S_24 3 10) (h8 : S_26 = F_h_clear o S_25) : F_d_on o S = F_d_on_J1 o S_26 := by
  replace h0 := Eq.symm h0
  subst h0
  replace h1 := Eq.symm h1
  subst h1
  replace h3 := Eq.symm h3
  subst h3
  replace h4 := Eq.symm h4
  subst h4
  replace h6 := Eq.symm h6
  subst h6
  replace h7 := Eq.symm h7
  subst h7
  replace h8 := Eq.symm h8
  subst h8
  exact (Eq.trans (if_neg h2) (Eq.trans (if_neg h5) rfl))
set_option maxHeartbeats 8000000 in
set_option maxRecDepth 100000 in
theorem c_d_on (l : Launch) (g : Nat → ClassId) (D : va_G) (o : Nat) (S : dg_S) (Z1 : Z1X S) (Z2 : Z2X S) (Z3 : Z3X o S) (Z4 : Z4X S) (Z6 : Z6X S) (I : CX o S) (sz : Nat) : Met l yX11_on (bw yX11_on cX11_on 2 (some .boolean)) ({ frames := 4, cells := 0, slots := 0, locals := 101 } : Room) (dk_Pc g D (dg_w g shX o rfX S) sz [.ref (o + 0)]) (va_Qi (fun (r : Int32) S' => CX o S' ∧ dg_sm shX [(1, 1), (3, 0), (3, 1), (10, 1), (10, 2), (16, 3), (16, 4), (16, 5), (43, 2), (43, 3), (44, 4)] [4, 5, 6, 7, 8, 9, 18] S S' ∧ (0 ≤ (r).toInt ∧ (r).toInt ≤ 1) ∧ (∃ y9 : Int32, S'.1 1 1 = .int y9 ∧ ((y9).toInt = 0)) ∧ Z3X o S' ∧ Z4X S' ∧ Z6X S' ∧ dg_FG S S' ∧ (S' = (F_d_on o S).1 ∧ r = (F_d_on o S).2) ∧ True) (dg_B g D shX o rfX) (dg_A o shX.length sz)) 0 0 (dg_A o shX.length sz) := by
  refine dg_met (cc := cX11_on) (maxL := 2) (ret := (some .boolean)) (dk_dq rfl) rfl (Nat.le_of_ble_eq_true rfl) ?_
  intro p e s m args below meth c A hAe harg hx hb hr hml hts hown hlocks hin hP K hS hA1 hA ST hsz ls hl
  rw [← hAe]
  have F : CallFix p m c cX11_on 2 s args (bw yX11_on cX11_on 2 (some .boolean)) RX11 := ⟨hx, hb, hml, hown, hts⟩
  have hl : lv_has ls 2 [(0, .ref (o + 0))] := hl
  have M_0 : dg_sm shX [(1, 1), (3, 0), (3, 1), (10, 1), (10, 2), (16, 3), (16, 4), (16, 5), (43, 2), (43, 3), (44, 4)] [4, 5, 6, 7, 8, 9, 18] S S := dg_sm.rf
  refine lv_aload_n hx hb dX11_on_0 rfl (lv_at hl 0 rfl) ?_
  obtain ⟨d_1, hk_d_1, f_d_1⟩ := dg_I.one (i := 0) (k := 6) (d := 0) I sX_0 (by decide +kernel)
  have hk_d_1 : rX d_1 := hk_d_1
  refine dg_get (C := RX11) (T := TX11) (N := 13) hx hb hts (fun w h => bw_mem (wU_X11 w h)) hown K hP sX_0 rfl 6 (dk_dq rfl) (hts _ (bw_mem wB_286)) (fun _ h9 => h9) (v := .ref (o + d_1)) f_d_1 dX11_on_1 ?_
  obtain ⟨x_2, f_x_2, b_x_2⟩ := dg_I.int (i := d_1) (k := 0) (lo := 0) (hi := 7) I (rX_0 d_1 hk_d_1) (by decide +kernel)
  refine dg_calli hS hA1 hA (va_runV (As := []) (rest := []) F (c_g_hasSeam l g D o S d_1 hk_d_1 x_2 f_x_2 (by omega) I s.heap.size) (cwV 0 hts (bw_V wB_854 wB_527 wB_528 wB_9 wB_525) rfl rfl rfl (by decide +kernel) ⟨Nat.le_of_ble_eq_true rfl, Nat.le_of_ble_eq_true rfl⟩) (dg_preV (rX_0 d_1 hk_d_1) rfl K ST hP hS hA1 hA) rfl rfl hl.1 rfl (lv_room (Nat.le_of_ble_eq_true rfl)) dX11_on_4 ⟨Nat.le_of_ble_eq_true rfl, Nat.le_of_ble_eq_true rfl⟩) (fun x_3 S_4 hw_4 H locs hP hS => ?_)
  rw [hw_4.1] at hP
  obtain ⟨hq_4, w_4_0, w_4_1, w_4_2, -⟩ := hw_4
  have w_4_0 : 0 ≤ (x_3).toInt ∧ (x_3).toInt ≤ 1 := w_4_0
  have w_4_1 : (x_3).toInt = 1 ↔ 0 < (x_2).toInt := w_4_1
  refine lv_if_eq (tgt := 32) hx hb dX11_on_7 (dk_dq rfl) (fun c_5 => ?_) (fun c_5 => ?_)
  · as_aux_lemma =>
      have jc_5 := dk_eqc (k := 0) (by decide +kernel) c_5
      refine lv_iconst (v := 0) hx hb dX11_on_32 (by decide +kernel) ?_
      refine lv_istore_n (lv' := [(1, .int 0), (0, .ref (o + 0))]) hx hb dX11_on_33 rfl hl (dk_dq rfl) rfl (fun ls hl => ?_)
      refine lv_aload_n hx hb dX11_on_34 rfl (lv_at hl 1 rfl) ?_
      refine dg_get (C := RX11) (T := TX11) (N := 13) hx hb hts (fun w h => bw_mem (wU_X11 w h)) hown K hP sX_0 rfl 0 (dk_dq rfl) (hts _ (bw_mem wB_279)) (fun _ h9 => h9) (v := .ref (o + 1)) (show S.1 0 0 = .ref (o + 1) from dg_I.rel (d := 1) I sX_0 (by decide +kernel)) dX11_on_35 ?_
      refine lv_iconst (v := 0) hx hb dX11_on_38 (by decide +kernel) ?_
      have hz_6 : (0 : Int32).toInt = 0 := by decide +kernel
      refine dg_put (ci := 8) (v := .int 0) (ty := tyX8 1) (C := RX8) (T := TX8) (N := 2) hx hb hts (fun w h => bw_mem (wU_X8 w h)) tyX8 tyX8_ok nmX8 hown K hP hS hA1 sX_1 rfl 1 (dk_dq rfl) (hts _ (bw_mem wB_285)) (fun _ h9 => h9) rfl (by decide +kernel) rfl rfl dX11_on_39 (fun S_7 e_7 H locs hP hS => ?_)
      have I_7 := dg_I.uFi (lo := 0) (hi := 1600) I e_7 sX_1 (by decide +kernel) (show 0 ≤ ((0 : Int32)).toInt ∧ ((0 : Int32)).toInt ≤ 1600 from (by decide +kernel))
      have M_7 := dg_sm.uF M_0 e_7 sX_1 (dk_dq rfl)
      refine lv_iload_n hx hb dX11_on_42 rfl (lv_at hl 0 rfl) ?_
      refine lv_if_ne (tgt := 52) hx hb dX11_on_43 (dk_dq rfl) (fun c => absurd (by decide +kernel) c) (fun _ => ?_)
      refine lv_aload_n hx hb dX11_on_46 rfl (lv_at hl 1 rfl) ?_
      refine lv_iconst (v := 5) hx hb dX11_on_47 (by decide +kernel) ?_
      have hz_8 : (5 : Int32).toInt = 5 := by decide +kernel
      refine dg_calli hS hA1 hA (va_runV (As := [.int 5]) (rest := []) F (c_d_no l g D o S_7 5 (by decide +kernel) (Z1X.keep Z1 (dg_sm.uF (WF := [(1, 1)]) (WA := []) dg_sm.rf e_7 sX_1 (dk_dq rfl)) (dk_dq rfl) (dk_dq rfl) (dk_dq rfl)) (Z2X.keep Z2 (dg_sm.uF (WF := [(1, 1)]) (WA := []) dg_sm.rf e_7 sX_1 (dk_dq rfl)) (dk_dq rfl) (dk_dq rfl)) (Z3X.keep Z3 (dg_sm.uF (WF := [(1, 1)]) (WA := []) dg_sm.rf e_7 sX_1 (dk_dq rfl)) (dg_FG.uF e_7) (dk_dq rfl)) (Z4X.keep Z4 (dg_sm.uF (WF := [(1, 1)]) (WA := []) dg_sm.rf e_7 sX_1 (dk_dq rfl)) (dg_FG.uF e_7) (dk_dq rfl) (dk_dq rfl)) (Z6X.keep Z6 (dg_sm.uF (WF := [(1, 1)]) (WA := []) dg_sm.rf e_7 sX_1 (dk_dq rfl)) (dg_FG.uF e_7)) I_7 H.size) (cwV 1 hts (bw_V wB_924 wB_925 wB_926 wB_610 wB_923) rfl rfl rfl (by decide +kernel) ⟨Nat.le_of_ble_eq_true rfl, Nat.le_of_ble_eq_true rfl⟩) (dg_preV sX_0 rfl K ST hP hS hA1 hA) rfl rfl hl.1 rfl (lv_room (Nat.le_of_ble_eq_true rfl)) dX11_on_48 ⟨Nat.le_of_ble_eq_true rfl, Nat.le_of_ble_eq_true rfl⟩) (fun x_9 S_10 hw_10 H locs hP hS => ?_)
      obtain ⟨I_10, m_10, w_10_0, w_10_1, -⟩ := hw_10
      have M_10 := dg_sm.tr M_7 m_10 (dk_dq rfl) (dk_dq rfl)
      have w_10_0 : 0 ≤ (x_9).toInt ∧ (x_9).toInt ≤ 0 := w_10_0
      have hz_11 : (0 : Int32).toInt = 0 := by decide +kernel
      refine W.widen (k := 0) (n := 0) (Nat.le_of_ble_eq_true rfl) (Nat.le_of_ble_eq_true rfl) ?_
      exact dg_iret hx hb hr hlocks (dk_znar2 (by omega)) hP hS ⟨I_10, M_10, (by omega), ⟨0, ((m_10.1 1 1 _ sX_1 (dk_dq rfl)).trans (dg_uF_at e_7)), (by omega)⟩, (Z3X.keep (Z3X.keep Z3 (dg_sm.uF (WF := [(1, 1)]) (WA := []) dg_sm.rf e_7 sX_1 (dk_dq rfl)) (dg_FG.uF e_7) (dk_dq rfl)) m_10 (dg_FG.sm m_10 (dk_dq rfl)) (dk_dq rfl)), (Z4X.keep (Z4X.keep Z4 (dg_sm.uF (WF := [(1, 1)]) (WA := []) dg_sm.rf e_7 sX_1 (dk_dq rfl)) (dg_FG.uF e_7) (dk_dq rfl) (dk_dq rfl)) m_10 (dg_FG.sm m_10 (dk_dq rfl)) (dk_dq rfl) (dk_dq rfl)), (Z6X.keep (Z6X.keep Z6 (dg_sm.uF (WF := [(1, 1)]) (WA := []) dg_sm.rf e_7 sX_1 (dk_dq rfl)) (dg_FG.uF e_7)) m_10 (dg_FG.sm m_10 (dk_dq rfl))), (dg_FG.tr (dg_FG.uF e_7) (dg_FG.sm m_10 (dk_dq rfl))), ⟨congrArg Prod.fst (Eq.symm (F_d_on_p0 (zR_eq f_d_1) w_4_2 c_5 e_7 w_10_1.1 w_10_1.2)), congrArg Prod.snd (Eq.symm (F_d_on_p0 (zR_eq f_d_1) w_4_2 c_5 e_7 w_10_1.1 w_10_1.2))⟩, trivial⟩ dX11_on_51
  · as_aux_lemma =>
      have jc_5 := dk_neqc (k := 0) (by decide +kernel) c_5
      refine lv_aload_n hx hb dX11_on_10 rfl (lv_at hl 0 rfl) ?_
      refine dg_get (C := RX11) (T := TX11) (N := 13) hx hb hts (fun w h => bw_mem (wU_X11 w h)) hown K hP sX_0 rfl 4 (dk_dq rfl) (hts _ (bw_mem wB_1056)) (fun _ h9 => h9) (v := .ref (o + 182)) (show S.1 0 4 = .ref (o + 182) from dg_I.rel (d := 182) I sX_0 (by decide +kernel)) dX11_on_11 ?_
      refine lv_aload_n hx hb dX11_on_14 rfl (lv_at hl 0 rfl) ?_
      refine dg_get (C := RX11) (T := TX11) (N := 13) hx hb hts (fun w h => bw_mem (wU_X11 w h)) hown K hP sX_0 rfl 6 (dk_dq rfl) (hts _ (bw_mem wB_286)) (fun _ h9 => h9) (v := .ref (o + d_1)) f_d_1 dX11_on_15 ?_
      refine lv_aload_n hx hb dX11_on_18 rfl (lv_at hl 0 rfl) ?_
      refine dg_get (C := RX11) (T := TX11) (N := 13) hx hb hts (fun w h => bw_mem (wU_X11 w h)) hown K hP sX_0 rfl 2 (dk_dq rfl) (hts _ (bw_mem wB_856)) (fun _ h9 => h9) (v := .ref (o + 10)) (show S.1 0 2 = .ref (o + 10) from dg_I.rel (d := 10) I sX_0 (by decide +kernel)) dX11_on_19 ?_
      obtain ⟨x_12, f_x_12, b_x_12⟩ := dg_I.int (i := d_1) (k := 2) (lo := (-1)) (hi := 63) I (rX_0 d_1 hk_d_1) (by decide +kernel)
      obtain ⟨x_13, f_x_13, b_x_13⟩ := dg_I.int (i := d_1) (k := 1) (lo := 0) (hi := 7) I (rX_0 d_1 hk_d_1) (by decide +kernel)
      refine dg_calli hS hA1 hA (va_runV (As := [.ref (o + d_1), .ref (o + 10)]) (rest := []) F (c_i_tellsPit l g D o S d_1 hk_d_1 10 (by unfold pX; decide : pX 10) x_2 f_x_2 (by omega) x_12 f_x_12 (by omega) x_13 f_x_13 (by omega) (by have h9 := (Z1 d_1 hk_d_1 x_2 x_12 x_13 f_x_2 f_x_12 f_x_13) (by omega); omega) I H.size) (cwV 2 hts (bw_V wB_1064 wB_1065 wB_1066 wB_784 wB_1063) rfl rfl rfl (by decide +kernel) ⟨Nat.le_of_ble_eq_true rfl, Nat.le_of_ble_eq_true rfl⟩) (dg_preV sX_182 rfl K ST hP hS hA1 hA) rfl rfl hl.1 rfl (lv_room (Nat.le_of_ble_eq_true rfl)) dX11_on_22 ⟨Nat.le_of_ble_eq_true rfl, Nat.le_of_ble_eq_true rfl⟩) (fun x_14 S_15 hw_15 H locs hP hS => ?_)
      obtain ⟨I_15, m_15, w_15_0, w_15_1, w_15_2, w_15_3, -⟩ := hw_15
      have M_15 := dg_sm.tr M_0 m_15 (dk_dq rfl) (dk_dq rfl)
      have w_15_0 : 0 ≤ (x_14).toInt ∧ (x_14).toInt ≤ 1 := w_15_0
      refine lv_if_eq (tgt := 32) hx hb dX11_on_25 (dk_dq rfl) (fun c_16 => ?_) (fun c_16 => ?_)
      · as_aux_lemma =>
          have jc_16 := dk_eqc (k := 0) (by decide +kernel) c_16
          refine lv_iconst (v := 0) hx hb dX11_on_32 (by decide +kernel) ?_
          refine lv_istore_n (lv' := [(1, .int 0), (0, .ref (o + 0))]) hx hb dX11_on_33 rfl hl (dk_dq rfl) rfl (fun ls hl => ?_)
          refine lv_aload_n hx hb dX11_on_34 rfl (lv_at hl 1 rfl) ?_
          refine dg_get (C := RX11) (T := TX11) (N := 13) hx hb hts (fun w h => bw_mem (wU_X11 w h)) hown K hP sX_0 rfl 0 (dk_dq rfl) (hts _ (bw_mem wB_279)) (fun _ h9 => h9) (v := .ref (o + 1)) (show S_15.1 0 0 = .ref (o + 1) from dg_I.rel (d := 1) I_15 sX_0 (by decide +kernel)) dX11_on_35 ?_
          refine lv_iconst (v := 0) hx hb dX11_on_38 (by decide +kernel) ?_
          have hz_17 : (0 : Int32).toInt = 0 := by decide +kernel
          refine dg_put (ci := 8) (v := .int 0) (ty := tyX8 1) (C := RX8) (T := TX8) (N := 2) hx hb hts (fun w h => bw_mem (wU_X8 w h)) tyX8 tyX8_ok nmX8 hown K hP hS hA1 sX_1 rfl 1 (dk_dq rfl) (hts _ (bw_mem wB_285)) (fun _ h9 => h9) rfl (by decide +kernel) rfl rfl dX11_on_39 (fun S_18 e_18 H locs hP hS => ?_)
          have I_18 := dg_I.uFi (lo := 0) (hi := 1600) I_15 e_18 sX_1 (by decide +kernel) (show 0 ≤ ((0 : Int32)).toInt ∧ ((0 : Int32)).toInt ≤ 1600 from (by decide +kernel))
          have M_18 := dg_sm.uF M_15 e_18 sX_1 (dk_dq rfl)
          refine lv_iload_n hx hb dX11_on_42 rfl (lv_at hl 0 rfl) ?_
          refine lv_if_ne (tgt := 52) hx hb dX11_on_43 (dk_dq rfl) (fun c => absurd (by decide +kernel) c) (fun _ => ?_)
          refine lv_aload_n hx hb dX11_on_46 rfl (lv_at hl 1 rfl) ?_
          refine lv_iconst (v := 5) hx hb dX11_on_47 (by decide +kernel) ?_
          have hz_19 : (5 : Int32).toInt = 5 := by decide +kernel
          refine dg_calli hS hA1 hA (va_runV (As := [.int 5]) (rest := []) F (c_d_no l g D o S_18 5 (by decide +kernel) (Z1X.keep (Z1X.keep Z1 m_15 (dk_dq rfl) (dk_dq rfl) (dk_dq rfl)) (dg_sm.uF (WF := [(1, 1)]) (WA := []) dg_sm.rf e_18 sX_1 (dk_dq rfl)) (dk_dq rfl) (dk_dq rfl) (dk_dq rfl)) (Z2X.keep (Z2X.keep Z2 m_15 (dk_dq rfl) (dk_dq rfl)) (dg_sm.uF (WF := [(1, 1)]) (WA := []) dg_sm.rf e_18 sX_1 (dk_dq rfl)) (dk_dq rfl) (dk_dq rfl)) (Z3X.keep (Z3X.keep Z3 m_15 w_15_2 (dk_dq rfl)) (dg_sm.uF (WF := [(1, 1)]) (WA := []) dg_sm.rf e_18 sX_1 (dk_dq rfl)) (dg_FG.uF e_18) (dk_dq rfl)) (Z4X.keep (Z4X.keep Z4 m_15 w_15_2 (dk_dq rfl) (dk_dq rfl)) (dg_sm.uF (WF := [(1, 1)]) (WA := []) dg_sm.rf e_18 sX_1 (dk_dq rfl)) (dg_FG.uF e_18) (dk_dq rfl) (dk_dq rfl)) (Z6X.keep (Z6X.keep Z6 m_15 w_15_2) (dg_sm.uF (WF := [(1, 1)]) (WA := []) dg_sm.rf e_18 sX_1 (dk_dq rfl)) (dg_FG.uF e_18)) I_18 H.size) (cwV 1 hts (bw_V wB_924 wB_925 wB_926 wB_610 wB_923) rfl rfl rfl (by decide +kernel) ⟨Nat.le_of_ble_eq_true rfl, Nat.le_of_ble_eq_true rfl⟩) (dg_preV sX_0 rfl K ST hP hS hA1 hA) rfl rfl hl.1 rfl (lv_room (Nat.le_of_ble_eq_true rfl)) dX11_on_48 ⟨Nat.le_of_ble_eq_true rfl, Nat.le_of_ble_eq_true rfl⟩) (fun x_20 S_21 hw_21 H locs hP hS => ?_)
          obtain ⟨I_21, m_21, w_21_0, w_21_1, -⟩ := hw_21
          have M_21 := dg_sm.tr M_18 m_21 (dk_dq rfl) (dk_dq rfl)
          have w_21_0 : 0 ≤ (x_20).toInt ∧ (x_20).toInt ≤ 0 := w_21_0
          have hz_22 : (0 : Int32).toInt = 0 := by decide +kernel
          refine W.widen (k := 0) (n := 0) (Nat.le_of_ble_eq_true rfl) (Nat.le_of_ble_eq_true rfl) ?_
          exact dg_iret hx hb hr hlocks (dk_znar2 (by omega)) hP hS ⟨I_21, M_21, (by omega), ⟨0, ((m_21.1 1 1 _ sX_1 (dk_dq rfl)).trans (dg_uF_at e_18)), (by omega)⟩, (Z3X.keep (Z3X.keep (Z3X.keep Z3 m_15 w_15_2 (dk_dq rfl)) (dg_sm.uF (WF := [(1, 1)]) (WA := []) dg_sm.rf e_18 sX_1 (dk_dq rfl)) (dg_FG.uF e_18) (dk_dq rfl)) m_21 (dg_FG.sm m_21 (dk_dq rfl)) (dk_dq rfl)), (Z4X.keep (Z4X.keep (Z4X.keep Z4 m_15 w_15_2 (dk_dq rfl) (dk_dq rfl)) (dg_sm.uF (WF := [(1, 1)]) (WA := []) dg_sm.rf e_18 sX_1 (dk_dq rfl)) (dg_FG.uF e_18) (dk_dq rfl) (dk_dq rfl)) m_21 (dg_FG.sm m_21 (dk_dq rfl)) (dk_dq rfl) (dk_dq rfl)), (Z6X.keep (Z6X.keep (Z6X.keep Z6 m_15 w_15_2) (dg_sm.uF (WF := [(1, 1)]) (WA := []) dg_sm.rf e_18 sX_1 (dk_dq rfl)) (dg_FG.uF e_18)) m_21 (dg_FG.sm m_21 (dk_dq rfl))), (dg_FG.tr (dg_FG.tr w_15_2 (dg_FG.uF e_18)) (dg_FG.sm m_21 (dk_dq rfl))), ⟨congrArg Prod.fst (Eq.symm (F_d_on_p1 (zR_eq f_d_1) w_4_2 c_5 w_15_3.1 w_15_3.2 c_16 e_18 w_21_1.1 w_21_1.2)), congrArg Prod.snd (Eq.symm (F_d_on_p1 (zR_eq f_d_1) w_4_2 c_5 w_15_3.1 w_15_3.2 c_16 e_18 w_21_1.1 w_21_1.2))⟩, trivial⟩ dX11_on_51
      · as_aux_lemma =>
          have jc_16 := dk_neqc (k := 0) (by decide +kernel) c_16
          refine lv_iconst (v := 1) hx hb dX11_on_28 (by decide +kernel) ?_
          refine lv_goto (tgt := 33) hx hb dX11_on_29 (dk_dq rfl) ?_
          refine lv_istore_n (lv' := [(1, .int 1), (0, .ref (o + 0))]) hx hb dX11_on_33 rfl hl (dk_dq rfl) rfl (fun ls hl => ?_)
          refine lv_aload_n hx hb dX11_on_34 rfl (lv_at hl 1 rfl) ?_
          refine dg_get (C := RX11) (T := TX11) (N := 13) hx hb hts (fun w h => bw_mem (wU_X11 w h)) hown K hP sX_0 rfl 0 (dk_dq rfl) (hts _ (bw_mem wB_279)) (fun _ h9 => h9) (v := .ref (o + 1)) (show S_15.1 0 0 = .ref (o + 1) from dg_I.rel (d := 1) I_15 sX_0 (by decide +kernel)) dX11_on_35 ?_
          refine lv_iconst (v := 0) hx hb dX11_on_38 (by decide +kernel) ?_
          have hz_23 : (0 : Int32).toInt = 0 := by decide +kernel
          refine dg_put (ci := 8) (v := .int 0) (ty := tyX8 1) (C := RX8) (T := TX8) (N := 2) hx hb hts (fun w h => bw_mem (wU_X8 w h)) tyX8 tyX8_ok nmX8 hown K hP hS hA1 sX_1 rfl 1 (dk_dq rfl) (hts _ (bw_mem wB_285)) (fun _ h9 => h9) rfl (by decide +kernel) rfl rfl dX11_on_39 (fun S_24 e_24 H locs hP hS => ?_)
          have I_24 := dg_I.uFi (lo := 0) (hi := 1600) I_15 e_24 sX_1 (by decide +kernel) (show 0 ≤ ((0 : Int32)).toInt ∧ ((0 : Int32)).toInt ≤ 1600 from (by decide +kernel))
          have M_24 := dg_sm.uF M_15 e_24 sX_1 (dk_dq rfl)
          refine lv_iload_n hx hb dX11_on_42 rfl (lv_at hl 0 rfl) ?_
          refine lv_if_ne (tgt := 52) hx hb dX11_on_43 (dk_dq rfl) (fun _ => ?_) (fun c => absurd c (by decide +kernel))
          refine lv_aload_n hx hb dX11_on_52 rfl (lv_at hl 1 rfl) ?_
          refine dg_get (C := RX11) (T := TX11) (N := 13) hx hb hts (fun w h => bw_mem (wU_X11 w h)) hown K hP sX_0 rfl 1 (dk_dq rfl) (hts _ (bw_mem wB_287)) (fun _ h9 => h9) (v := .ref (o + 3)) (show S_24.1 0 1 = .ref (o + 3) from dg_I.rel (d := 3) I_24 sX_0 (by decide +kernel)) dX11_on_53 ?_
          refine lv_aload_n hx hb dX11_on_56 rfl (lv_at hl 1 rfl) ?_
          refine dg_get (C := RX11) (T := TX11) (N := 13) hx hb hts (fun w h => bw_mem (wU_X11 w h)) hown K hP sX_0 rfl 2 (dk_dq rfl) (hts _ (bw_mem wB_856)) (fun _ h9 => h9) (v := .ref (o + 10)) (show S_24.1 0 2 = .ref (o + 10) from dg_I.rel (d := 10) I_24 sX_0 (by decide +kernel)) dX11_on_57 ?_
          refine dg_callv hS hA1 hA (va_runV (As := [.ref (o + 10)]) (rest := []) F (c_p_copy l g D o S_24 3 (by unfold pX; decide : pX 3) 10 (by unfold pX; decide : pX 10) ((dg_FG.uF e_24) 10 (by unfold pX; decide : pX 10) w_15_1) I_24 H.size) (cwV 1 hts (bw_V wB_857 wB_662 wB_663 wB_493 wB_660) rfl rfl rfl (by decide +kernel) ⟨Nat.le_of_ble_eq_true rfl, Nat.le_of_ble_eq_true rfl⟩) (dg_preV (pX_0 3 (dk_dq rfl)) rfl K ST hP hS hA1 hA) rfl rfl hl.1 rfl (lv_room (Nat.le_of_ble_eq_true rfl)) dX11_on_60 ⟨Nat.le_of_ble_eq_true rfl, Nat.le_of_ble_eq_true rfl⟩) (fun S_25 hw_25 H locs hP hS => ?_)
          obtain ⟨I_25, m_25, w_25_0, w_25_1, w_25_2, -⟩ := hw_25
          have M_25 := dg_sm.tr M_24 m_25 (dk_dq rfl) (dk_dq rfl)
          refine lv_aload_n hx hb dX11_on_63 rfl (lv_at hl 1 rfl) ?_
          refine dg_get (C := RX11) (T := TX11) (N := 13) hx hb hts (fun w h => bw_mem (wU_X11 w h)) hown K hP sX_0 rfl 3 (dk_dq rfl) (hts _ (bw_mem wB_844)) (fun _ h9 => h9) (v := .ref (o + 17)) (show S_25.1 0 3 = .ref (o + 17) from dg_I.rel (d := 17) I_25 sX_0 (by decide +kernel)) dX11_on_64 ?_
          refine dg_callv hS hA1 hA (va_runV (As := []) (rest := []) F (c_h_clear l g D o S_25 I_25 H.size) (cwV 0 hts (bw_V wB_1068 wB_1069 wB_1070 wB_849 wB_1067) rfl rfl rfl (by decide +kernel) ⟨Nat.le_of_ble_eq_true rfl, Nat.le_of_ble_eq_true rfl⟩) (dg_preV sX_17 rfl K ST hP hS hA1 hA) rfl rfl hl.1 rfl (lv_room (Nat.le_of_ble_eq_true rfl)) dX11_on_67 ⟨Nat.le_of_ble_eq_true rfl, Nat.le_of_ble_eq_true rfl⟩) (fun S_26 hw_26 H locs hP hS => ?_)
          obtain ⟨I_26, m_26, w_26_0, w_26_1, -⟩ := hw_26
          have M_26 := dg_sm.tr M_25 m_26 (dk_dq rfl) (dk_dq rfl)
          have hF_1 : F_d_on o S = F_d_on_J1 o S_26 := (F_d_on_p3 (zR_eq f_d_1) w_4_2 c_5 w_15_3.1 w_15_3.2 c_16 e_24 w_25_2 w_26_1)
          refine lv_aload_n hx hb dX11_on_70 rfl (lv_at hl 1 rfl) ?_
          refine dg_callv hS hA1 hA (va_runV (As := []) (rest := []) F (c_d_forgetTrials l g D o S_26 (Z1X.keep (Z1X.keep (Z1X.keep (Z1X.keep Z1 m_15 (dk_dq rfl) (dk_dq rfl) (dk_dq rfl)) (dg_sm.uF (WF := [(1, 1)]) (WA := []) dg_sm.rf e_24 sX_1 (dk_dq rfl)) (dk_dq rfl) (dk_dq rfl) (dk_dq rfl)) m_25 (dk_dq rfl) (dk_dq rfl) (dk_dq rfl)) m_26 (dk_dq rfl) (dk_dq rfl) (dk_dq rfl)) (Z2X.keep (Z2X.keep (Z2X.keep (Z2X.keep Z2 m_15 (dk_dq rfl) (dk_dq rfl)) (dg_sm.uF (WF := [(1, 1)]) (WA := []) dg_sm.rf e_24 sX_1 (dk_dq rfl)) (dk_dq rfl) (dk_dq rfl)) m_25 (dk_dq rfl) (dk_dq rfl)) m_26 (dk_dq rfl) (dk_dq rfl)) (Z3X.keep (Z3X.keep (Z3X.keep (Z3X.keep Z3 m_15 w_15_2 (dk_dq rfl)) (dg_sm.uF (WF := [(1, 1)]) (WA := []) dg_sm.rf e_24 sX_1 (dk_dq rfl)) (dg_FG.uF e_24) (dk_dq rfl)) m_25 w_25_1 (dk_dq rfl)) m_26 (dg_FG.sm m_26 (dk_dq rfl)) (dk_dq rfl)) w_26_0 (Z6X.keep (Z6X.keep (Z6X.keep (Z6X.keep Z6 m_15 w_15_2) (dg_sm.uF (WF := [(1, 1)]) (WA := []) dg_sm.rf e_24 sX_1 (dk_dq rfl)) (dg_FG.uF e_24)) m_25 w_25_1) m_26 (dg_FG.sm m_26 (dk_dq rfl))) I_26 H.size) (cwV 0 hts (bw_V wB_851 wB_852 wB_853 wB_610 wB_850) rfl rfl rfl (by decide +kernel) ⟨Nat.le_of_ble_eq_true rfl, Nat.le_of_ble_eq_true rfl⟩) (dg_preV sX_0 rfl K ST hP hS hA1 hA) rfl rfl hl.1 rfl (lv_room (Nat.le_of_ble_eq_true rfl)) dX11_on_71 ⟨Nat.le_of_ble_eq_true rfl, Nat.le_of_ble_eq_true rfl⟩) (fun S_27 hw_27 H locs hP hS => ?_)
          obtain ⟨I_27, m_27, w_27_0, w_27_1, w_27_2, w_27_3, -⟩ := hw_27
          have M_27 := dg_sm.tr M_26 m_27 (dk_dq rfl) (dk_dq rfl)
          obtain ⟨y_28, f_y_28, w_27_0⟩ := w_27_0
          have w_27_0 : (y_28).toInt = 0 := w_27_0
          obtain ⟨y_29, f_y_29, w_27_1⟩ := w_27_1
          have w_27_1 : (y_29).toInt = 0 := w_27_1
          obtain ⟨y_30, f_y_30, w_27_2⟩ := w_27_2
          have w_27_2 : (y_30).toInt = 0 := w_27_2
          have b_y_30 : 0 ≤ (y_30).toInt ∧ (y_30).toInt ≤ 1 := dg_I.intb (lo := 0) (hi := 1) I_27 sX_229 (by decide +kernel) f_y_30
          refine lv_iconst (v := 1) hx hb dX11_on_74 (by decide +kernel) ?_
          have hz_31 : (1 : Int32).toInt = 1 := by decide +kernel
          have hz_32 : (1 : Int32).toInt = 1 := by decide +kernel
          have hz_33 : (0 : Int32).toInt = 0 := by decide +kernel
          refine W.widen (k := 0) (n := 0) (Nat.le_of_ble_eq_true rfl) (Nat.le_of_ble_eq_true rfl) ?_
          exact dg_iret hx hb hr hlocks (by decide +kernel) hP hS ⟨I_27, M_27, (by decide +kernel), ⟨0, (((m_27.1 1 1 _ sX_1 (dk_dq rfl)).trans ((m_26.1 1 1 _ sX_1 (dk_dq rfl)).trans (m_25.1 1 1 _ sX_1 (dk_dq rfl)))).trans (dg_uF_at e_24)), (by omega)⟩, (Z3X.keep (Z3X.keep (Z3X.keep (Z3X.keep (Z3X.keep Z3 m_15 w_15_2 (dk_dq rfl)) (dg_sm.uF (WF := [(1, 1)]) (WA := []) dg_sm.rf e_24 sX_1 (dk_dq rfl)) (dg_FG.uF e_24) (dk_dq rfl)) m_25 w_25_1 (dk_dq rfl)) m_26 (dg_FG.sm m_26 (dk_dq rfl)) (dk_dq rfl)) m_27 (dg_FG.sm m_27 (dk_dq rfl)) (dk_dq rfl)), (Z4X.keep w_26_0 m_27 (dg_FG.sm m_27 (dk_dq rfl)) (dk_dq rfl) (dk_dq rfl)), (Z6X.keep (Z6X.keep (Z6X.keep (Z6X.keep (Z6X.keep Z6 m_15 w_15_2) (dg_sm.uF (WF := [(1, 1)]) (WA := []) dg_sm.rf e_24 sX_1 (dk_dq rfl)) (dg_FG.uF e_24)) m_25 w_25_1) m_26 (dg_FG.sm m_26 (dk_dq rfl))) m_27 (dg_FG.sm m_27 (dk_dq rfl))), (dg_FG.tr (dg_FG.tr (dg_FG.tr (dg_FG.tr w_15_2 (dg_FG.uF e_24)) w_25_1) (dg_FG.sm m_26 (dk_dq rfl))) (dg_FG.sm m_27 (dk_dq rfl))), ⟨congrArg Prod.fst (Eq.symm (Eq.trans hF_1 (F_d_on_p2 w_27_3))), congrArg Prod.snd (Eq.symm (Eq.trans hF_1 (F_d_on_p2 w_27_3)))⟩, trivial⟩ dX11_on_75
noncomputable def F_d_status (o : Nat) (S : dg_S) (a1 : Int32) : Int32 := (if a1 < (0 : Int32) then (-1 : Int32) else (if (6 : Int32) ≤ a1 then (-1 : Int32) else let x_4 : Int32 := S.2.1 184 (a1 : Int32).toNatClampNeg; x_4))
theorem F_d_status_p0 {o : Nat} {S : dg_S} {a1 : Int32} (h0 : a1 < (0 : Int32)) : F_d_status o S a1 = (-1 : Int32) := (Eq.trans (if_pos h0) rfl)
theorem F_d_status_p1 {o : Nat} {S : dg_S} {a1 : Int32} (h0 : ¬ (a1 < (0 : Int32))) (h1 : (6 : Int32) ≤ a1) : F_d_status o S a1 = (-1 : Int32) := (Eq.trans (if_neg h0) (Eq.trans (if_pos h1) rfl))
theorem F_d_status_p2 {o : Nat} {S : dg_S} {a1 : Int32} {x_4 : Int32} (h0 : ¬ (a1 < (0 : Int32))) (h1 : ¬ ((6 : Int32) ≤ a1)) (h2 : x_4 = S.2.1 184 (a1 : Int32).toNatClampNeg) : F_d_status o S a1 = x_4 := by
  replace h2 := Eq.symm h2
  subst h2
  exact (Eq.trans (if_neg h0) (Eq.trans (if_neg h1) rfl))
set_option maxHeartbeats 8000000 in
set_option maxRecDepth 100000 in
theorem c_d_status (l : Launch) (g : Nat → ClassId) (D : va_G) (o : Nat) (S : dg_S) (a1 : Int32) (Z1 : Z1X S) (Z2 : Z2X S) (Z3 : Z3X o S) (Z4 : Z4X S) (Z6 : Z6X S) (I : CX o S) (sz : Nat) : Met l yX11_status (bw yX11_status cX11_status 2 (some .int)) ({ frames := 1, cells := 0, slots := 0, locals := 32 } : Room) (dk_Pc g D (dg_w g shX o rfX S) sz [.ref (o + 0), .int a1]) (va_Qi (fun (r : Int32) S' => S' = S ∧ (r = F_d_status o S a1) ∧ True) (dg_B g D shX o rfX) (dg_A o shX.length sz)) 0 0 (dg_A o shX.length sz) := by
  refine dg_met (cc := cX11_status) (maxL := 2) (ret := (some .int)) (dk_dq rfl) rfl (Nat.le_of_ble_eq_true rfl) ?_
  intro p e s m args below meth c A hAe harg hx hb hr hml hts hown hlocks hin hP K hS hA1 hA ST hsz ls hl
  rw [← hAe]
  have F : CallFix p m c cX11_status 2 s args (bw yX11_status cX11_status 2 (some .int)) RX11 := ⟨hx, hb, hml, hown, hts⟩
  have hl : lv_has ls 2 [(0, .ref (o + 0)), (1, .int a1)] := hl
  have M_0 : dg_sm shX [] [] S S := dg_sm.rf
  refine lv_iload_n hx hb dX11_status_0 rfl (lv_at hl 1 rfl) ?_
  refine lv_if_lt (tgt := 22) hx hb dX11_status_1 (dk_dq rfl) (fun c_1 => ?_) (fun c_1 => ?_)
  · have jc_1 := dk_ltc (k := 0) (by decide +kernel) c_1
    refine lv_iconst (v := (-1)) hx hb dX11_status_22 (by decide +kernel) ?_
    refine W.widen (k := 0) (n := 0) (Nat.le_of_ble_eq_true rfl) (Nat.le_of_ble_eq_true rfl) ?_
    exact dg_iret hx hb hr hlocks rfl hP hS ⟨rfl, (Eq.symm (F_d_status_p0 c_1)), trivial⟩ dX11_status_23
  · have jc_1 := dk_nltc (k := 0) (by decide +kernel) c_1
    refine lv_iload_n hx hb dX11_status_4 rfl (lv_at hl 1 rfl) ?_
    refine lv_aload_n hx hb dX11_status_5 rfl (lv_at hl 0 rfl) ?_
    refine dg_get (C := RX11) (T := TX11) (N := 13) hx hb hts (fun w h => bw_mem (wU_X11 w h)) hown K hP sX_0 rfl 5 (dk_dq rfl) (hts _ (bw_mem wB_836)) (fun _ h9 => h9) (v := .ref (o + 184)) (show S.1 0 5 = .ref (o + 184) from dg_I.rel (d := 184) I sX_0 (by decide +kernel)) dX11_status_6 ?_
    refine dg_alen hx hb K hP sX_184 (v := 6) (by decide +kernel) dX11_status_9 ?_
    refine lv_icmp_ge (tgt := 22) hx hb dX11_status_10 (dk_dq rfl) (fun c_2 => ?_) (fun c_2 => ?_)
    · have jc_2 := dk_gec (k := 6) (by decide +kernel) c_2
      refine lv_iconst (v := (-1)) hx hb dX11_status_22 (by decide +kernel) ?_
      refine W.widen (k := 0) (n := 0) (Nat.le_of_ble_eq_true rfl) (Nat.le_of_ble_eq_true rfl) ?_
      exact dg_iret hx hb hr hlocks rfl hP hS ⟨rfl, (Eq.symm (F_d_status_p1 c_1 c_2)), trivial⟩ dX11_status_23
    · have jc_2 := dk_ngec (k := 6) (by decide +kernel) c_2
      refine lv_aload_n hx hb dX11_status_13 rfl (lv_at hl 0 rfl) ?_
      refine dg_get (C := RX11) (T := TX11) (N := 13) hx hb hts (fun w h => bw_mem (wU_X11 w h)) hown K hP sX_0 rfl 5 (dk_dq rfl) (hts _ (bw_mem wB_836)) (fun _ h9 => h9) (v := .ref (o + 184)) (show S.1 0 5 = .ref (o + 184) from dg_I.rel (d := 184) I sX_0 (by decide +kernel)) dX11_status_14 ?_
      refine lv_iload_n hx hb dX11_status_17 rfl (lv_at hl 1 rfl) ?_
      have hin_3 : vp_in a1 6 := (dk_inv2 (by omega))
      refine dg_iald hx hb K hP sX_184 hin_3 dX11_status_18 (fun x_4 ex_4 => ?_)
      refine lv_goto (tgt := 23) hx hb dX11_status_19 (dk_dq rfl) ?_
      refine W.widen (k := 0) (n := 0) (Nat.le_of_ble_eq_true rfl) (Nat.le_of_ble_eq_true rfl) ?_
      exact dg_iret hx hb hr hlocks rfl hP hS ⟨rfl, (Eq.symm (F_d_status_p2 c_1 c_2 (Eq.symm ex_4.symm))), trivial⟩ dX11_status_23
