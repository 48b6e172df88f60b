/-! 15.feel.lean.txt -/
theorem dX0_forget_0 : decode cX0_forget 0 = .ok (.aload_n 0, 1) := dk_o42 (by decide +kernel)
theorem dX0_forget_1 : decode cX0_forget 1 = .ok (.iconst 0, 1) := dk_o3 (by decide +kernel)
theorem dX0_forget_2 : decode cX0_forget 2 = .ok (.putfield 39, 3) := dk_o181 (by decide +kernel)
theorem dX0_forget_5 : decode cX0_forget 5 = .ok (.return_, 1) := dk_o177 (by decide +kernel)
theorem dX0_take_0 : decode cX0_take 0 = .ok (.aload_n 2, 1) := dk_o44 (by decide +kernel)
theorem dX0_take_1 : decode cX0_take 1 = .ok (.getfield 43, 3) := dk_o180 (by decide +kernel)
theorem dX0_take_4 : decode cX0_take 4 = .ok (.iconst 4, 1) := dk_o7 (by decide +kernel)
theorem dX0_take_5 : decode cX0_take 5 = .ok (.idiv, 1) := dk_o108 (by decide +kernel)
theorem dX0_take_6 : decode cX0_take 6 = .ok (.istore_n 3, 1) := dk_o62 (by decide +kernel)
theorem dX0_take_7 : decode cX0_take 7 = .ok (.aload_n 2, 1) := dk_o44 (by decide +kernel)
theorem dX0_take_8 : decode cX0_take 8 = .ok (.getfield 43, 3) := dk_o180 (by decide +kernel)
theorem dX0_take_11 : decode cX0_take 11 = .ok (.iconst 4, 1) := dk_o7 (by decide +kernel)
theorem dX0_take_12 : decode cX0_take 12 = .ok (.irem, 1) := dk_o112 (by decide +kernel)
theorem dX0_take_13 : decode cX0_take 13 = .ok (.ifCond .ne 14, 3) := dk_o154 (by decide +kernel)
theorem dX0_take_16 : decode cX0_take 16 = .ok (.iload_n 3, 1) := dk_o29 (by decide +kernel)
theorem dX0_take_17 : decode cX0_take 17 = .ok (.iconst 1, 1) := dk_o4 (by decide +kernel)
theorem dX0_take_18 : decode cX0_take 18 = .ok (.if_icmp .lt 9, 3) := dk_o161 (by decide +kernel)
theorem dX0_take_21 : decode cX0_take 21 = .ok (.iload_n 3, 1) := dk_o29 (by decide +kernel)
theorem dX0_take_22 : decode cX0_take 22 = .ok (.bipush 16, 2) := dk_o16 (by decide +kernel)
theorem dX0_take_24 : decode cX0_take 24 = .ok (.if_icmp .le 5, 3) := dk_o164 (by decide +kernel)
theorem dX0_take_27 : decode cX0_take 27 = .ok (.iconst 0, 1) := dk_o3 (by decide +kernel)
theorem dX0_take_28 : decode cX0_take 28 = .ok (.ireturn, 1) := dk_o172 (by decide +kernel)
theorem dX0_take_29 : decode cX0_take 29 = .ok (.iconst 0, 1) := dk_o3 (by decide +kernel)
theorem dX0_take_30 : decode cX0_take 30 = .ok (.istore 4, 2) := dk_o54 (by decide +kernel)
theorem dX0_take_32 : decode cX0_take 32 = .ok (.iload 4, 2) := dk_o21 (by decide +kernel)
theorem dX0_take_34 : decode cX0_take 34 = .ok (.iload_n 3, 1) := dk_o29 (by decide +kernel)
theorem dX0_take_35 : decode cX0_take 35 = .ok (.if_icmp .ge 26, 3) := dk_o162 (by decide +kernel)
theorem dX0_take_38 : decode cX0_take 38 = .ok (.aload_n 1, 1) := dk_o43 (by decide +kernel)
theorem dX0_take_39 : decode cX0_take 39 = .ok (.aload_n 2, 1) := dk_o44 (by decide +kernel)
theorem dX0_take_40 : decode cX0_take 40 = .ok (.getfield 48, 3) := dk_o180 (by decide +kernel)
theorem dX0_take_43 : decode cX0_take 43 = .ok (.iconst 4, 1) := dk_o7 (by decide +kernel)
theorem dX0_take_44 : decode cX0_take 44 = .ok (.iload 4, 2) := dk_o21 (by decide +kernel)
theorem dX0_take_46 : decode cX0_take 46 = .ok (.imul, 1) := dk_o104 (by decide +kernel)
theorem dX0_take_47 : decode cX0_take 47 = .ok (.invokestatic 51, 3) := dk_o184 (by decide +kernel)
theorem dX0_take_50 : decode cX0_take 50 = .ok (.ifCond .ne 5, 3) := dk_o154 (by decide +kernel)
theorem dX0_take_53 : decode cX0_take 53 = .ok (.iconst 0, 1) := dk_o3 (by decide +kernel)
theorem dX0_take_54 : decode cX0_take 54 = .ok (.ireturn, 1) := dk_o172 (by decide +kernel)
theorem dX0_take_55 : decode cX0_take 55 = .ok (.iinc 4 1, 3) := dk_o132 (by decide +kernel)
theorem dX0_take_58 : decode cX0_take 58 = .ok (.goto (-26), 3) := dk_o167 (by decide +kernel)
theorem dX0_take_61 : decode cX0_take 61 = .ok (.aload_n 2, 1) := dk_o44 (by decide +kernel)
theorem dX0_take_62 : decode cX0_take 62 = .ok (.getfield 48, 3) := dk_o180 (by decide +kernel)
theorem dX0_take_65 : decode cX0_take 65 = .ok (.iconst 0, 1) := dk_o3 (by decide +kernel)
theorem dX0_take_66 : decode cX0_take 66 = .ok (.aload_n 0, 1) := dk_o42 (by decide +kernel)
theorem dX0_take_67 : decode cX0_take 67 = .ok (.getfield 9, 3) := dk_o180 (by decide +kernel)
theorem dX0_take_70 : decode cX0_take 70 = .ok (.iconst 0, 1) := dk_o3 (by decide +kernel)
theorem dX0_take_71 : decode cX0_take 71 = .ok (.aload_n 2, 1) := dk_o44 (by decide +kernel)
theorem dX0_take_72 : decode cX0_take 72 = .ok (.getfield 43, 3) := dk_o180 (by decide +kernel)
theorem dX0_take_75 : decode cX0_take 75 = .ok (.invokestatic 55, 3) := dk_o184 (by decide +kernel)
theorem dX0_take_78 : decode cX0_take 78 = .ok (.aload_n 0, 1) := dk_o42 (by decide +kernel)
theorem dX0_take_79 : decode cX0_take 79 = .ok (.iload_n 3, 1) := dk_o29 (by decide +kernel)
theorem dX0_take_80 : decode cX0_take 80 = .ok (.putfield 61, 3) := dk_o181 (by decide +kernel)
theorem dX0_take_83 : decode cX0_take 83 = .ok (.aload_n 0, 1) := dk_o42 (by decide +kernel)
theorem dX0_take_84 : decode cX0_take 84 = .ok (.invokevirtual 64, 3) := dk_o182 (by decide +kernel)
theorem dX0_take_87 : decode cX0_take 87 = .ok (.iconst 1, 1) := dk_o4 (by decide +kernel)
theorem dX0_take_88 : decode cX0_take 88 = .ok (.ireturn, 1) := dk_o172 (by decide +kernel)
theorem dX0_canBeFelt_0 : decode cX0_canBeFelt 0 = .ok (.aload_n 1, 1) := dk_o43 (by decide +kernel)
theorem dX0_canBeFelt_1 : decode cX0_canBeFelt 1 = .ok (.iload_n 2, 1) := dk_o28 (by decide +kernel)
theorem dX0_canBeFelt_2 : decode cX0_canBeFelt 2 = .ok (.iconst 3, 1) := dk_o6 (by decide +kernel)
theorem dX0_canBeFelt_3 : decode cX0_canBeFelt 3 = .ok (.iadd, 1) := dk_o96 (by decide +kernel)
theorem dX0_canBeFelt_4 : decode cX0_canBeFelt 4 = .ok (.iaload, 1) := dk_o46 (by decide +kernel)
theorem dX0_canBeFelt_5 : decode cX0_canBeFelt 5 = .ok (.istore_n 3, 1) := dk_o62 (by decide +kernel)
theorem dX0_canBeFelt_6 : decode cX0_canBeFelt 6 = .ok (.aload_n 1, 1) := dk_o43 (by decide +kernel)
theorem dX0_canBeFelt_7 : decode cX0_canBeFelt 7 = .ok (.iload_n 2, 1) := dk_o28 (by decide +kernel)
theorem dX0_canBeFelt_8 : decode cX0_canBeFelt 8 = .ok (.iaload, 1) := dk_o46 (by decide +kernel)
theorem dX0_canBeFelt_9 : decode cX0_canBeFelt 9 = .ok (.bipush 30, 2) := dk_o16 (by decide +kernel)
theorem dX0_canBeFelt_11 : decode cX0_canBeFelt 11 = .ok (.if_icmp .gt 38, 3) := dk_o163 (by decide +kernel)
theorem dX0_canBeFelt_14 : decode cX0_canBeFelt 14 = .ok (.aload_n 0, 1) := dk_o42 (by decide +kernel)
theorem dX0_canBeFelt_15 : decode cX0_canBeFelt 15 = .ok (.aload_n 1, 1) := dk_o43 (by decide +kernel)
theorem dX0_canBeFelt_16 : decode cX0_canBeFelt 16 = .ok (.iload_n 2, 1) := dk_o28 (by decide +kernel)
theorem dX0_canBeFelt_17 : decode cX0_canBeFelt 17 = .ok (.iconst 1, 1) := dk_o4 (by decide +kernel)
theorem dX0_canBeFelt_18 : decode cX0_canBeFelt 18 = .ok (.iadd, 1) := dk_o96 (by decide +kernel)
theorem dX0_canBeFelt_19 : decode cX0_canBeFelt 19 = .ok (.iaload, 1) := dk_o46 (by decide +kernel)
theorem dX0_canBeFelt_20 : decode cX0_canBeFelt 20 = .ok (.aload_n 1, 1) := dk_o43 (by decide +kernel)
theorem dX0_canBeFelt_21 : decode cX0_canBeFelt 21 = .ok (.iload_n 2, 1) := dk_o28 (by decide +kernel)
theorem dX0_canBeFelt_22 : decode cX0_canBeFelt 22 = .ok (.iconst 2, 1) := dk_o5 (by decide +kernel)
theorem dX0_canBeFelt_23 : decode cX0_canBeFelt 23 = .ok (.iadd, 1) := dk_o96 (by decide +kernel)
theorem dX0_canBeFelt_24 : decode cX0_canBeFelt 24 = .ok (.iaload, 1) := dk_o46 (by decide +kernel)
theorem dX0_canBeFelt_25 : decode cX0_canBeFelt 25 = .ok (.invokevirtual 67, 3) := dk_o182 (by decide +kernel)
theorem dX0_canBeFelt_28 : decode cX0_canBeFelt 28 = .ok (.iconst (-1), 1) := dk_o2 (by decide +kernel)
theorem dX0_canBeFelt_29 : decode cX0_canBeFelt 29 = .ok (.if_icmp .eq 20, 3) := dk_o159 (by decide +kernel)
theorem dX0_canBeFelt_32 : decode cX0_canBeFelt 32 = .ok (.iload_n 3, 1) := dk_o29 (by decide +kernel)
theorem dX0_canBeFelt_33 : decode cX0_canBeFelt 33 = .ok (.bipush 9, 2) := dk_o16 (by decide +kernel)
theorem dX0_canBeFelt_35 : decode cX0_canBeFelt 35 = .ok (.if_icmp .le 10, 3) := dk_o164 (by decide +kernel)
theorem dX0_canBeFelt_38 : decode cX0_canBeFelt 38 = .ok (.iload_n 3, 1) := dk_o29 (by decide +kernel)
theorem dX0_canBeFelt_39 : decode cX0_canBeFelt 39 = .ok (.sipush 255, 3) := dk_o17 (by decide +kernel)
theorem dX0_canBeFelt_42 : decode cX0_canBeFelt 42 = .ok (.if_icmp .ne 7, 3) := dk_o160 (by decide +kernel)
theorem dX0_canBeFelt_45 : decode cX0_canBeFelt 45 = .ok (.iconst 1, 1) := dk_o4 (by decide +kernel)
theorem dX0_canBeFelt_46 : decode cX0_canBeFelt 46 = .ok (.goto 4, 3) := dk_o167 (by decide +kernel)
theorem dX0_canBeFelt_49 : decode cX0_canBeFelt 49 = .ok (.iconst 0, 1) := dk_o3 (by decide +kernel)
theorem dX0_canBeFelt_50 : decode cX0_canBeFelt 50 = .ok (.ireturn, 1) := dk_o172 (by decide +kernel)
theorem dX0_reachBits_0 : decode cX0_reachBits 0 = .ok (.iconst 0, 1) := dk_o3 (by decide +kernel)
theorem dX0_reachBits_1 : decode cX0_reachBits 1 = .ok (.istore_n 3, 1) := dk_o62 (by decide +kernel)
theorem dX0_reachBits_2 : decode cX0_reachBits 2 = .ok (.iconst 0, 1) := dk_o3 (by decide +kernel)
theorem dX0_reachBits_3 : decode cX0_reachBits 3 = .ok (.istore 4, 2) := dk_o54 (by decide +kernel)
theorem dX0_reachBits_5 : decode cX0_reachBits 5 = .ok (.iload 4, 2) := dk_o21 (by decide +kernel)
theorem dX0_reachBits_7 : decode cX0_reachBits 7 = .ok (.aload_n 0, 1) := dk_o42 (by decide +kernel)
theorem dX0_reachBits_8 : decode cX0_reachBits 8 = .ok (.getfield 61, 3) := dk_o180 (by decide +kernel)
theorem dX0_reachBits_11 : decode cX0_reachBits 11 = .ok (.if_icmp .ge 23, 3) := dk_o162 (by decide +kernel)
theorem dX0_reachBits_14 : decode cX0_reachBits 14 = .ok (.iload_n 3, 1) := dk_o29 (by decide +kernel)
theorem dX0_reachBits_15 : decode cX0_reachBits 15 = .ok (.aload_n 0, 1) := dk_o42 (by decide +kernel)
theorem dX0_reachBits_16 : decode cX0_reachBits 16 = .ok (.getfield 9, 3) := dk_o180 (by decide +kernel)
theorem dX0_reachBits_19 : decode cX0_reachBits 19 = .ok (.iconst 4, 1) := dk_o7 (by decide +kernel)
theorem dX0_reachBits_20 : decode cX0_reachBits 20 = .ok (.iload 4, 2) := dk_o21 (by decide +kernel)
theorem dX0_reachBits_22 : decode cX0_reachBits 22 = .ok (.imul, 1) := dk_o104 (by decide +kernel)
theorem dX0_reachBits_23 : decode cX0_reachBits 23 = .ok (.iaload, 1) := dk_o46 (by decide +kernel)
theorem dX0_reachBits_24 : decode cX0_reachBits 24 = .ok (.invokestatic 73, 3) := dk_o184 (by decide +kernel)
theorem dX0_reachBits_27 : decode cX0_reachBits 27 = .ok (.istore_n 3, 1) := dk_o62 (by decide +kernel)
theorem dX0_reachBits_28 : decode cX0_reachBits 28 = .ok (.iinc 4 1, 3) := dk_o132 (by decide +kernel)
theorem dX0_reachBits_31 : decode cX0_reachBits 31 = .ok (.goto (-26), 3) := dk_o167 (by decide +kernel)
theorem dX0_reachBits_34 : decode cX0_reachBits 34 = .ok (.aload_n 2, 1) := dk_o44 (by decide +kernel)
theorem dX0_reachBits_35 : decode cX0_reachBits 35 = .ok (.getfield 78, 3) := dk_o180 (by decide +kernel)
theorem dX0_reachBits_38 : decode cX0_reachBits 38 = .ok (.iload_n 3, 1) := dk_o29 (by decide +kernel)
theorem dX0_reachBits_39 : decode cX0_reachBits 39 = .ok (.iadd, 1) := dk_o96 (by decide +kernel)
theorem dX0_reachBits_40 : decode cX0_reachBits 40 = .ok (.sipush 999, 3) := dk_o17 (by decide +kernel)
theorem dX0_reachBits_43 : decode cX0_reachBits 43 = .ok (.if_icmp .le 5, 3) := dk_o164 (by decide +kernel)
theorem dX0_reachBits_46 : decode cX0_reachBits 46 = .ok (.iconst 0, 1) := dk_o3 (by decide +kernel)
theorem dX0_reachBits_47 : decode cX0_reachBits 47 = .ok (.ireturn, 1) := dk_o172 (by decide +kernel)
theorem dX0_reachBits_48 : decode cX0_reachBits 48 = .ok (.iconst 0, 1) := dk_o3 (by decide +kernel)
theorem dX0_reachBits_49 : decode cX0_reachBits 49 = .ok (.istore 4, 2) := dk_o54 (by decide +kernel)
theorem dX0_reachBits_51 : decode cX0_reachBits 51 = .ok (.iconst 0, 1) := dk_o3 (by decide +kernel)
theorem dX0_reachBits_52 : decode cX0_reachBits 52 = .ok (.istore 5, 2) := dk_o54 (by decide +kernel)
theorem dX0_reachBits_54 : decode cX0_reachBits 54 = .ok (.iload 5, 2) := dk_o21 (by decide +kernel)
theorem dX0_reachBits_56 : decode cX0_reachBits 56 = .ok (.bipush 21, 2) := dk_o16 (by decide +kernel)
theorem dX0_reachBits_58 : decode cX0_reachBits 58 = .ok (.if_icmp .ge 30, 3) := dk_o162 (by decide +kernel)
theorem dX0_reachBits_61 : decode cX0_reachBits 61 = .ok (.aload_n 0, 1) := dk_o42 (by decide +kernel)
theorem dX0_reachBits_62 : decode cX0_reachBits 62 = .ok (.aload_n 1, 1) := dk_o43 (by decide +kernel)
theorem dX0_reachBits_63 : decode cX0_reachBits 63 = .ok (.aload_n 2, 1) := dk_o44 (by decide +kernel)
theorem dX0_reachBits_64 : decode cX0_reachBits 64 = .ok (.iload 5, 2) := dk_o21 (by decide +kernel)
theorem dX0_reachBits_66 : decode cX0_reachBits 66 = .ok (.iload_n 3, 1) := dk_o29 (by decide +kernel)
theorem dX0_reachBits_67 : decode cX0_reachBits 67 = .ok (.invokevirtual 81, 3) := dk_o182 (by decide +kernel)
theorem dX0_reachBits_70 : decode cX0_reachBits 70 = .ok (.ifCond .eq 12, 3) := dk_o153 (by decide +kernel)
theorem dX0_reachBits_73 : decode cX0_reachBits 73 = .ok (.iload 4, 2) := dk_o21 (by decide +kernel)
theorem dX0_reachBits_75 : decode cX0_reachBits 75 = .ok (.iconst 1, 1) := dk_o4 (by decide +kernel)
theorem dX0_reachBits_76 : decode cX0_reachBits 76 = .ok (.iload 5, 2) := dk_o21 (by decide +kernel)
theorem dX0_reachBits_78 : decode cX0_reachBits 78 = .ok (.ishl, 1) := dk_o120 (by decide +kernel)
theorem dX0_reachBits_79 : decode cX0_reachBits 79 = .ok (.ior, 1) := dk_o128 (by decide +kernel)
theorem dX0_reachBits_80 : decode cX0_reachBits 80 = .ok (.istore 4, 2) := dk_o54 (by decide +kernel)
theorem dX0_reachBits_82 : decode cX0_reachBits 82 = .ok (.iinc 5 1, 3) := dk_o132 (by decide +kernel)
theorem dX0_reachBits_85 : decode cX0_reachBits 85 = .ok (.goto (-31), 3) := dk_o167 (by decide +kernel)
theorem dX0_reachBits_88 : decode cX0_reachBits 88 = .ok (.iload 4, 2) := dk_o21 (by decide +kernel)
theorem dX0_reachBits_90 : decode cX0_reachBits 90 = .ok (.ireturn, 1) := dk_o172 (by decide +kernel)
theorem dX0_agrees_0 : decode cX0_agrees 0 = .ok (.aload_n 0, 1) := dk_o42 (by decide +kernel)
theorem dX0_agrees_1 : decode cX0_agrees 1 = .ok (.getfield 17, 3) := dk_o180 (by decide +kernel)
theorem dX0_agrees_4 : decode cX0_agrees 4 = .ok (.iload_n 3, 1) := dk_o29 (by decide +kernel)
theorem dX0_agrees_5 : decode cX0_agrees 5 = .ok (.aaload, 1) := dk_o50 (by decide +kernel)
theorem dX0_agrees_6 : decode cX0_agrees 6 = .ok (.astore 5, 2) := dk_o58 (by decide +kernel)
theorem dX0_agrees_8 : decode cX0_agrees 8 = .ok (.aload 5, 2) := dk_o25 (by decide +kernel)
theorem dX0_agrees_10 : decode cX0_agrees 10 = .ok (.aload_n 2, 1) := dk_o44 (by decide +kernel)
theorem dX0_agrees_11 : decode cX0_agrees 11 = .ok (.invokevirtual 85, 3) := dk_o182 (by decide +kernel)
theorem dX0_agrees_14 : decode cX0_agrees 14 = .ok (.aload_n 0, 1) := dk_o42 (by decide +kernel)
theorem dX0_agrees_15 : decode cX0_agrees 15 = .ok (.getfield 34, 3) := dk_o180 (by decide +kernel)
theorem dX0_agrees_18 : decode cX0_agrees 18 = .ok (.aload_n 1, 1) := dk_o43 (by decide +kernel)
theorem dX0_agrees_19 : decode cX0_agrees 19 = .ok (.aload 5, 2) := dk_o25 (by decide +kernel)
theorem dX0_agrees_21 : decode cX0_agrees 21 = .ok (.iload_n 3, 1) := dk_o29 (by decide +kernel)
theorem dX0_agrees_22 : decode cX0_agrees 22 = .ok (.invokevirtual 89, 3) := dk_o182 (by decide +kernel)
theorem dX0_agrees_25 : decode cX0_agrees 25 = .ok (.iconst 0, 1) := dk_o3 (by decide +kernel)
theorem dX0_agrees_26 : decode cX0_agrees 26 = .ok (.istore 6, 2) := dk_o54 (by decide +kernel)
theorem dX0_agrees_28 : decode cX0_agrees 28 = .ok (.iload 6, 2) := dk_o21 (by decide +kernel)
theorem dX0_agrees_30 : decode cX0_agrees 30 = .ok (.iload 4, 2) := dk_o21 (by decide +kernel)
theorem dX0_agrees_32 : decode cX0_agrees 32 = .ok (.if_icmp .gt 31, 3) := dk_o163 (by decide +kernel)
theorem dX0_agrees_35 : decode cX0_agrees 35 = .ok (.aload_n 0, 1) := dk_o42 (by decide +kernel)
theorem dX0_agrees_36 : decode cX0_agrees 36 = .ok (.aload_n 1, 1) := dk_o43 (by decide +kernel)
theorem dX0_agrees_37 : decode cX0_agrees 37 = .ok (.aload 5, 2) := dk_o25 (by decide +kernel)
theorem dX0_agrees_39 : decode cX0_agrees 39 = .ok (.iload 6, 2) := dk_o21 (by decide +kernel)
theorem dX0_agrees_41 : decode cX0_agrees 41 = .ok (.invokevirtual 95, 3) := dk_o182 (by decide +kernel)
theorem dX0_agrees_44 : decode cX0_agrees 44 = .ok (.ifCond .ne 5, 3) := dk_o154 (by decide +kernel)
theorem dX0_agrees_47 : decode cX0_agrees 47 = .ok (.iconst 0, 1) := dk_o3 (by decide +kernel)
theorem dX0_agrees_48 : decode cX0_agrees 48 = .ok (.ireturn, 1) := dk_o172 (by decide +kernel)
theorem dX0_agrees_49 : decode cX0_agrees 49 = .ok (.aload_n 0, 1) := dk_o42 (by decide +kernel)
theorem dX0_agrees_50 : decode cX0_agrees 50 = .ok (.getfield 34, 3) := dk_o180 (by decide +kernel)
theorem dX0_agrees_53 : decode cX0_agrees 53 = .ok (.iconst 1, 1) := dk_o4 (by decide +kernel)
theorem dX0_agrees_54 : decode cX0_agrees 54 = .ok (.invokevirtual 99, 3) := dk_o182 (by decide +kernel)
theorem dX0_agrees_57 : decode cX0_agrees 57 = .ok (.iinc 6 1, 3) := dk_o132 (by decide +kernel)
theorem dX0_agrees_60 : decode cX0_agrees 60 = .ok (.goto (-32), 3) := dk_o167 (by decide +kernel)
theorem dX0_agrees_63 : decode cX0_agrees 63 = .ok (.iconst 1, 1) := dk_o4 (by decide +kernel)
theorem dX0_agrees_64 : decode cX0_agrees 64 = .ok (.ireturn, 1) := dk_o172 (by decide +kernel)
theorem dX0_agreesBehind_0 : decode cX0_agreesBehind 0 = .ok (.iconst 0, 1) := dk_o3 (by decide +kernel)
theorem dX0_agreesBehind_1 : decode cX0_agreesBehind 1 = .ok (.istore 4, 2) := dk_o54 (by decide +kernel)
theorem dX0_agreesBehind_3 : decode cX0_agreesBehind 3 = .ok (.iload 4, 2) := dk_o21 (by decide +kernel)
theorem dX0_agreesBehind_5 : decode cX0_agreesBehind 5 = .ok (.aload_n 0, 1) := dk_o42 (by decide +kernel)
theorem dX0_agreesBehind_6 : decode cX0_agreesBehind 6 = .ok (.getfield 61, 3) := dk_o180 (by decide +kernel)
theorem dX0_agreesBehind_9 : decode cX0_agreesBehind 9 = .ok (.if_icmp .ge 102, 3) := dk_o162 (by decide +kernel)
theorem dX0_agreesBehind_12 : decode cX0_agreesBehind 12 = .ok (.iconst 4, 1) := dk_o7 (by decide +kernel)
theorem dX0_agreesBehind_13 : decode cX0_agreesBehind 13 = .ok (.iload 4, 2) := dk_o21 (by decide +kernel)
theorem dX0_agreesBehind_15 : decode cX0_agreesBehind 15 = .ok (.imul, 1) := dk_o104 (by decide +kernel)
theorem dX0_agreesBehind_16 : decode cX0_agreesBehind 16 = .ok (.istore 5, 2) := dk_o54 (by decide +kernel)
theorem dX0_agreesBehind_18 : decode cX0_agreesBehind 18 = .ok (.aload_n 0, 1) := dk_o42 (by decide +kernel)
theorem dX0_agreesBehind_19 : decode cX0_agreesBehind 19 = .ok (.getfield 9, 3) := dk_o180 (by decide +kernel)
theorem dX0_agreesBehind_22 : decode cX0_agreesBehind 22 = .ok (.iload 5, 2) := dk_o21 (by decide +kernel)
theorem dX0_agreesBehind_24 : decode cX0_agreesBehind 24 = .ok (.iaload, 1) := dk_o46 (by decide +kernel)
theorem dX0_agreesBehind_25 : decode cX0_agreesBehind 25 = .ok (.iload_n 3, 1) := dk_o29 (by decide +kernel)
theorem dX0_agreesBehind_26 : decode cX0_agreesBehind 26 = .ok (.if_icmp .eq 6, 3) := dk_o159 (by decide +kernel)
theorem dX0_agreesBehind_29 : decode cX0_agreesBehind 29 = .ok (.goto 76, 3) := dk_o167 (by decide +kernel)
theorem dX0_agreesBehind_32 : decode cX0_agreesBehind 32 = .ok (.aload_n 1, 1) := dk_o43 (by decide +kernel)
theorem dX0_agreesBehind_33 : decode cX0_agreesBehind 33 = .ok (.aload_n 0, 1) := dk_o42 (by decide +kernel)
theorem dX0_agreesBehind_34 : decode cX0_agreesBehind 34 = .ok (.getfield 9, 3) := dk_o180 (by decide +kernel)
theorem dX0_agreesBehind_37 : decode cX0_agreesBehind 37 = .ok (.iload 5, 2) := dk_o21 (by decide +kernel)
theorem dX0_agreesBehind_39 : decode cX0_agreesBehind 39 = .ok (.iconst 1, 1) := dk_o4 (by decide +kernel)
theorem dX0_agreesBehind_40 : decode cX0_agreesBehind 40 = .ok (.iadd, 1) := dk_o96 (by decide +kernel)
theorem dX0_agreesBehind_41 : decode cX0_agreesBehind 41 = .ok (.iaload, 1) := dk_o46 (by decide +kernel)
theorem dX0_agreesBehind_42 : decode cX0_agreesBehind 42 = .ok (.aload_n 0, 1) := dk_o42 (by decide +kernel)
theorem dX0_agreesBehind_43 : decode cX0_agreesBehind 43 = .ok (.getfield 9, 3) := dk_o180 (by decide +kernel)
theorem dX0_agreesBehind_46 : decode cX0_agreesBehind 46 = .ok (.iload 5, 2) := dk_o21 (by decide +kernel)
theorem dX0_agreesBehind_48 : decode cX0_agreesBehind 48 = .ok (.iconst 2, 1) := dk_o5 (by decide +kernel)
theorem dX0_agreesBehind_49 : decode cX0_agreesBehind 49 = .ok (.iadd, 1) := dk_o96 (by decide +kernel)
theorem dX0_agreesBehind_50 : decode cX0_agreesBehind 50 = .ok (.iaload, 1) := dk_o46 (by decide +kernel)
theorem dX0_agreesBehind_51 : decode cX0_agreesBehind 51 = .ok (.invokevirtual 67, 3) := dk_o182 (by decide +kernel)
theorem dX0_agreesBehind_54 : decode cX0_agreesBehind 54 = .ok (.istore 6, 2) := dk_o54 (by decide +kernel)
theorem dX0_agreesBehind_56 : decode cX0_agreesBehind 56 = .ok (.aload_n 0, 1) := dk_o42 (by decide +kernel)
theorem dX0_agreesBehind_57 : decode cX0_agreesBehind 57 = .ok (.getfield 9, 3) := dk_o180 (by decide +kernel)
theorem dX0_agreesBehind_60 : decode cX0_agreesBehind 60 = .ok (.iload 5, 2) := dk_o21 (by decide +kernel)
theorem dX0_agreesBehind_62 : decode cX0_agreesBehind 62 = .ok (.iconst 3, 1) := dk_o6 (by decide +kernel)
theorem dX0_agreesBehind_63 : decode cX0_agreesBehind 63 = .ok (.iadd, 1) := dk_o96 (by decide +kernel)
theorem dX0_agreesBehind_64 : decode cX0_agreesBehind 64 = .ok (.iaload, 1) := dk_o46 (by decide +kernel)
theorem dX0_agreesBehind_65 : decode cX0_agreesBehind 65 = .ok (.sipush 255, 3) := dk_o17 (by decide +kernel)
theorem dX0_agreesBehind_68 : decode cX0_agreesBehind 68 = .ok (.if_icmp .ne 7, 3) := dk_o160 (by decide +kernel)
theorem dX0_agreesBehind_71 : decode cX0_agreesBehind 71 = .ok (.iconst (-1), 1) := dk_o2 (by decide +kernel)
theorem dX0_agreesBehind_72 : decode cX0_agreesBehind 72 = .ok (.goto 12, 3) := dk_o167 (by decide +kernel)
theorem dX0_agreesBehind_75 : decode cX0_agreesBehind 75 = .ok (.aload_n 0, 1) := dk_o42 (by decide +kernel)
theorem dX0_agreesBehind_76 : decode cX0_agreesBehind 76 = .ok (.getfield 9, 3) := dk_o180 (by decide +kernel)
theorem dX0_agreesBehind_79 : decode cX0_agreesBehind 79 = .ok (.iload 5, 2) := dk_o21 (by decide +kernel)
theorem dX0_agreesBehind_81 : decode cX0_agreesBehind 81 = .ok (.iconst 3, 1) := dk_o6 (by decide +kernel)
theorem dX0_agreesBehind_82 : decode cX0_agreesBehind 82 = .ok (.iadd, 1) := dk_o96 (by decide +kernel)
theorem dX0_agreesBehind_83 : decode cX0_agreesBehind 83 = .ok (.iaload, 1) := dk_o46 (by decide +kernel)
theorem dX0_agreesBehind_84 : decode cX0_agreesBehind 84 = .ok (.istore 7, 2) := dk_o54 (by decide +kernel)
theorem dX0_agreesBehind_86 : decode cX0_agreesBehind 86 = .ok (.iload 6, 2) := dk_o21 (by decide +kernel)
theorem dX0_agreesBehind_88 : decode cX0_agreesBehind 88 = .ok (.iconst (-1), 1) := dk_o2 (by decide +kernel)
theorem dX0_agreesBehind_89 : decode cX0_agreesBehind 89 = .ok (.if_icmp .eq 14, 3) := dk_o159 (by decide +kernel)
theorem dX0_agreesBehind_92 : decode cX0_agreesBehind 92 = .ok (.aload_n 2, 1) := dk_o44 (by decide +kernel)
theorem dX0_agreesBehind_93 : decode cX0_agreesBehind 93 = .ok (.iload 6, 2) := dk_o21 (by decide +kernel)
theorem dX0_agreesBehind_95 : decode cX0_agreesBehind 95 = .ok (.invokevirtual 103, 3) := dk_o182 (by decide +kernel)
theorem dX0_agreesBehind_98 : decode cX0_agreesBehind 98 = .ok (.iload 7, 2) := dk_o21 (by decide +kernel)
theorem dX0_agreesBehind_100 : decode cX0_agreesBehind 100 = .ok (.if_icmp .eq 5, 3) := dk_o159 (by decide +kernel)
theorem dX0_agreesBehind_103 : decode cX0_agreesBehind 103 = .ok (.iconst 0, 1) := dk_o3 (by decide +kernel)
theorem dX0_agreesBehind_104 : decode cX0_agreesBehind 104 = .ok (.ireturn, 1) := dk_o172 (by decide +kernel)
theorem dX0_agreesBehind_105 : decode cX0_agreesBehind 105 = .ok (.iinc 4 1, 3) := dk_o132 (by decide +kernel)
theorem dX0_agreesBehind_108 : decode cX0_agreesBehind 108 = .ok (.goto (-105), 3) := dk_o167 (by decide +kernel)
theorem dX0_agreesBehind_111 : decode cX0_agreesBehind 111 = .ok (.iconst 1, 1) := dk_o4 (by decide +kernel)
theorem dX0_agreesBehind_112 : decode cX0_agreesBehind 112 = .ok (.ireturn, 1) := dk_o172 (by decide +kernel)
theorem dX0_seekTelling_0 : decode cX0_seekTelling 0 = .ok (.aload_n 0, 1) := dk_o42 (by decide +kernel)
theorem dX0_seekTelling_1 : decode cX0_seekTelling 1 = .ok (.iconst 1, 1) := dk_o4 (by decide +kernel)
theorem dX0_seekTelling_2 : decode cX0_seekTelling 2 = .ok (.putfield 39, 3) := dk_o181 (by decide +kernel)
theorem dX0_seekTelling_5 : decode cX0_seekTelling 5 = .ok (.aload_n 0, 1) := dk_o42 (by decide +kernel)
theorem dX0_seekTelling_6 : decode cX0_seekTelling 6 = .ok (.iconst (-1), 1) := dk_o2 (by decide +kernel)
theorem dX0_seekTelling_7 : decode cX0_seekTelling 7 = .ok (.putfield 28, 3) := dk_o181 (by decide +kernel)
theorem dX0_seekTelling_10 : decode cX0_seekTelling 10 = .ok (.aload_n 0, 1) := dk_o42 (by decide +kernel)
theorem dX0_seekTelling_11 : decode cX0_seekTelling 11 = .ok (.bipush 22, 2) := dk_o16 (by decide +kernel)
theorem dX0_seekTelling_13 : decode cX0_seekTelling 13 = .ok (.putfield 31, 3) := dk_o181 (by decide +kernel)
theorem dX0_seekTelling_16 : decode cX0_seekTelling 16 = .ok (.iload_n 3, 1) := dk_o29 (by decide +kernel)
theorem dX0_seekTelling_17 : decode cX0_seekTelling 17 = .ok (.ifCond .ne 4, 3) := dk_o154 (by decide +kernel)
theorem dX0_seekTelling_20 : decode cX0_seekTelling 20 = .ok (.return_, 1) := dk_o177 (by decide +kernel)
theorem dX0_seekTelling_21 : decode cX0_seekTelling 21 = .ok (.iconst 0, 1) := dk_o3 (by decide +kernel)
theorem dX0_seekTelling_22 : decode cX0_seekTelling 22 = .ok (.istore 4, 2) := dk_o54 (by decide +kernel)
theorem dX0_seekTelling_24 : decode cX0_seekTelling 24 = .ok (.iload 4, 2) := dk_o21 (by decide +kernel)
theorem dX0_seekTelling_26 : decode cX0_seekTelling 26 = .ok (.bipush 21, 2) := dk_o16 (by decide +kernel)
theorem dX0_seekTelling_28 : decode cX0_seekTelling 28 = .ok (.if_icmp .ge 20, 3) := dk_o162 (by decide +kernel)
theorem dX0_seekTelling_31 : decode cX0_seekTelling 31 = .ok (.aload_n 0, 1) := dk_o42 (by decide +kernel)
theorem dX0_seekTelling_32 : decode cX0_seekTelling 32 = .ok (.getfield 17, 3) := dk_o180 (by decide +kernel)
theorem dX0_seekTelling_35 : decode cX0_seekTelling 35 = .ok (.iload 4, 2) := dk_o21 (by decide +kernel)
theorem dX0_seekTelling_37 : decode cX0_seekTelling 37 = .ok (.aaload, 1) := dk_o50 (by decide +kernel)
theorem dX0_seekTelling_38 : decode cX0_seekTelling 38 = .ok (.aload_n 2, 1) := dk_o44 (by decide +kernel)
theorem dX0_seekTelling_39 : decode cX0_seekTelling 39 = .ok (.invokevirtual 85, 3) := dk_o182 (by decide +kernel)
theorem dX0_seekTelling_42 : decode cX0_seekTelling 42 = .ok (.iinc 4 1, 3) := dk_o132 (by decide +kernel)
theorem dX0_seekTelling_45 : decode cX0_seekTelling 45 = .ok (.goto (-21), 3) := dk_o167 (by decide +kernel)
theorem dX0_seekTelling_48 : decode cX0_seekTelling 48 = .ok (.bipush 30, 2) := dk_o16 (by decide +kernel)
theorem dX0_seekTelling_50 : decode cX0_seekTelling 50 = .ok (.sipush 999, 3) := dk_o17 (by decide +kernel)
theorem dX0_seekTelling_53 : decode cX0_seekTelling 53 = .ok (.aload_n 2, 1) := dk_o44 (by decide +kernel)
theorem dX0_seekTelling_54 : decode cX0_seekTelling 54 = .ok (.getfield 78, 3) := dk_o180 (by decide +kernel)
theorem dX0_seekTelling_57 : decode cX0_seekTelling 57 = .ok (.isub, 1) := dk_o100 (by decide +kernel)
theorem dX0_seekTelling_58 : decode cX0_seekTelling 58 = .ok (.invokestatic 107, 3) := dk_o184 (by decide +kernel)
theorem dX0_seekTelling_61 : decode cX0_seekTelling 61 = .ok (.istore 4, 2) := dk_o54 (by decide +kernel)
theorem dX0_seekTelling_63 : decode cX0_seekTelling 63 = .ok (.iconst 1, 1) := dk_o4 (by decide +kernel)
theorem dX0_seekTelling_64 : decode cX0_seekTelling 64 = .ok (.istore 5, 2) := dk_o54 (by decide +kernel)
theorem dX0_seekTelling_66 : decode cX0_seekTelling 66 = .ok (.iload 5, 2) := dk_o21 (by decide +kernel)
theorem dX0_seekTelling_68 : decode cX0_seekTelling 68 = .ok (.iload 4, 2) := dk_o21 (by decide +kernel)
theorem dX0_seekTelling_70 : decode cX0_seekTelling 70 = .ok (.if_icmp .gt 24, 3) := dk_o163 (by decide +kernel)
theorem dX0_seekTelling_73 : decode cX0_seekTelling 73 = .ok (.aload_n 0, 1) := dk_o42 (by decide +kernel)
theorem dX0_seekTelling_74 : decode cX0_seekTelling 74 = .ok (.aload_n 1, 1) := dk_o43 (by decide +kernel)
theorem dX0_seekTelling_75 : decode cX0_seekTelling 75 = .ok (.iload_n 3, 1) := dk_o29 (by decide +kernel)
theorem dX0_seekTelling_76 : decode cX0_seekTelling 76 = .ok (.invokevirtual 110, 3) := dk_o182 (by decide +kernel)
theorem dX0_seekTelling_79 : decode cX0_seekTelling 79 = .ok (.aload_n 0, 1) := dk_o42 (by decide +kernel)
theorem dX0_seekTelling_80 : decode cX0_seekTelling 80 = .ok (.aload_n 1, 1) := dk_o43 (by decide +kernel)
theorem dX0_seekTelling_81 : decode cX0_seekTelling 81 = .ok (.aload_n 2, 1) := dk_o44 (by decide +kernel)
theorem dX0_seekTelling_82 : decode cX0_seekTelling 82 = .ok (.iload_n 3, 1) := dk_o29 (by decide +kernel)
theorem dX0_seekTelling_83 : decode cX0_seekTelling 83 = .ok (.iload 5, 2) := dk_o21 (by decide +kernel)
theorem dX0_seekTelling_85 : decode cX0_seekTelling 85 = .ok (.invokevirtual 114, 3) := dk_o182 (by decide +kernel)
theorem dX0_seekTelling_88 : decode cX0_seekTelling 88 = .ok (.iinc 5 1, 3) := dk_o132 (by decide +kernel)
theorem dX0_seekTelling_91 : decode cX0_seekTelling 91 = .ok (.goto (-25), 3) := dk_o167 (by decide +kernel)
theorem dX0_seekTelling_94 : decode cX0_seekTelling 94 = .ok (.return_, 1) := dk_o177 (by decide +kernel)
theorem dX0_passAll_0 : decode cX0_passAll 0 = .ok (.iconst 0, 1) := dk_o3 (by decide +kernel)
theorem dX0_passAll_1 : decode cX0_passAll 1 = .ok (.istore_n 3, 1) := dk_o62 (by decide +kernel)
theorem dX0_passAll_2 : decode cX0_passAll 2 = .ok (.iload_n 3, 1) := dk_o29 (by decide +kernel)
theorem dX0_passAll_3 : decode cX0_passAll 3 = .ok (.bipush 21, 2) := dk_o16 (by decide +kernel)
theorem dX0_passAll_5 : decode cX0_passAll 5 = .ok (.if_icmp .ge 41, 3) := dk_o162 (by decide +kernel)
theorem dX0_passAll_8 : decode cX0_passAll 8 = .ok (.iload_n 2, 1) := dk_o28 (by decide +kernel)
theorem dX0_passAll_9 : decode cX0_passAll 9 = .ok (.iload_n 3, 1) := dk_o29 (by decide +kernel)
theorem dX0_passAll_10 : decode cX0_passAll 10 = .ok (.ishr, 1) := dk_o122 (by decide +kernel)
theorem dX0_passAll_11 : decode cX0_passAll 11 = .ok (.iconst 1, 1) := dk_o4 (by decide +kernel)
theorem dX0_passAll_12 : decode cX0_passAll 12 = .ok (.iand, 1) := dk_o126 (by decide +kernel)
theorem dX0_passAll_13 : decode cX0_passAll 13 = .ok (.iconst 1, 1) := dk_o4 (by decide +kernel)
theorem dX0_passAll_14 : decode cX0_passAll 14 = .ok (.if_icmp .ne 26, 3) := dk_o160 (by decide +kernel)
theorem dX0_passAll_17 : decode cX0_passAll 17 = .ok (.aload_n 0, 1) := dk_o42 (by decide +kernel)
theorem dX0_passAll_18 : decode cX0_passAll 18 = .ok (.getfield 34, 3) := dk_o180 (by decide +kernel)
theorem dX0_passAll_21 : decode cX0_passAll 21 = .ok (.aload_n 1, 1) := dk_o43 (by decide +kernel)
theorem dX0_passAll_22 : decode cX0_passAll 22 = .ok (.aload_n 0, 1) := dk_o42 (by decide +kernel)
theorem dX0_passAll_23 : decode cX0_passAll 23 = .ok (.getfield 17, 3) := dk_o180 (by decide +kernel)
theorem dX0_passAll_26 : decode cX0_passAll 26 = .ok (.iload_n 3, 1) := dk_o29 (by decide +kernel)
theorem dX0_passAll_27 : decode cX0_passAll 27 = .ok (.aaload, 1) := dk_o50 (by decide +kernel)
theorem dX0_passAll_28 : decode cX0_passAll 28 = .ok (.iload_n 3, 1) := dk_o29 (by decide +kernel)
theorem dX0_passAll_29 : decode cX0_passAll 29 = .ok (.invokevirtual 89, 3) := dk_o182 (by decide +kernel)
theorem dX0_passAll_32 : decode cX0_passAll 32 = .ok (.aload_n 0, 1) := dk_o42 (by decide +kernel)
theorem dX0_passAll_33 : decode cX0_passAll 33 = .ok (.getfield 34, 3) := dk_o180 (by decide +kernel)
theorem dX0_passAll_36 : decode cX0_passAll 36 = .ok (.iconst 1, 1) := dk_o4 (by decide +kernel)
theorem dX0_passAll_37 : decode cX0_passAll 37 = .ok (.invokevirtual 99, 3) := dk_o182 (by decide +kernel)
theorem dX0_passAll_40 : decode cX0_passAll 40 = .ok (.iinc 3 1, 3) := dk_o132 (by decide +kernel)
theorem dX0_passAll_43 : decode cX0_passAll 43 = .ok (.goto (-41), 3) := dk_o167 (by decide +kernel)
theorem dX0_passAll_46 : decode cX0_passAll 46 = .ok (.return_, 1) := dk_o177 (by decide +kernel)
theorem dX0_tryAllCells_0 : decode cX0_tryAllCells 0 = .ok (.bipush 8, 2) := dk_o16 (by decide +kernel)
theorem dX0_tryAllCells_2 : decode cX0_tryAllCells 2 = .ok (.istore 5, 2) := dk_o54 (by decide +kernel)
theorem dX0_tryAllCells_4 : decode cX0_tryAllCells 4 = .ok (.iload 5, 2) := dk_o21 (by decide +kernel)
theorem dX0_tryAllCells_6 : decode cX0_tryAllCells 6 = .ok (.aload_n 1, 1) := dk_o43 (by decide +kernel)
theorem dX0_tryAllCells_7 : decode cX0_tryAllCells 7 = .ok (.invokevirtual 118, 3) := dk_o182 (by decide +kernel)
theorem dX0_tryAllCells_10 : decode cX0_tryAllCells 10 = .ok (.if_icmp .ge 64, 3) := dk_o162 (by decide +kernel)
theorem dX0_tryAllCells_13 : decode cX0_tryAllCells 13 = .ok (.aload_n 2, 1) := dk_o44 (by decide +kernel)
theorem dX0_tryAllCells_14 : decode cX0_tryAllCells 14 = .ok (.getfield 122, 3) := dk_o180 (by decide +kernel)
theorem dX0_tryAllCells_17 : decode cX0_tryAllCells 17 = .ok (.iload 5, 2) := dk_o21 (by decide +kernel)
theorem dX0_tryAllCells_19 : decode cX0_tryAllCells 19 = .ok (.iaload, 1) := dk_o46 (by decide +kernel)
theorem dX0_tryAllCells_20 : decode cX0_tryAllCells 20 = .ok (.bipush 100, 2) := dk_o16 (by decide +kernel)
theorem dX0_tryAllCells_22 : decode cX0_tryAllCells 22 = .ok (.if_icmp .ne 10, 3) := dk_o160 (by decide +kernel)
theorem dX0_tryAllCells_25 : decode cX0_tryAllCells 25 = .ok (.aload_n 0, 1) := dk_o42 (by decide +kernel)
theorem dX0_tryAllCells_26 : decode cX0_tryAllCells 26 = .ok (.getfield 31, 3) := dk_o180 (by decide +kernel)
theorem dX0_tryAllCells_29 : decode cX0_tryAllCells 29 = .ok (.goto 10, 3) := dk_o167 (by decide +kernel)
theorem dX0_tryAllCells_32 : decode cX0_tryAllCells 32 = .ok (.aload_n 0, 1) := dk_o42 (by decide +kernel)
theorem dX0_tryAllCells_33 : decode cX0_tryAllCells 33 = .ok (.iload_n 3, 1) := dk_o29 (by decide +kernel)
theorem dX0_tryAllCells_34 : decode cX0_tryAllCells 34 = .ok (.iload 5, 2) := dk_o21 (by decide +kernel)
theorem dX0_tryAllCells_36 : decode cX0_tryAllCells 36 = .ok (.invokevirtual 125, 3) := dk_o182 (by decide +kernel)
theorem dX0_tryAllCells_39 : decode cX0_tryAllCells 39 = .ok (.istore 6, 2) := dk_o54 (by decide +kernel)
theorem dX0_tryAllCells_41 : decode cX0_tryAllCells 41 = .ok (.iload 6, 2) := dk_o21 (by decide +kernel)
theorem dX0_tryAllCells_43 : decode cX0_tryAllCells 43 = .ok (.aload_n 0, 1) := dk_o42 (by decide +kernel)
theorem dX0_tryAllCells_44 : decode cX0_tryAllCells 44 = .ok (.getfield 31, 3) := dk_o180 (by decide +kernel)
theorem dX0_tryAllCells_47 : decode cX0_tryAllCells 47 = .ok (.if_icmp .ge 21, 3) := dk_o162 (by decide +kernel)
theorem dX0_tryAllCells_50 : decode cX0_tryAllCells 50 = .ok (.aload_n 0, 1) := dk_o42 (by decide +kernel)
theorem dX0_tryAllCells_51 : decode cX0_tryAllCells 51 = .ok (.iload 4, 2) := dk_o21 (by decide +kernel)
theorem dX0_tryAllCells_53 : decode cX0_tryAllCells 53 = .ok (.putfield 24, 3) := dk_o181 (by decide +kernel)
theorem dX0_tryAllCells_56 : decode cX0_tryAllCells 56 = .ok (.aload_n 0, 1) := dk_o42 (by decide +kernel)
theorem dX0_tryAllCells_57 : decode cX0_tryAllCells 57 = .ok (.iload 5, 2) := dk_o21 (by decide +kernel)
theorem dX0_tryAllCells_59 : decode cX0_tryAllCells 59 = .ok (.putfield 28, 3) := dk_o181 (by decide +kernel)
theorem dX0_tryAllCells_62 : decode cX0_tryAllCells 62 = .ok (.aload_n 0, 1) := dk_o42 (by decide +kernel)
theorem dX0_tryAllCells_63 : decode cX0_tryAllCells 63 = .ok (.iload 6, 2) := dk_o21 (by decide +kernel)
theorem dX0_tryAllCells_65 : decode cX0_tryAllCells 65 = .ok (.putfield 31, 3) := dk_o181 (by decide +kernel)
theorem dX0_tryAllCells_68 : decode cX0_tryAllCells 68 = .ok (.iinc 5 1, 3) := dk_o132 (by decide +kernel)
theorem dX0_tryAllCells_71 : decode cX0_tryAllCells 71 = .ok (.goto (-67), 3) := dk_o167 (by decide +kernel)
theorem dX0_tryAllCells_74 : decode cX0_tryAllCells 74 = .ok (.return_, 1) := dk_o177 (by decide +kernel)
theorem dX0_mostLeft_0 : decode cX0_mostLeft 0 = .ok (.aload_n 0, 1) := dk_o42 (by decide +kernel)
theorem dX0_mostLeft_1 : decode cX0_mostLeft 1 = .ok (.getfield 21, 3) := dk_o180 (by decide +kernel)
theorem dX0_mostLeft_4 : decode cX0_mostLeft 4 = .ok (.iconst 0, 1) := dk_o3 (by decide +kernel)
theorem dX0_mostLeft_5 : decode cX0_mostLeft 5 = .ok (.invokestatic 128, 3) := dk_o184 (by decide +kernel)
theorem dX0_mostLeft_8 : decode cX0_mostLeft 8 = .ok (.iconst 0, 1) := dk_o3 (by decide +kernel)
theorem dX0_mostLeft_9 : decode cX0_mostLeft 9 = .ok (.istore_n 3, 1) := dk_o62 (by decide +kernel)
theorem dX0_mostLeft_10 : decode cX0_mostLeft 10 = .ok (.iconst 0, 1) := dk_o3 (by decide +kernel)
theorem dX0_mostLeft_11 : decode cX0_mostLeft 11 = .ok (.istore 4, 2) := dk_o54 (by decide +kernel)
theorem dX0_mostLeft_13 : decode cX0_mostLeft 13 = .ok (.iload 4, 2) := dk_o21 (by decide +kernel)
theorem dX0_mostLeft_15 : decode cX0_mostLeft 15 = .ok (.bipush 21, 2) := dk_o16 (by decide +kernel)
theorem dX0_mostLeft_17 : decode cX0_mostLeft 17 = .ok (.if_icmp .ge 70, 3) := dk_o162 (by decide +kernel)
theorem dX0_mostLeft_20 : decode cX0_mostLeft 20 = .ok (.iload_n 1, 1) := dk_o27 (by decide +kernel)
theorem dX0_mostLeft_21 : decode cX0_mostLeft 21 = .ok (.iload 4, 2) := dk_o21 (by decide +kernel)
theorem dX0_mostLeft_23 : decode cX0_mostLeft 23 = .ok (.ishr, 1) := dk_o122 (by decide +kernel)
theorem dX0_mostLeft_24 : decode cX0_mostLeft 24 = .ok (.iconst 1, 1) := dk_o4 (by decide +kernel)
theorem dX0_mostLeft_25 : decode cX0_mostLeft 25 = .ok (.iand, 1) := dk_o126 (by decide +kernel)
theorem dX0_mostLeft_26 : decode cX0_mostLeft 26 = .ok (.iconst 1, 1) := dk_o4 (by decide +kernel)
theorem dX0_mostLeft_27 : decode cX0_mostLeft 27 = .ok (.if_icmp .ne 54, 3) := dk_o160 (by decide +kernel)
theorem dX0_mostLeft_30 : decode cX0_mostLeft 30 = .ok (.aload_n 0, 1) := dk_o42 (by decide +kernel)
theorem dX0_mostLeft_31 : decode cX0_mostLeft 31 = .ok (.getfield 17, 3) := dk_o180 (by decide +kernel)
theorem dX0_mostLeft_34 : decode cX0_mostLeft 34 = .ok (.iload 4, 2) := dk_o21 (by decide +kernel)
theorem dX0_mostLeft_36 : decode cX0_mostLeft 36 = .ok (.aaload, 1) := dk_o50 (by decide +kernel)
theorem dX0_mostLeft_37 : decode cX0_mostLeft 37 = .ok (.iload_n 2, 1) := dk_o28 (by decide +kernel)
theorem dX0_mostLeft_38 : decode cX0_mostLeft 38 = .ok (.invokevirtual 103, 3) := dk_o182 (by decide +kernel)
theorem dX0_mostLeft_41 : decode cX0_mostLeft 41 = .ok (.istore 5, 2) := dk_o54 (by decide +kernel)
theorem dX0_mostLeft_43 : decode cX0_mostLeft 43 = .ok (.iload 5, 2) := dk_o21 (by decide +kernel)
theorem dX0_mostLeft_45 : decode cX0_mostLeft 45 = .ok (.iconst (-1), 1) := dk_o2 (by decide +kernel)
theorem dX0_mostLeft_46 : decode cX0_mostLeft 46 = .ok (.if_icmp .ne 8, 3) := dk_o160 (by decide +kernel)
theorem dX0_mostLeft_49 : decode cX0_mostLeft 49 = .ok (.bipush 10, 2) := dk_o16 (by decide +kernel)
theorem dX0_mostLeft_51 : decode cX0_mostLeft 51 = .ok (.goto 5, 3) := dk_o167 (by decide +kernel)
theorem dX0_mostLeft_54 : decode cX0_mostLeft 54 = .ok (.iload 5, 2) := dk_o21 (by decide +kernel)
theorem dX0_mostLeft_56 : decode cX0_mostLeft 56 = .ok (.istore 6, 2) := dk_o54 (by decide +kernel)
theorem dX0_mostLeft_58 : decode cX0_mostLeft 58 = .ok (.aload_n 0, 1) := dk_o42 (by decide +kernel)
theorem dX0_mostLeft_59 : decode cX0_mostLeft 59 = .ok (.getfield 21, 3) := dk_o180 (by decide +kernel)
theorem dX0_mostLeft_62 : decode cX0_mostLeft 62 = .ok (.iload 6, 2) := dk_o21 (by decide +kernel)
theorem dX0_mostLeft_64 : decode cX0_mostLeft 64 = .ok (.dup2, 1) := dk_o92 (by decide +kernel)
theorem dX0_mostLeft_65 : decode cX0_mostLeft 65 = .ok (.iaload, 1) := dk_o46 (by decide +kernel)
theorem dX0_mostLeft_66 : decode cX0_mostLeft 66 = .ok (.iconst 1, 1) := dk_o4 (by decide +kernel)
theorem dX0_mostLeft_67 : decode cX0_mostLeft 67 = .ok (.iadd, 1) := dk_o96 (by decide +kernel)
theorem dX0_mostLeft_68 : decode cX0_mostLeft 68 = .ok (.iastore, 1) := dk_o79 (by decide +kernel)
theorem dX0_mostLeft_69 : decode cX0_mostLeft 69 = .ok (.iload_n 3, 1) := dk_o29 (by decide +kernel)
theorem dX0_mostLeft_70 : decode cX0_mostLeft 70 = .ok (.aload_n 0, 1) := dk_o42 (by decide +kernel)
theorem dX0_mostLeft_71 : decode cX0_mostLeft 71 = .ok (.getfield 21, 3) := dk_o180 (by decide +kernel)
theorem dX0_mostLeft_74 : decode cX0_mostLeft 74 = .ok (.iload 6, 2) := dk_o21 (by decide +kernel)
theorem dX0_mostLeft_76 : decode cX0_mostLeft 76 = .ok (.iaload, 1) := dk_o46 (by decide +kernel)
theorem dX0_mostLeft_77 : decode cX0_mostLeft 77 = .ok (.invokestatic 73, 3) := dk_o184 (by decide +kernel)
theorem dX0_mostLeft_80 : decode cX0_mostLeft 80 = .ok (.istore_n 3, 1) := dk_o62 (by decide +kernel)
theorem dX0_mostLeft_81 : decode cX0_mostLeft 81 = .ok (.iinc 4 1, 3) := dk_o132 (by decide +kernel)
theorem dX0_mostLeft_84 : decode cX0_mostLeft 84 = .ok (.goto (-71), 3) := dk_o167 (by decide +kernel)
theorem dX0_mostLeft_87 : decode cX0_mostLeft 87 = .ok (.iload_n 3, 1) := dk_o29 (by decide +kernel)
theorem dX0_mostLeft_88 : decode cX0_mostLeft 88 = .ok (.ireturn, 1) := dk_o172 (by decide +kernel)
theorem wB_723 : Cond.fieldLink RX0 39 "DarkMine$Feeling" "isTold" "Z" ∈ dgB := List.mem_filter.mpr ⟨tbl_3 _ (List.mem_of_getElem? (i := 5) (by decide +kernel)), by decide +kernel⟩
theorem wB_724 : Cond.methodLink RX0 67 yX2_placeOf ∈ dgB := List.mem_filter.mpr ⟨tbl_5 _ (List.mem_of_getElem? (i := 219) (by decide +kernel)), by decide +kernel⟩
theorem wB_725 : Cond.fieldLink RX0 43 "DarkMine$Tape" "length" "I" ∈ dgB := List.mem_filter.mpr ⟨tbl_1 _ (List.mem_of_getElem? (i := 43) (by decide +kernel)), by decide +kernel⟩
theorem wB_726 : Cond.fieldLink RX0 48 "DarkMine$Tape" "bytes" "[I" ∈ dgB := List.mem_filter.mpr ⟨tbl_1 _ (List.mem_of_getElem? (i := 38) (by decide +kernel)), by decide +kernel⟩
theorem wB_727 : Cond.code yX0_canBeFelt cX0_canBeFelt 4 (some .boolean) ∈ dgB := List.mem_filter.mpr ⟨tbl_5 _ (List.mem_of_getElem? (i := 218) rfl), rfl⟩
theorem wB_728 : Cond.methodLink RX0 51 yX0_canBeFelt ∈ dgB := List.mem_filter.mpr ⟨tbl_5 _ (List.mem_of_getElem? (i := 216) (by decide +kernel)), by decide +kernel⟩
theorem wB_729 : Cond.static yX0_canBeFelt ∈ dgB := List.mem_filter.mpr ⟨tbl_5 _ (List.mem_of_getElem? (i := 217) (by decide +kernel)), by decide +kernel⟩
theorem wB_730 : Cond.initialized RX0 ∈ dgB := List.mem_filter.mpr ⟨tbl_1 _ (List.mem_of_getElem? (i := 12) (by decide +kernel)), by decide +kernel⟩
theorem wB_731 : Cond.fieldLink RX0 9 "DarkMine$Feeling" "rows" "[I" ∈ dgB := List.mem_filter.mpr ⟨tbl_3 _ (List.mem_of_getElem? (i := 2) (by decide +kernel)), by decide +kernel⟩
theorem wB_732 : Cond.methodLink RX0 55 arraycopyName ∈ dgB := List.mem_filter.mpr ⟨tbl_5 _ (List.mem_of_getElem? (i := 220) (by decide +kernel)), by decide +kernel⟩
theorem wB_733 : Cond.fieldLink RX0 61 "DarkMine$Feeling" "count" "I" ∈ dgB := List.mem_filter.mpr ⟨tbl_3 _ (List.mem_of_getElem? (i := 7) (by decide +kernel)), by decide +kernel⟩
theorem wB_734 : Cond.code yX0_forget cX0_forget 1 none ∈ dgB := List.mem_filter.mpr ⟨tbl_4 _ (List.mem_of_getElem? (i := 130) rfl), rfl⟩
theorem wB_735 : Cond.methodLink RX0 64 yX0_forget ∈ dgB := List.mem_filter.mpr ⟨tbl_5 _ (List.mem_of_getElem? (i := 221) (by decide +kernel)), by decide +kernel⟩
theorem wB_736 : Cond.instanceMethod yX0_forget ∈ dgB := List.mem_filter.mpr ⟨tbl_4 _ (List.mem_of_getElem? (i := 128) (by decide +kernel)), by decide +kernel⟩
theorem wB_737 : Cond.selects RX0 yX0_forget yX0_forget ∈ dgB := List.mem_filter.mpr ⟨tbl_4 _ (List.mem_of_getElem? (i := 129) (by decide +kernel)), by decide +kernel⟩
theorem wB_738 : Cond.code yX5_gradeAt cX5_gradeAt 2 (some .int) ∈ dgB := List.mem_filter.mpr ⟨tbl_4 _ (List.mem_of_getElem? (i := 224) rfl), rfl⟩
theorem wB_739 : Cond.methodLink RX0 103 yX5_gradeAt ∈ dgB := List.mem_filter.mpr ⟨tbl_6 _ (List.mem_of_getElem? (i := 1) (by decide +kernel)), by decide +kernel⟩
theorem wB_740 : Cond.instanceMethod yX5_gradeAt ∈ dgB := List.mem_filter.mpr ⟨tbl_4 _ (List.mem_of_getElem? (i := 222) (by decide +kernel)), by decide +kernel⟩
theorem wB_741 : Cond.selects RX5 yX5_gradeAt yX5_gradeAt ∈ dgB := List.mem_filter.mpr ⟨tbl_4 _ (List.mem_of_getElem? (i := 223) (by decide +kernel)), by decide +kernel⟩
theorem wB_742 : Cond.fieldLink RX0 17 "DarkMine$Feeling" "pits" "[LDarkMine$Pit;" ∈ dgB := List.mem_filter.mpr ⟨tbl_3 _ (List.mem_of_getElem? (i := 3) (by decide +kernel)), by decide +kernel⟩
theorem wB_743 : Cond.methodLink RX0 85 yX5_copy ∈ dgB := List.mem_filter.mpr ⟨tbl_5 _ (List.mem_of_getElem? (i := 235) (by decide +kernel)), by decide +kernel⟩
theorem wB_744 : Cond.fieldLink RX0 34 "DarkMine$Feeling" "works" "LDarkMine$Works;" ∈ dgB := List.mem_filter.mpr ⟨tbl_3 _ (List.mem_of_getElem? (i := 1) (by decide +kernel)), by decide +kernel⟩
theorem wB_745 : Cond.methodLink RX0 89 yX10_enter ∈ dgB := List.mem_filter.mpr ⟨tbl_5 _ (List.mem_of_getElem? (i := 236) (by decide +kernel)), by decide +kernel⟩
theorem wB_746 : Cond.code yX0_agreesBehind cX0_agreesBehind 8 (some .boolean) ∈ dgB := List.mem_filter.mpr ⟨tbl_6 _ (List.mem_of_getElem? (i := 0) rfl), rfl⟩
theorem wB_747 : Cond.methodLink RX0 95 yX0_agreesBehind ∈ dgB := List.mem_filter.mpr ⟨tbl_5 _ (List.mem_of_getElem? (i := 237) (by decide +kernel)), by decide +kernel⟩
theorem wB_748 : Cond.instanceMethod yX0_agreesBehind ∈ dgB := List.mem_filter.mpr ⟨tbl_5 _ (List.mem_of_getElem? (i := 239) (by decide +kernel)), by decide +kernel⟩
theorem wB_749 : Cond.selects RX0 yX0_agreesBehind yX0_agreesBehind ∈ dgB := List.mem_filter.mpr ⟨List.mem_of_getElem? (i := 67) (by decide +kernel), by decide +kernel⟩
theorem wB_750 : Cond.methodLink RX0 99 yX10_pass ∈ dgB := List.mem_filter.mpr ⟨tbl_6 _ (List.mem_of_getElem? (i := 2) (by decide +kernel)), by decide +kernel⟩
theorem wB_751 : Cond.methodLink RX0 73 Lib.Math.max.name ∈ dgB := List.mem_filter.mpr ⟨tbl_5 _ (List.mem_of_getElem? (i := 230) (by decide +kernel)), by decide +kernel⟩
theorem wB_752 : Cond.fieldLink RX0 78 "DarkMine$Pit" "shift" "I" ∈ dgB := List.mem_filter.mpr ⟨tbl_1 _ (List.mem_of_getElem? (i := 59) (by decide +kernel)), by decide +kernel⟩
theorem wB_753 : Cond.code yX0_agrees cX0_agrees 7 (some .boolean) ∈ dgB := List.mem_filter.mpr ⟨tbl_5 _ (List.mem_of_getElem? (i := 234) rfl), rfl⟩
theorem wB_754 : Cond.methodLink RX0 81 yX0_agrees ∈ dgB := List.mem_filter.mpr ⟨tbl_5 _ (List.mem_of_getElem? (i := 231) (by decide +kernel)), by decide +kernel⟩
theorem wB_755 : Cond.instanceMethod yX0_agrees ∈ dgB := List.mem_filter.mpr ⟨tbl_5 _ (List.mem_of_getElem? (i := 233) (by decide +kernel)), by decide +kernel⟩
theorem wB_756 : Cond.selects RX0 yX0_agrees yX0_agrees ∈ dgB := List.mem_filter.mpr ⟨List.mem_of_getElem? (i := 66) (by decide +kernel), by decide +kernel⟩
theorem wB_757 : Cond.fieldLink RX0 21 "DarkMine$Feeling" "tally" "[I" ∈ dgB := List.mem_filter.mpr ⟨tbl_3 _ (List.mem_of_getElem? (i := 4) (by decide +kernel)), by decide +kernel⟩
theorem wB_758 : Cond.methodLink RX0 128 yJ7_fill_53178 ∈ dgB := List.mem_filter.mpr ⟨tbl_6 _ (List.mem_of_getElem? (i := 25) (by decide +kernel)), by decide +kernel⟩
theorem wB_759 : Cond.methodLink RX0 118 yX2_endOfPlaces ∈ dgB := List.mem_filter.mpr ⟨tbl_6 _ (List.mem_of_getElem? (i := 20) (by decide +kernel)), by decide +kernel⟩
theorem wB_760 : Cond.fieldLink RX0 122 "DarkMine$Pit" "cells" "[I" ∈ dgB := List.mem_filter.mpr ⟨tbl_1 _ (List.mem_of_getElem? (i := 70) (by decide +kernel)), by decide +kernel⟩
theorem wB_761 : Cond.code yX0_mostLeft cX0_mostLeft 7 (some .int) ∈ dgB := List.mem_filter.mpr ⟨tbl_6 _ (List.mem_of_getElem? (i := 24) rfl), rfl⟩
theorem wB_762 : Cond.methodLink RX0 125 yX0_mostLeft ∈ dgB := List.mem_filter.mpr ⟨tbl_6 _ (List.mem_of_getElem? (i := 21) (by decide +kernel)), by decide +kernel⟩
theorem wB_763 : Cond.instanceMethod yX0_mostLeft ∈ dgB := List.mem_filter.mpr ⟨tbl_6 _ (List.mem_of_getElem? (i := 23) (by decide +kernel)), by decide +kernel⟩
theorem wB_764 : Cond.selects RX0 yX0_mostLeft yX0_mostLeft ∈ dgB := List.mem_filter.mpr ⟨List.mem_of_getElem? (i := 70) (by decide +kernel), by decide +kernel⟩
theorem wB_765 : Cond.fieldLink RX0 31 "DarkMine$Feeling" "tellingLeft" "I" ∈ dgB := List.mem_filter.mpr ⟨tbl_3 _ (List.mem_of_getElem? (i := 13) (by decide +kernel)), by decide +kernel⟩
theorem wB_766 : Cond.fieldLink RX0 24 "DarkMine$Feeling" "tellingShifts" "I" ∈ dgB := List.mem_filter.mpr ⟨tbl_3 _ (List.mem_of_getElem? (i := 9) (by decide +kernel)), by decide +kernel⟩
theorem wB_767 : Cond.fieldLink RX0 28 "DarkMine$Feeling" "tellingPlace" "I" ∈ dgB := List.mem_filter.mpr ⟨tbl_3 _ (List.mem_of_getElem? (i := 11) (by decide +kernel)), by decide +kernel⟩
theorem wB_768 : Cond.methodLink RX0 107 Lib.Math.min.name ∈ dgB := List.mem_filter.mpr ⟨tbl_6 _ (List.mem_of_getElem? (i := 11) (by decide +kernel)), by decide +kernel⟩
theorem wB_769 : Cond.code yX0_passAll cX0_passAll 4 none ∈ dgB := List.mem_filter.mpr ⟨tbl_6 _ (List.mem_of_getElem? (i := 15) rfl), rfl⟩
theorem wB_770 : Cond.methodLink RX0 110 yX0_passAll ∈ dgB := List.mem_filter.mpr ⟨tbl_6 _ (List.mem_of_getElem? (i := 12) (by decide +kernel)), by decide +kernel⟩
theorem wB_771 : Cond.instanceMethod yX0_passAll ∈ dgB := List.mem_filter.mpr ⟨tbl_6 _ (List.mem_of_getElem? (i := 14) (by decide +kernel)), by decide +kernel⟩
theorem wB_772 : Cond.selects RX0 yX0_passAll yX0_passAll ∈ dgB := List.mem_filter.mpr ⟨List.mem_of_getElem? (i := 68) (by decide +kernel), by decide +kernel⟩
theorem wB_773 : Cond.code yX0_tryAllCells cX0_tryAllCells 7 none ∈ dgB := List.mem_filter.mpr ⟨tbl_6 _ (List.mem_of_getElem? (i := 19) rfl), rfl⟩
theorem wB_774 : Cond.methodLink RX0 114 yX0_tryAllCells ∈ dgB := List.mem_filter.mpr ⟨tbl_6 _ (List.mem_of_getElem? (i := 16) (by decide +kernel)), by decide +kernel⟩
theorem wB_775 : Cond.instanceMethod yX0_tryAllCells ∈ dgB := List.mem_filter.mpr ⟨tbl_6 _ (List.mem_of_getElem? (i := 18) (by decide +kernel)), by decide +kernel⟩
theorem wB_776 : Cond.selects RX0 yX0_tryAllCells yX0_tryAllCells ∈ dgB := List.mem_filter.mpr ⟨List.mem_of_getElem? (i := 69) (by decide +kernel), by decide +kernel⟩
noncomputable def F_e_forget (o : Nat) (S : dg_S) : dg_S := let S_2 : dg_S := dg_uF S 229 4 (.int (0 : Int32)); (S_2)
theorem F_e_forget_p0 {o : Nat} {S : dg_S} {S_2 : dg_S} (h0 : S_2 = dg_uF S 229 4 (.int (0 : Int32))) : F_e_forget o S = S_2 := by
  replace h0 := Eq.symm h0
  subst h0
  exact rfl
set_option maxHeartbeats 8000000 in
set_option maxRecDepth 100000 in
theorem c_e_forget (l : Launch) (g : Nat → ClassId) (D : va_G) (o : Nat) (S : dg_S) (I : CX o S) (sz : Nat) : Met l yX0_forget (bw yX0_forget cX0_forget 1 none) ({ frames := 1, cells := 0, slots := 0, locals := 32 } : Room) (dk_Pc g D (dg_w g shX o rfX S) sz [.ref (o + 229)]) (va_Qv (fun S' => CX o S' ∧ dg_sm shX [(44, 4)] [] S S' ∧ (∃ y9 : Int32, S'.1 229 4 = .int y9 ∧ ((y9).toInt = 0)) ∧ (S' = F_e_forget o S) ∧ True) (dg_B g D shX o rfX) (dg_A o shX.length sz)) 0 0 (dg_A o shX.length sz) := by
  refine dg_met (cc := cX0_forget) (maxL := 1) (ret := none) (dk_dq rfl) rfl (Nat.le_of_ble_eq_true rfl) ?_
  intro p e s m args below meth c A hAe harg hx hb hr hml hts hown hlocks hin hP K hS hA1 hA ST hsz ls hl
  rw [← hAe]
  have F : CallFix p m c cX0_forget 1 s args (bw yX0_forget cX0_forget 1 none) RX0 := ⟨hx, hb, hml, hown, hts⟩
  have hl : lv_has ls 1 [(0, .ref (o + 229))] := hl
  have M_0 : dg_sm shX [(44, 4)] [] S S := dg_sm.rf
  refine lv_aload_n hx hb dX0_forget_0 rfl (lv_at hl 0 rfl) ?_
  refine lv_iconst (v := 0) hx hb dX0_forget_1 (by decide +kernel) ?_
  have hz_1 : (0 : Int32).toInt = 0 := by decide +kernel
  refine dg_put (ci := 0) (v := .int 0) (ty := tyX0 4) (C := RX0) (T := TX0) (N := 9) hx hb hts (fun w h => bw_mem (wU_X0 w h)) tyX0 tyX0_ok nmX0 hown K hP hS hA1 sX_229 rfl 4 (dk_dq rfl) (hts _ (bw_mem wB_723)) (fun _ h9 => h9) rfl (by decide +kernel) (by decide +kernel) (by decide +kernel) dX0_forget_2 (fun S_2 e_2 H locs hP hS => ?_)
  have I_2 := dg_I.uFi (lo := 0) (hi := 1) I e_2 sX_229 (by decide +kernel) (show 0 ≤ ((0 : Int32)).toInt ∧ ((0 : Int32)).toInt ≤ 1 from (by decide +kernel))
  have M_2 := dg_sm.uF M_0 e_2 sX_229 (dk_dq rfl)
  have hz_3 : (0 : Int32).toInt = 0 := by decide +kernel
  refine W.widen (k := 0) (n := 0) (Nat.le_of_ble_eq_true rfl) (Nat.le_of_ble_eq_true rfl) ?_
  exact dg_vret hx hb hr hlocks hP hS ⟨I_2, M_2, ⟨0, (dg_uF_at e_2), (by omega)⟩, (Eq.symm (F_e_forget_p0 e_2)), trivial⟩ dX0_forget_5
noncomputable def F_e_canBeFelt (o : Nat) (S : dg_S) (gr : Nat) (a1 : Int32) : Int32 := let x_1 : Int32 := a1 + (3 : Int32); let x_3 : Int32 := S.2.1 2 (x_1 : Int32).toNatClampNeg; let x_5 : Int32 := S.2.1 2 (a1 : Int32).toNatClampNeg; (if (30 : Int32) < x_5 then (0 : Int32) else let x_8 : Int32 := a1 + (1 : Int32); let x_10 : Int32 := S.2.1 2 (x_8 : Int32).toNatClampNeg; let x_11 : Int32 := a1 + (2 : Int32); let x_13 : Int32 := S.2.1 2 (x_11 : Int32).toNatClampNeg; let x_14 : Int32 := zI S gr 0; let x_15 : Int32 := zI S gr 1; let x_16 : Int32 := F_g_placeOf o S gr x_10 x_13; (if x_16 = (-1 : Int32) then (0 : Int32) else (if x_3 ≤ (9 : Int32) then (1 : Int32) else (if x_3 = (255 : Int32) then (1 : Int32) else (0 : Int32)))))
theorem F_e_canBeFelt_p0 {o : Nat} {S : dg_S} {gr : Nat} {a1 : Int32} {x_5 : Int32} (h0 : x_5 = S.2.1 2 (a1 : Int32).toNatClampNeg) (h1 : (30 : Int32) < x_5) : F_e_canBeFelt o S gr a1 = (0 : Int32) := by
  replace h0 := Eq.symm h0
  subst h0
  exact (Eq.trans (if_pos h1) rfl)
theorem F_e_canBeFelt_p1 {o : Nat} {S : dg_S} {gr : Nat} {a1 : Int32} {x_5 : Int32} {x_8 : Int32} {x_10 : Int32} {x_11 : Int32} {x_13 : Int32} {x_16 : Int32} (h0 : x_5 = S.2.1 2 (a1 : Int32).toNatClampNeg) (h1 : ¬ ((30 : Int32) < x_5)) (h2 : x_8 = a1 + (1 : Int32)) (h3 : x_10 = S.2.1 2 (x_8 : Int32).toNatClampNeg) (h4 : x_11 = a1 + (2 : Int32)) (h5 : x_13 = S.2.1 2 (x_11 : Int32).toNatClampNeg) (h6 : x_16 = F_g_placeOf o S gr x_10 x_13) (h7 : x_16 = (-1 : Int32)) : F_e_canBeFelt o S gr a1 = (0 : Int32) := by
  replace h0 := Eq.symm h0
  subst h0
  replace h2 := Eq.symm h2
  subst h2
  replace h3 := Eq.symm h3
  subst h3
  replace h4 := Eq.symm h4
  subst h4
  replace h5 := Eq.symm h5
  subst h5
  replace h6 := Eq.symm h6
  subst h6
  exact (Eq.trans (if_neg h1) (Eq.trans (if_pos h7) rfl))
theorem F_e_canBeFelt_p2 {o : Nat} {S : dg_S} {gr : Nat} {a1 : Int32} {x_1 : Int32} {x_3 : Int32} {x_5 : Int32} {x_8 : Int32} {x_10 : Int32} {x_11 : Int32} {x_13 : Int32} {x_16 : Int32} (h0 : x_1 = a1 + (3 : Int32)) (h1 : x_3 = S.2.1 2 (x_1 : Int32).toNatClampNeg) (h2 : x_5 = S.2.1 2 (a1 : Int32).toNatClampNeg) (h3 : ¬ ((30 : Int32) < x_5)) (h4 : x_8 = a1 + (1 : Int32)) (h5 : x_10 = S.2.1 2 (x_8 : Int32).toNatClampNeg) (h6 : x_11 = a1 + (2 : Int32)) (h7 : x_13 = S.2.1 2 (x_11 : Int32).toNatClampNeg) (h8 : x_16 = F_g_placeOf o S gr x_10 x_13) (h9 : ¬ (x_16 = (-1 : Int32))) (h10 : x_3 ≤ (9 : Int32)) : F_e_canBeFelt o S gr a1 = (1 : Int32) := by
  replace h0 := Eq.symm h0
  subst h0
  replace h1 := Eq.symm h1
  subst h1
  replace h2 := Eq.symm h2
  subst h2
  replace h4 := Eq.symm h4
  subst h4
  replace h5 := Eq.symm h5
  subst h5
  replace h6 := Eq.symm h6
  subst h6
  replace h7 := Eq.symm h7
  subst h7
  replace h8 := Eq.symm h8
  subst h8
  exact (Eq.trans (if_neg h3) (Eq.trans (if_neg h9) (Eq.trans (if_pos h10) rfl)))
theorem F_e_canBeFelt_p3 {o : Nat} {S : dg_S} {gr : Nat} {a1 : Int32} {x_1 : Int32} {x_3 : Int32} {x_5 : Int32} {x_8 : Int32} {x_10 : Int32} {x_11 : Int32} {x_13 : Int32} {x_16 : Int32} (h0 : x_1 = a1 + (3 : Int32)) (h1 : x_3 = S.2.1 2 (x_1 : Int32).toNatClampNeg) (h2 : x_5 = S.2.1 2 (a1 : Int32).toNatClampNeg) (h3 : ¬ ((30 : Int32) < x_5)) (h4 : x_8 = a1 + (1 : Int32)) (h5 : x_10 = S.2.1 2 (x_8 : Int32).toNatClampNeg) (h6 : x_11 = a1 + (2 : Int32)) (h7 : x_13 = S.2.1 2 (x_11 : Int32).toNatClampNeg) (h8 : x_16 = F_g_placeOf o S gr x_10 x_13) (h9 : ¬ (x_16 = (-1 : Int32))) (h10 : ¬ (x_3 ≤ (9 : Int32))) (h11 : ¬ (x_3 = (255 : Int32))) : F_e_canBeFelt o S gr a1 = (0 : Int32) := by
  replace h0 := Eq.symm h0
  subst h0
  replace h1 := Eq.symm h1
  subst h1
  replace h2 := Eq.symm h2
  subst h2
  replace h4 := Eq.symm h4
  subst h4
  replace h5 := Eq.symm h5
  subst h5
  replace h6 := Eq.symm h6
  subst h6
  replace h7 := Eq.symm h7
  subst h7
  replace h8 := Eq.symm h8
  subst h8
  exact (Eq.trans (if_neg h3) (Eq.trans (if_neg h9) (Eq.trans (if_neg h10) (Eq.trans (if_neg h11) rfl))))
theorem F_e_canBeFelt_p4 {o : Nat} {S : dg_S} {gr : Nat} {a1 : Int32} {x_1 : Int32} {x_3 : Int32} {x_5 : Int32} {x_8 : Int32} {x_10 : Int32} {x_11 : Int32} {x_13 : Int32} {x_16 : Int32} (h0 : x_1 = a1 + (3 : Int32)) (h1 : x_3 = S.2.1 2 (x_1 : Int32).toNatClampNeg) (h2 : x_5 = S.2.1 2 (a1 : Int32).toNatClampNeg) (h3 : ¬ ((30 : Int32) < x_5)) (h4 : x_8 = a1 + (1 : Int32)) (h5 : x_10 = S.2.1 2 (x_8 : Int32).toNatClampNeg) (h6 : x_11 = a1 + (2 : Int32)) (h7 : x_13 = S.2.1 2 (x_11 : Int32).toNatClampNeg) (h8 : x_16 = F_g_placeOf o S gr x_10 x_13) (h9 : ¬ (x_16 = (-1 : Int32))) (h10 : ¬ (x_3 ≤ (9 : Int32))) (h11 : x_3 = (255 : Int32)) : F_e_canBeFelt o S gr a1 = (1 : Int32) := by
  replace h0 := Eq.symm h0
  subst h0
  replace h1 := Eq.symm h1
  subst h1
  replace h2 := Eq.symm h2
  subst h2
  replace h4 := Eq.symm h4
  subst h4
  replace h5 := Eq.symm h5
  subst h5
  replace h6 := Eq.symm h6
  subst h6
  replace h7 := Eq.symm h7
  subst h7
  replace h8 := Eq.symm h8
  subst h8
  exact (Eq.trans (if_neg h3) (Eq.trans (if_neg h9) (Eq.trans (if_neg h10) (Eq.trans (if_pos h11) rfl))))
set_option maxHeartbeats 8000000 in
set_option maxRecDepth 100000 in
theorem c_e_canBeFelt (l : Launch) (g : Nat → ClassId) (D : va_G) (o : Nat) (S : dg_S) (gr : Nat) (hk_gr : rX gr) (a1 : Int32) (b_a1 : 0 ≤ (a1).toInt ∧ (a1).toInt ≤ 60) (I : CX o S) (sz : Nat) : Met l yX0_canBeFelt (bw yX0_canBeFelt cX0_canBeFelt 4 (some .boolean)) ({ frames := 2, cells := 0, slots := 0, locals := 54 } : Room) (dk_Pc g D (dg_w g shX o rfX S) sz [.ref (o + gr), .ref (o + 2), .int a1]) (va_Qi (fun (r : Int32) S' => S' = S ∧ (0 ≤ (r).toInt ∧ (r).toInt ≤ 1) ∧ (r = F_e_canBeFelt o S gr a1) ∧ True) (dg_B g D shX o rfX) (dg_A o shX.length sz)) 0 0 (dg_A o shX.length sz) := by
  refine dg_met (cc := cX0_canBeFelt) (maxL := 4) (ret := (some .boolean)) (dk_dq rfl) rfl (Nat.le_of_ble_eq_true rfl) ?_
  intro p e s m args below meth c A hAe harg hx hb hr hml hts hown hlocks hin hP K hS hA1 hA ST hsz ls hl
  rw [← hAe]
  have F : CallFix p m c cX0_canBeFelt 4 s args (bw yX0_canBeFelt cX0_canBeFelt 4 (some .boolean)) RX0 := ⟨hx, hb, hml, hown, hts⟩
  have hl : lv_has ls 4 [(0, .ref (o + gr)), (1, .ref (o + 2)), (2, .int a1)] := hl
  have M_0 : dg_sm shX [] [] S S := dg_sm.rf
  refine lv_aload_n hx hb dX0_canBeFelt_0 rfl (lv_at hl 1 rfl) ?_
  refine lv_iload_n hx hb dX0_canBeFelt_1 rfl (lv_at hl 2 rfl) ?_
  refine lv_iconst (v := 3) hx hb dX0_canBeFelt_2 (by decide +kernel) ?_
  refine lv_iadd hx hb dX0_canBeFelt_3 ?_
  refine lv_topi (fun x_1 ex_1 => ?_)
  have jx_1 : (x_1).toInt = (a1).toInt + 3 := by rw [ex_1]; exact dk_addT2 rfl (by decide +kernel) (by omega)
  have hin_2 : vp_in x_1 1600 := (dk_inv2 (by omega))
  refine dg_iald hx hb K hP sX_2 hin_2 dX0_canBeFelt_4 (fun x_3 ex_3 => ?_)
  have b_x_3 := dk_all_at (dg_I.row (lo := 0) (hi := 255) I sX_2 (by decide +kernel)) hin_2 ex_3
  refine lv_istore_n (lv' := [(3, .int x_3), (0, .ref (o + gr)), (1, .ref (o + 2)), (2, .int a1)]) hx hb dX0_canBeFelt_5 rfl hl (dk_dq rfl) rfl (fun ls hl => ?_)
  refine lv_aload_n hx hb dX0_canBeFelt_6 rfl (lv_at hl 2 rfl) ?_
  refine lv_iload_n hx hb dX0_canBeFelt_7 rfl (lv_at hl 3 rfl) ?_
  have hin_4 : vp_in a1 1600 := (dk_inv2 (by omega))
  refine dg_iald hx hb K hP sX_2 hin_4 dX0_canBeFelt_8 (fun x_5 ex_5 => ?_)
  have b_x_5 := dk_all_at (dg_I.row (lo := 0) (hi := 255) I sX_2 (by decide +kernel)) hin_4 ex_5
  refine lv_bipush (v := 30) hx hb dX0_canBeFelt_9 (by decide +kernel) ?_
  refine lv_icmp_gt (tgt := 49) hx hb dX0_canBeFelt_11 (dk_dq rfl) (fun c_6 => ?_) (fun c_6 => ?_)
  · have jc_6 := dk_gtc (k := 30) (by decide +kernel) c_6
    refine lv_iconst (v := 0) hx hb dX0_canBeFelt_49 (by decide +kernel) ?_
    have hz_7 : (0 : Int32).toInt = 0 := by decide +kernel
    refine W.widen (k := 0) (n := 0) (Nat.le_of_ble_eq_true rfl) (Nat.le_of_ble_eq_true rfl) ?_
    exact dg_iret hx hb hr hlocks (by decide +kernel) hP hS ⟨rfl, (by decide +kernel), (Eq.symm (F_e_canBeFelt_p0 (Eq.symm ex_5.symm) c_6)), trivial⟩ dX0_canBeFelt_50
  · as_aux_lemma =>
      have jc_6 := dk_ngtc (k := 30) (by decide +kernel) c_6
      refine lv_aload_n hx hb dX0_canBeFelt_14 rfl (lv_at hl 1 rfl) ?_
      refine lv_aload_n hx hb dX0_canBeFelt_15 rfl (lv_at hl 2 rfl) ?_
      refine lv_iload_n hx hb dX0_canBeFelt_16 rfl (lv_at hl 3 rfl) ?_
      refine lv_iconst (v := 1) hx hb dX0_canBeFelt_17 (by decide +kernel) ?_
      refine lv_iadd hx hb dX0_canBeFelt_18 ?_
      refine lv_topi (fun x_8 ex_8 => ?_)
      have jx_8 : (x_8).toInt = (a1).toInt + 1 := by rw [ex_8]; exact dk_addT2 rfl (by decide +kernel) (by omega)
      have hin_9 : vp_in x_8 1600 := (dk_inv2 (by omega))
      refine dg_iald hx hb K hP sX_2 hin_9 dX0_canBeFelt_19 (fun x_10 ex_10 => ?_)
      have b_x_10 := dk_all_at (dg_I.row (lo := 0) (hi := 255) I sX_2 (by decide +kernel)) hin_9 ex_10
      refine lv_aload_n hx hb dX0_canBeFelt_20 rfl (lv_at hl 2 rfl) ?_
      refine lv_iload_n hx hb dX0_canBeFelt_21 rfl (lv_at hl 3 rfl) ?_
      refine lv_iconst (v := 2) hx hb dX0_canBeFelt_22 (by decide +kernel) ?_
      refine lv_iadd hx hb dX0_canBeFelt_23 ?_
      refine lv_topi (fun x_11 ex_11 => ?_)
      have jx_11 : (x_11).toInt = (a1).toInt + 2 := by rw [ex_11]; exact dk_addT2 rfl (by decide +kernel) (by omega)
      have hin_12 : vp_in x_11 1600 := (dk_inv2 (by omega))
      refine dg_iald hx hb K hP sX_2 hin_12 dX0_canBeFelt_24 (fun x_13 ex_13 => ?_)
      have b_x_13 := dk_all_at (dg_I.row (lo := 0) (hi := 255) I sX_2 (by decide +kernel)) hin_12 ex_13
      obtain ⟨x_14, f_x_14, b_x_14⟩ := dg_I.int (i := gr) (k := 0) (lo := 0) (hi := 7) I (rX_0 gr hk_gr) (by decide +kernel)
      obtain ⟨x_15, f_x_15, b_x_15⟩ := dg_I.int (i := gr) (k := 1) (lo := 0) (hi := 7) I (rX_0 gr hk_gr) (by decide +kernel)
      refine dg_calli hS hA1 hA (va_runV (As := [.int x_10, .int x_13]) (rest := []) F (c_g_placeOfR l g D o S gr hk_gr x_10 x_13 x_14 f_x_14 (by omega) x_15 f_x_15 (by omega) I s.heap.size) (cwV 2 hts (bw_V wB_724 wB_55 wB_56 wB_9 wB_53) rfl rfl rfl (by decide +kernel) ⟨Nat.le_of_ble_eq_true rfl, Nat.le_of_ble_eq_true rfl⟩) (dg_preV (rX_0 gr hk_gr) rfl K ST hP hS hA1 hA) rfl rfl hl.1 rfl (lv_room (Nat.le_of_ble_eq_true rfl)) dX0_canBeFelt_25 ⟨Nat.le_of_ble_eq_true rfl, Nat.le_of_ble_eq_true rfl⟩) (fun x_16 S_17 hw_17 H locs hP hS => ?_)
      rw [hw_17.1] at hP
      obtain ⟨hq_17, w_17_0, w_17_1, w_17_2, -⟩ := hw_17
      have w_17_0 : ((-1) ≤ (x_16).toInt ∧ (x_16).toInt ≤ 62) ∧ ((x_16).toInt ≤ (-1) ∨ 8 ≤ (x_16).toInt) := w_17_0
      have w_17_1 : (0 ≤ (x_10).toInt ∧ (x_10).toInt < (x_14).toInt ∧ 0 ≤ (x_13).toInt ∧ (x_13).toInt < (x_15).toInt) → 8 ≤ (x_16).toInt := w_17_1
      refine lv_iconst (v := (-1)) hx hb dX0_canBeFelt_28 (by decide +kernel) ?_
      refine lv_icmp_eq (tgt := 49) hx hb dX0_canBeFelt_29 (dk_dq rfl) (fun c_18 => ?_) (fun c_18 => ?_)
      · have jc_18 := dk_eqc (k := (-1)) (by decide +kernel) c_18
        refine lv_iconst (v := 0) hx hb dX0_canBeFelt_49 (by decide +kernel) ?_
        have hz_19 : (0 : Int32).toInt = 0 := by decide +kernel
        refine W.widen (k := 0) (n := 0) (Nat.le_of_ble_eq_true rfl) (Nat.le_of_ble_eq_true rfl) ?_
        exact dg_iret hx hb hr hlocks (by decide +kernel) hP hS ⟨rfl, (by decide +kernel), (Eq.symm (F_e_canBeFelt_p1 (Eq.symm ex_5.symm) c_6 ex_8 (Eq.symm ex_10.symm) ex_11 (Eq.symm ex_13.symm) w_17_2 c_18)), trivial⟩ dX0_canBeFelt_50
      · as_aux_lemma =>
          have jc_18 := dk_neqc (k := (-1)) (by decide +kernel) c_18
          refine lv_iload_n hx hb dX0_canBeFelt_32 rfl (lv_at hl 0 rfl) ?_
          refine lv_bipush (v := 9) hx hb dX0_canBeFelt_33 (by decide +kernel) ?_
          refine lv_icmp_le (tgt := 45) hx hb dX0_canBeFelt_35 (dk_dq rfl) (fun c_20 => ?_) (fun c_20 => ?_)
          · have jc_20 := dk_lec (k := 9) (by decide +kernel) c_20
            refine lv_iconst (v := 1) hx hb dX0_canBeFelt_45 (by decide +kernel) ?_
            refine lv_goto (tgt := 50) hx hb dX0_canBeFelt_46 (dk_dq rfl) ?_
            have hz_21 : (1 : Int32).toInt = 1 := by decide +kernel
            refine W.widen (k := 0) (n := 0) (Nat.le_of_ble_eq_true rfl) (Nat.le_of_ble_eq_true rfl) ?_
            exact dg_iret hx hb hr hlocks (by decide +kernel) hP hS ⟨rfl, (by decide +kernel), (Eq.symm (F_e_canBeFelt_p2 ex_1 (Eq.symm ex_3.symm) (Eq.symm ex_5.symm) c_6 ex_8 (Eq.symm ex_10.symm) ex_11 (Eq.symm ex_13.symm) w_17_2 c_18 c_20)), trivial⟩ dX0_canBeFelt_50
          · have jc_20 := dk_nlec (k := 9) (by decide +kernel) c_20
            refine lv_iload_n hx hb dX0_canBeFelt_38 rfl (lv_at hl 0 rfl) ?_
            refine lv_sipush (v := 255) hx hb dX0_canBeFelt_39 (by decide +kernel) ?_
            refine lv_icmp_ne (tgt := 49) hx hb dX0_canBeFelt_42 (dk_dq rfl) (fun c_22 => ?_) (fun c_22 => ?_)
            · have jc_22 := dk_neqc (k := 255) (by decide +kernel) c_22
              refine lv_iconst (v := 0) hx hb dX0_canBeFelt_49 (by decide +kernel) ?_
              have hz_23 : (0 : Int32).toInt = 0 := by decide +kernel
              refine W.widen (k := 0) (n := 0) (Nat.le_of_ble_eq_true rfl) (Nat.le_of_ble_eq_true rfl) ?_
              exact dg_iret hx hb hr hlocks (by decide +kernel) hP hS ⟨rfl, (by decide +kernel), (Eq.symm (F_e_canBeFelt_p3 ex_1 (Eq.symm ex_3.symm) (Eq.symm ex_5.symm) c_6 ex_8 (Eq.symm ex_10.symm) ex_11 (Eq.symm ex_13.symm) w_17_2 c_18 c_20 c_22)), trivial⟩ dX0_canBeFelt_50
            · have jc_22 := dk_eqc (k := 255) (by decide +kernel) c_22
              refine lv_iconst (v := 1) hx hb dX0_canBeFelt_45 (by decide +kernel) ?_
              refine lv_goto (tgt := 50) hx hb dX0_canBeFelt_46 (dk_dq rfl) ?_
              have hz_24 : (1 : Int32).toInt = 1 := by decide +kernel
              refine W.widen (k := 0) (n := 0) (Nat.le_of_ble_eq_true rfl) (Nat.le_of_ble_eq_true rfl) ?_
              exact dg_iret hx hb hr hlocks (by decide +kernel) hP hS ⟨rfl, (by decide +kernel), (Eq.symm (F_e_canBeFelt_p4 ex_1 (Eq.symm ex_3.symm) (Eq.symm ex_5.symm) c_6 ex_8 (Eq.symm ex_10.symm) ex_11 (Eq.symm ex_13.symm) w_17_2 c_18 c_20 c_22)), trivial⟩ dX0_canBeFelt_50
noncomputable def F_e_take_J1 (S : dg_S) (x_1 : Int32) (x_2 : Int32) (o : Nat) : dg_S × Int32 := let S_72 : dg_S := dg_uf S 230 (va_cpy (S.2.1 2) (S.2.1 230) (0 : Int32).toNatClampNeg (0 : Int32).toNatClampNeg (x_1 : Int32).toNatClampNeg); let S_74 : dg_S := dg_uF S_72 229 5 (.int x_2); let S_75 : dg_S := F_e_forget o S_74; let y_76 : Int32 := zI S_75 229 4; (S_75, (1 : Int32))
noncomputable def F_e_take_B2 (x_2 : Int32) (S : dg_S) (x_1 : Int32) (o : Nat) (gr : Nat) : Int32 → (Int32) ⊕ (dg_S × Int32) := fun w9 => match w9 with | x_121 => (if x_2 ≤ x_121 then (Sum.inr ((F_e_take_J1 S x_1 x_2 o))) else let x_125 : Int32 := (4 : Int32) * x_121; let x_126 : Int32 := F_e_canBeFelt o S gr x_125; (if x_126 = (0 : Int32) then (Sum.inr ((S, (0 : Int32)))) else let x_129 : Int32 := x_121 + 1; (Sum.inl x_129)))
noncomputable def F_e_take (o : Nat) (S : dg_S) (gr : Nat) : dg_S × Int32 := let x_1 : Int32 := zI S 1 1; let x_2 : Int32 := x_1 / (4 : Int32); let x_3 : Int32 := x_1 - x_1 / (4 : Int32) * (4 : Int32); (if x_3 = (0 : Int32) then (if x_2 < (1 : Int32) then (S, (0 : Int32)) else (if x_2 ≤ (16 : Int32) then (lp (F_e_take_B2 x_2 S x_1 o gr) (S, (0 : Int32)) ((17 - ((0 : Int32)).toInt).toNat + 1) (0 : Int32)) else (S, (0 : Int32)))) else (S, (0 : Int32)))
theorem F_e_take_p0 {o : Nat} {S : dg_S} {gr : Nat} {x_1 : Int32} {x_3 : Int32} (h0 : x_1 = zI S 1 1) (h1 : x_3 = x_1 - x_1 / (4 : Int32) * (4 : Int32)) (h2 : ¬ (x_3 = (0 : Int32))) : F_e_take o S gr = (S, (0 : Int32)) := by
  replace h0 := Eq.symm h0
  subst h0
  replace h1 := Eq.symm h1
  subst h1
  exact (Eq.trans (if_neg h2) rfl)
theorem F_e_take_p1 {o : Nat} {S : dg_S} {gr : Nat} {x_1 : Int32} {x_2 : Int32} {x_3 : Int32} (h0 : x_1 = zI S 1 1) (h1 : x_2 = x_1 / (4 : Int32)) (h2 : x_3 = x_1 - x_1 / (4 : Int32) * (4 : Int32)) (h3 : x_3 = (0 : Int32)) (h4 : x_2 < (1 : Int32)) : F_e_take o S gr = (S, (0 : Int32)) := by
  replace h0 := Eq.symm h0
  subst h0
  replace h1 := Eq.symm h1
  subst h1
  replace h2 := Eq.symm h2
  subst h2
  exact (Eq.trans (if_pos h3) (Eq.trans (if_pos h4) rfl))
theorem F_e_take_p2 {S : dg_S} {x_1 : Int32} {x_2 : Int32} {o : Nat} {S_75 : dg_S} {S_72 : dg_S} {S_74 : dg_S} (h0 : S_72 = dg_uf S 230 (va_cpy (S.2.1 2) (S.2.1 230) (0 : Int32).toNatClampNeg (0 : Int32).toNatClampNeg (x_1 : Int32).toNatClampNeg)) (h1 : S_74 = dg_uF S_72 229 5 (.int x_2)) (h2 : S_75 = F_e_forget o S_74) : F_e_take_J1 S x_1 x_2 o = (S_75, (1 : Int32)) := by
  replace h0 := Eq.symm h0
  subst h0
  replace h1 := Eq.symm h1
  subst h1
  replace h2 := Eq.symm h2
  subst h2
  exact rfl
theorem F_e_take_p3 {x_2 : Int32} {S : dg_S} {x_1 : Int32} {o : Nat} {gr : Nat} {x_121 : Int32} (h0 : x_2 ≤ x_121) : (F_e_take_B2 x_2 S x_1 o gr) x_121 = Sum.inr (F_e_take_J1 S x_1 x_2 o) := (Eq.trans (if_pos h0) rfl)
theorem F_e_take_p4 {x_2 : Int32} {S : dg_S} {x_1 : Int32} {o : Nat} {gr : Nat} {x_121 : Int32} {x_129 : Int32} {x_125 : Int32} {x_126 : Int32} (h0 : ¬ (x_2 ≤ x_121)) (h1 : x_125 = (4 : Int32) * x_121) (h2 : x_126 = F_e_canBeFelt o S gr x_125) (h3 : ¬ (x_126 = (0 : Int32))) (h4 : x_129 = x_121 + 1) : (F_e_take_B2 x_2 S x_1 o gr) x_121 = Sum.inl x_129 := by
  replace h1 := Eq.symm h1
  subst h1
  replace h2 := Eq.symm h2
  subst h2
  replace h4 := Eq.symm h4
  subst h4
  exact (Eq.trans (if_neg h0) (Eq.trans (if_neg h3) rfl))
theorem F_e_take_p5 {x_2 : Int32} {S : dg_S} {x_1 : Int32} {o : Nat} {gr : Nat} {x_121 : Int32} {x_125 : Int32} {x_126 : Int32} (h0 : ¬ (x_2 ≤ x_121)) (h1 : x_125 = (4 : Int32) * x_121) (h2 : x_126 = F_e_canBeFelt o S gr x_125) (h3 : x_126 = (0 : Int32)) : (F_e_take_B2 x_2 S x_1 o gr) x_121 = Sum.inr ((S, (0 : Int32))) := by
  replace h1 := Eq.symm h1
  subst h1
  replace h2 := Eq.symm h2
  subst h2
  exact (Eq.trans (if_neg h0) (Eq.trans (if_pos h3) rfl))
theorem F_e_take_p6 {o : Nat} {S : dg_S} {gr : Nat} {x_2 : Int32} {x_1 : Int32} {x_3 : Int32} (h0 : x_1 = zI S 1 1) (h1 : x_2 = x_1 / (4 : Int32)) (h2 : x_3 = x_1 - x_1 / (4 : Int32) * (4 : Int32)) (h3 : x_3 = (0 : Int32)) (h4 : ¬ (x_2 < (1 : Int32))) (h5 : x_2 ≤ (16 : Int32)) : F_e_take o S gr = lp (F_e_take_B2 x_2 S x_1 o gr) (S, (0 : Int32)) ((17 - ((0 : Int32)).toInt).toNat + 1) (0 : Int32) := by
  replace h0 := Eq.symm h0
  subst h0
  replace h1 := Eq.symm h1
  subst h1
  replace h2 := Eq.symm h2
  subst h2
  exact (Eq.trans (if_pos h3) (Eq.trans (if_neg h4) (Eq.trans (if_pos h5) rfl)))
theorem F_e_take_p7 {o : Nat} {S : dg_S} {gr : Nat} {x_1 : Int32} {x_2 : Int32} {x_3 : Int32} (h0 : x_1 = zI S 1 1) (h1 : x_2 = x_1 / (4 : Int32)) (h2 : x_3 = x_1 - x_1 / (4 : Int32) * (4 : Int32)) (h3 : x_3 = (0 : Int32)) (h4 : ¬ (x_2 < (1 : Int32))) (h5 : ¬ (x_2 ≤ (16 : Int32))) : F_e_take o S gr = (S, (0 : Int32)) := by
  replace h0 := Eq.symm h0
  subst h0
  replace h1 := Eq.symm h1
  subst h1
  replace h2 := Eq.symm h2
  subst h2
  exact (Eq.trans (if_pos h3) (Eq.trans (if_neg h4) (Eq.trans (if_neg h5) rfl)))
set_option maxHeartbeats 8000000 in
set_option maxRecDepth 100000 in
theorem c_e_take (l : Launch) (g : Nat → ClassId) (D : va_G) (o : Nat) (S : dg_S) (gr : Nat) (hk_gr : rX gr) (I : CX o S) (sz : Nat) : Met l yX0_take (bw yX0_take cX0_take 5 (some .boolean)) ({ frames := 3, cells := 0, slots := 0, locals := 77 } : Room) (dk_Pc g D (dg_w g shX o rfX S) sz [.ref (o + 229), .ref (o + gr), .ref (o + 1)]) (va_Qi (fun (r : Int32) S' => CX o S' ∧ dg_sm shX [(44, 4), (44, 5)] [45] S S' ∧ (0 ≤ (r).toInt ∧ (r).toInt ≤ 1) ∧ (S' = (F_e_take o S gr).1 ∧ r = (F_e_take o S gr).2) ∧ True) (dg_B g D shX o rfX) (dg_A o shX.length sz)) 0 0 (dg_A o shX.length sz) := by
  refine dg_met (cc := cX0_take) (maxL := 5) (ret := (some .boolean)) (dk_dq rfl) rfl (Nat.le_of_ble_eq_true rfl) ?_
  intro p e s m args below meth c A hAe harg hx hb hr hml hts hown hlocks hin hP K hS hA1 hA ST hsz ls hl
  rw [← hAe]
  have F : CallFix p m c cX0_take 5 s args (bw yX0_take cX0_take 5 (some .boolean)) RX0 := ⟨hx, hb, hml, hown, hts⟩
  have hl : lv_has ls 5 [(0, .ref (o + 229)), (1, .ref (o + gr)), (2, .ref (o + 1))] := hl
  have M_0 : dg_sm shX [(44, 4), (44, 5)] [45] S S := dg_sm.rf
  refine lv_aload_n hx hb dX0_take_0 rfl (lv_at hl 2 rfl) ?_
  obtain ⟨x_1, f_x_1, b_x_1⟩ := dg_I.int (i := 1) (k := 1) (lo := 0) (hi := 1600) I sX_1 (by decide +kernel)
  refine dg_get (C := RX8) (T := TX8) (N := 2) hx hb hts (fun w h => bw_mem (wU_X8 w h)) hown K hP sX_1 rfl 1 (dk_dq rfl) (hts _ (bw_mem wB_725)) (fun _ h9 => h9) (v := .int x_1) f_x_1 dX0_take_1 ?_
  refine lv_iconst (v := 4) hx hb dX0_take_4 (by decide +kernel) ?_
  refine lv_idiv hx hb dX0_take_5 (by decide +kernel) ?_
  refine lv_topi (fun x_2 ex_2 => ?_)
  have jx_2 : (x_2).toInt = (x_1).toInt / 4 := by rw [ex_2]; exact dk_divL (by omega) (by decide +kernel) (dk_dq rfl)
  refine lv_istore_n (lv' := [(3, .int x_2), (0, .ref (o + 229)), (1, .ref (o + gr)), (2, .ref (o + 1))]) hx hb dX0_take_6 rfl hl (dk_dq rfl) rfl (fun ls hl => ?_)
  refine lv_aload_n hx hb dX0_take_7 rfl (lv_at hl 3 rfl) ?_
  refine dg_get (C := RX8) (T := TX8) (N := 2) hx hb hts (fun w h => bw_mem (wU_X8 w h)) hown K hP sX_1 rfl 1 (dk_dq rfl) (hts _ (bw_mem wB_725)) (fun _ h9 => h9) (v := .int x_1) f_x_1 dX0_take_8 ?_
  refine lv_iconst (v := 4) hx hb dX0_take_11 (by decide +kernel) ?_
  refine lv_irem hx hb dX0_take_12 (by decide +kernel) ?_
  refine lv_topi (fun x_3 ex_3 => ?_)
  have jx_3 : (x_3).toInt = (x_1).toInt % 4 := by rw [ex_3]; exact dk_remL (by omega) (by decide +kernel) (dk_dq rfl)
  refine lv_if_ne (tgt := 27) hx hb dX0_take_13 (dk_dq rfl) (fun c_4 => ?_) (fun c_4 => ?_)
  · have jc_4 := dk_neqc (k := 0) (by decide +kernel) c_4
    refine lv_iconst (v := 0) hx hb dX0_take_27 (by decide +kernel) ?_
    have hz_5 : (0 : Int32).toInt = 0 := by decide +kernel
    refine W.widen (k := 0) (n := 0) (Nat.le_of_ble_eq_true rfl) (Nat.le_of_ble_eq_true rfl) ?_
    exact dg_iret hx hb hr hlocks (by decide +kernel) hP hS ⟨I, M_0, (by decide +kernel), ⟨congrArg Prod.fst (Eq.symm (F_e_take_p0 (zI_eq f_x_1) ex_3 c_4)), congrArg Prod.snd (Eq.symm (F_e_take_p0 (zI_eq f_x_1) ex_3 c_4))⟩, trivial⟩ dX0_take_28
  · as_aux_lemma =>
      have jc_4 := dk_eqc (k := 0) (by decide +kernel) c_4
      refine lv_iload_n hx hb dX0_take_16 rfl (lv_at hl 0 rfl) ?_
      refine lv_iconst (v := 1) hx hb dX0_take_17 (by decide +kernel) ?_
      refine lv_icmp_lt (tgt := 27) hx hb dX0_take_18 (dk_dq rfl) (fun c_6 => ?_) (fun c_6 => ?_)
      · have jc_6 := dk_ltc (k := 1) (by decide +kernel) c_6
        refine lv_iconst (v := 0) hx hb dX0_take_27 (by decide +kernel) ?_
        have hz_7 : (0 : Int32).toInt = 0 := by decide +kernel
        refine W.widen (k := 0) (n := 0) (Nat.le_of_ble_eq_true rfl) (Nat.le_of_ble_eq_true rfl) ?_
        exact dg_iret hx hb hr hlocks (by decide +kernel) hP hS ⟨I, M_0, (by decide +kernel), ⟨congrArg Prod.fst (Eq.symm (F_e_take_p1 (zI_eq f_x_1) ex_2 ex_3 c_4 c_6)), congrArg Prod.snd (Eq.symm (F_e_take_p1 (zI_eq f_x_1) ex_2 ex_3 c_4 c_6))⟩, trivial⟩ dX0_take_28
      · as_aux_lemma =>
          have jc_6 := dk_nltc (k := 1) (by decide +kernel) c_6
          refine lv_iload_n hx hb dX0_take_21 rfl (lv_at hl 0 rfl) ?_
          refine lv_bipush (v := 16) hx hb dX0_take_22 (by decide +kernel) ?_
          refine lv_icmp_le (tgt := 29) hx hb dX0_take_24 (dk_dq rfl) (fun c_8 => ?_) (fun c_8 => ?_)
          · as_aux_lemma =>
              have jc_8 := dk_lec (k := 16) (by decide +kernel) c_8
              refine lv_iconst (v := 0) hx hb dX0_take_29 (by decide +kernel) ?_
              refine lv_istore (lv' := [(4, .int 0), (3, .int x_2), (0, .ref (o + 229)), (1, .ref (o + gr)), (2, .ref (o + 1))]) hx hb dX0_take_30 hl (dk_dq rfl) rfl (fun ls hl => ?_)
              have J_67 : ∀ (x_56 : Int32), (1 ≤ (x_56).toInt ∧ (x_56).toInt ≤ 2147483647) → (F_e_take o S gr = F_e_take_J1 S x_1 x_2 o) → ∀ (H : Heap) (locs : List Loc), va_P D vwCl (dg_w g shX o rfX S) H → va_S A s.heap H locs → ∀ ls : Array Slot, lv_has ls 5 [(4, .int x_56), (3, .int x_2), (0, .ref (o + 229)), (1, .ref (o + gr)), (2, .ref (o + 1))] → W p l e ({ frames := 3, cells := 0, slots := 0, locals := 77 } : Room) s m args below meth c H locs 0 0 (MQ below (va_Qi (fun (r : Int32) S' => CX o S' ∧ dg_sm shX [(44, 4), (44, 5)] [45] S S' ∧ (0 ≤ (r).toInt ∧ (r).toInt ≤ 1) ∧ (S' = (F_e_take o S gr).1 ∧ r = (F_e_take o S gr).2) ∧ True) (dg_B g D shX o rfX) A) args s 0 0 A) (F0 m 61 ls []) := by
                as_aux_lemma =>
                  intro x_56 b_x_56 hF_1 H locs hP hS ls hl
                  refine lv_aload_n hx hb dX0_take_61 rfl (lv_at hl 4 rfl) ?_
                  refine dg_get (C := RX8) (T := TX8) (N := 2) hx hb hts (fun w h => bw_mem (wU_X8 w h)) hown K hP sX_1 rfl 0 (dk_dq rfl) (hts _ (bw_mem wB_726)) (fun _ h9 => h9) (v := .ref (o + 2)) (show S.1 1 0 = .ref (o + 2) from dg_I.rel (d := 1) I sX_1 (by decide +kernel)) dX0_take_62 ?_
                  refine lv_iconst (v := 0) hx hb dX0_take_65 (by decide +kernel) ?_
                  refine lv_aload_n hx hb dX0_take_66 rfl (lv_at hl 2 rfl) ?_
                  refine dg_get (C := RX0) (T := TX0) (N := 9) hx hb hts (fun w h => bw_mem (wU_X0 w h)) hown K hP sX_229 rfl 1 (dk_dq rfl) (hts _ (bw_mem wB_731)) (fun _ h9 => h9) (v := .ref (o + 230)) (show S.1 229 1 = .ref (o + 230) from dg_I.rel (d := 1) I sX_229 (by decide +kernel)) dX0_take_67 ?_
                  refine lv_iconst (v := 0) hx hb dX0_take_70 (by decide +kernel) ?_
                  refine lv_aload_n hx hb dX0_take_71 rfl (lv_at hl 4 rfl) ?_
                  refine dg_get (C := RX8) (T := TX8) (N := 2) hx hb hts (fun w h => bw_mem (wU_X8 w h)) hown K hP sX_1 rfl 1 (dk_dq rfl) (hts _ (bw_mem wB_725)) (fun _ h9 => h9) (v := .int x_1) f_x_1 dX0_take_72 ?_
                  have hz_68 : (0 : Int32).toInt = 0 := by decide +kernel
                  have hz_69 : (0 : Int32).toInt = 0 := by decide +kernel
                  have hc_70 : (0 : Int32).toInt + (x_1 : Int32).toInt ≤ ((1600 : Nat) : Int) := by omega
                  have hc_71 : (0 : Int32).toInt + (x_1 : Int32).toInt ≤ ((64 : Nat) : Int) := by omega
                  refine dg_copyi hx hb (by rw [hml]; exact hl.1.symm) hown (hts _ (bw_mem wB_732)) (hts _ (bw_mem wB_516)) (hts _ (bw_mem wB_517)) (hts _ (bw_mem wB_518)) K hP hS hA1 sX_2 sX_230 (by omega) (by omega) (by omega) hc_70 hc_71 (Nat.le_of_ble_eq_true rfl) (Nat.le_of_ble_eq_true rfl) dX0_take_75 (fun S_72 e_72 H locs hP hS => ?_)
                  have hc_73 : (0 : Int32).toNatClampNeg + (x_1 : Int32).toNatClampNeg ≤ 1600 := by rw [dk_clN, dk_clN]; omega
                  have I_72 := dg_I.ufr (lo := 0) (hi := 255) I e_72 sX_230 (by decide +kernel) (dk_all_cpy (n0 := 1600) (dk_all_w (dg_I.row (lo := 0) (hi := 255) I sX_2 (by decide +kernel)) (dk_dq rfl) (dk_dq rfl)) (dg_I.row I sX_230 (by decide +kernel)) _ _ _ hc_73)
                  have M_72 := dg_sm.uf M_0 e_72 sX_230 (dk_dq rfl)
                  refine lv_aload_n hx hb dX0_take_78 rfl (lv_at hl 2 rfl) ?_
                  refine lv_iload_n hx hb dX0_take_79 rfl (lv_at hl 1 rfl) ?_
                  refine dg_put (ci := 0) (v := .int x_2) (ty := tyX0 5) (C := RX0) (T := TX0) (N := 9) hx hb hts (fun w h => bw_mem (wU_X0 w h)) tyX0 tyX0_ok nmX0 hown K hP hS hA1 sX_229 rfl 5 (dk_dq rfl) (hts _ (bw_mem wB_733)) (fun _ h9 => h9) rfl (by decide +kernel) rfl rfl dX0_take_80 (fun S_74 e_74 H locs hP hS => ?_)
                  have I_74 := dg_I.uFi (lo := 0) (hi := 16) I_72 e_74 sX_229 (by decide +kernel) (show 0 ≤ (x_2).toInt ∧ (x_2).toInt ≤ 16 from (by omega))
                  have M_74 := dg_sm.uF M_72 e_74 sX_229 (dk_dq rfl)
                  refine lv_aload_n hx hb dX0_take_83 rfl (lv_at hl 2 rfl) ?_
                  refine dg_callv hS hA1 hA (va_runV (As := []) (rest := []) F (c_e_forget l g D o S_74 I_74 H.size) (cwV 0 hts (bw_V wB_735 wB_736 wB_737 wB_730 wB_734) rfl rfl rfl (by decide +kernel) ⟨Nat.le_of_ble_eq_true rfl, Nat.le_of_ble_eq_true rfl⟩) (dg_preV sX_229 rfl K ST hP hS hA1 hA) rfl rfl hl.1 rfl (lv_room (Nat.le_of_ble_eq_true rfl)) dX0_take_84 ⟨Nat.le_of_ble_eq_true rfl, Nat.le_of_ble_eq_true rfl⟩) (fun S_75 hw_75 H locs hP hS => ?_)
                  obtain ⟨I_75, m_75, w_75_0, w_75_1, -⟩ := hw_75
                  have M_75 := dg_sm.tr M_74 m_75 (dk_dq rfl) (dk_dq rfl)
                  obtain ⟨y_76, f_y_76, w_75_0⟩ := w_75_0
                  have w_75_0 : (y_76).toInt = 0 := w_75_0
                  have b_y_76 : 0 ≤ (y_76).toInt ∧ (y_76).toInt ≤ 1 := dg_I.intb (lo := 0) (hi := 1) I_75 sX_229 (by decide +kernel) f_y_76
                  refine lv_iconst (v := 1) hx hb dX0_take_87 (by decide +kernel) ?_
                  have hz_77 : (1 : Int32).toInt = 1 := by decide +kernel
                  refine W.widen (k := 0) (n := 0) (Nat.le_of_ble_eq_true rfl) (Nat.le_of_ble_eq_true rfl) ?_
                  exact dg_iret hx hb hr hlocks (by decide +kernel) hP hS ⟨I_75, M_75, (by decide +kernel), ⟨congrArg Prod.fst (Eq.symm (Eq.trans hF_1 (F_e_take_p2 e_72 e_74 w_75_1))), congrArg Prod.snd (Eq.symm (Eq.trans hF_1 (F_e_take_p2 e_72 e_74 w_75_1)))⟩, trivial⟩ dX0_take_88
              have L_122 : ∀ (n : Nat) (x_121 : Int32), (0 ≤ (x_121).toInt ∧ (x_121).toInt ≤ 16) → ((17 - (x_121).toInt).toNat < n) → (F_e_take o S gr = lp (F_e_take_B2 x_2 S x_1 o gr) (S, (0 : Int32)) n x_121) → ∀ (H : Heap) (locs : List Loc), va_P D vwCl (dg_w g shX o rfX S) H → va_S A s.heap H locs → ∀ ls : Array Slot, lv_has ls 5 [(4, .int x_121), (3, .int x_2), (0, .ref (o + 229)), (1, .ref (o + gr)), (2, .ref (o + 1))] → W p l e ({ frames := 3, cells := 0, slots := 0, locals := 77 } : Room) s m args below meth c H locs 0 0 (MQ below (va_Qi (fun (r : Int32) S' => CX o S' ∧ dg_sm shX [(44, 4), (44, 5)] [45] S S' ∧ (0 ≤ (r).toInt ∧ (r).toInt ≤ 1) ∧ (S' = (F_e_take o S gr).1 ∧ r = (F_e_take o S gr).2) ∧ True) (dg_B g D shX o rfX) A) args s 0 0 A) (F0 m 32 ls []) := by
                as_aux_lemma =>
                  intro n
                  induction n with
                  | zero =>
                    intro x_121 b_x_121 hmu hF_2 H locs hP hS ls hl
                    omega
                  | succ n ih =>
                    as_aux_lemma =>
                      intro x_121 b_x_121 hmu hF_2 H locs hP hS ls hl
                      refine lv_iload hx hb dX0_take_32 (lv_at hl 0 rfl) ?_
                      refine lv_iload_n hx hb dX0_take_34 rfl (lv_at hl 1 rfl) ?_
                      refine lv_icmp_ge (tgt := 61) hx hb dX0_take_35 (dk_dq rfl) (fun c_123 => ?_) (fun c_123 => ?_)
                      · have jc_123 := dk_gec (k := (x_2).toInt) rfl c_123
                        have hf_123 := dk_full x_121
                        exact J_67 x_121 (by omega) (lp_r hF_2 (F_e_take_p3 c_123)) _ _ hP hS _ (lv_sub hl [0, 1, 2, 3, 4] rfl)
                      · as_aux_lemma =>
                          have jc_123 := dk_ngec (k := (x_2).toInt) rfl c_123
                          refine lv_aload_n hx hb dX0_take_38 rfl (lv_at hl 3 rfl) ?_
                          refine lv_aload_n hx hb dX0_take_39 rfl (lv_at hl 4 rfl) ?_
                          refine dg_get (C := RX8) (T := TX8) (N := 2) hx hb hts (fun w h => bw_mem (wU_X8 w h)) hown K hP sX_1 rfl 0 (dk_dq rfl) (hts _ (bw_mem wB_726)) (fun _ h9 => h9) (v := .ref (o + 2)) (show S.1 1 0 = .ref (o + 2) from dg_I.rel (d := 1) I sX_1 (by decide +kernel)) dX0_take_40 ?_
                          refine lv_iconst (v := 4) hx hb dX0_take_43 (by decide +kernel) ?_
                          refine lv_iload hx hb dX0_take_44 (lv_at hl 0 rfl) ?_
                          refine lv_imul hx hb dX0_take_46 ?_
                          refine lv_topi (fun x_125 ex_125 => ?_)
                          have jx_125 : (x_125).toInt = 4 * (x_121).toInt := by rw [ex_125]; exact dk_mulT2 (by decide +kernel) rfl (by omega)
                          refine dg_calli hS hA1 hA (va_runS (As := [.ref (o + gr), .ref (o + 2), .int x_125]) (rest := []) F (c_e_canBeFelt l g D o S gr hk_gr x_125 (by omega) I H.size) (va_cwS 3 hts (bw_S wB_728 wB_729 wB_730 wB_727) rfl rfl rfl (by decide +kernel) ⟨Nat.le_of_ble_eq_true rfl, Nat.le_of_ble_eq_true rfl⟩) (dg_preS K ST hP hS hA1 hA) rfl rfl hl.1 rfl (lv_room (Nat.le_of_ble_eq_true rfl)) dX0_take_47 ⟨Nat.le_of_ble_eq_true rfl, Nat.le_of_ble_eq_true rfl⟩) (fun x_126 S_127 hw_127 H locs hP hS => ?_)
                          rw [hw_127.1] at hP
                          obtain ⟨hq_127, w_127_0, w_127_1, -⟩ := hw_127
                          have w_127_0 : 0 ≤ (x_126).toInt ∧ (x_126).toInt ≤ 1 := w_127_0
                          refine lv_if_ne (tgt := 55) hx hb dX0_take_50 (dk_dq rfl) (fun c_128 => ?_) (fun c_128 => ?_)
                          · have jc_128 := dk_neqc (k := 0) (by decide +kernel) c_128
                            obtain ⟨x_129, ex_129⟩ : ∃ z, z = x_121 + 1 := ⟨_, rfl⟩
                            have jx_129 : (x_129).toInt = (x_121).toInt + 1 := by rw [ex_129]; exact dk_addT2 rfl (by decide +kernel) (by omega)
                            refine lv_iinc (v := x_129) (lv' := [(4, .int x_129), (3, .int x_2), (0, .ref (o + 229)), (1, .ref (o + gr)), (2, .ref (o + 1))]) hx hb dX0_take_55 hl (k := 0) rfl (by rw [ex_129]; rfl) (dk_dq rfl) rfl (fun ls hl => ?_)
                            refine lv_goto (tgt := 32) hx hb dX0_take_58 (dk_dq rfl) ?_
                            exact ih x_129 (by omega) (by first | exact mu_lt hmu (by omega) (by omega) | omega) (lp_l hF_2 (F_e_take_p4 c_123 ex_125 w_127_1 c_128 ex_129)) _ _ hP hS _ (lv_sub hl [0, 1, 2, 3, 4] rfl)
                          · have jc_128 := dk_eqc (k := 0) (by decide +kernel) c_128
                            refine lv_iconst (v := 0) hx hb dX0_take_53 (by decide +kernel) ?_
                            have hz_130 : (0 : Int32).toInt = 0 := by decide +kernel
                            refine W.widen (k := 0) (n := 0) (Nat.le_of_ble_eq_true rfl) (Nat.le_of_ble_eq_true rfl) ?_
                            exact dg_iret hx hb hr hlocks (by decide +kernel) hP hS ⟨I, M_0, (by decide +kernel), ⟨congrArg Prod.fst (Eq.symm (lp_r hF_2 (F_e_take_p5 c_123 ex_125 w_127_1 c_128))), congrArg Prod.snd (Eq.symm (lp_r hF_2 (F_e_take_p5 c_123 ex_125 w_127_1 c_128)))⟩, trivial⟩ dX0_take_54
              have hz_131 : (0 : Int32).toInt = 0 := by decide +kernel
              have hz_132 : (0 : Int32).toInt = 0 := by decide +kernel
              exact L_122 ((17 - ((0 : Int32)).toInt).toNat + 1) 0 (by decide +kernel) (by first | exact mu_lt hmu (by omega) (by omega) | omega) (F_e_take_p6 (zI_eq f_x_1) ex_2 ex_3 c_4 c_6 c_8) _ _ hP hS _ (lv_sub hl [0, 1, 2, 3, 4] rfl)
          · have jc_8 := dk_nlec (k := 16) (by decide +kernel) c_8
            refine lv_iconst (v := 0) hx hb dX0_take_27 (by decide +kernel) ?_
            have hz_133 : (0 : Int32).toInt = 0 := by decide +kernel
            refine W.widen (k := 0) (n := 0) (Nat.le_of_ble_eq_true rfl) (Nat.le_of_ble_eq_true rfl) ?_
            exact dg_iret hx hb hr hlocks (by decide +kernel) hP hS ⟨I, M_0, (by decide +kernel), ⟨congrArg Prod.fst (Eq.symm (F_e_take_p7 (zI_eq f_x_1) ex_2 ex_3 c_4 c_6 c_8)), congrArg Prod.snd (Eq.symm (F_e_take_p7 (zI_eq f_x_1) ex_2 ex_3 c_4 c_6 c_8))⟩, trivial⟩ dX0_take_28
noncomputable def F_e_agreesBehind_J2 (x_171 : Int32) : (Int32) ⊕ (Int32) := let x_208 : Int32 := x_171 + 1; (Sum.inl x_208)
noncomputable def F_e_agreesBehind_J3 (x_219 : Int32) (o : Nat) (S : dg_S) (pt : Nat) (x_228 : Int32) (x_171 : Int32) : (Int32) ⊕ (Int32) := (if x_219 = (-1 : Int32) then (Sum.inr ((0 : Int32))) else let x_238 : Int32 := F_p_gradeAt o S pt x_219; (if x_238 = x_228 then (F_e_agreesBehind_J2 x_171) else (Sum.inr ((0 : Int32)))))
noncomputable def F_e_agreesBehind_B1 (S : dg_S) (a1 : Int32) (gr : Nat) (o : Nat) (pt : Nat) : Int32 → (Int32) ⊕ (Int32) := fun w9 => match w9 with | x_171 => let x_173 : Int32 := zI S 229 5; (if x_173 ≤ x_171 then (Sum.inr ((1 : Int32))) else let x_176 : Int32 := (4 : Int32) * x_171; let x_178 : Int32 := S.2.1 230 (x_176 : Int32).toNatClampNeg; (if x_178 = a1 then let x_211 : Int32 := x_176 + (1 : Int32); let x_213 : Int32 := S.2.1 230 (x_211 : Int32).toNatClampNeg; let x_214 : Int32 := x_176 + (2 : Int32); let x_216 : Int32 := S.2.1 230 (x_214 : Int32).toNatClampNeg; let x_217 : Int32 := zI S gr 0; let x_218 : Int32 := zI S gr 1; let x_219 : Int32 := F_g_placeOf o S gr x_213 x_216; let x_221 : Int32 := x_176 + (3 : Int32); let x_223 : Int32 := S.2.1 230 (x_221 : Int32).toNatClampNeg; (if x_223 = (255 : Int32) then (F_e_agreesBehind_J3 x_219 o S pt (-1 : Int32) x_171) else let x_243 : Int32 := x_176 + (3 : Int32); let x_245 : Int32 := S.2.1 230 (x_243 : Int32).toNatClampNeg; (F_e_agreesBehind_J3 x_219 o S pt x_245 x_171)) else (F_e_agreesBehind_J2 x_171)))
noncomputable def F_e_agreesBehind (o : Nat) (S : dg_S) (gr : Nat) (pt : Nat) (a1 : Int32) : Int32 := (lp (F_e_agreesBehind_B1 S a1 gr o pt) (0 : Int32) ((17 - ((0 : Int32)).toInt).toNat + 1) (0 : Int32))
theorem F_e_agreesBehind_p0 {S : dg_S} {a1 : Int32} {gr : Nat} {o : Nat} {pt : Nat} {x_171 : Int32} {x_173 : Int32} (h0 : x_173 = zI S 229 5) (h1 : x_173 ≤ x_171) : (F_e_agreesBehind_B1 S a1 gr o pt) x_171 = Sum.inr ((1 : Int32)) := by
  replace h0 := Eq.symm h0
  subst h0
  exact (Eq.trans (if_pos h1) rfl)
theorem F_e_agreesBehind_p1 {x_171 : Int32} {x_208 : Int32} (h0 : x_208 = x_171 + 1) : F_e_agreesBehind_J2 x_171 = Sum.inl x_208 := by
  replace h0 := Eq.symm h0
  subst h0
  exact rfl
theorem F_e_agreesBehind_p2 {x_219 : Int32} {o : Nat} {S : dg_S} {pt : Nat} {x_228 : Int32} {x_171 : Int32} (h0 : x_219 = (-1 : Int32)) : F_e_agreesBehind_J3 x_219 o S pt x_228 x_171 = Sum.inr ((0 : Int32)) := (Eq.trans (if_pos h0) rfl)
theorem F_e_agreesBehind_p3 {x_219 : Int32} {o : Nat} {S : dg_S} {pt : Nat} {x_228 : Int32} {x_171 : Int32} {x_238 : Int32} (h0 : ¬ (x_219 = (-1 : Int32))) (h1 : x_238 = F_p_gradeAt o S pt x_219) (h2 : x_238 = x_228) : F_e_agreesBehind_J3 x_219 o S pt x_228 x_171 = F_e_agreesBehind_J2 x_171 := by
  replace h1 := Eq.symm h1
  subst h1
  exact (Eq.trans (if_neg h0) (Eq.trans (if_pos h2) rfl))
theorem F_e_agreesBehind_p4 {x_219 : Int32} {o : Nat} {S : dg_S} {pt : Nat} {x_228 : Int32} {x_171 : Int32} {x_238 : Int32} (h0 : ¬ (x_219 = (-1 : Int32))) (h1 : x_238 = F_p_gradeAt o S pt x_219) (h2 : ¬ (x_238 = x_228)) : F_e_agreesBehind_J3 x_219 o S pt x_228 x_171 = Sum.inr ((0 : Int32)) := by
  replace h1 := Eq.symm h1
  subst h1
  exact (Eq.trans (if_neg h0) (Eq.trans (if_neg h2) rfl))
theorem F_e_agreesBehind_p5 {S : dg_S} {a1 : Int32} {gr : Nat} {o : Nat} {pt : Nat} {x_171 : Int32} {x_219 : Int32} {x_245 : Int32} {x_173 : Int32} {x_176 : Int32} {x_178 : Int32} {x_211 : Int32} {x_213 : Int32} {x_214 : Int32} {x_216 : Int32} {x_221 : Int32} {x_223 : Int32} {x_243 : Int32} (h0 : x_173 = zI S 229 5) (h1 : ¬ (x_173 ≤ x_171)) (h2 : x_176 = (4 : Int32) * x_171) (h3 : x_178 = S.2.1 230 (x_176 : Int32).toNatClampNeg) (h4 : x_178 = a1) (h5 : x_211 = x_176 + (1 : Int32)) (h6 : x_213 = S.2.1 230 (x_211 : Int32).toNatClampNeg) (h7 : x_214 = x_176 + (2 : Int32)) (h8 : x_216 = S.2.1 230 (x_214 : Int32).toNatClampNeg) (h9 : x_219 = F_g_placeOf o S gr x_213 x_216) (h10 : x_221 = x_176 + (3 : Int32)) (h11 : x_223 = S.2.1 230 (x_221 : Int32).toNatClampNeg) (h12 : ¬ (x_223 = (255 : Int32))) (h13 : x_243 = x_176 + (3 : Int32)) (h14 : x_245 = S.2.1 230 (x_243 : Int32).toNatClampNeg) : (F_e_agreesBehind_B1 S a1 gr o pt) x_171 = F_e_agreesBehind_J3 x_219 o S pt x_245 x_171 := by
  replace h0 := Eq.symm h0
  subst h0
  replace h2 := Eq.symm h2
  subst h2
  replace h3 := Eq.symm h3
  subst h3
  replace h5 := Eq.symm h5
  subst h5
  replace h6 := Eq.symm h6
  subst h6
  replace h7 := Eq.symm h7
  subst h7
  replace h8 := Eq.symm h8
  subst h8
  replace h9 := Eq.symm h9
  subst h9
  replace h10 := Eq.symm h10
  subst h10
  replace h11 := Eq.symm h11
  subst h11
  replace h13 := Eq.symm h13
  subst h13
  replace h14 := Eq.symm h14
  subst h14
  exact (Eq.trans (if_neg h1) (Eq.trans (if_pos h4) (Eq.trans (if_neg h12) rfl)))
theorem F_e_agreesBehind_p6 {S : dg_S} {a1 : Int32} {gr : Nat} {o : Nat} {pt : Nat} {x_171 : Int32} {x_219 : Int32} {x_173 : Int32} {x_176 : Int32} {x_178 : Int32} {x_211 : Int32} {x_213 : Int32} {x_214 : Int32} {x_216 : Int32} {x_221 : Int32} {x_223 : Int32} (h0 : x_173 = zI S 229 5) (h1 : ¬ (x_173 ≤ x_171)) (h2 : x_176 = (4 : Int32) * x_171) (h3 : x_178 = S.2.1 230 (x_176 : Int32).toNatClampNeg) (h4 : x_178 = a1) (h5 : x_211 = x_176 + (1 : Int32)) (h6 : x_213 = S.2.1 230 (x_211 : Int32).toNatClampNeg) (h7 : x_214 = x_176 + (2 : Int32)) (h8 : x_216 = S.2.1 230 (x_214 : Int32).toNatClampNeg) (h9 : x_219 = F_g_placeOf o S gr x_213 x_216) (h10 : x_221 = x_176 + (3 : Int32)) (h11 : x_223 = S.2.1 230 (x_221 : Int32).toNatClampNeg) (h12 : x_223 = (255 : Int32)) : (F_e_agreesBehind_B1 S a1 gr o pt) x_171 = F_e_agreesBehind_J3 x_219 o S pt (-1 : Int32) x_171 := by
  replace h0 := Eq.symm h0
  subst h0
  replace h2 := Eq.symm h2
  subst h2
  replace h3 := Eq.symm h3
  subst h3
  replace h5 := Eq.symm h5
  subst h5
  replace h6 := Eq.symm h6
  subst h6
  replace h7 := Eq.symm h7
  subst h7
  replace h8 := Eq.symm h8
  subst h8
  replace h9 := Eq.symm h9
  subst h9
  replace h10 := Eq.symm h10
  subst h10
  replace h11 := Eq.symm h11
  subst h11
  exact (Eq.trans (if_neg h1) (Eq.trans (if_pos h4) (Eq.trans (if_pos h12) rfl)))
theorem F_e_agreesBehind_p7 {S : dg_S} {a1 : Int32} {gr : Nat} {o : Nat} {pt : Nat} {x_171 : Int32} {x_173 : Int32} {x_176 : Int32} {x_178 : Int32} (h0 : x_173 = zI S 229 5) (h1 : ¬ (x_173 ≤ x_171)) (h2 : x_176 = (4 : Int32) * x_171) (h3 : x_178 = S.2.1 230 (x_176 : Int32).toNatClampNeg) (h4 : ¬ (x_178 = a1)) : (F_e_agreesBehind_B1 S a1 gr o pt) x_171 = F_e_agreesBehind_J2 x_171 := by
  replace h0 := Eq.symm h0
  subst h0
  replace h2 := Eq.symm h2
  subst h2
  replace h3 := Eq.symm h3
  subst h3
  exact (Eq.trans (if_neg h1) (Eq.trans (if_neg h4) rfl))
theorem F_e_agreesBehind_p8 {o : Nat} {S : dg_S} {gr : Nat} {pt : Nat} {a1 : Int32}  : F_e_agreesBehind o S gr pt a1 = lp (F_e_agreesBehind_B1 S a1 gr o pt) (0 : Int32) ((17 - ((0 : Int32)).toInt).toNat + 1) (0 : Int32) := rfl
set_option maxHeartbeats 8000000 in
set_option maxRecDepth 100000 in
theorem c_e_agreesBehind (l : Launch) (g : Nat → ClassId) (D : va_G) (o : Nat) (S : dg_S) (gr : Nat) (hk_gr : rX gr) (pt : Nat) (hk_pt : pX pt) (a1 : Int32) (I : CX o S) (sz : Nat) : Met l yX0_agreesBehind (bw yX0_agreesBehind cX0_agreesBehind 8 (some .boolean)) ({ frames := 3, cells := 0, slots := 0, locals := 74 } : Room) (dk_Pc g D (dg_w g shX o rfX S) sz [.ref (o + 229), .ref (o + gr), .ref (o + pt), .int a1]) (va_Qi (fun (r : Int32) S' => S' = S ∧ (0 ≤ (r).toInt ∧ (r).toInt ≤ 1) ∧ (r = F_e_agreesBehind o S gr pt a1) ∧ True) (dg_B g D shX o rfX) (dg_A o shX.length sz)) 0 0 (dg_A o shX.length sz) := by
  refine dg_met (cc := cX0_agreesBehind) (maxL := 8) (ret := (some .boolean)) (dk_dq rfl) rfl (Nat.le_of_ble_eq_true rfl) ?_
  intro p e s m args below meth c A hAe harg hx hb hr hml hts hown hlocks hin hP K hS hA1 hA ST hsz ls hl
  rw [← hAe]
  have F : CallFix p m c cX0_agreesBehind 8 s args (bw yX0_agreesBehind cX0_agreesBehind 8 (some .boolean)) RX0 := ⟨hx, hb, hml, hown, hts⟩
  have hl : lv_has ls 8 [(0, .ref (o + 229)), (1, .ref (o + gr)), (2, .ref (o + pt)), (3, .int a1)] := hl
  have M_0 : dg_sm shX [] [] S S := dg_sm.rf
  refine lv_iconst (v := 0) hx hb dX0_agreesBehind_0 (by decide +kernel) ?_
  refine lv_istore (lv' := [(4, .int 0), (0, .ref (o + 229)), (1, .ref (o + gr)), (2, .ref (o + pt)), (3, .int a1)]) hx hb dX0_agreesBehind_1 hl (dk_dq rfl) rfl (fun ls hl => ?_)
  have L_172 : ∀ (n : Nat) (x_171 : Int32), (0 ≤ (x_171).toInt ∧ (x_171).toInt ≤ 16) → ((17 - (x_171).toInt).toNat < n) → (F_e_agreesBehind o S gr pt a1 = lp (F_e_agreesBehind_B1 S a1 gr o pt) (0 : Int32) n x_171) → ∀ (H : Heap) (locs : List Loc), va_P D vwCl (dg_w g shX o rfX S) H → va_S A s.heap H locs → ∀ ls : Array Slot, lv_has ls 8 [(4, .int x_171), (0, .ref (o + 229)), (1, .ref (o + gr)), (2, .ref (o + pt)), (3, .int a1)] → W p l e ({ frames := 3, cells := 0, slots := 0, locals := 74 } : Room) s m args below meth c H locs 0 0 (MQ below (va_Qi (fun (r : Int32) S' => S' = S ∧ (0 ≤ (r).toInt ∧ (r).toInt ≤ 1) ∧ (r = F_e_agreesBehind o S gr pt a1) ∧ True) (dg_B g D shX o rfX) A) args s 0 0 A) (F0 m 3 ls []) := by
    as_aux_lemma =>
      intro n
      induction n with
      | zero =>
        intro x_171 b_x_171 hmu hF_1 H locs hP hS ls hl
        omega
      | succ n ih =>
        as_aux_lemma =>
          intro x_171 b_x_171 hmu hF_1 H locs hP hS ls hl
          refine lv_iload hx hb dX0_agreesBehind_3 (lv_at hl 0 rfl) ?_
          refine lv_aload_n hx hb dX0_agreesBehind_5 rfl (lv_at hl 1 rfl) ?_
          obtain ⟨x_173, f_x_173, b_x_173⟩ := dg_I.int (i := 229) (k := 5) (lo := 0) (hi := 16) I sX_229 (by decide +kernel)
          refine dg_get (C := RX0) (T := TX0) (N := 9) hx hb hts (fun w h => bw_mem (wU_X0 w h)) hown K hP sX_229 rfl 5 (dk_dq rfl) (hts _ (bw_mem wB_733)) (fun _ h9 => h9) (v := .int x_173) f_x_173 dX0_agreesBehind_6 ?_
          refine lv_icmp_ge (tgt := 111) hx hb dX0_agreesBehind_9 (dk_dq rfl) (fun c_174 => ?_) (fun c_174 => ?_)
          · have jc_174 := dk_gec (k := (x_173).toInt) rfl c_174
            refine lv_iconst (v := 1) hx hb dX0_agreesBehind_111 (by decide +kernel) ?_
            have hz_175 : (1 : Int32).toInt = 1 := by decide +kernel
            refine W.widen (k := 0) (n := 0) (Nat.le_of_ble_eq_true rfl) (Nat.le_of_ble_eq_true rfl) ?_
            exact dg_iret hx hb hr hlocks (by decide +kernel) hP hS ⟨rfl, (by decide +kernel), (Eq.symm (lp_r hF_1 (F_e_agreesBehind_p0 (zI_eq f_x_173) c_174))), trivial⟩ dX0_agreesBehind_112
          · as_aux_lemma =>
              have jc_174 := dk_ngec (k := (x_173).toInt) rfl c_174
              refine lv_iconst (v := 4) hx hb dX0_agreesBehind_12 (by decide +kernel) ?_
              refine lv_iload hx hb dX0_agreesBehind_13 (lv_at hl 0 rfl) ?_
              refine lv_imul hx hb dX0_agreesBehind_15 ?_
              refine lv_topi (fun x_176 ex_176 => ?_)
              have jx_176 : (x_176).toInt = 4 * (x_171).toInt := by rw [ex_176]; exact dk_mulT2 (by decide +kernel) rfl (by omega)
              refine lv_istore (lv' := [(5, .int x_176), (4, .int x_171), (0, .ref (o + 229)), (1, .ref (o + gr)), (2, .ref (o + pt)), (3, .int a1)]) hx hb dX0_agreesBehind_16 hl (dk_dq rfl) rfl (fun ls hl => ?_)
              refine lv_aload_n hx hb dX0_agreesBehind_18 rfl (lv_at hl 2 rfl) ?_
              refine dg_get (C := RX0) (T := TX0) (N := 9) hx hb hts (fun w h => bw_mem (wU_X0 w h)) hown K hP sX_229 rfl 1 (dk_dq rfl) (hts _ (bw_mem wB_731)) (fun _ h9 => h9) (v := .ref (o + 230)) (show S.1 229 1 = .ref (o + 230) from dg_I.rel (d := 1) I sX_229 (by decide +kernel)) dX0_agreesBehind_19 ?_
              refine lv_iload hx hb dX0_agreesBehind_22 (lv_at hl 0 rfl) ?_
              have hin_177 : vp_in x_176 64 := (dk_inv2 (by omega))
              refine dg_iald hx hb K hP sX_230 hin_177 dX0_agreesBehind_24 (fun x_178 ex_178 => ?_)
              have b_x_178 := dk_all_at (dg_I.row (lo := 0) (hi := 255) I sX_230 (by decide +kernel)) hin_177 ex_178
              refine lv_iload_n hx hb dX0_agreesBehind_25 rfl (lv_at hl 5 rfl) ?_
              have J_207 : ((F_e_agreesBehind_B1 S a1 gr o pt) x_171 = F_e_agreesBehind_J2 x_171) → ∀ (H : Heap) (locs : List Loc), va_P D vwCl (dg_w g shX o rfX S) H → va_S A s.heap H locs → ∀ ls : Array Slot, lv_has ls 8 [(5, .int x_176), (4, .int x_171), (0, .ref (o + 229)), (1, .ref (o + gr)), (2, .ref (o + pt)), (3, .int a1)] → W p l e ({ frames := 3, cells := 0, slots := 0, locals := 74 } : Room) s m args below meth c H locs 0 0 (MQ below (va_Qi (fun (r : Int32) S' => S' = S ∧ (0 ≤ (r).toInt ∧ (r).toInt ≤ 1) ∧ (r = F_e_agreesBehind o S gr pt a1) ∧ True) (dg_B g D shX o rfX) A) args s 0 0 A) (F0 m 105 ls []) := by
                intro hF_2 H locs hP hS ls hl
                obtain ⟨x_208, ex_208⟩ : ∃ z, z = x_171 + 1 := ⟨_, rfl⟩
                have jx_208 : (x_208).toInt = (x_171).toInt + 1 := by rw [ex_208]; exact dk_addT2 rfl (by decide +kernel) (by omega)
                refine lv_iinc (v := x_208) (lv' := [(4, .int x_208), (5, .int x_176), (0, .ref (o + 229)), (1, .ref (o + gr)), (2, .ref (o + pt)), (3, .int a1)]) hx hb dX0_agreesBehind_105 hl (k := 1) rfl (by rw [ex_208]; rfl) (dk_dq rfl) rfl (fun ls hl => ?_)
                refine lv_goto (tgt := 3) hx hb dX0_agreesBehind_108 (dk_dq rfl) ?_
                exact ih x_208 (by omega) (by first | exact mu_lt hmu (by omega) (by omega) | omega) (lp_l hF_1 (Eq.trans hF_2 (F_e_agreesBehind_p1 ex_208))) _ _ hP hS _ (lv_sub hl [0, 2, 3, 4, 5] rfl)
              refine lv_icmp_eq (tgt := 32) hx hb dX0_agreesBehind_26 (dk_dq rfl) (fun c_209 => ?_) (fun c_209 => ?_)
              · as_aux_lemma =>
                  have hf_209 := dk_full a1
                  have jc_209 := dk_eqc (k := (a1).toInt) rfl c_209
                  refine lv_aload_n hx hb dX0_agreesBehind_32 rfl (lv_at hl 3 rfl) ?_
                  refine lv_aload_n hx hb dX0_agreesBehind_33 rfl (lv_at hl 2 rfl) ?_
                  refine dg_get (C := RX0) (T := TX0) (N := 9) hx hb hts (fun w h => bw_mem (wU_X0 w h)) hown K hP sX_229 rfl 1 (dk_dq rfl) (hts _ (bw_mem wB_731)) (fun _ h9 => h9) (v := .ref (o + 230)) (show S.1 229 1 = .ref (o + 230) from dg_I.rel (d := 1) I sX_229 (by decide +kernel)) dX0_agreesBehind_34 ?_
                  refine lv_iload hx hb dX0_agreesBehind_37 (lv_at hl 0 rfl) ?_
                  refine lv_iconst (v := 1) hx hb dX0_agreesBehind_39 (by decide +kernel) ?_
                  refine lv_iadd hx hb dX0_agreesBehind_40 ?_
                  refine lv_topi (fun x_211 ex_211 => ?_)
                  have jx_211 : (x_211).toInt = (x_176).toInt + 1 := by rw [ex_211]; exact dk_addT2 rfl (by decide +kernel) (by omega)
                  have hin_212 : vp_in x_211 64 := (dk_inv2 (by omega))
                  refine dg_iald hx hb K hP sX_230 hin_212 dX0_agreesBehind_41 (fun x_213 ex_213 => ?_)
                  have b_x_213 := dk_all_at (dg_I.row (lo := 0) (hi := 255) I sX_230 (by decide +kernel)) hin_212 ex_213
                  refine lv_aload_n hx hb dX0_agreesBehind_42 rfl (lv_at hl 2 rfl) ?_
                  refine dg_get (C := RX0) (T := TX0) (N := 9) hx hb hts (fun w h => bw_mem (wU_X0 w h)) hown K hP sX_229 rfl 1 (dk_dq rfl) (hts _ (bw_mem wB_731)) (fun _ h9 => h9) (v := .ref (o + 230)) (show S.1 229 1 = .ref (o + 230) from dg_I.rel (d := 1) I sX_229 (by decide +kernel)) dX0_agreesBehind_43 ?_
                  refine lv_iload hx hb dX0_agreesBehind_46 (lv_at hl 0 rfl) ?_
                  refine lv_iconst (v := 2) hx hb dX0_agreesBehind_48 (by decide +kernel) ?_
                  refine lv_iadd hx hb dX0_agreesBehind_49 ?_
                  refine lv_topi (fun x_214 ex_214 => ?_)
                  have jx_214 : (x_214).toInt = (x_176).toInt + 2 := by rw [ex_214]; exact dk_addT2 rfl (by decide +kernel) (by omega)
                  have hin_215 : vp_in x_214 64 := (dk_inv2 (by omega))
                  refine dg_iald hx hb K hP sX_230 hin_215 dX0_agreesBehind_50 (fun x_216 ex_216 => ?_)
                  have b_x_216 := dk_all_at (dg_I.row (lo := 0) (hi := 255) I sX_230 (by decide +kernel)) hin_215 ex_216
                  obtain ⟨x_217, f_x_217, b_x_217⟩ := dg_I.int (i := gr) (k := 0) (lo := 0) (hi := 7) I (rX_0 gr hk_gr) (by decide +kernel)
                  obtain ⟨x_218, f_x_218, b_x_218⟩ := dg_I.int (i := gr) (k := 1) (lo := 0) (hi := 7) I (rX_0 gr hk_gr) (by decide +kernel)
                  refine dg_calli hS hA1 hA (va_runV (As := [.int x_213, .int x_216]) (rest := []) F (c_g_placeOfR l g D o S gr hk_gr x_213 x_216 x_217 f_x_217 (by omega) x_218 f_x_218 (by omega) I H.size) (cwV 2 hts (bw_V wB_724 wB_55 wB_56 wB_9 wB_53) rfl rfl rfl (by decide +kernel) ⟨Nat.le_of_ble_eq_true rfl, Nat.le_of_ble_eq_true rfl⟩) (dg_preV (rX_0 gr hk_gr) rfl K ST hP hS hA1 hA) rfl rfl hl.1 rfl (lv_room (Nat.le_of_ble_eq_true rfl)) dX0_agreesBehind_51 ⟨Nat.le_of_ble_eq_true rfl, Nat.le_of_ble_eq_true rfl⟩) (fun x_219 S_220 hw_220 H locs hP hS => ?_)
                  rw [hw_220.1] at hP
                  obtain ⟨hq_220, w_220_0, w_220_1, w_220_2, -⟩ := hw_220
                  have w_220_0 : ((-1) ≤ (x_219).toInt ∧ (x_219).toInt ≤ 62) ∧ ((x_219).toInt ≤ (-1) ∨ 8 ≤ (x_219).toInt) := w_220_0
                  have w_220_1 : (0 ≤ (x_213).toInt ∧ (x_213).toInt < (x_217).toInt ∧ 0 ≤ (x_216).toInt ∧ (x_216).toInt < (x_218).toInt) → 8 ≤ (x_219).toInt := w_220_1
                  refine lv_istore (lv' := [(6, .int x_219), (5, .int x_176), (4, .int x_171), (0, .ref (o + 229)), (1, .ref (o + gr)), (2, .ref (o + pt)), (3, .int a1)]) hx hb dX0_agreesBehind_54 hl (dk_dq rfl) rfl (fun ls hl => ?_)
                  refine lv_aload_n hx hb dX0_agreesBehind_56 rfl (lv_at hl 3 rfl) ?_
                  refine dg_get (C := RX0) (T := TX0) (N := 9) hx hb hts (fun w h => bw_mem (wU_X0 w h)) hown K hP sX_229 rfl 1 (dk_dq rfl) (hts _ (bw_mem wB_731)) (fun _ h9 => h9) (v := .ref (o + 230)) (show S.1 229 1 = .ref (o + 230) from dg_I.rel (d := 1) I sX_229 (by decide +kernel)) dX0_agreesBehind_57 ?_
                  refine lv_iload hx hb dX0_agreesBehind_60 (lv_at hl 1 rfl) ?_
                  refine lv_iconst (v := 3) hx hb dX0_agreesBehind_62 (by decide +kernel) ?_
                  refine lv_iadd hx hb dX0_agreesBehind_63 ?_
                  refine lv_topi (fun x_221 ex_221 => ?_)
                  have jx_221 : (x_221).toInt = (x_176).toInt + 3 := by rw [ex_221]; exact dk_addT2 rfl (by decide +kernel) (by omega)
                  have hin_222 : vp_in x_221 64 := (dk_inv2 (by omega))
                  refine dg_iald hx hb K hP sX_230 hin_222 dX0_agreesBehind_64 (fun x_223 ex_223 => ?_)
                  have b_x_223 := dk_all_at (dg_I.row (lo := 0) (hi := 255) I sX_230 (by decide +kernel)) hin_222 ex_223
                  as_aux_lemma =>
                    refine lv_sipush (v := 255) hx hb dX0_agreesBehind_65 (by decide +kernel) ?_
                    have J_235 : ∀ (x_228 : Int32), ((-1) ≤ (x_228).toInt ∧ (x_228).toInt ≤ 255) → ((F_e_agreesBehind_B1 S a1 gr o pt) x_171 = F_e_agreesBehind_J3 x_219 o S pt x_228 x_171) → ∀ (H : Heap) (locs : List Loc), va_P D vwCl (dg_w g shX o rfX S) H → va_S A s.heap H locs → ∀ ls : Array Slot, lv_has ls 8 [(6, .int x_219), (5, .int x_176), (4, .int x_171), (0, .ref (o + 229)), (1, .ref (o + gr)), (2, .ref (o + pt)), (3, .int a1)] → W p l e ({ frames := 3, cells := 0, slots := 0, locals := 74 } : Room) s m args below meth c H locs 0 0 (MQ below (va_Qi (fun (r : Int32) S' => S' = S ∧ (0 ≤ (r).toInt ∧ (r).toInt ≤ 1) ∧ (r = F_e_agreesBehind o S gr pt a1) ∧ True) (dg_B g D shX o rfX) A) args s 0 0 A) (F0 m 84 ls [.int x_228]) := by
                      as_aux_lemma =>
                        intro x_228 b_x_228 hF_3 H locs hP hS ls hl
                        refine lv_istore (lv' := [(7, .int x_228), (6, .int x_219), (5, .int x_176), (4, .int x_171), (0, .ref (o + 229)), (1, .ref (o + gr)), (2, .ref (o + pt)), (3, .int a1)]) hx hb dX0_agreesBehind_84 hl (dk_dq rfl) rfl (fun ls hl => ?_)
                        refine lv_iload hx hb dX0_agreesBehind_86 (lv_at hl 1 rfl) ?_
                        refine lv_iconst (v := (-1)) hx hb dX0_agreesBehind_88 (by decide +kernel) ?_
                        refine lv_icmp_eq (tgt := 103) hx hb dX0_agreesBehind_89 (dk_dq rfl) (fun c_236 => ?_) (fun c_236 => ?_)
                        · have jc_236 := dk_eqc (k := (-1)) (by decide +kernel) c_236
                          refine lv_iconst (v := 0) hx hb dX0_agreesBehind_103 (by decide +kernel) ?_
                          have hz_237 : (0 : Int32).toInt = 0 := by decide +kernel
                          refine W.widen (k := 0) (n := 0) (Nat.le_of_ble_eq_true rfl) (Nat.le_of_ble_eq_true rfl) ?_
                          exact dg_iret hx hb hr hlocks (by decide +kernel) hP hS ⟨rfl, (by decide +kernel), (Eq.symm (lp_r hF_1 (Eq.trans hF_3 (F_e_agreesBehind_p2 c_236)))), trivial⟩ dX0_agreesBehind_104
                        · as_aux_lemma =>
                            have jc_236 := dk_neqc (k := (-1)) (by decide +kernel) c_236
                            refine lv_aload_n hx hb dX0_agreesBehind_92 rfl (lv_at hl 6 rfl) ?_
                            refine lv_iload hx hb dX0_agreesBehind_93 (lv_at hl 1 rfl) ?_
                            refine dg_calli hS hA1 hA (va_runV (As := [.int x_219]) (rest := []) F (c_p_gradeAt l g D o S pt hk_pt x_219 (by omega) I H.size) (cwV 1 hts (bw_V wB_739 wB_740 wB_741 wB_493 wB_738) rfl rfl rfl (by decide +kernel) ⟨Nat.le_of_ble_eq_true rfl, Nat.le_of_ble_eq_true rfl⟩) (dg_preV (pX_0 pt hk_pt) rfl K ST hP hS hA1 hA) rfl rfl hl.1 rfl (lv_room (Nat.le_of_ble_eq_true rfl)) dX0_agreesBehind_95 ⟨Nat.le_of_ble_eq_true rfl, Nat.le_of_ble_eq_true rfl⟩) (fun x_238 S_239 hw_239 H locs hP hS => ?_)
                            rw [hw_239.1] at hP
                            obtain ⟨hq_239, w_239_0, w_239_1, -⟩ := hw_239
                            have w_239_0 : (-1) ≤ (x_238).toInt ∧ (x_238).toInt ≤ 9 := w_239_0
                            refine lv_iload hx hb dX0_agreesBehind_98 (lv_at hl 0 rfl) ?_
                            refine lv_icmp_eq (tgt := 105) hx hb dX0_agreesBehind_100 (dk_dq rfl) (fun c_240 => ?_) (fun c_240 => ?_)
                            · have jc_240 := dk_eqc (k := (x_228).toInt) rfl c_240
                              exact J_207   (Eq.trans hF_3 (F_e_agreesBehind_p3 c_236 w_239_1 c_240)) _ _ hP hS _ (lv_sub hl [2, 3, 4, 5, 6, 7] rfl)
                            · have jc_240 := dk_neqc (k := (x_228).toInt) rfl c_240
                              refine lv_iconst (v := 0) hx hb dX0_agreesBehind_103 (by decide +kernel) ?_
                              have hz_241 : (0 : Int32).toInt = 0 := by decide +kernel
                              refine W.widen (k := 0) (n := 0) (Nat.le_of_ble_eq_true rfl) (Nat.le_of_ble_eq_true rfl) ?_
                              exact dg_iret hx hb hr hlocks (by decide +kernel) hP hS ⟨rfl, (by decide +kernel), (Eq.symm (lp_r hF_1 (Eq.trans hF_3 (F_e_agreesBehind_p4 c_236 w_239_1 c_240)))), trivial⟩ dX0_agreesBehind_104
                    refine lv_icmp_ne (tgt := 75) hx hb dX0_agreesBehind_68 (dk_dq rfl) (fun c_242 => ?_) (fun c_242 => ?_)
                    · have jc_242 := dk_neqc (k := 255) (by decide +kernel) c_242
                      refine lv_aload_n hx hb dX0_agreesBehind_75 rfl (lv_at hl 3 rfl) ?_
                      refine dg_get (C := RX0) (T := TX0) (N := 9) hx hb hts (fun w h => bw_mem (wU_X0 w h)) hown K hP sX_229 rfl 1 (dk_dq rfl) (hts _ (bw_mem wB_731)) (fun _ h9 => h9) (v := .ref (o + 230)) (show S.1 229 1 = .ref (o + 230) from dg_I.rel (d := 1) I sX_229 (by decide +kernel)) dX0_agreesBehind_76 ?_
                      refine lv_iload hx hb dX0_agreesBehind_79 (lv_at hl 1 rfl) ?_
                      refine lv_iconst (v := 3) hx hb dX0_agreesBehind_81 (by decide +kernel) ?_
                      refine lv_iadd hx hb dX0_agreesBehind_82 ?_
                      refine lv_topi (fun x_243 ex_243 => ?_)
                      have jx_243 : (x_243).toInt = (x_176).toInt + 3 := by rw [ex_243]; exact dk_addT2 rfl (by decide +kernel) (by omega)
                      have hin_244 : vp_in x_243 64 := (dk_inv2 (by omega))
                      refine dg_iald hx hb K hP sX_230 hin_244 dX0_agreesBehind_83 (fun x_245 ex_245 => ?_)
                      have b_x_245 := dk_all_at (dg_I.row (lo := 0) (hi := 255) I sX_230 (by decide +kernel)) hin_244 ex_245
                      exact J_235 x_245 (by omega) (F_e_agreesBehind_p5 (zI_eq f_x_173) c_174 ex_176 (Eq.symm ex_178.symm) c_209 ex_211 (Eq.symm ex_213.symm) ex_214 (Eq.symm ex_216.symm) w_220_2 ex_221 (Eq.symm ex_223.symm) c_242 ex_243 (Eq.symm ex_245.symm)) _ _ hP hS _ (lv_sub hl [0, 1, 2, 3, 4, 5, 6] rfl)
                    · have jc_242 := dk_eqc (k := 255) (by decide +kernel) c_242
                      refine lv_iconst (v := (-1)) hx hb dX0_agreesBehind_71 (by decide +kernel) ?_
                      refine lv_goto (tgt := 84) hx hb dX0_agreesBehind_72 (dk_dq rfl) ?_
                      have hz_246 : (-1 : Int32).toInt = (-1) := by decide +kernel
                      exact J_235 (-1) (by decide +kernel) (F_e_agreesBehind_p6 (zI_eq f_x_173) c_174 ex_176 (Eq.symm ex_178.symm) c_209 ex_211 (Eq.symm ex_213.symm) ex_214 (Eq.symm ex_216.symm) w_220_2 ex_221 (Eq.symm ex_223.symm) c_242) _ _ hP hS _ (lv_sub hl [0, 1, 2, 3, 4, 5, 6] rfl)
              · have hf_246 := dk_full a1
                have jc_209 := dk_neqc (k := (a1).toInt) rfl c_209
                refine lv_goto (tgt := 105) hx hb dX0_agreesBehind_29 (dk_dq rfl) ?_
                exact J_207   (F_e_agreesBehind_p7 (zI_eq f_x_173) c_174 ex_176 (Eq.symm ex_178.symm) c_209) _ _ hP hS _ (lv_sub hl [0, 1, 2, 3, 4, 5] rfl)
  have hz_248 : (0 : Int32).toInt = 0 := by decide +kernel
  have hz_249 : (0 : Int32).toInt = 0 := by decide +kernel
  exact L_172 ((17 - ((0 : Int32)).toInt).toNat + 1) 0 (by decide +kernel) (by first | exact mu_lt hmu (by omega) (by omega) | omega) (F_e_agreesBehind_p8) _ _ hP hS _ (lv_sub hl [0, 1, 2, 3, 4] rfl)
noncomputable def F_e_agrees_B1 (a2 : Int32) (o : Nat) (gr : Nat) (d_2 : Nat) : (Int32 × dg_S) → (Int32 × dg_S) ⊕ (dg_S × Int32) := fun w9 => match w9 with | (x_52, S_53) => (if a2 < x_52 then (Sum.inr ((S_53, (1 : Int32)))) else let x_57 : Int32 := F_e_agreesBehind o S_53 gr d_2 x_52; (if x_57 = (0 : Int32) then (Sum.inr ((S_53, (0 : Int32)))) else let S_60 : dg_S := F_w_pass o S_53 (1 : Int32); let x_61 : Int32 := x_52 + 1; (Sum.inl (x_61, S_60))))
noncomputable def F_e_agrees (o : Nat) (S : dg_S) (gr : Nat) (pt : Nat) (a1 : Int32) (a2 : Int32) : dg_S × Int32 := let d_2 : Nat := 233 + 7 * (a1 : Int32).toNatClampNeg; let S_3 : dg_S := F_p_copy o S d_2 pt; let S_4 : dg_S := F_w_enter o S_3 gr d_2 a1; (lp (F_e_agrees_B1 a2 o gr d_2) (S, (0 : Int32)) ((257 - ((0 : Int32)).toInt).toNat + 1) ((0 : Int32), S_4))
theorem F_e_agrees_p0 {a2 : Int32} {o : Nat} {gr : Nat} {d_2 : Nat} {x_52 : Int32} {S_53 : dg_S} (h0 : a2 < x_52) : (F_e_agrees_B1 a2 o gr d_2) (x_52, S_53) = Sum.inr ((S_53, (1 : Int32))) := (Eq.trans (if_pos h0) rfl)
theorem F_e_agrees_p1 {a2 : Int32} {o : Nat} {gr : Nat} {d_2 : Nat} {x_52 : Int32} {S_53 : dg_S} {x_61 : Int32} {S_60 : dg_S} {x_57 : Int32} (h0 : ¬ (a2 < x_52)) (h1 : x_57 = F_e_agreesBehind o S_53 gr d_2 x_52) (h2 : ¬ (x_57 = (0 : Int32))) (h3 : S_60 = F_w_pass o S_53 (1 : Int32)) (h4 : x_61 = x_52 + 1) : (F_e_agrees_B1 a2 o gr d_2) (x_52, S_53) = Sum.inl (x_61, S_60) := by
  replace h1 := Eq.symm h1
  subst h1
  replace h3 := Eq.symm h3
  subst h3
  replace h4 := Eq.symm h4
  subst h4
  exact (Eq.trans (if_neg h0) (Eq.trans (if_neg h2) rfl))
theorem F_e_agrees_p2 {a2 : Int32} {o : Nat} {gr : Nat} {d_2 : Nat} {x_52 : Int32} {S_53 : dg_S} {x_57 : Int32} (h0 : ¬ (a2 < x_52)) (h1 : x_57 = F_e_agreesBehind o S_53 gr d_2 x_52) (h2 : x_57 = (0 : Int32)) : (F_e_agrees_B1 a2 o gr d_2) (x_52, S_53) = Sum.inr ((S_53, (0 : Int32))) := by
  replace h1 := Eq.symm h1
  subst h1
  exact (Eq.trans (if_neg h0) (Eq.trans (if_pos h2) rfl))
theorem F_e_agrees_p3 {o : Nat} {S : dg_S} {gr : Nat} {pt : Nat} {a1 : Int32} {a2 : Int32} {d_2 : Nat} {S_4 : dg_S} {S_3 : dg_S} (h0 : d_2 = 233 + 7 * (a1 : Int32).toNatClampNeg) (h1 : S_3 = F_p_copy o S d_2 pt) (h2 : S_4 = F_w_enter o S_3 gr d_2 a1) : F_e_agrees o S gr pt a1 a2 = lp (F_e_agrees_B1 a2 o gr d_2) (S, (0 : Int32)) ((257 - ((0 : Int32)).toInt).toNat + 1) ((0 : Int32), S_4) := by
  replace h0 := Eq.symm h0
  subst h0
  replace h1 := Eq.symm h1
  subst h1
  replace h2 := Eq.symm h2
  subst h2
  exact rfl
set_option maxHeartbeats 8000000 in
set_option maxRecDepth 100000 in
theorem c_e_agrees (l : Launch) (g : Nat → ClassId) (D : va_G) (o : Nat) (S : dg_S) (gr : Nat) (hk_gr : rX gr) (pt : Nat) (hk_pt : pX pt) (a1 : Int32) (b_a1 : 0 ≤ (a1).toInt ∧ (a1).toInt ≤ 20) (a2 : Int32) (b_a2 : 0 ≤ (a2).toInt ∧ (a2).toInt ≤ 255) (hf_pt : dg_fil S pt) (Z2 : Z2X S) (Z3 : Z3X o S) (I : CX o S) (sz : Nat) : Met l yX0_agrees (bw yX0_agrees cX0_agrees 7 (some .boolean)) ({ frames := 6, cells := 0, slots := 0, locals := 149 } : Room) (dk_Pc g D (dg_w g shX o rfX S) sz [.ref (o + 229), .ref (o + gr), .ref (o + pt), .int a1, .int a2]) (va_Qi (fun (r : Int32) S' => CX o S' ∧ dg_sm shX [(3, 0), (3, 1), (36, 4), (36, 6), (36, 7), (36, 8), (36, 9), (36, 10), (36, 11), (36, 12), (37, 0), (37, 1), (37, 2), (37, 3), (37, 4), (37, 5), (37, 7)] [4, 5, 6, 7, 8, 9, 38, 39, 40, 41, 42] S S' ∧ (0 ≤ (r).toInt ∧ (r).toInt ≤ 1) ∧ Z2X S' ∧ Z3X o S' ∧ dg_FG S S' ∧ (S' = (F_e_agrees o S gr pt a1 a2).1 ∧ r = (F_e_agrees o S gr pt a1 a2).2) ∧ True) (dg_B g D shX o rfX) (dg_A o shX.length sz)) 0 0 (dg_A o shX.length sz) := by
  refine dg_met (cc := cX0_agrees) (maxL := 7) (ret := (some .boolean)) (dk_dq rfl) rfl (Nat.le_of_ble_eq_true rfl) ?_
  intro p e s m args below meth c A hAe harg hx hb hr hml hts hown hlocks hin hP K hS hA1 hA ST hsz ls hl
  rw [← hAe]
  have F : CallFix p m c cX0_agrees 7 s args (bw yX0_agrees cX0_agrees 7 (some .boolean)) RX0 := ⟨hx, hb, hml, hown, hts⟩
  have hl : lv_has ls 7 [(0, .ref (o + 229)), (1, .ref (o + gr)), (2, .ref (o + pt)), (3, .int a1), (4, .int a2)] := hl
  have M_0 : dg_sm shX [(3, 0), (3, 1), (36, 4), (36, 6), (36, 7), (36, 8), (36, 9), (36, 10), (36, 11), (36, 12), (37, 0), (37, 1), (37, 2), (37, 3), (37, 4), (37, 5), (37, 7)] [4, 5, 6, 7, 8, 9, 38, 39, 40, 41, 42] S S := dg_sm.rf
  refine lv_aload_n hx hb dX0_agrees_0 rfl (lv_at hl 0 rfl) ?_
  refine dg_get (C := RX0) (T := TX0) (N := 9) hx hb hts (fun w h => bw_mem (wU_X0 w h)) hown K hP sX_229 rfl 2 (dk_dq rfl) (hts _ (bw_mem wB_742)) (fun _ h9 => h9) (v := .ref (o + 231)) (show S.1 229 2 = .ref (o + 231) from dg_I.rel (d := 2) I sX_229 (by decide +kernel)) dX0_agrees_1 ?_
  refine lv_iload_n hx hb dX0_agrees_4 rfl (lv_at hl 3 rfl) ?_
  have hin_1 : vp_in a1 21 := (dk_inv2 (by omega))
  obtain ⟨d_2, hk_d_2, g_d_2, q_d_2⟩ : ∃ d, pX d ∧ rfX 231 (a1 : Int32).toNatClampNeg = some d ∧ d = 233 + 7 * (a1 : Int32).toNatClampNeg := ⟨_, pX_f9 _ (dk_inT hin_1).2, rfX_f (dk_inT hin_1).2, rfl⟩
  refine dg_aald hx hb K hP sX_231 hin_1 g_d_2 dX0_agrees_5 ?_
  refine lv_astore (lv' := [(5, .ref (o + d_2)), (0, .ref (o + 229)), (1, .ref (o + gr)), (2, .ref (o + pt)), (3, .int a1), (4, .int a2)]) hx hb dX0_agrees_6 hl (dk_dq rfl) rfl (fun ls hl => ?_)
  refine lv_aload hx hb dX0_agrees_8 (lv_at hl 0 rfl) ?_
  refine lv_aload_n hx hb dX0_agrees_10 rfl (lv_at hl 3 rfl) ?_
  refine dg_callv hS hA1 hA (va_runV (As := [.ref (o + pt)]) (rest := []) F (c_p_copy l g D o S d_2 hk_d_2 pt hk_pt hf_pt I s.heap.size) (cwV 1 hts (bw_V wB_743 wB_662 wB_663 wB_493 wB_660) rfl rfl rfl (by decide +kernel) ⟨Nat.le_of_ble_eq_true rfl, Nat.le_of_ble_eq_true rfl⟩) (dg_preV (pX_0 d_2 hk_d_2) rfl K ST hP hS hA1 hA) rfl rfl hl.1 rfl (lv_room (Nat.le_of_ble_eq_true rfl)) dX0_agrees_11 ⟨Nat.le_of_ble_eq_true rfl, Nat.le_of_ble_eq_true rfl⟩) (fun S_3 hw_3 H locs hP hS => ?_)
  obtain ⟨I_3, m_3, w_3_0, w_3_1, w_3_2, -⟩ := hw_3
  have M_3 := dg_sm.tr M_0 m_3 (dk_dq rfl) (dk_dq rfl)
  refine lv_aload_n hx hb dX0_agrees_14 rfl (lv_at hl 1 rfl) ?_
  refine dg_get (C := RX0) (T := TX0) (N := 9) hx hb hts (fun w h => bw_mem (wU_X0 w h)) hown K hP sX_229 rfl 0 (dk_dq rfl) (hts _ (bw_mem wB_744)) (fun _ h9 => h9) (v := .ref (o + 214)) (show S_3.1 229 0 = .ref (o + 214) from dg_I.abs (d := 214) I_3 sX_229 (by decide +kernel)) dX0_agrees_15 ?_
  refine lv_aload_n hx hb dX0_agrees_18 rfl (lv_at hl 2 rfl) ?_
  refine lv_aload hx hb dX0_agrees_19 (lv_at hl 0 rfl) ?_
  refine lv_iload_n hx hb dX0_agrees_21 rfl (lv_at hl 4 rfl) ?_
  refine dg_callv hS hA1 hA (va_runV (As := [.ref (o + gr), .ref (o + d_2), .int a1]) (rest := []) F (c_w_enter l g D o S_3 gr hk_gr d_2 hk_d_2 a1 w_3_0 I_3 H.size) (cwV 3 hts (bw_V wB_745 wB_676 wB_677 wB_594 wB_674) rfl rfl rfl (by decide +kernel) ⟨Nat.le_of_ble_eq_true rfl, Nat.le_of_ble_eq_true rfl⟩) (dg_preV sX_214 rfl K ST hP hS hA1 hA) rfl rfl hl.1 rfl (lv_room (Nat.le_of_ble_eq_true rfl)) dX0_agrees_22 ⟨Nat.le_of_ble_eq_true rfl, Nat.le_of_ble_eq_true rfl⟩) (fun S_4 hw_4 H locs hP hS => ?_)
  obtain ⟨I_4, m_4, w_4_0, w_4_1, -⟩ := hw_4
  have M_4 := dg_sm.tr M_3 m_4 (dk_dq rfl) (dk_dq rfl)
  refine lv_iconst (v := 0) hx hb dX0_agrees_25 (by decide +kernel) ?_
  refine lv_istore (lv' := [(6, .int 0), (5, .ref (o + d_2)), (0, .ref (o + 229)), (1, .ref (o + gr)), (2, .ref (o + pt)), (3, .int a1), (4, .int a2)]) hx hb dX0_agrees_26 hl (dk_dq rfl) rfl (fun ls hl => ?_)
  have L_54 : ∀ (n : Nat) (x_52 : Int32), (0 ≤ (x_52).toInt ∧ (x_52).toInt ≤ 256) → ((257 - (x_52).toInt).toNat < n) → ∀ S_53 : dg_S, CX o S_53 → dg_sm shX [(3, 0), (3, 1), (36, 4), (36, 6), (36, 7), (36, 8), (36, 9), (36, 10), (36, 11), (36, 12), (37, 0), (37, 1), (37, 2), (37, 3), (37, 4), (37, 5), (37, 7)] [4, 5, 6, 7, 8, 9, 38, 39, 40, 41, 42] S S_53 → dg_FG S S_53 → Z2X S_53 → Z3X o S_53 → dg_fil S_53 pt → dg_fil S_53 d_2 → (F_e_agrees o S gr pt a1 a2 = lp (F_e_agrees_B1 a2 o gr d_2) (S, (0 : Int32)) n (x_52, S_53)) → ∀ (H : Heap) (locs : List Loc), va_P D vwCl (dg_w g shX o rfX S_53) H → va_S A s.heap H locs → ∀ ls : Array Slot, lv_has ls 7 [(6, .int x_52), (5, .ref (o + d_2)), (0, .ref (o + 229)), (1, .ref (o + gr)), (2, .ref (o + pt)), (3, .int a1), (4, .int a2)] → W p l e ({ frames := 6, cells := 0, slots := 0, locals := 149 } : Room) s m args below meth c H locs 0 0 (MQ below (va_Qi (fun (r : Int32) S' => CX o S' ∧ dg_sm shX [(3, 0), (3, 1), (36, 4), (36, 6), (36, 7), (36, 8), (36, 9), (36, 10), (36, 11), (36, 12), (37, 0), (37, 1), (37, 2), (37, 3), (37, 4), (37, 5), (37, 7)] [4, 5, 6, 7, 8, 9, 38, 39, 40, 41, 42] S S' ∧ (0 ≤ (r).toInt ∧ (r).toInt ≤ 1) ∧ Z2X S' ∧ Z3X o S' ∧ dg_FG S S' ∧ (S' = (F_e_agrees o S gr pt a1 a2).1 ∧ r = (F_e_agrees o S gr pt a1 a2).2) ∧ True) (dg_B g D shX o rfX) A) args s 0 0 A) (F0 m 28 ls []) := by
    as_aux_lemma =>
      intro n
      induction n with
      | zero =>
        intro x_52 b_x_52 hmu S_53 I_53 M_53 G_53 Z2_53 Z3_53 fl_53_0 fl_53_1 hF_1 H locs hP hS ls hl
        omega
      | succ n ih =>
        as_aux_lemma =>
          intro x_52 b_x_52 hmu S_53 I_53 M_53 G_53 Z2_53 Z3_53 fl_53_0 fl_53_1 hF_1 H locs hP hS ls hl
          refine lv_iload hx hb dX0_agrees_28 (lv_at hl 0 rfl) ?_
          refine lv_iload hx hb dX0_agrees_30 (lv_at hl 6 rfl) ?_
          refine lv_icmp_gt (tgt := 63) hx hb dX0_agrees_32 (dk_dq rfl) (fun c_55 => ?_) (fun c_55 => ?_)
          · have jc_55 := dk_gtc (k := (a2).toInt) rfl c_55
            refine lv_iconst (v := 1) hx hb dX0_agrees_63 (by decide +kernel) ?_
            have hz_56 : (1 : Int32).toInt = 1 := by decide +kernel
            refine W.widen (k := 0) (n := 0) (Nat.le_of_ble_eq_true rfl) (Nat.le_of_ble_eq_true rfl) ?_
            exact dg_iret hx hb hr hlocks (by decide +kernel) hP hS ⟨I_53, M_53, (by decide +kernel), Z2_53, Z3_53, G_53, ⟨congrArg Prod.fst (Eq.symm (lp_r hF_1 (F_e_agrees_p0 c_55))), congrArg Prod.snd (Eq.symm (lp_r hF_1 (F_e_agrees_p0 c_55)))⟩, trivial⟩ dX0_agrees_64
          · as_aux_lemma =>
              have jc_55 := dk_ngtc (k := (a2).toInt) rfl c_55
              refine lv_aload_n hx hb dX0_agrees_35 rfl (lv_at hl 2 rfl) ?_
              refine lv_aload_n hx hb dX0_agrees_36 rfl (lv_at hl 3 rfl) ?_
              refine lv_aload hx hb dX0_agrees_37 (lv_at hl 1 rfl) ?_
              refine lv_iload hx hb dX0_agrees_39 (lv_at hl 0 rfl) ?_
              refine dg_calli hS hA1 hA (va_runV (As := [.ref (o + gr), .ref (o + d_2), .int x_52]) (rest := []) F (c_e_agreesBehind l g D o S_53 gr hk_gr d_2 hk_d_2 x_52 I_53 H.size) (cwV 3 hts (bw_V wB_747 wB_748 wB_749 wB_730 wB_746) rfl rfl rfl (by decide +kernel) ⟨Nat.le_of_ble_eq_true rfl, Nat.le_of_ble_eq_true rfl⟩) (dg_preV sX_229 rfl K ST hP hS hA1 hA) rfl rfl hl.1 rfl (lv_room (Nat.le_of_ble_eq_true rfl)) dX0_agrees_41 ⟨Nat.le_of_ble_eq_true rfl, Nat.le_of_ble_eq_true rfl⟩) (fun x_57 S_58 hw_58 H locs hP hS => ?_)
              rw [hw_58.1] at hP
              obtain ⟨hq_58, w_58_0, w_58_1, -⟩ := hw_58
              have w_58_0 : 0 ≤ (x_57).toInt ∧ (x_57).toInt ≤ 1 := w_58_0
              refine lv_if_ne (tgt := 49) hx hb dX0_agrees_44 (dk_dq rfl) (fun c_59 => ?_) (fun c_59 => ?_)
              · have jc_59 := dk_neqc (k := 0) (by decide +kernel) c_59
                refine lv_aload_n hx hb dX0_agrees_49 rfl (lv_at hl 2 rfl) ?_
                refine dg_get (C := RX0) (T := TX0) (N := 9) hx hb hts (fun w h => bw_mem (wU_X0 w h)) hown K hP sX_229 rfl 0 (dk_dq rfl) (hts _ (bw_mem wB_744)) (fun _ h9 => h9) (v := .ref (o + 214)) (show S_53.1 229 0 = .ref (o + 214) from dg_I.abs (d := 214) I_53 sX_229 (by decide +kernel)) dX0_agrees_50 ?_
                refine lv_iconst (v := 1) hx hb dX0_agrees_53 (by decide +kernel) ?_
                refine dg_callv hS hA1 hA (va_runV (As := [.int 1]) (rest := []) F (c_w_pass l g D o S_53 1 Z2_53 Z3_53 I_53 H.size) (cwV 1 hts (bw_V wB_750 wB_680 wB_681 wB_594 wB_678) rfl rfl rfl (by decide +kernel) ⟨Nat.le_of_ble_eq_true rfl, Nat.le_of_ble_eq_true rfl⟩) (dg_preV sX_214 rfl K ST hP hS hA1 hA) rfl rfl hl.1 rfl (lv_room (Nat.le_of_ble_eq_true rfl)) dX0_agrees_54 ⟨Nat.le_of_ble_eq_true rfl, Nat.le_of_ble_eq_true rfl⟩) (fun S_60 hw_60 H locs hP hS => ?_)
                obtain ⟨I_60, m_60, w_60_0, w_60_1, w_60_2, w_60_3, -⟩ := hw_60
                have M_60 := dg_sm.tr M_53 m_60 (dk_dq rfl) (dk_dq rfl)
                obtain ⟨x_61, ex_61⟩ : ∃ z, z = x_52 + 1 := ⟨_, rfl⟩
                have jx_61 : (x_61).toInt = (x_52).toInt + 1 := by rw [ex_61]; exact dk_addT2 rfl (by decide +kernel) (by omega)
                refine lv_iinc (v := x_61) (lv' := [(6, .int x_61), (5, .ref (o + d_2)), (0, .ref (o + 229)), (1, .ref (o + gr)), (2, .ref (o + pt)), (3, .int a1), (4, .int a2)]) hx hb dX0_agrees_57 hl (k := 0) rfl (by rw [ex_61]; rfl) (dk_dq rfl) rfl (fun ls hl => ?_)
                refine lv_goto (tgt := 28) hx hb dX0_agrees_60 (dk_dq rfl) ?_
                exact ih x_61 (by omega) (by first | exact mu_lt hmu (by omega) (by omega) | omega) S_60 I_60 M_60 (dg_FG.tr G_53 w_60_2) w_60_0 w_60_1 (w_60_2 pt hk_pt fl_53_0) (w_60_2 d_2 hk_d_2 fl_53_1) (lp_l hF_1 (F_e_agrees_p1 c_55 w_58_1 c_59 w_60_3 ex_61)) _ _ hP hS _ (lv_sub hl [0, 1, 2, 3, 4, 5, 6] rfl)
              · have jc_59 := dk_eqc (k := 0) (by decide +kernel) c_59
                refine lv_iconst (v := 0) hx hb dX0_agrees_47 (by decide +kernel) ?_
                have hz_62 : (0 : Int32).toInt = 0 := by decide +kernel
                refine W.widen (k := 0) (n := 0) (Nat.le_of_ble_eq_true rfl) (Nat.le_of_ble_eq_true rfl) ?_
                exact dg_iret hx hb hr hlocks (by decide +kernel) hP hS ⟨I_53, M_53, (by decide +kernel), Z2_53, Z3_53, G_53, ⟨congrArg Prod.fst (Eq.symm (lp_r hF_1 (F_e_agrees_p2 c_55 w_58_1 c_59))), congrArg Prod.snd (Eq.symm (lp_r hF_1 (F_e_agrees_p2 c_55 w_58_1 c_59)))⟩, trivial⟩ dX0_agrees_48
  have hz_63 : (0 : Int32).toInt = 0 := by decide +kernel
  have hz_64 : (0 : Int32).toInt = 0 := by decide +kernel
  exact L_54 ((257 - ((0 : Int32)).toInt).toNat + 1) 0 (by decide +kernel) (by first | exact mu_lt hmu (by omega) (by omega) | omega) S_4 I_4 M_4 (dg_FG.tr w_3_1 (dg_FG.sm m_4 (dk_dq rfl))) (Z2X.keep (Z2X.keep Z2 m_3 (dk_dq rfl) (dk_dq rfl)) m_4 (dk_dq rfl) (dk_dq rfl)) w_4_0 ((dg_FG.tr w_3_1 (dg_FG.sm m_4 (dk_dq rfl))) pt hk_pt hf_pt) ((dg_FG.sm m_4 (dk_dq rfl)) d_2 hk_d_2 w_3_0) (F_e_agrees_p3 q_d_2 w_3_2 w_4_1) _ _ hP hS _ (lv_sub hl [0, 1, 2, 3, 4, 5, 6] rfl)
noncomputable def F_e_reachBits_J3 (x_167 : Int32) (x_177 : Int32) (S_173 : dg_S) : (Int32 × Int32 × dg_S) ⊕ (dg_S × Int32) := let x_180 : Int32 := x_167 + 1; (Sum.inl (x_180, x_177, S_173))
noncomputable def F_e_reachBits_B2 (o : Nat) (gr : Nat) (pt : Nat) (x_54 : Int32) : (Int32 × Int32 × dg_S) → (Int32 × Int32 × dg_S) ⊕ (dg_S × Int32) := fun w9 => match w9 with | (x_167, x_168, S_169) => (if (21 : Int32) ≤ x_167 then (Sum.inr ((S_169, x_168))) else let S_173 : dg_S := (F_e_agrees o S_169 gr pt x_167 x_54).1; let x_172 : Int32 := (F_e_agrees o S_169 gr pt x_167 x_54).2; (if x_172 = (0 : Int32) then (F_e_reachBits_J3 x_167 x_168 S_173) else let x_182 : Int32 := (1 : Int32) <<< (x_167 &&& 31); let x_183 : Int32 := x_168 ||| x_182; (F_e_reachBits_J3 x_167 x_183 S_173)))
noncomputable def F_e_reachBits_J1 (S : dg_S) (pt : Nat) (x_54 : Int32) (o : Nat) (gr : Nat) : dg_S × Int32 := let x_117 : Int32 := zI S pt 0; let x_118 : Int32 := x_117 + x_54; (if x_118 ≤ (999 : Int32) then (lp (F_e_reachBits_B2 o gr pt x_54) (S, (0 : Int32)) ((22 - ((0 : Int32)).toInt).toNat + 1) ((0 : Int32), (0 : Int32), S)) else (S, (0 : Int32)))
noncomputable def F_e_reachBits_B4 (S : dg_S) (pt : Nat) (o : Nat) (gr : Nat) : (Int32 × Int32) → (Int32 × Int32) ⊕ (dg_S × Int32) := fun w9 => match w9 with | (x_236, x_237) => let x_239 : Int32 := zI S 229 5; (if x_239 ≤ x_236 then (Sum.inr ((F_e_reachBits_J1 S pt x_237 o gr))) else let x_242 : Int32 := (4 : Int32) * x_236; let x_244 : Int32 := S.2.1 230 (x_242 : Int32).toNatClampNeg; let x_245 : Int32 := if x_237 < x_244 then x_244 else x_237; let x_246 : Int32 := x_236 + 1; (Sum.inl (x_246, x_245)))
noncomputable def F_e_reachBits (o : Nat) (S : dg_S) (gr : Nat) (pt : Nat) : dg_S × Int32 := (lp (F_e_reachBits_B4 S pt o gr) (S, (0 : Int32)) ((17 - ((0 : Int32)).toInt).toNat + 1) ((0 : Int32), (0 : Int32)))
theorem F_e_reachBits_p0 {o : Nat} {gr : Nat} {pt : Nat} {x_54 : Int32} {x_167 : Int32} {x_168 : Int32} {S_169 : dg_S} (h0 : (21 : Int32) ≤ x_167) : (F_e_reachBits_B2 o gr pt x_54) (x_167, x_168, S_169) = Sum.inr ((S_169, x_168)) := (Eq.trans (if_pos h0) rfl)
theorem F_e_reachBits_p1 {x_167 : Int32} {x_177 : Int32} {S_173 : dg_S} {x_180 : Int32} (h0 : x_180 = x_167 + 1) : F_e_reachBits_J3 x_167 x_177 S_173 = Sum.inl (x_180, x_177, S_173) := by
  replace h0 := Eq.symm h0
  subst h0
  exact rfl
theorem F_e_reachBits_p2 {o : Nat} {gr : Nat} {pt : Nat} {x_54 : Int32} {x_167 : Int32} {x_168 : Int32} {S_169 : dg_S} {S_173 : dg_S} {x_172 : Int32} (h0 : ¬ ((21 : Int32) ≤ x_167)) (h1 : S_173 = (F_e_agrees o S_169 gr pt x_167 x_54).1) (h2 : x_172 = (F_e_agrees o S_169 gr pt x_167 x_54).2) (h3 : x_172 = (0 : Int32)) : (F_e_reachBits_B2 o gr pt x_54) (x_167, x_168, S_169) = F_e_reachBits_J3 x_167 x_168 S_173 := by
  replace h1 := Eq.symm h1
  subst h1
  replace h2 := Eq.symm h2
  subst h2
  exact (Eq.trans (if_neg h0) (Eq.trans (if_pos h3) rfl))
theorem F_e_reachBits_p3 {o : Nat} {gr : Nat} {pt : Nat} {x_54 : Int32} {x_167 : Int32} {x_168 : Int32} {S_169 : dg_S} {x_183 : Int32} {S_173 : dg_S} {x_172 : Int32} {x_182 : Int32} (h0 : ¬ ((21 : Int32) ≤ x_167)) (h1 : S_173 = (F_e_agrees o S_169 gr pt x_167 x_54).1) (h2 : x_172 = (F_e_agrees o S_169 gr pt x_167 x_54).2) (h3 : ¬ (x_172 = (0 : Int32))) (h4 : x_182 = (1 : Int32) <<< (x_167 &&& 31)) (h5 : x_183 = x_168 ||| x_182) : (F_e_reachBits_B2 o gr pt x_54) (x_167, x_168, S_169) = F_e_reachBits_J3 x_167 x_183 S_173 := by
  replace h1 := Eq.symm h1
  subst h1
  replace h2 := Eq.symm h2
  subst h2
  replace h4 := Eq.symm h4
  subst h4
  replace h5 := Eq.symm h5
  subst h5
  exact (Eq.trans (if_neg h0) (Eq.trans (if_neg h3) rfl))
theorem F_e_reachBits_p4 {S : dg_S} {pt : Nat} {x_54 : Int32} {o : Nat} {gr : Nat} {x_117 : Int32} {x_118 : Int32} (h0 : x_117 = zI S pt 0) (h1 : x_118 = x_117 + x_54) (h2 : x_118 ≤ (999 : Int32)) : F_e_reachBits_J1 S pt x_54 o gr = lp (F_e_reachBits_B2 o gr pt x_54) (S, (0 : Int32)) ((22 - ((0 : Int32)).toInt).toNat + 1) ((0 : Int32), (0 : Int32), S) := by
  replace h0 := Eq.symm h0
  subst h0
  replace h1 := Eq.symm h1
  subst h1
  exact (Eq.trans (if_pos h2) rfl)
theorem F_e_reachBits_p5 {S : dg_S} {pt : Nat} {x_54 : Int32} {o : Nat} {gr : Nat} {x_117 : Int32} {x_118 : Int32} (h0 : x_117 = zI S pt 0) (h1 : x_118 = x_117 + x_54) (h2 : ¬ (x_118 ≤ (999 : Int32))) : F_e_reachBits_J1 S pt x_54 o gr = (S, (0 : Int32)) := by
  replace h0 := Eq.symm h0
  subst h0
  replace h1 := Eq.symm h1
  subst h1
  exact (Eq.trans (if_neg h2) rfl)
theorem F_e_reachBits_p6 {S : dg_S} {pt : Nat} {o : Nat} {gr : Nat} {x_236 : Int32} {x_237 : Int32} {x_239 : Int32} (h0 : x_239 = zI S 229 5) (h1 : x_239 ≤ x_236) : (F_e_reachBits_B4 S pt o gr) (x_236, x_237) = Sum.inr (F_e_reachBits_J1 S pt x_237 o gr) := by
  replace h0 := Eq.symm h0
  subst h0
  exact (Eq.trans (if_pos h1) rfl)
theorem F_e_reachBits_p7 {S : dg_S} {pt : Nat} {o : Nat} {gr : Nat} {x_236 : Int32} {x_237 : Int32} {x_246 : Int32} {x_245 : Int32} {x_239 : Int32} {x_242 : Int32} {x_244 : Int32} (h0 : x_239 = zI S 229 5) (h1 : ¬ (x_239 ≤ x_236)) (h2 : x_242 = (4 : Int32) * x_236) (h3 : x_244 = S.2.1 230 (x_242 : Int32).toNatClampNeg) (h4 : x_245 = if x_237 < x_244 then x_244 else x_237) (h5 : x_246 = x_236 + 1) : (F_e_reachBits_B4 S pt o gr) (x_236, x_237) = Sum.inl (x_246, x_245) := by
  replace h0 := Eq.symm h0
  subst h0
  replace h2 := Eq.symm h2
  subst h2
  replace h3 := Eq.symm h3
  subst h3
  replace h4 := Eq.symm h4
  subst h4
  replace h5 := Eq.symm h5
  subst h5
  exact (Eq.trans (if_neg h1) rfl)
theorem F_e_reachBits_p8 {o : Nat} {S : dg_S} {gr : Nat} {pt : Nat}  : F_e_reachBits o S gr pt = lp (F_e_reachBits_B4 S pt o gr) (S, (0 : Int32)) ((17 - ((0 : Int32)).toInt).toNat + 1) ((0 : Int32), (0 : Int32)) := rfl
set_option maxHeartbeats 8000000 in
set_option maxRecDepth 100000 in
theorem c_e_reachBits (l : Launch) (g : Nat → ClassId) (D : va_G) (o : Nat) (S : dg_S) (gr : Nat) (hk_gr : rX gr) (pt : Nat) (hk_pt : pX pt) (hf_pt : dg_fil S pt) (Z2 : Z2X S) (Z3 : Z3X o S) (I : CX o S) (sz : Nat) : Met l yX0_reachBits (bw yX0_reachBits cX0_reachBits 6 (some .int)) ({ frames := 7, cells := 0, slots := 0, locals := 175 } : Room) (dk_Pc g D (dg_w g shX o rfX S) sz [.ref (o + 229), .ref (o + gr), .ref (o + pt)]) (va_Qi (fun (r : Int32) S' => CX o S' ∧ dg_sm shX [(3, 0), (3, 1), (36, 4), (36, 6), (36, 7), (36, 8), (36, 9), (36, 10), (36, 11), (36, 12), (37, 0), (37, 1), (37, 2), (37, 3), (37, 4), (37, 5), (37, 7)] [4, 5, 6, 7, 8, 9, 38, 39, 40, 41, 42] S S' ∧ Z2X S' ∧ Z3X o S' ∧ dg_FG S S' ∧ (S' = (F_e_reachBits o S gr pt).1 ∧ r = (F_e_reachBits o S gr pt).2) ∧ True) (dg_B g D shX o rfX) (dg_A o shX.length sz)) 0 0 (dg_A o shX.length sz) := by
  refine dg_met (cc := cX0_reachBits) (maxL := 6) (ret := (some .int)) (dk_dq rfl) rfl (Nat.le_of_ble_eq_true rfl) ?_
  intro p e s m args below meth c A hAe harg hx hb hr hml hts hown hlocks hin hP K hS hA1 hA ST hsz ls hl
  rw [← hAe]
  have F : CallFix p m c cX0_reachBits 6 s args (bw yX0_reachBits cX0_reachBits 6 (some .int)) RX0 := ⟨hx, hb, hml, hown, hts⟩
  have hl : lv_has ls 6 [(0, .ref (o + 229)), (1, .ref (o + gr)), (2, .ref (o + pt))] := hl
  have M_0 : dg_sm shX [(3, 0), (3, 1), (36, 4), (36, 6), (36, 7), (36, 8), (36, 9), (36, 10), (36, 11), (36, 12), (37, 0), (37, 1), (37, 2), (37, 3), (37, 4), (37, 5), (37, 7)] [4, 5, 6, 7, 8, 9, 38, 39, 40, 41, 42] S S := dg_sm.rf
  refine lv_iconst (v := 0) hx hb dX0_reachBits_0 (by decide +kernel) ?_
  refine lv_istore_n (lv' := [(3, .int 0), (0, .ref (o + 229)), (1, .ref (o + gr)), (2, .ref (o + pt))]) hx hb dX0_reachBits_1 rfl hl (dk_dq rfl) rfl (fun ls hl => ?_)
  refine lv_iconst (v := 0) hx hb dX0_reachBits_2 (by decide +kernel) ?_
  refine lv_istore (lv' := [(4, .int 0), (3, .int 0), (0, .ref (o + 229)), (1, .ref (o + gr)), (2, .ref (o + pt))]) hx hb dX0_reachBits_3 hl (dk_dq rfl) rfl (fun ls hl => ?_)
  have J_116 : ∀ (x_53 : Int32) (x_54 : Int32), (0 ≤ (x_53).toInt ∧ (x_53).toInt ≤ 2147483647) → (0 ≤ (x_54).toInt ∧ (x_54).toInt ≤ 255) → (F_e_reachBits o S gr pt = F_e_reachBits_J1 S pt x_54 o gr) → ∀ (H : Heap) (locs : List Loc), va_P D vwCl (dg_w g shX o rfX S) H → va_S A s.heap H locs → ∀ ls : Array Slot, lv_has ls 6 [(4, .int x_53), (3, .int x_54), (0, .ref (o + 229)), (1, .ref (o + gr)), (2, .ref (o + pt))] → W p l e ({ frames := 7, cells := 0, slots := 0, locals := 175 } : Room) s m args below meth c H locs 0 0 (MQ below (va_Qi (fun (r : Int32) S' => CX o S' ∧ dg_sm shX [(3, 0), (3, 1), (36, 4), (36, 6), (36, 7), (36, 8), (36, 9), (36, 10), (36, 11), (36, 12), (37, 0), (37, 1), (37, 2), (37, 3), (37, 4), (37, 5), (37, 7)] [4, 5, 6, 7, 8, 9, 38, 39, 40, 41, 42] S S' ∧ Z2X S' ∧ Z3X o S' ∧ dg_FG S S' ∧ (S' = (F_e_reachBits o S gr pt).1 ∧ r = (F_e_reachBits o S gr pt).2) ∧ True) (dg_B g D shX o rfX) A) args s 0 0 A) (F0 m 34 ls []) := by
    as_aux_lemma =>
      intro x_53 x_54 b_x_53 b_x_54 hF_1 H locs hP hS ls hl
      refine lv_aload_n hx hb dX0_reachBits_34 rfl (lv_at hl 4 rfl) ?_
      obtain ⟨x_117, f_x_117, b_x_117⟩ := dg_I.int (i := pt) (k := 0) (lo := 0) (hi := 65535) I (pX_0 pt hk_pt) (by decide +kernel)
      refine dg_get (C := RX5) (T := TX5) (N := 8) hx hb hts (fun w h => bw_mem (wU_X5 w h)) hown K hP (pX_0 pt hk_pt) rfl 0 (dk_dq rfl) (hts _ (bw_mem wB_752)) (fun _ h9 => h9) (v := .int x_117) f_x_117 dX0_reachBits_35 ?_
      refine lv_iload_n hx hb dX0_reachBits_38 rfl (lv_at hl 1 rfl) ?_
      refine lv_iadd hx hb dX0_reachBits_39 ?_
      refine lv_topi (fun x_118 ex_118 => ?_)
      have jx_118 : (x_118).toInt = (x_117).toInt + (x_54).toInt := by rw [ex_118]; exact dk_addT2 rfl rfl (by omega)
      refine lv_sipush (v := 999) hx hb dX0_reachBits_40 (by decide +kernel) ?_
      refine lv_icmp_le (tgt := 48) hx hb dX0_reachBits_43 (dk_dq rfl) (fun c_119 => ?_) (fun c_119 => ?_)
      · as_aux_lemma =>
          have jc_119 := dk_lec (k := 999) (by decide +kernel) c_119
          refine lv_iconst (v := 0) hx hb dX0_reachBits_48 (by decide +kernel) ?_
          refine lv_istore (lv' := [(4, .int 0), (3, .int x_54), (0, .ref (o + 229)), (1, .ref (o + gr)), (2, .ref (o + pt))]) hx hb dX0_reachBits_49 hl (dk_dq rfl) rfl (fun ls hl => ?_)
          refine lv_iconst (v := 0) hx hb dX0_reachBits_51 (by decide +kernel) ?_
          refine lv_istore (lv' := [(5, .int 0), (4, .int 0), (3, .int x_54), (0, .ref (o + 229)), (1, .ref (o + gr)), (2, .ref (o + pt))]) hx hb dX0_reachBits_52 hl (dk_dq rfl) rfl (fun ls hl => ?_)
          have L_170 : ∀ (n : Nat) (x_167 : Int32) (x_168 : Int32), (0 ≤ (x_167).toInt ∧ (x_167).toInt ≤ 21) → ((22 - (x_167).toInt).toNat < n) → ∀ S_169 : dg_S, CX o S_169 → dg_sm shX [(3, 0), (3, 1), (36, 4), (36, 6), (36, 7), (36, 8), (36, 9), (36, 10), (36, 11), (36, 12), (37, 0), (37, 1), (37, 2), (37, 3), (37, 4), (37, 5), (37, 7)] [4, 5, 6, 7, 8, 9, 38, 39, 40, 41, 42] S S_169 → dg_FG S S_169 → Z2X S_169 → Z3X o S_169 → dg_fil S_169 pt → (F_e_reachBits o S gr pt = lp (F_e_reachBits_B2 o gr pt x_54) (S, (0 : Int32)) n (x_167, x_168, S_169)) → ∀ (H : Heap) (locs : List Loc), va_P D vwCl (dg_w g shX o rfX S_169) H → va_S A s.heap H locs → ∀ ls : Array Slot, lv_has ls 6 [(5, .int x_167), (4, .int x_168), (3, .int x_54), (0, .ref (o + 229)), (1, .ref (o + gr)), (2, .ref (o + pt))] → W p l e ({ frames := 7, cells := 0, slots := 0, locals := 175 } : Room) s m args below meth c H locs 0 0 (MQ below (va_Qi (fun (r : Int32) S' => CX o S' ∧ dg_sm shX [(3, 0), (3, 1), (36, 4), (36, 6), (36, 7), (36, 8), (36, 9), (36, 10), (36, 11), (36, 12), (37, 0), (37, 1), (37, 2), (37, 3), (37, 4), (37, 5), (37, 7)] [4, 5, 6, 7, 8, 9, 38, 39, 40, 41, 42] S S' ∧ Z2X S' ∧ Z3X o S' ∧ dg_FG S S' ∧ (S' = (F_e_reachBits o S gr pt).1 ∧ r = (F_e_reachBits o S gr pt).2) ∧ True) (dg_B g D shX o rfX) A) args s 0 0 A) (F0 m 54 ls []) := by
            as_aux_lemma =>
              intro n
              induction n with
              | zero =>
                intro x_167 x_168 b_x_167 hmu S_169 I_169 M_169 G_169 Z2_169 Z3_169 fl_169_0 hF_2 H locs hP hS ls hl
                omega
              | succ n ih =>
                as_aux_lemma =>
                  intro x_167 x_168 b_x_167 hmu S_169 I_169 M_169 G_169 Z2_169 Z3_169 fl_169_0 hF_2 H locs hP hS ls hl
                  refine lv_iload hx hb dX0_reachBits_54 (lv_at hl 0 rfl) ?_
                  refine lv_bipush (v := 21) hx hb dX0_reachBits_56 (by decide +kernel) ?_
                  refine lv_icmp_ge (tgt := 88) hx hb dX0_reachBits_58 (dk_dq rfl) (fun c_171 => ?_) (fun c_171 => ?_)
                  · have jc_171 := dk_gec (k := 21) (by decide +kernel) c_171
                    refine lv_iload hx hb dX0_reachBits_88 (lv_at hl 1 rfl) ?_
                    refine W.widen (k := 0) (n := 0) (Nat.le_of_ble_eq_true rfl) (Nat.le_of_ble_eq_true rfl) ?_
                    exact dg_iret hx hb hr hlocks rfl hP hS ⟨I_169, M_169, Z2_169, Z3_169, G_169, ⟨congrArg Prod.fst (Eq.symm (lp_r hF_2 (F_e_reachBits_p0 c_171))), congrArg Prod.snd (Eq.symm (lp_r hF_2 (F_e_reachBits_p0 c_171)))⟩, trivial⟩ dX0_reachBits_90
                  · as_aux_lemma =>
                      have jc_171 := dk_ngec (k := 21) (by decide +kernel) c_171
                      refine lv_aload_n hx hb dX0_reachBits_61 rfl (lv_at hl 3 rfl) ?_
                      refine lv_aload_n hx hb dX0_reachBits_62 rfl (lv_at hl 4 rfl) ?_
                      refine lv_aload_n hx hb dX0_reachBits_63 rfl (lv_at hl 5 rfl) ?_
                      refine lv_iload hx hb dX0_reachBits_64 (lv_at hl 0 rfl) ?_
                      refine lv_iload_n hx hb dX0_reachBits_66 rfl (lv_at hl 2 rfl) ?_
                      refine dg_calli hS hA1 hA (va_runV (As := [.ref (o + gr), .ref (o + pt), .int x_167, .int x_54]) (rest := []) F (c_e_agrees l g D o S_169 gr hk_gr pt hk_pt x_167 (by omega) x_54 (by omega) fl_169_0 Z2_169 Z3_169 I_169 H.size) (cwV 4 hts (bw_V wB_754 wB_755 wB_756 wB_730 wB_753) rfl rfl rfl (by decide +kernel) ⟨Nat.le_of_ble_eq_true rfl, Nat.le_of_ble_eq_true rfl⟩) (dg_preV sX_229 rfl K ST hP hS hA1 hA) rfl rfl hl.1 rfl (lv_room (Nat.le_of_ble_eq_true rfl)) dX0_reachBits_67 ⟨Nat.le_of_ble_eq_true rfl, Nat.le_of_ble_eq_true rfl⟩) (fun x_172 S_173 hw_173 H locs hP hS => ?_)
                      obtain ⟨I_173, m_173, w_173_0, w_173_1, w_173_2, w_173_3, w_173_4, -⟩ := hw_173
                      have M_173 := dg_sm.tr M_169 m_173 (dk_dq rfl) (dk_dq rfl)
                      have w_173_0 : 0 ≤ (x_172).toInt ∧ (x_172).toInt ≤ 1 := w_173_0
                      have J_179 : ∀ (x_177 : Int32), ((F_e_reachBits_B2 o gr pt x_54) (x_167, x_168, S_169) = F_e_reachBits_J3 x_167 x_177 S_173) → ∀ (H : Heap) (locs : List Loc), va_P D vwCl (dg_w g shX o rfX S_173) H → va_S A s.heap H locs → ∀ ls : Array Slot, lv_has ls 6 [(5, .int x_167), (4, .int x_177), (3, .int x_54), (0, .ref (o + 229)), (1, .ref (o + gr)), (2, .ref (o + pt))] → W p l e ({ frames := 7, cells := 0, slots := 0, locals := 175 } : Room) s m args below meth c H locs 0 0 (MQ below (va_Qi (fun (r : Int32) S' => CX o S' ∧ dg_sm shX [(3, 0), (3, 1), (36, 4), (36, 6), (36, 7), (36, 8), (36, 9), (36, 10), (36, 11), (36, 12), (37, 0), (37, 1), (37, 2), (37, 3), (37, 4), (37, 5), (37, 7)] [4, 5, 6, 7, 8, 9, 38, 39, 40, 41, 42] S S' ∧ Z2X S' ∧ Z3X o S' ∧ dg_FG S S' ∧ (S' = (F_e_reachBits o S gr pt).1 ∧ r = (F_e_reachBits o S gr pt).2) ∧ True) (dg_B g D shX o rfX) A) args s 0 0 A) (F0 m 82 ls []) := by
                        intro x_177 hF_3 H locs hP hS ls hl
                        obtain ⟨x_180, ex_180⟩ : ∃ z, z = x_167 + 1 := ⟨_, rfl⟩
                        have jx_180 : (x_180).toInt = (x_167).toInt + 1 := by rw [ex_180]; exact dk_addT2 rfl (by decide +kernel) (by omega)
                        refine lv_iinc (v := x_180) (lv' := [(5, .int x_180), (4, .int x_177), (3, .int x_54), (0, .ref (o + 229)), (1, .ref (o + gr)), (2, .ref (o + pt))]) hx hb dX0_reachBits_82 hl (k := 0) rfl (by rw [ex_180]; rfl) (dk_dq rfl) rfl (fun ls hl => ?_)
                        refine lv_goto (tgt := 54) hx hb dX0_reachBits_85 (dk_dq rfl) ?_
                        exact ih x_180 x_177 (by omega) (by first | exact mu_lt hmu (by omega) (by omega) | omega) S_173 I_173 M_173 (dg_FG.tr G_169 w_173_3) w_173_1 w_173_2 (w_173_3 pt hk_pt fl_169_0) (lp_l hF_2 (Eq.trans hF_3 (F_e_reachBits_p1 ex_180))) _ _ hP hS _ (lv_sub hl [0, 1, 2, 3, 4, 5] rfl)
                      refine lv_if_eq (tgt := 82) hx hb dX0_reachBits_70 (dk_dq rfl) (fun c_181 => ?_) (fun c_181 => ?_)
                      · have jc_181 := dk_eqc (k := 0) (by decide +kernel) c_181
                        exact J_179 x_168  (F_e_reachBits_p2 c_171 w_173_4.1 w_173_4.2 c_181) _ _ hP hS _ (lv_sub hl [0, 1, 2, 3, 4, 5] rfl)
                      · have jc_181 := dk_neqc (k := 0) (by decide +kernel) c_181
                        refine lv_iload hx hb dX0_reachBits_73 (lv_at hl 1 rfl) ?_
                        refine lv_iconst (v := 1) hx hb dX0_reachBits_75 (by decide +kernel) ?_
                        refine lv_iload hx hb dX0_reachBits_76 (lv_at hl 0 rfl) ?_
                        refine lv_ishl hx hb dX0_reachBits_78 ?_
                        refine lv_topi (fun x_182 ex_182 => ?_)
                        refine lv_ior hx hb dX0_reachBits_79 ?_
                        refine lv_topi (fun x_183 ex_183 => ?_)
                        refine lv_istore (lv' := [(4, .int x_183), (5, .int x_167), (3, .int x_54), (0, .ref (o + 229)), (1, .ref (o + gr)), (2, .ref (o + pt))]) hx hb dX0_reachBits_80 hl (dk_dq rfl) rfl (fun ls hl => ?_)
                        exact J_179 x_183  (F_e_reachBits_p3 c_171 w_173_4.1 w_173_4.2 c_181 ex_182 ex_183) _ _ hP hS _ (lv_sub hl [1, 0, 2, 3, 4, 5] rfl)
          have hz_184 : (0 : Int32).toInt = 0 := by decide +kernel
          have hz_185 : (0 : Int32).toInt = 0 := by decide +kernel
          have hz_186 : (0 : Int32).toInt = 0 := by decide +kernel
          exact L_170 ((22 - ((0 : Int32)).toInt).toNat + 1) 0 0 (by decide +kernel) (by first | exact mu_lt hmu (by omega) (by omega) | omega) S I M_0 dg_FG.rf Z2 Z3 hf_pt (Eq.trans hF_1 (F_e_reachBits_p4 (zI_eq f_x_117) ex_118 c_119)) _ _ hP hS _ (lv_sub hl [0, 1, 2, 3, 4, 5] rfl)
      · have jc_119 := dk_nlec (k := 999) (by decide +kernel) c_119
        refine lv_iconst (v := 0) hx hb dX0_reachBits_46 (by decide +kernel) ?_
        refine W.widen (k := 0) (n := 0) (Nat.le_of_ble_eq_true rfl) (Nat.le_of_ble_eq_true rfl) ?_
        exact dg_iret hx hb hr hlocks rfl hP hS ⟨I, M_0, Z2, Z3, dg_FG.rf, ⟨congrArg Prod.fst (Eq.symm (Eq.trans hF_1 (F_e_reachBits_p5 (zI_eq f_x_117) ex_118 c_119))), congrArg Prod.snd (Eq.symm (Eq.trans hF_1 (F_e_reachBits_p5 (zI_eq f_x_117) ex_118 c_119)))⟩, trivial⟩ dX0_reachBits_47
  have L_238 : ∀ (n : Nat) (x_236 : Int32) (x_237 : Int32), (0 ≤ (x_236).toInt ∧ (x_236).toInt ≤ 16) → (0 ≤ (x_237).toInt ∧ (x_237).toInt ≤ 255) → ((17 - (x_236).toInt).toNat < n) → (F_e_reachBits o S gr pt = lp (F_e_reachBits_B4 S pt o gr) (S, (0 : Int32)) n (x_236, x_237)) → ∀ (H : Heap) (locs : List Loc), va_P D vwCl (dg_w g shX o rfX S) H → va_S A s.heap H locs → ∀ ls : Array Slot, lv_has ls 6 [(4, .int x_236), (3, .int x_237), (0, .ref (o + 229)), (1, .ref (o + gr)), (2, .ref (o + pt))] → W p l e ({ frames := 7, cells := 0, slots := 0, locals := 175 } : Room) s m args below meth c H locs 0 0 (MQ below (va_Qi (fun (r : Int32) S' => CX o S' ∧ dg_sm shX [(3, 0), (3, 1), (36, 4), (36, 6), (36, 7), (36, 8), (36, 9), (36, 10), (36, 11), (36, 12), (37, 0), (37, 1), (37, 2), (37, 3), (37, 4), (37, 5), (37, 7)] [4, 5, 6, 7, 8, 9, 38, 39, 40, 41, 42] S S' ∧ Z2X S' ∧ Z3X o S' ∧ dg_FG S S' ∧ (S' = (F_e_reachBits o S gr pt).1 ∧ r = (F_e_reachBits o S gr pt).2) ∧ True) (dg_B g D shX o rfX) A) args s 0 0 A) (F0 m 5 ls []) := by
    as_aux_lemma =>
      intro n
      induction n with
      | zero =>
        intro x_236 x_237 b_x_236 b_x_237 hmu hF_4 H locs hP hS ls hl
        omega
      | succ n ih =>
        as_aux_lemma =>
          intro x_236 x_237 b_x_236 b_x_237 hmu hF_4 H locs hP hS ls hl
          refine lv_iload hx hb dX0_reachBits_5 (lv_at hl 0 rfl) ?_
          refine lv_aload_n hx hb dX0_reachBits_7 rfl (lv_at hl 2 rfl) ?_
          obtain ⟨x_239, f_x_239, b_x_239⟩ := dg_I.int (i := 229) (k := 5) (lo := 0) (hi := 16) I sX_229 (by decide +kernel)
          refine dg_get (C := RX0) (T := TX0) (N := 9) hx hb hts (fun w h => bw_mem (wU_X0 w h)) hown K hP sX_229 rfl 5 (dk_dq rfl) (hts _ (bw_mem wB_733)) (fun _ h9 => h9) (v := .int x_239) f_x_239 dX0_reachBits_8 ?_
          refine lv_icmp_ge (tgt := 34) hx hb dX0_reachBits_11 (dk_dq rfl) (fun c_240 => ?_) (fun c_240 => ?_)
          · have jc_240 := dk_gec (k := (x_239).toInt) rfl c_240
            have hf_240 := dk_full x_236
            exact J_116 x_236 x_237 (by omega) (by omega) (lp_r hF_4 (F_e_reachBits_p6 (zI_eq f_x_239) c_240)) _ _ hP hS _ (lv_sub hl [0, 1, 2, 3, 4] rfl)
          · as_aux_lemma =>
              have jc_240 := dk_ngec (k := (x_239).toInt) rfl c_240
              refine lv_iload_n hx hb dX0_reachBits_14 rfl (lv_at hl 1 rfl) ?_
              refine lv_aload_n hx hb dX0_reachBits_15 rfl (lv_at hl 2 rfl) ?_
              refine dg_get (C := RX0) (T := TX0) (N := 9) hx hb hts (fun w h => bw_mem (wU_X0 w h)) hown K hP sX_229 rfl 1 (dk_dq rfl) (hts _ (bw_mem wB_731)) (fun _ h9 => h9) (v := .ref (o + 230)) (show S.1 229 1 = .ref (o + 230) from dg_I.rel (d := 1) I sX_229 (by decide +kernel)) dX0_reachBits_16 ?_
              refine lv_iconst (v := 4) hx hb dX0_reachBits_19 (by decide +kernel) ?_
              refine lv_iload hx hb dX0_reachBits_20 (lv_at hl 0 rfl) ?_
              refine lv_imul hx hb dX0_reachBits_22 ?_
              refine lv_topi (fun x_242 ex_242 => ?_)
              have jx_242 : (x_242).toInt = 4 * (x_236).toInt := by rw [ex_242]; exact dk_mulT2 (by decide +kernel) rfl (by omega)
              have hin_243 : vp_in x_242 64 := (dk_inv2 (by omega))
              refine dg_iald hx hb K hP sX_230 hin_243 dX0_reachBits_23 (fun x_244 ex_244 => ?_)
              have b_x_244 := dk_all_at (dg_I.row (lo := 0) (hi := 255) I sX_230 (by decide +kernel)) hin_243 ex_244
              refine va_mmax hx hb (by rw [hml]; exact hl.1.symm) hown (hts _ (bw_mem wB_751)) (hts _ (bw_mem wB_638)) (hts _ (bw_mem wB_505)) (hts _ (bw_mem wB_639)) (Nat.le_of_ble_eq_true rfl) (Nat.le_of_ble_eq_true rfl) (Nat.le_of_ble_eq_true rfl) (Nat.le_of_ble_eq_true rfl) dX0_reachBits_24 ?_
              refine lv_topi (fun x_245 ex_245 => ?_)
              have jx_245 := dk_maxT (a := (x_237).toInt) (b := (x_244).toInt) rfl rfl ex_245
              refine lv_istore_n (lv' := [(3, .int x_245), (4, .int x_236), (0, .ref (o + 229)), (1, .ref (o + gr)), (2, .ref (o + pt))]) hx hb dX0_reachBits_27 rfl hl (dk_dq rfl) rfl (fun ls hl => ?_)
              obtain ⟨x_246, ex_246⟩ : ∃ z, z = x_236 + 1 := ⟨_, rfl⟩
              have jx_246 : (x_246).toInt = (x_236).toInt + 1 := by rw [ex_246]; exact dk_addT2 rfl (by decide +kernel) (by omega)
              refine lv_iinc (v := x_246) (lv' := [(4, .int x_246), (3, .int x_245), (0, .ref (o + 229)), (1, .ref (o + gr)), (2, .ref (o + pt))]) hx hb dX0_reachBits_28 hl (k := 1) rfl (by rw [ex_246]; rfl) (dk_dq rfl) rfl (fun ls hl => ?_)
              refine lv_goto (tgt := 5) hx hb dX0_reachBits_31 (dk_dq rfl) ?_
              exact ih x_246 x_245 (by omega) (by omega) (by first | exact mu_lt hmu (by omega) (by omega) | omega) (lp_l hF_4 (F_e_reachBits_p7 (zI_eq f_x_239) c_240 ex_242 (Eq.symm ex_244.symm) ex_245 ex_246)) _ _ hP hS _ (lv_sub hl [0, 1, 2, 3, 4] rfl)
  have hz_247 : (0 : Int32).toInt = 0 := by decide +kernel
  have hz_248 : (0 : Int32).toInt = 0 := by decide +kernel
  have hz_249 : (0 : Int32).toInt = 0 := by decide +kernel
  have hz_250 : (0 : Int32).toInt = 0 := by decide +kernel
  exact L_238 ((17 - ((0 : Int32)).toInt).toNat + 1) 0 0 (by decide +kernel) (by decide +kernel) (by first | exact mu_lt hmu (by omega) (by omega) | omega) (F_e_reachBits_p8) _ _ hP hS _ (lv_sub hl [0, 1, 2, 3, 4] rfl)
noncomputable def F_e_passAll_J2 (x_55 : Int32) (S_68 : dg_S) : (Int32 × dg_S) ⊕ (dg_S) := let x_70 : Int32 := x_55 + 1; (Sum.inl (x_70, S_68))
noncomputable def F_e_passAll_B1 (a1 : Int32) (o : Nat) (gr : Nat) : (Int32 × dg_S) → (Int32 × dg_S) ⊕ (dg_S) := fun w9 => match w9 with | (x_55, S_56) => (if (21 : Int32) ≤ x_55 then (Sum.inr ((S_56))) else let x_59 : Int32 := a1 >>> (x_55 &&& 31); let x_60 : Int32 := x_59 &&& (1 : Int32); (if x_60 = (1 : Int32) then let d_73 : Nat := 233 + 7 * (x_55 : Int32).toNatClampNeg; let S_74 : dg_S := F_w_enter o S_56 gr d_73 x_55; let S_75 : dg_S := F_w_pass o S_74 (1 : Int32); (F_e_passAll_J2 x_55 S_75) else (F_e_passAll_J2 x_55 S_56)))
noncomputable def F_e_passAll (o : Nat) (S : dg_S) (gr : Nat) (a1 : Int32) : dg_S := (lp (F_e_passAll_B1 a1 o gr) S ((22 - ((0 : Int32)).toInt).toNat + 1) ((0 : Int32), S))
theorem F_e_passAll_p0 {a1 : Int32} {o : Nat} {gr : Nat} {x_55 : Int32} {S_56 : dg_S} (h0 : (21 : Int32) ≤ x_55) : (F_e_passAll_B1 a1 o gr) (x_55, S_56) = Sum.inr (S_56) := (Eq.trans (if_pos h0) rfl)
theorem F_e_passAll_p1 {x_55 : Int32} {S_68 : dg_S} {x_70 : Int32} (h0 : x_70 = x_55 + 1) : F_e_passAll_J2 x_55 S_68 = Sum.inl (x_70, S_68) := by
  replace h0 := Eq.symm h0
  subst h0
  exact rfl
theorem F_e_passAll_p2 {a1 : Int32} {o : Nat} {gr : Nat} {x_55 : Int32} {S_56 : dg_S} {x_59 : Int32} {x_60 : Int32} (h0 : ¬ ((21 : Int32) ≤ x_55)) (h1 : x_59 = a1 >>> (x_55 &&& 31)) (h2 : x_60 = x_59 &&& (1 : Int32)) (h3 : ¬ (x_60 = (1 : Int32))) : (F_e_passAll_B1 a1 o gr) (x_55, S_56) = F_e_passAll_J2 x_55 S_56 := by
  replace h1 := Eq.symm h1
  subst h1
  replace h2 := Eq.symm h2
  subst h2
  exact (Eq.trans (if_neg h0) (Eq.trans (if_neg h3) rfl))
theorem F_e_passAll_p3 {a1 : Int32} {o : Nat} {gr : Nat} {x_55 : Int32} {S_56 : dg_S} {S_75 : dg_S} {x_59 : Int32} {x_60 : Int32} {d_73 : Nat} {S_74 : dg_S} (h0 : ¬ ((21 : Int32) ≤ x_55)) (h1 : x_59 = a1 >>> (x_55 &&& 31)) (h2 : x_60 = x_59 &&& (1 : Int32)) (h3 : x_60 = (1 : Int32)) (h4 : d_73 = 233 + 7 * (x_55 : Int32).toNatClampNeg) (h5 : S_74 = F_w_enter o S_56 gr d_73 x_55) (h6 : S_75 = F_w_pass o S_74 (1 : Int32)) : (F_e_passAll_B1 a1 o gr) (x_55, S_56) = F_e_passAll_J2 x_55 S_75 := by
  replace h1 := Eq.symm h1
  subst h1
  replace h2 := Eq.symm h2
  subst h2
  replace h4 := Eq.symm h4
  subst h4
  replace h5 := Eq.symm h5
  subst h5
  replace h6 := Eq.symm h6
  subst h6
  exact (Eq.trans (if_neg h0) (Eq.trans (if_pos h3) rfl))
theorem F_e_passAll_p4 {o : Nat} {S : dg_S} {gr : Nat} {a1 : Int32}  : F_e_passAll o S gr a1 = lp (F_e_passAll_B1 a1 o gr) S ((22 - ((0 : Int32)).toInt).toNat + 1) ((0 : Int32), S) := rfl
set_option maxHeartbeats 8000000 in
set_option maxRecDepth 100000 in
theorem c_e_passAll (l : Launch) (g : Nat → ClassId) (D : va_G) (o : Nat) (S : dg_S) (gr : Nat) (hk_gr : rX gr) (a1 : Int32) (hfe : dg_felk S 21) (Z2 : Z2X S) (Z3 : Z3X o S) (I : CX o S) (sz : Nat) : Met l yX0_passAll (bw yX0_passAll cX0_passAll 4 none) ({ frames := 6, cells := 0, slots := 0, locals := 149 } : Room) (dk_Pc g D (dg_w g shX o rfX S) sz [.ref (o + 229), .ref (o + gr), .int a1]) (va_Qv (fun S' => CX o S' ∧ dg_sm shX [(3, 0), (36, 4), (36, 6), (36, 7), (36, 8), (36, 9), (36, 10), (36, 11), (36, 12), (37, 0), (37, 1), (37, 2), (37, 3), (37, 4), (37, 5), (37, 7)] [4, 5, 9, 38, 39, 40, 41, 42] S S' ∧ Z2X S' ∧ Z3X o S' ∧ dg_FG S S' ∧ (S' = F_e_passAll o S gr a1) ∧ True) (dg_B g D shX o rfX) (dg_A o shX.length sz)) 0 0 (dg_A o shX.length sz) := by
  refine dg_met (cc := cX0_passAll) (maxL := 4) (ret := none) (dk_dq rfl) rfl (Nat.le_of_ble_eq_true rfl) ?_
  intro p e s m args below meth c A hAe harg hx hb hr hml hts hown hlocks hin hP K hS hA1 hA ST hsz ls hl
  rw [← hAe]
  have F : CallFix p m c cX0_passAll 4 s args (bw yX0_passAll cX0_passAll 4 none) RX0 := ⟨hx, hb, hml, hown, hts⟩
  have hl : lv_has ls 4 [(0, .ref (o + 229)), (1, .ref (o + gr)), (2, .int a1)] := hl
  have M_0 : dg_sm shX [(3, 0), (36, 4), (36, 6), (36, 7), (36, 8), (36, 9), (36, 10), (36, 11), (36, 12), (37, 0), (37, 1), (37, 2), (37, 3), (37, 4), (37, 5), (37, 7)] [4, 5, 9, 38, 39, 40, 41, 42] S S := dg_sm.rf
  refine lv_iconst (v := 0) hx hb dX0_passAll_0 (by decide +kernel) ?_
  refine lv_istore_n (lv' := [(3, .int 0), (0, .ref (o + 229)), (1, .ref (o + gr)), (2, .int a1)]) hx hb dX0_passAll_1 rfl hl (dk_dq rfl) rfl (fun ls hl => ?_)
  have L_57 : ∀ (n : Nat) (x_55 : Int32), (0 ≤ (x_55).toInt ∧ (x_55).toInt ≤ 21) → ((22 - (x_55).toInt).toNat < n) → ∀ S_56 : dg_S, CX o S_56 → dg_sm shX [(3, 0), (36, 4), (36, 6), (36, 7), (36, 8), (36, 9), (36, 10), (36, 11), (36, 12), (37, 0), (37, 1), (37, 2), (37, 3), (37, 4), (37, 5), (37, 7)] [4, 5, 9, 38, 39, 40, 41, 42] S S_56 → dg_FG S S_56 → Z2X S_56 → Z3X o S_56 → (F_e_passAll o S gr a1 = lp (F_e_passAll_B1 a1 o gr) S n (x_55, S_56)) → ∀ (H : Heap) (locs : List Loc), va_P D vwCl (dg_w g shX o rfX S_56) H → va_S A s.heap H locs → ∀ ls : Array Slot, lv_has ls 4 [(3, .int x_55), (0, .ref (o + 229)), (1, .ref (o + gr)), (2, .int a1)] → W p l e ({ frames := 6, cells := 0, slots := 0, locals := 149 } : Room) s m args below meth c H locs 0 0 (MQ below (va_Qv (fun S' => CX o S' ∧ dg_sm shX [(3, 0), (36, 4), (36, 6), (36, 7), (36, 8), (36, 9), (36, 10), (36, 11), (36, 12), (37, 0), (37, 1), (37, 2), (37, 3), (37, 4), (37, 5), (37, 7)] [4, 5, 9, 38, 39, 40, 41, 42] S S' ∧ Z2X S' ∧ Z3X o S' ∧ dg_FG S S' ∧ (S' = F_e_passAll o S gr a1) ∧ True) (dg_B g D shX o rfX) A) args s 0 0 A) (F0 m 2 ls []) := by
    as_aux_lemma =>
      intro n
      induction n with
      | zero =>
        intro x_55 b_x_55 hmu S_56 I_56 M_56 G_56 Z2_56 Z3_56 hF_1 H locs hP hS ls hl
        omega
      | succ n ih =>
        as_aux_lemma =>
          intro x_55 b_x_55 hmu S_56 I_56 M_56 G_56 Z2_56 Z3_56 hF_1 H locs hP hS ls hl
          refine lv_iload_n hx hb dX0_passAll_2 rfl (lv_at hl 0 rfl) ?_
          refine lv_bipush (v := 21) hx hb dX0_passAll_3 (by decide +kernel) ?_
          refine lv_icmp_ge (tgt := 46) hx hb dX0_passAll_5 (dk_dq rfl) (fun c_58 => ?_) (fun c_58 => ?_)
          · have jc_58 := dk_gec (k := 21) (by decide +kernel) c_58
            refine W.widen (k := 0) (n := 0) (Nat.le_of_ble_eq_true rfl) (Nat.le_of_ble_eq_true rfl) ?_
            exact dg_vret hx hb hr hlocks hP hS ⟨I_56, M_56, Z2_56, Z3_56, G_56, (Eq.symm (lp_r hF_1 (F_e_passAll_p0 c_58))), trivial⟩ dX0_passAll_46
          · as_aux_lemma =>
              have jc_58 := dk_ngec (k := 21) (by decide +kernel) c_58
              refine lv_iload_n hx hb dX0_passAll_8 rfl (lv_at hl 3 rfl) ?_
              refine lv_iload_n hx hb dX0_passAll_9 rfl (lv_at hl 0 rfl) ?_
              refine lv_ishr hx hb dX0_passAll_10 ?_
              refine lv_topi (fun x_59 ex_59 => ?_)
              refine lv_iconst (v := 1) hx hb dX0_passAll_11 (by decide +kernel) ?_
              refine lv_iand hx hb dX0_passAll_12 ?_
              refine lv_topi (fun x_60 ex_60 => ?_)
              refine lv_iconst (v := 1) hx hb dX0_passAll_13 (by decide +kernel) ?_
              have J_69 : ∀ S_68 : dg_S, CX o S_68 → dg_sm shX [(3, 0), (36, 4), (36, 6), (36, 7), (36, 8), (36, 9), (36, 10), (36, 11), (36, 12), (37, 0), (37, 1), (37, 2), (37, 3), (37, 4), (37, 5), (37, 7)] [4, 5, 9, 38, 39, 40, 41, 42] S S_68 → dg_FG S S_68 → Z2X S_68 → Z3X o S_68 → ((F_e_passAll_B1 a1 o gr) (x_55, S_56) = F_e_passAll_J2 x_55 S_68) → ∀ (H : Heap) (locs : List Loc), va_P D vwCl (dg_w g shX o rfX S_68) H → va_S A s.heap H locs → ∀ ls : Array Slot, lv_has ls 4 [(3, .int x_55), (0, .ref (o + 229)), (1, .ref (o + gr)), (2, .int a1)] → W p l e ({ frames := 6, cells := 0, slots := 0, locals := 149 } : Room) s m args below meth c H locs 0 0 (MQ below (va_Qv (fun S' => CX o S' ∧ dg_sm shX [(3, 0), (36, 4), (36, 6), (36, 7), (36, 8), (36, 9), (36, 10), (36, 11), (36, 12), (37, 0), (37, 1), (37, 2), (37, 3), (37, 4), (37, 5), (37, 7)] [4, 5, 9, 38, 39, 40, 41, 42] S S' ∧ Z2X S' ∧ Z3X o S' ∧ dg_FG S S' ∧ (S' = F_e_passAll o S gr a1) ∧ True) (dg_B g D shX o rfX) A) args s 0 0 A) (F0 m 40 ls []) := by
                intro S_68 I_68 M_68 G_68 Z2_68 Z3_68 hF_2 H locs hP hS ls hl
                obtain ⟨x_70, ex_70⟩ : ∃ z, z = x_55 + 1 := ⟨_, rfl⟩
                have jx_70 : (x_70).toInt = (x_55).toInt + 1 := by rw [ex_70]; exact dk_addT2 rfl (by decide +kernel) (by omega)
                refine lv_iinc (v := x_70) (lv' := [(3, .int x_70), (0, .ref (o + 229)), (1, .ref (o + gr)), (2, .int a1)]) hx hb dX0_passAll_40 hl (k := 0) rfl (by rw [ex_70]; rfl) (dk_dq rfl) rfl (fun ls hl => ?_)
                refine lv_goto (tgt := 2) hx hb dX0_passAll_43 (dk_dq rfl) ?_
                exact ih x_70 (by omega) (by first | exact mu_lt hmu (by omega) (by omega) | omega) S_68 I_68 M_68 G_68 Z2_68 Z3_68 (lp_l hF_1 (Eq.trans hF_2 (F_e_passAll_p1 ex_70))) _ _ hP hS _ (lv_sub hl [0, 1, 2, 3] rfl)
              refine lv_icmp_ne (tgt := 40) hx hb dX0_passAll_14 (dk_dq rfl) (fun c_71 => ?_) (fun c_71 => ?_)
              · have jc_71 := dk_neqc (k := 1) (by decide +kernel) c_71
                exact J_69   S_56 I_56 M_56 G_56 Z2_56 Z3_56 (F_e_passAll_p2 c_58 ex_59 ex_60 c_71) _ _ hP hS _ (lv_sub hl [0, 1, 2, 3] rfl)
              · as_aux_lemma =>
                  have jc_71 := dk_eqc (k := 1) (by decide +kernel) c_71
                  refine lv_aload_n hx hb dX0_passAll_17 rfl (lv_at hl 1 rfl) ?_
                  refine dg_get (C := RX0) (T := TX0) (N := 9) hx hb hts (fun w h => bw_mem (wU_X0 w h)) hown K hP sX_229 rfl 0 (dk_dq rfl) (hts _ (bw_mem wB_744)) (fun _ h9 => h9) (v := .ref (o + 214)) (show S_56.1 229 0 = .ref (o + 214) from dg_I.abs (d := 214) I_56 sX_229 (by decide +kernel)) dX0_passAll_18 ?_
                  refine lv_aload_n hx hb dX0_passAll_21 rfl (lv_at hl 2 rfl) ?_
                  refine lv_aload_n hx hb dX0_passAll_22 rfl (lv_at hl 1 rfl) ?_
                  refine dg_get (C := RX0) (T := TX0) (N := 9) hx hb hts (fun w h => bw_mem (wU_X0 w h)) hown K hP sX_229 rfl 2 (dk_dq rfl) (hts _ (bw_mem wB_742)) (fun _ h9 => h9) (v := .ref (o + 231)) (show S_56.1 229 2 = .ref (o + 231) from dg_I.rel (d := 2) I_56 sX_229 (by decide +kernel)) dX0_passAll_23 ?_
                  refine lv_iload_n hx hb dX0_passAll_26 rfl (lv_at hl 0 rfl) ?_
                  have hin_72 : vp_in x_55 21 := (dk_inv2 (by omega))
                  obtain ⟨d_73, hk_d_73, g_d_73, q_d_73⟩ : ∃ d, pX d ∧ rfX 231 (x_55 : Int32).toNatClampNeg = some d ∧ d = 233 + 7 * (x_55 : Int32).toNatClampNeg := ⟨_, pX_f9 _ (dk_inT hin_72).2, rfX_f (dk_inT hin_72).2, rfl⟩
                  refine dg_aald hx hb K hP sX_231 hin_72 g_d_73 dX0_passAll_27 ?_
                  refine lv_iload_n hx hb dX0_passAll_28 rfl (lv_at hl 0 rfl) ?_
                  refine dg_callv hS hA1 hA (va_runV (As := [.ref (o + gr), .ref (o + d_73), .int x_55]) (rest := []) F (c_w_enter l g D o S_56 gr hk_gr d_73 hk_d_73 x_55 (dg_felk.at (dg_felk.keep hfe G_56) q_d_73 (by omega) (by omega)) I_56 H.size) (cwV 3 hts (bw_V wB_745 wB_676 wB_677 wB_594 wB_674) rfl rfl rfl (by decide +kernel) ⟨Nat.le_of_ble_eq_true rfl, Nat.le_of_ble_eq_true rfl⟩) (dg_preV sX_214 rfl K ST hP hS hA1 hA) rfl rfl hl.1 rfl (lv_room (Nat.le_of_ble_eq_true rfl)) dX0_passAll_29 ⟨Nat.le_of_ble_eq_true rfl, Nat.le_of_ble_eq_true rfl⟩) (fun S_74 hw_74 H locs hP hS => ?_)
                  obtain ⟨I_74, m_74, w_74_0, w_74_1, -⟩ := hw_74
                  have M_74 := dg_sm.tr M_56 m_74 (dk_dq rfl) (dk_dq rfl)
                  refine lv_aload_n hx hb dX0_passAll_32 rfl (lv_at hl 1 rfl) ?_
                  refine dg_get (C := RX0) (T := TX0) (N := 9) hx hb hts (fun w h => bw_mem (wU_X0 w h)) hown K hP sX_229 rfl 0 (dk_dq rfl) (hts _ (bw_mem wB_744)) (fun _ h9 => h9) (v := .ref (o + 214)) (show S_74.1 229 0 = .ref (o + 214) from dg_I.abs (d := 214) I_74 sX_229 (by decide +kernel)) dX0_passAll_33 ?_
                  refine lv_iconst (v := 1) hx hb dX0_passAll_36 (by decide +kernel) ?_
                  refine dg_callv hS hA1 hA (va_runV (As := [.int 1]) (rest := []) F (c_w_pass l g D o S_74 1 (Z2X.keep Z2_56 m_74 (dk_dq rfl) (dk_dq rfl)) w_74_0 I_74 H.size) (cwV 1 hts (bw_V wB_750 wB_680 wB_681 wB_594 wB_678) rfl rfl rfl (by decide +kernel) ⟨Nat.le_of_ble_eq_true rfl, Nat.le_of_ble_eq_true rfl⟩) (dg_preV sX_214 rfl K ST hP hS hA1 hA) rfl rfl hl.1 rfl (lv_room (Nat.le_of_ble_eq_true rfl)) dX0_passAll_37 ⟨Nat.le_of_ble_eq_true rfl, Nat.le_of_ble_eq_true rfl⟩) (fun S_75 hw_75 H locs hP hS => ?_)
                  obtain ⟨I_75, m_75, w_75_0, w_75_1, w_75_2, w_75_3, -⟩ := hw_75
                  have M_75 := dg_sm.tr M_74 m_75 (dk_dq rfl) (dk_dq rfl)
                  exact J_69   S_75 I_75 M_75 (dg_FG.tr (dg_FG.tr G_56 (dg_FG.sm m_74 (dk_dq rfl))) w_75_2) w_75_0 w_75_1 (F_e_passAll_p3 c_58 ex_59 ex_60 c_71 q_d_73 w_74_1 w_75_3) _ _ hP hS _ (lv_sub hl [0, 1, 2, 3] rfl)
  have hz_76 : (0 : Int32).toInt = 0 := by decide +kernel
  have hz_77 : (0 : Int32).toInt = 0 := by decide +kernel
  exact L_57 ((22 - ((0 : Int32)).toInt).toNat + 1) 0 (by decide +kernel) (by first | exact mu_lt hmu (by omega) (by omega) | omega) S I M_0 dg_FG.rf Z2 Z3 (F_e_passAll_p4) _ _ hP hS _ (lv_sub hl [0, 1, 2, 3] rfl)
noncomputable def F_e_mostLeft_J2 (x_118 : Int32) (x_141 : Int32) (S_145 : dg_S) : (Int32 × Int32 × dg_S) ⊕ (dg_S × Int32) := let x_147 : Int32 := x_118 + 1; (Sum.inl (x_147, x_141, S_145))
noncomputable def F_e_mostLeft_J3 (S_120 : dg_S) (x_156 : Int32) (x_119 : Int32) (x_118 : Int32) : (Int32 × Int32 × dg_S) ⊕ (dg_S × Int32) := let x_168 : Int32 := S_120.2.1 232 (x_156 : Int32).toNatClampNeg; let x_169 : Int32 := x_168 + (1 : Int32); let S_171 : dg_S := dg_uf S_120 232 (upd (S_120.2.1 232) (x_156 : Int32).toNatClampNeg x_169); let x_174 : Int32 := if x_119 < x_169 then x_169 else x_119; (F_e_mostLeft_J2 x_118 x_174 S_171)
noncomputable def F_e_mostLeft_B1 (a1 : Int32) (o : Nat) (a2 : Int32) : (Int32 × Int32 × dg_S) → (Int32 × Int32 × dg_S) ⊕ (dg_S × Int32) := fun w9 => match w9 with | (x_118, x_119, S_120) => (if (21 : Int32) ≤ x_118 then (Sum.inr ((S_120, x_119))) else let x_124 : Int32 := a1 >>> (x_118 &&& 31); let x_125 : Int32 := x_124 &&& (1 : Int32); (if x_125 = (1 : Int32) then let d_152 : Nat := 233 + 7 * (x_118 : Int32).toNatClampNeg; let x_153 : Int32 := F_p_gradeAt o S_120 d_152 a2; (if x_153 = (-1 : Int32) then (F_e_mostLeft_J3 S_120 (10 : Int32) x_119 x_118) else (F_e_mostLeft_J3 S_120 x_153 x_119 x_118)) else (F_e_mostLeft_J2 x_118 x_119 S_120)))
noncomputable def F_e_mostLeft (o : Nat) (S : dg_S) (a1 : Int32) (a2 : Int32) : dg_S × Int32 := let r_2 : Nat → Int32 := dk_fl (S.2.1 232) (0 : Int32) 11; let S_2 : dg_S := dg_uf S 232 r_2; (lp (F_e_mostLeft_B1 a1 o a2) (S, (0 : Int32)) ((22 - ((0 : Int32)).toInt).toNat + 1) ((0 : Int32), (0 : Int32), S_2))
theorem F_e_mostLeft_p0 {a1 : Int32} {o : Nat} {a2 : Int32} {x_118 : Int32} {x_119 : Int32} {S_120 : dg_S} (h0 : (21 : Int32) ≤ x_118) : (F_e_mostLeft_B1 a1 o a2) (x_118, x_119, S_120) = Sum.inr ((S_120, x_119)) := (Eq.trans (if_pos h0) rfl)
theorem F_e_mostLeft_p1 {x_118 : Int32} {x_141 : Int32} {S_145 : dg_S} {x_147 : Int32} (h0 : x_147 = x_118 + 1) : F_e_mostLeft_J2 x_118 x_141 S_145 = Sum.inl (x_147, x_141, S_145) := by
  replace h0 := Eq.symm h0
  subst h0
  exact rfl
theorem F_e_mostLeft_p2 {a1 : Int32} {o : Nat} {a2 : Int32} {x_118 : Int32} {x_119 : Int32} {S_120 : dg_S} {x_124 : Int32} {x_125 : Int32} (h0 : ¬ ((21 : Int32) ≤ x_118)) (h1 : x_124 = a1 >>> (x_118 &&& 31)) (h2 : x_125 = x_124 &&& (1 : Int32)) (h3 : ¬ (x_125 = (1 : Int32))) : (F_e_mostLeft_B1 a1 o a2) (x_118, x_119, S_120) = F_e_mostLeft_J2 x_118 x_119 S_120 := by
  replace h1 := Eq.symm h1
  subst h1
  replace h2 := Eq.symm h2
  subst h2
  exact (Eq.trans (if_neg h0) (Eq.trans (if_neg h3) rfl))
theorem F_e_mostLeft_p3 {S_120 : dg_S} {x_156 : Int32} {x_119 : Int32} {x_118 : Int32} {x_174 : Int32} {S_171 : dg_S} {x_168 : Int32} {x_169 : Int32} (h0 : x_168 = S_120.2.1 232 (x_156 : Int32).toNatClampNeg) (h1 : x_169 = x_168 + (1 : Int32)) (h2 : S_171 = dg_uf S_120 232 (upd (S_120.2.1 232) (x_156 : Int32).toNatClampNeg x_169)) (h3 : x_174 = if x_119 < x_169 then x_169 else x_119) : F_e_mostLeft_J3 S_120 x_156 x_119 x_118 = F_e_mostLeft_J2 x_118 x_174 S_171 := by
  replace h0 := Eq.symm h0
  subst h0
  replace h1 := Eq.symm h1
  subst h1
  replace h2 := Eq.symm h2
  subst h2
  replace h3 := Eq.symm h3
  subst h3
  exact rfl
theorem F_e_mostLeft_p4 {a1 : Int32} {o : Nat} {a2 : Int32} {x_118 : Int32} {x_119 : Int32} {S_120 : dg_S} {x_153 : Int32} {x_124 : Int32} {x_125 : Int32} {d_152 : Nat} (h0 : ¬ ((21 : Int32) ≤ x_118)) (h1 : x_124 = a1 >>> (x_118 &&& 31)) (h2 : x_125 = x_124 &&& (1 : Int32)) (h3 : x_125 = (1 : Int32)) (h4 : d_152 = 233 + 7 * (x_118 : Int32).toNatClampNeg) (h5 : x_153 = F_p_gradeAt o S_120 d_152 a2) (h6 : ¬ (x_153 = (-1 : Int32))) : (F_e_mostLeft_B1 a1 o a2) (x_118, x_119, S_120) = F_e_mostLeft_J3 S_120 x_153 x_119 x_118 := by
  replace h1 := Eq.symm h1
  subst h1
  replace h2 := Eq.symm h2
  subst h2
  replace h4 := Eq.symm h4
  subst h4
  replace h5 := Eq.symm h5
  subst h5
  exact (Eq.trans (if_neg h0) (Eq.trans (if_pos h3) (Eq.trans (if_neg h6) rfl)))
theorem F_e_mostLeft_p5 {a1 : Int32} {o : Nat} {a2 : Int32} {x_118 : Int32} {x_119 : Int32} {S_120 : dg_S} {x_124 : Int32} {x_125 : Int32} {d_152 : Nat} {x_153 : Int32} (h0 : ¬ ((21 : Int32) ≤ x_118)) (h1 : x_124 = a1 >>> (x_118 &&& 31)) (h2 : x_125 = x_124 &&& (1 : Int32)) (h3 : x_125 = (1 : Int32)) (h4 : d_152 = 233 + 7 * (x_118 : Int32).toNatClampNeg) (h5 : x_153 = F_p_gradeAt o S_120 d_152 a2) (h6 : x_153 = (-1 : Int32)) : (F_e_mostLeft_B1 a1 o a2) (x_118, x_119, S_120) = F_e_mostLeft_J3 S_120 (10 : Int32) x_119 x_118 := by
  replace h1 := Eq.symm h1
  subst h1
  replace h2 := Eq.symm h2
  subst h2
  replace h4 := Eq.symm h4
  subst h4
  replace h5 := Eq.symm h5
  subst h5
  exact (Eq.trans (if_neg h0) (Eq.trans (if_pos h3) (Eq.trans (if_pos h6) rfl)))
theorem F_e_mostLeft_p6 {o : Nat} {S : dg_S} {a1 : Int32} {a2 : Int32} {S_2 : dg_S} {r_2 : Nat → Int32} (h0 : r_2 = dk_fl (S.2.1 232) (0 : Int32) 11) (h1 : S_2 = dg_uf S 232 r_2) : F_e_mostLeft o S a1 a2 = lp (F_e_mostLeft_B1 a1 o a2) (S, (0 : Int32)) ((22 - ((0 : Int32)).toInt).toNat + 1) ((0 : Int32), (0 : Int32), S_2) := by
  replace h0 := Eq.symm h0
  subst h0
  replace h1 := Eq.symm h1
  subst h1
  exact rfl
set_option maxHeartbeats 8000000 in
set_option maxRecDepth 100000 in
theorem c_e_mostLeft (l : Launch) (g : Nat → ClassId) (D : va_G) (o : Nat) (S : dg_S) (a1 : Int32) (a2 : Int32) (b_a2 : 0 ≤ (a2).toInt ∧ (a2).toInt ≤ 63) (I : CX o S) (sz : Nat) : Met l yX0_mostLeft (bw yX0_mostLeft cX0_mostLeft 7 (some .int)) ({ frames := 3, cells := 0, slots := 0, locals := 74 } : Room) (dk_Pc g D (dg_w g shX o rfX S) sz [.ref (o + 229), .int a1, .int a2]) (va_Qi (fun (r : Int32) S' => CX o S' ∧ dg_sm shX [] [47] S S' ∧ (0 ≤ (r).toInt ∧ (r).toInt ≤ 2147483647) ∧ (S' = (F_e_mostLeft o S a1 a2).1 ∧ r = (F_e_mostLeft o S a1 a2).2) ∧ True) (dg_B g D shX o rfX) (dg_A o shX.length sz)) 0 0 (dg_A o shX.length sz) := by
  refine dg_met (cc := cX0_mostLeft) (maxL := 7) (ret := (some .int)) (dk_dq rfl) rfl (Nat.le_of_ble_eq_true rfl) ?_
  intro p e s m args below meth c A hAe harg hx hb hr hml hts hown hlocks hin hP K hS hA1 hA ST hsz ls hl
  rw [← hAe]
  have F : CallFix p m c cX0_mostLeft 7 s args (bw yX0_mostLeft cX0_mostLeft 7 (some .int)) RX0 := ⟨hx, hb, hml, hown, hts⟩
  have hl : lv_has ls 7 [(0, .ref (o + 229)), (1, .int a1), (2, .int a2)] := hl
  have M_0 : dg_sm shX [] [47] S S := dg_sm.rf
  refine lv_aload_n hx hb dX0_mostLeft_0 rfl (lv_at hl 0 rfl) ?_
  refine dg_get (C := RX0) (T := TX0) (N := 9) hx hb hts (fun w h => bw_mem (wU_X0 w h)) hown K hP sX_229 rfl 3 (dk_dq rfl) (hts _ (bw_mem wB_757)) (fun _ h9 => h9) (v := .ref (o + 232)) (show S.1 229 3 = .ref (o + 232) from dg_I.rel (d := 3) I sX_229 (by decide +kernel)) dX0_mostLeft_1 ?_
  refine lv_iconst (v := 0) hx hb dX0_mostLeft_4 (by decide +kernel) ?_
  have hz_1 : (0 : Int32).toInt = 0 := by decide +kernel
  refine dg_callv hS hA1 hA (va_runS (As := [.ref (o + 232), .int 0]) (rest := []) F (c_fillF l g D S sX_232 (dk_dq rfl) 0 s.heap.size) (va_cwS 2 hts (bw_S wB_758 wB_262 wB_263 wB_264) rfl rfl rfl (by decide +kernel) ⟨Nat.le_of_ble_eq_true rfl, Nat.le_of_ble_eq_true rfl⟩) (dg_preS K ST hP hS hA1 hA) rfl rfl hl.1 rfl (lv_room (Nat.le_of_ble_eq_true rfl)) dX0_mostLeft_5 ⟨Nat.le_of_ble_eq_true rfl, Nat.le_of_ble_eq_true rfl⟩) (fun S_2 hw_2 H locs hP hS => ?_)
  obtain ⟨r_2, e_2, hr_2, hf_2⟩ := hw_2
  have I_2 := dg_I.uf0 I e_2 sX_232 (by decide +kernel)
  have M_2 := dg_sm.uf M_0 e_2 sX_232 (dk_dq rfl)
  refine lv_iconst (v := 0) hx hb dX0_mostLeft_8 (by decide +kernel) ?_
  refine lv_istore_n (lv' := [(3, .int 0), (0, .ref (o + 229)), (1, .int a1), (2, .int a2)]) hx hb dX0_mostLeft_9 rfl hl (dk_dq rfl) rfl (fun ls hl => ?_)
  refine lv_iconst (v := 0) hx hb dX0_mostLeft_10 (by decide +kernel) ?_
  refine lv_istore (lv' := [(4, .int 0), (3, .int 0), (0, .ref (o + 229)), (1, .int a1), (2, .int a2)]) hx hb dX0_mostLeft_11 hl (dk_dq rfl) rfl (fun ls hl => ?_)
  have L_121 : ∀ (n : Nat) (x_118 : Int32) (x_119 : Int32), (0 ≤ (x_118).toInt ∧ (x_118).toInt ≤ 21) → (0 ≤ (x_119).toInt ∧ (x_119).toInt ≤ 2147483647) → ((22 - (x_118).toInt).toNat < n) → ∀ S_120 : dg_S, CX o S_120 → dg_sm shX [] [47] S S_120 → (F_e_mostLeft o S a1 a2 = lp (F_e_mostLeft_B1 a1 o a2) (S, (0 : Int32)) n (x_118, x_119, S_120)) → ∀ (H : Heap) (locs : List Loc), va_P D vwCl (dg_w g shX o rfX S_120) H → va_S A s.heap H locs → ∀ ls : Array Slot, lv_has ls 7 [(4, .int x_118), (3, .int x_119), (0, .ref (o + 229)), (1, .int a1), (2, .int a2)] → W p l e ({ frames := 3, cells := 0, slots := 0, locals := 74 } : Room) s m args below meth c H locs 0 0 (MQ below (va_Qi (fun (r : Int32) S' => CX o S' ∧ dg_sm shX [] [47] S S' ∧ (0 ≤ (r).toInt ∧ (r).toInt ≤ 2147483647) ∧ (S' = (F_e_mostLeft o S a1 a2).1 ∧ r = (F_e_mostLeft o S a1 a2).2) ∧ True) (dg_B g D shX o rfX) A) args s 0 0 A) (F0 m 13 ls []) := by
    as_aux_lemma =>
      intro n
      induction n with
      | zero =>
        intro x_118 x_119 b_x_118 b_x_119 hmu S_120 I_120 M_120 hF_1 H locs hP hS ls hl
        omega
      | succ n ih =>
        as_aux_lemma =>
          intro x_118 x_119 b_x_118 b_x_119 hmu S_120 I_120 M_120 hF_1 H locs hP hS ls hl
          refine lv_iload hx hb dX0_mostLeft_13 (lv_at hl 0 rfl) ?_
          refine lv_bipush (v := 21) hx hb dX0_mostLeft_15 (by decide +kernel) ?_
          refine lv_icmp_ge (tgt := 87) hx hb dX0_mostLeft_17 (dk_dq rfl) (fun c_122 => ?_) (fun c_122 => ?_)
          · have jc_122 := dk_gec (k := 21) (by decide +kernel) c_122
            refine lv_iload_n hx hb dX0_mostLeft_87 rfl (lv_at hl 1 rfl) ?_
            have hf_122 := dk_full x_119
            refine W.widen (k := 0) (n := 0) (Nat.le_of_ble_eq_true rfl) (Nat.le_of_ble_eq_true rfl) ?_
            exact dg_iret hx hb hr hlocks rfl hP hS ⟨I_120, M_120, (by omega), ⟨congrArg Prod.fst (Eq.symm (lp_r hF_1 (F_e_mostLeft_p0 c_122))), congrArg Prod.snd (Eq.symm (lp_r hF_1 (F_e_mostLeft_p0 c_122)))⟩, trivial⟩ dX0_mostLeft_88
          · as_aux_lemma =>
              have jc_122 := dk_ngec (k := 21) (by decide +kernel) c_122
              refine lv_iload_n hx hb dX0_mostLeft_20 rfl (lv_at hl 3 rfl) ?_
              refine lv_iload hx hb dX0_mostLeft_21 (lv_at hl 0 rfl) ?_
              refine lv_ishr hx hb dX0_mostLeft_23 ?_
              refine lv_topi (fun x_124 ex_124 => ?_)
              refine lv_iconst (v := 1) hx hb dX0_mostLeft_24 (by decide +kernel) ?_
              refine lv_iand hx hb dX0_mostLeft_25 ?_
              refine lv_topi (fun x_125 ex_125 => ?_)
              refine lv_iconst (v := 1) hx hb dX0_mostLeft_26 (by decide +kernel) ?_
              have J_146 : ∀ (x_141 : Int32), (0 ≤ (x_141).toInt ∧ (x_141).toInt ≤ 2147483647) → ∀ S_145 : dg_S, CX o S_145 → dg_sm shX [] [47] S S_145 → ((F_e_mostLeft_B1 a1 o a2) (x_118, x_119, S_120) = F_e_mostLeft_J2 x_118 x_141 S_145) → ∀ (H : Heap) (locs : List Loc), va_P D vwCl (dg_w g shX o rfX S_145) H → va_S A s.heap H locs → ∀ ls : Array Slot, lv_has ls 7 [(4, .int x_118), (3, .int x_141), (0, .ref (o + 229)), (1, .int a1), (2, .int a2)] → W p l e ({ frames := 3, cells := 0, slots := 0, locals := 74 } : Room) s m args below meth c H locs 0 0 (MQ below (va_Qi (fun (r : Int32) S' => CX o S' ∧ dg_sm shX [] [47] S S' ∧ (0 ≤ (r).toInt ∧ (r).toInt ≤ 2147483647) ∧ (S' = (F_e_mostLeft o S a1 a2).1 ∧ r = (F_e_mostLeft o S a1 a2).2) ∧ True) (dg_B g D shX o rfX) A) args s 0 0 A) (F0 m 81 ls []) := by
                intro x_141 b_x_141 S_145 I_145 M_145 hF_2 H locs hP hS ls hl
                obtain ⟨x_147, ex_147⟩ : ∃ z, z = x_118 + 1 := ⟨_, rfl⟩
                have jx_147 : (x_147).toInt = (x_118).toInt + 1 := by rw [ex_147]; exact dk_addT2 rfl (by decide +kernel) (by omega)
                refine lv_iinc (v := x_147) (lv' := [(4, .int x_147), (3, .int x_141), (0, .ref (o + 229)), (1, .int a1), (2, .int a2)]) hx hb dX0_mostLeft_81 hl (k := 0) rfl (by rw [ex_147]; rfl) (dk_dq rfl) rfl (fun ls hl => ?_)
                refine lv_goto (tgt := 13) hx hb dX0_mostLeft_84 (dk_dq rfl) ?_
                have hf_147 := dk_full x_141
                exact ih x_147 x_141 (by omega) (by omega) (by first | exact mu_lt hmu (by omega) (by omega) | omega) S_145 I_145 M_145  (lp_l hF_1 (Eq.trans hF_2 (F_e_mostLeft_p1 ex_147))) _ _ hP hS _ (lv_sub hl [0, 1, 2, 3, 4] rfl)
              refine lv_icmp_ne (tgt := 81) hx hb dX0_mostLeft_27 (dk_dq rfl) (fun c_149 => ?_) (fun c_149 => ?_)
              · have jc_149 := dk_neqc (k := 1) (by decide +kernel) c_149
                have hf_149 := dk_full x_119
                exact J_146 x_119 (by omega) S_120 I_120 M_120  (F_e_mostLeft_p2 c_122 ex_124 ex_125 c_149) _ _ hP hS _ (lv_sub hl [0, 1, 2, 3, 4] rfl)
              · as_aux_lemma =>
                  have jc_149 := dk_eqc (k := 1) (by decide +kernel) c_149
                  refine lv_aload_n hx hb dX0_mostLeft_30 rfl (lv_at hl 2 rfl) ?_
                  refine dg_get (C := RX0) (T := TX0) (N := 9) hx hb hts (fun w h => bw_mem (wU_X0 w h)) hown K hP sX_229 rfl 2 (dk_dq rfl) (hts _ (bw_mem wB_742)) (fun _ h9 => h9) (v := .ref (o + 231)) (show S_120.1 229 2 = .ref (o + 231) from dg_I.rel (d := 2) I_120 sX_229 (by decide +kernel)) dX0_mostLeft_31 ?_
                  refine lv_iload hx hb dX0_mostLeft_34 (lv_at hl 0 rfl) ?_
                  have hin_151 : vp_in x_118 21 := (dk_inv2 (by omega))
                  obtain ⟨d_152, hk_d_152, g_d_152, q_d_152⟩ : ∃ d, pX d ∧ rfX 231 (x_118 : Int32).toNatClampNeg = some d ∧ d = 233 + 7 * (x_118 : Int32).toNatClampNeg := ⟨_, pX_f9 _ (dk_inT hin_151).2, rfX_f (dk_inT hin_151).2, rfl⟩
                  refine dg_aald hx hb K hP sX_231 hin_151 g_d_152 dX0_mostLeft_36 ?_
                  refine lv_iload_n hx hb dX0_mostLeft_37 rfl (lv_at hl 4 rfl) ?_
                  refine dg_calli hS hA1 hA (va_runV (As := [.int a2]) (rest := []) F (c_p_gradeAt l g D o S_120 d_152 hk_d_152 a2 (by omega) I_120 H.size) (cwV 1 hts (bw_V wB_739 wB_740 wB_741 wB_493 wB_738) rfl rfl rfl (by decide +kernel) ⟨Nat.le_of_ble_eq_true rfl, Nat.le_of_ble_eq_true rfl⟩) (dg_preV (pX_0 d_152 hk_d_152) rfl K ST hP hS hA1 hA) rfl rfl hl.1 rfl (lv_room (Nat.le_of_ble_eq_true rfl)) dX0_mostLeft_38 ⟨Nat.le_of_ble_eq_true rfl, Nat.le_of_ble_eq_true rfl⟩) (fun x_153 S_154 hw_154 H locs hP hS => ?_)
                  rw [hw_154.1] at hP
                  obtain ⟨hq_154, w_154_0, w_154_1, -⟩ := hw_154
                  have w_154_0 : (-1) ≤ (x_153).toInt ∧ (x_153).toInt ≤ 9 := w_154_0
                  refine lv_istore (lv' := [(5, .int x_153), (4, .int x_118), (3, .int x_119), (0, .ref (o + 229)), (1, .int a1), (2, .int a2)]) hx hb dX0_mostLeft_41 hl (dk_dq rfl) rfl (fun ls hl => ?_)
                  refine lv_iload hx hb dX0_mostLeft_43 (lv_at hl 0 rfl) ?_
                  refine lv_iconst (v := (-1)) hx hb dX0_mostLeft_45 (by decide +kernel) ?_
                  have J_166 : ∀ (x_156 : Int32), (0 ≤ (x_156).toInt ∧ (x_156).toInt ≤ 10) → ((F_e_mostLeft_B1 a1 o a2) (x_118, x_119, S_120) = F_e_mostLeft_J3 S_120 x_156 x_119 x_118) → ∀ (H : Heap) (locs : List Loc), va_P D vwCl (dg_w g shX o rfX S_120) H → va_S A s.heap H locs → ∀ ls : Array Slot, lv_has ls 7 [(5, .int x_153), (4, .int x_118), (3, .int x_119), (0, .ref (o + 229)), (1, .int a1), (2, .int a2)] → W p l e ({ frames := 3, cells := 0, slots := 0, locals := 74 } : Room) s m args below meth c H locs 0 0 (MQ below (va_Qi (fun (r : Int32) S' => CX o S' ∧ dg_sm shX [] [47] S S' ∧ (0 ≤ (r).toInt ∧ (r).toInt ≤ 2147483647) ∧ (S' = (F_e_mostLeft o S a1 a2).1 ∧ r = (F_e_mostLeft o S a1 a2).2) ∧ True) (dg_B g D shX o rfX) A) args s 0 0 A) (F0 m 56 ls [.int x_156]) := by
                    as_aux_lemma =>
                      intro x_156 b_x_156 hF_3 H locs hP hS ls hl
                      refine lv_istore (lv' := [(6, .int x_156), (5, .int x_153), (4, .int x_118), (3, .int x_119), (0, .ref (o + 229)), (1, .int a1), (2, .int a2)]) hx hb dX0_mostLeft_56 hl (dk_dq rfl) rfl (fun ls hl => ?_)
                      refine lv_aload_n hx hb dX0_mostLeft_58 rfl (lv_at hl 4 rfl) ?_
                      refine dg_get (C := RX0) (T := TX0) (N := 9) hx hb hts (fun w h => bw_mem (wU_X0 w h)) hown K hP sX_229 rfl 3 (dk_dq rfl) (hts _ (bw_mem wB_757)) (fun _ h9 => h9) (v := .ref (o + 232)) (show S_120.1 229 3 = .ref (o + 232) from dg_I.rel (d := 3) I_120 sX_229 (by decide +kernel)) dX0_mostLeft_59 ?_
                      refine lv_iload hx hb dX0_mostLeft_62 (lv_at hl 0 rfl) ?_
                      refine lv_dup2_11 hx hb dX0_mostLeft_64 rfl rfl ?_
                      have hin_167 : vp_in x_156 11 := (dk_inv2 (by omega))
                      refine dg_iald hx hb K hP sX_232 hin_167 dX0_mostLeft_65 (fun x_168 ex_168 => ?_)
                      refine lv_iconst (v := 1) hx hb dX0_mostLeft_66 (by decide +kernel) ?_
                      refine lv_iadd hx hb dX0_mostLeft_67 ?_
                      refine lv_topi (fun x_169 ex_169 => ?_)
                      have hin_170 : vp_in x_156 11 := (dk_inv2 (by omega))
                      refine dg_iast hx hb K hP hS hA1 sX_232 hin_170 dX0_mostLeft_68 (fun S_171 e_171 H locs hP hS => ?_)
                      have I_171 := dg_I.uf0 I_120 e_171 sX_232 (by decide +kernel)
                      have M_171 := dg_sm.uf M_120 e_171 sX_232 (dk_dq rfl)
                      refine lv_iload_n hx hb dX0_mostLeft_69 rfl (lv_at hl 3 rfl) ?_
                      refine lv_aload_n hx hb dX0_mostLeft_70 rfl (lv_at hl 4 rfl) ?_
                      refine dg_get (C := RX0) (T := TX0) (N := 9) hx hb hts (fun w h => bw_mem (wU_X0 w h)) hown K hP sX_229 rfl 3 (dk_dq rfl) (hts _ (bw_mem wB_757)) (fun _ h9 => h9) (v := .ref (o + 232)) (show S_171.1 229 3 = .ref (o + 232) from dg_I.rel (d := 3) I_171 sX_229 (by decide +kernel)) dX0_mostLeft_71 ?_
                      refine lv_iload hx hb dX0_mostLeft_74 (lv_at hl 0 rfl) ?_
                      have hin_172 : vp_in x_156 11 := (dk_inv2 (by omega))
                      refine dg_iald hx hb K hP sX_232 hin_172 dX0_mostLeft_76 (fun y_173 ey_173 => ?_)
                      obtain rfl : x_169 = y_173 := (ey_173.trans ((congrFun (dg_uf_at e_171) _).trans (dg_upd_at rfl))).symm
                      refine va_mmax hx hb (by rw [hml]; exact hl.1.symm) hown (hts _ (bw_mem wB_751)) (hts _ (bw_mem wB_638)) (hts _ (bw_mem wB_505)) (hts _ (bw_mem wB_639)) (Nat.le_of_ble_eq_true rfl) (Nat.le_of_ble_eq_true rfl) (Nat.le_of_ble_eq_true rfl) (Nat.le_of_ble_eq_true rfl) dX0_mostLeft_77 ?_
                      refine lv_topi (fun x_174 ex_174 => ?_)
                      have jx_174 := dk_maxT (a := (x_119).toInt) (b := (x_169).toInt) rfl rfl ex_174
                      refine lv_istore_n (lv' := [(3, .int x_174), (6, .int x_156), (5, .int x_153), (4, .int x_118), (0, .ref (o + 229)), (1, .int a1), (2, .int a2)]) hx hb dX0_mostLeft_80 rfl hl (dk_dq rfl) rfl (fun ls hl => ?_)
                      have hf_174 := dk_full x_174
                      exact J_146 x_174 (by omega) S_171 I_171 M_171  (Eq.trans hF_3 (F_e_mostLeft_p3 (Eq.symm ex_168.symm) ex_169 e_171 ex_174)) _ _ hP hS _ (lv_sub hl [3, 0, 4, 5, 6] rfl)
                  refine lv_icmp_ne (tgt := 54) hx hb dX0_mostLeft_46 (dk_dq rfl) (fun c_176 => ?_) (fun c_176 => ?_)
                  · have jc_176 := dk_neqc (k := (-1)) (by decide +kernel) c_176
                    refine lv_iload hx hb dX0_mostLeft_54 (lv_at hl 0 rfl) ?_
                    exact J_166 x_153 (by omega) (F_e_mostLeft_p4 c_122 ex_124 ex_125 c_149 q_d_152 w_154_1 c_176) _ _ hP hS _ (lv_sub hl [0, 1, 2, 3, 4, 5] rfl)
                  · have jc_176 := dk_eqc (k := (-1)) (by decide +kernel) c_176
                    refine lv_bipush (v := 10) hx hb dX0_mostLeft_49 (by decide +kernel) ?_
                    refine lv_goto (tgt := 56) hx hb dX0_mostLeft_51 (dk_dq rfl) ?_
                    have hz_177 : (10 : Int32).toInt = 10 := by decide +kernel
                    exact J_166 10 (by decide +kernel) (F_e_mostLeft_p5 c_122 ex_124 ex_125 c_149 q_d_152 w_154_1 c_176) _ _ hP hS _ (lv_sub hl [0, 1, 2, 3, 4, 5] rfl)
  have hz_178 : (0 : Int32).toInt = 0 := by decide +kernel
  have hz_179 : (0 : Int32).toInt = 0 := by decide +kernel
  have hz_180 : (0 : Int32).toInt = 0 := by decide +kernel
  have hz_181 : (0 : Int32).toInt = 0 := by decide +kernel
  exact L_121 ((22 - ((0 : Int32)).toInt).toNat + 1) 0 0 (by decide +kernel) (by decide +kernel) (by first | exact mu_lt hmu (by omega) (by omega) | omega) S_2 I_2 M_2  (F_e_mostLeft_p6 hf_2 e_2) _ _ hP hS _ (lv_sub hl [0, 1, 2, 3, 4] rfl)
noncomputable def F_e_tryAllCells_J3 (x_123 : Int32) (S_161 : dg_S) : (Int32 × dg_S) ⊕ (dg_S) := let x_163 : Int32 := x_123 + 1; (Sum.inl (x_163, S_161))
noncomputable def F_e_tryAllCells_J2 (S_148 : dg_S) (x_135 : Int32) (x_123 : Int32) (a2 : Int32) : (Int32 × dg_S) ⊕ (dg_S) := let x_150 : Int32 := zI S_148 229 8; (if x_150 ≤ x_135 then (F_e_tryAllCells_J3 x_123 S_148) else let S_169 : dg_S := dg_uF S_148 229 6 (.int a2); let S_170 : dg_S := dg_uF S_169 229 7 (.int x_123); let S_171 : dg_S := dg_uF S_170 229 8 (.int x_135); (F_e_tryAllCells_J3 x_123 S_171))
noncomputable def F_e_tryAllCells_B1 (o : Nat) (gr : Nat) (pt : Nat) (a2 : Int32) (a1 : Int32) : (Int32 × dg_S) → (Int32 × dg_S) ⊕ (dg_S) := fun w9 => match w9 with | (x_123, S_124) => let x_126 : Int32 := F_g_endOfPlaces o S_124 gr; (if x_126 ≤ x_123 then (Sum.inr ((S_124))) else let x_130 : Int32 := S_124.2.1 (pt + 1) (x_123 : Int32).toNatClampNeg; (if x_130 = (100 : Int32) then let x_175 : Int32 := zI S_124 229 8; (F_e_tryAllCells_J2 S_124 x_175 x_123 a2) else let S_174 : dg_S := (F_e_mostLeft o S_124 a1 x_123).1; let x_173 : Int32 := (F_e_mostLeft o S_124 a1 x_123).2; (F_e_tryAllCells_J2 S_174 x_173 x_123 a2)))
noncomputable def F_e_tryAllCells (o : Nat) (S : dg_S) (gr : Nat) (pt : Nat) (a1 : Int32) (a2 : Int32) : dg_S := (lp (F_e_tryAllCells_B1 o gr pt a2 a1) S ((65 - ((8 : Int32)).toInt).toNat + 1) ((8 : Int32), S))
theorem F_e_tryAllCells_p0 {o : Nat} {gr : Nat} {pt : Nat} {a2 : Int32} {a1 : Int32} {x_123 : Int32} {S_124 : dg_S} {x_126 : Int32} (h0 : x_126 = F_g_endOfPlaces o S_124 gr) (h1 : x_126 ≤ x_123) : (F_e_tryAllCells_B1 o gr pt a2 a1) (x_123, S_124) = Sum.inr (S_124) := by
  replace h0 := Eq.symm h0
  subst h0
  exact (Eq.trans (if_pos h1) rfl)
theorem F_e_tryAllCells_p1 {x_123 : Int32} {S_161 : dg_S} {x_163 : Int32} (h0 : x_163 = x_123 + 1) : F_e_tryAllCells_J3 x_123 S_161 = Sum.inl (x_163, S_161) := by
  replace h0 := Eq.symm h0
  subst h0
  exact rfl
theorem F_e_tryAllCells_p2 {S_148 : dg_S} {x_135 : Int32} {x_123 : Int32} {a2 : Int32} {x_150 : Int32} (h0 : x_150 = zI S_148 229 8) (h1 : x_150 ≤ x_135) : F_e_tryAllCells_J2 S_148 x_135 x_123 a2 = F_e_tryAllCells_J3 x_123 S_148 := by
  replace h0 := Eq.symm h0
  subst h0
  exact (Eq.trans (if_pos h1) rfl)
theorem F_e_tryAllCells_p3 {S_148 : dg_S} {x_135 : Int32} {x_123 : Int32} {a2 : Int32} {S_171 : dg_S} {x_150 : Int32} {S_169 : dg_S} {S_170 : dg_S} (h0 : x_150 = zI S_148 229 8) (h1 : ¬ (x_150 ≤ x_135)) (h2 : S_169 = dg_uF S_148 229 6 (.int a2)) (h3 : S_170 = dg_uF S_169 229 7 (.int x_123)) (h4 : S_171 = dg_uF S_170 229 8 (.int x_135)) : F_e_tryAllCells_J2 S_148 x_135 x_123 a2 = F_e_tryAllCells_J3 x_123 S_171 := by
  replace h0 := Eq.symm h0
  subst h0
  replace h2 := Eq.symm h2
  subst h2
  replace h3 := Eq.symm h3
  subst h3
  replace h4 := Eq.symm h4
  subst h4
  exact (Eq.trans (if_neg h1) rfl)
theorem F_e_tryAllCells_p4 {o : Nat} {gr : Nat} {pt : Nat} {a2 : Int32} {a1 : Int32} {x_123 : Int32} {S_124 : dg_S} {S_174 : dg_S} {x_173 : Int32} {x_126 : Int32} {x_130 : Int32} (h0 : x_126 = F_g_endOfPlaces o S_124 gr) (h1 : ¬ (x_126 ≤ x_123)) (h2 : x_130 = S_124.2.1 (pt + 1) (x_123 : Int32).toNatClampNeg) (h3 : ¬ (x_130 = (100 : Int32))) (h4 : S_174 = (F_e_mostLeft o S_124 a1 x_123).1) (h5 : x_173 = (F_e_mostLeft o S_124 a1 x_123).2) : (F_e_tryAllCells_B1 o gr pt a2 a1) (x_123, S_124) = F_e_tryAllCells_J2 S_174 x_173 x_123 a2 := by
  replace h0 := Eq.symm h0
  subst h0
  replace h2 := Eq.symm h2
  subst h2
  replace h4 := Eq.symm h4
  subst h4
  replace h5 := Eq.symm h5
  subst h5
  exact (Eq.trans (if_neg h1) (Eq.trans (if_neg h3) rfl))
theorem F_e_tryAllCells_p5 {o : Nat} {gr : Nat} {pt : Nat} {a2 : Int32} {a1 : Int32} {x_123 : Int32} {S_124 : dg_S} {x_175 : Int32} {x_126 : Int32} {x_130 : Int32} (h0 : x_126 = F_g_endOfPlaces o S_124 gr) (h1 : ¬ (x_126 ≤ x_123)) (h2 : x_130 = S_124.2.1 (pt + 1) (x_123 : Int32).toNatClampNeg) (h3 : x_130 = (100 : Int32)) (h4 : x_175 = zI S_124 229 8) : (F_e_tryAllCells_B1 o gr pt a2 a1) (x_123, S_124) = F_e_tryAllCells_J2 S_124 x_175 x_123 a2 := by
  replace h0 := Eq.symm h0
  subst h0
  replace h2 := Eq.symm h2
  subst h2
  replace h4 := Eq.symm h4
  subst h4
  exact (Eq.trans (if_neg h1) (Eq.trans (if_pos h3) rfl))
theorem F_e_tryAllCells_p6 {o : Nat} {S : dg_S} {gr : Nat} {pt : Nat} {a1 : Int32} {a2 : Int32}  : F_e_tryAllCells o S gr pt a1 a2 = lp (F_e_tryAllCells_B1 o gr pt a2 a1) S ((65 - ((8 : Int32)).toInt).toNat + 1) ((8 : Int32), S) := rfl
set_option maxHeartbeats 8000000 in
set_option maxRecDepth 100000 in
theorem c_e_tryAllCells (l : Launch) (g : Nat → ClassId) (D : va_G) (o : Nat) (S : dg_S) (gr : Nat) (hk_gr : rX gr) (pt : Nat) (hk_pt : pX pt) (a1 : Int32) (a2 : Int32) (I : CX o S) (sz : Nat) : Met l yX0_tryAllCells (bw yX0_tryAllCells cX0_tryAllCells 7 none) ({ frames := 4, cells := 0, slots := 0, locals := 100 } : Room) (dk_Pc g D (dg_w g shX o rfX S) sz [.ref (o + 229), .ref (o + gr), .ref (o + pt), .int a1, .int a2]) (va_Qv (fun S' => CX o S' ∧ dg_sm shX [(44, 6), (44, 7), (44, 8)] [47] S S' ∧ (S' = F_e_tryAllCells o S gr pt a1 a2) ∧ True) (dg_B g D shX o rfX) (dg_A o shX.length sz)) 0 0 (dg_A o shX.length sz) := by
  refine dg_met (cc := cX0_tryAllCells) (maxL := 7) (ret := none) (dk_dq rfl) rfl (Nat.le_of_ble_eq_true rfl) ?_
  intro p e s m args below meth c A hAe harg hx hb hr hml hts hown hlocks hin hP K hS hA1 hA ST hsz ls hl
  rw [← hAe]
  have F : CallFix p m c cX0_tryAllCells 7 s args (bw yX0_tryAllCells cX0_tryAllCells 7 none) RX0 := ⟨hx, hb, hml, hown, hts⟩
  have hl : lv_has ls 7 [(0, .ref (o + 229)), (1, .ref (o + gr)), (2, .ref (o + pt)), (3, .int a1), (4, .int a2)] := hl
  have M_0 : dg_sm shX [(44, 6), (44, 7), (44, 8)] [47] S S := dg_sm.rf
  refine lv_bipush (v := 8) hx hb dX0_tryAllCells_0 (by decide +kernel) ?_
  refine lv_istore (lv' := [(5, .int 8), (0, .ref (o + 229)), (1, .ref (o + gr)), (2, .ref (o + pt)), (3, .int a1), (4, .int a2)]) hx hb dX0_tryAllCells_2 hl (dk_dq rfl) rfl (fun ls hl => ?_)
  have L_125 : ∀ (n : Nat) (x_123 : Int32), (8 ≤ (x_123).toInt ∧ (x_123).toInt ≤ 64) → ((65 - (x_123).toInt).toNat < n) → ∀ S_124 : dg_S, CX o S_124 → dg_sm shX [(44, 6), (44, 7), (44, 8)] [47] S S_124 → (F_e_tryAllCells o S gr pt a1 a2 = lp (F_e_tryAllCells_B1 o gr pt a2 a1) S n (x_123, S_124)) → ∀ (H : Heap) (locs : List Loc), va_P D vwCl (dg_w g shX o rfX S_124) H → va_S A s.heap H locs → ∀ ls : Array Slot, lv_has ls 7 [(5, .int x_123), (0, .ref (o + 229)), (1, .ref (o + gr)), (2, .ref (o + pt)), (3, .int a1), (4, .int a2)] → W p l e ({ frames := 4, cells := 0, slots := 0, locals := 100 } : Room) s m args below meth c H locs 0 0 (MQ below (va_Qv (fun S' => CX o S' ∧ dg_sm shX [(44, 6), (44, 7), (44, 8)] [47] S S' ∧ (S' = F_e_tryAllCells o S gr pt a1 a2) ∧ True) (dg_B g D shX o rfX) A) args s 0 0 A) (F0 m 4 ls []) := by
    as_aux_lemma =>
      intro n
      induction n with
      | zero =>
        intro x_123 b_x_123 hmu S_124 I_124 M_124 hF_1 H locs hP hS ls hl
        omega
      | succ n ih =>
        as_aux_lemma =>
          intro x_123 b_x_123 hmu S_124 I_124 M_124 hF_1 H locs hP hS ls hl
          refine lv_iload hx hb dX0_tryAllCells_4 (lv_at hl 0 rfl) ?_
          refine lv_aload_n hx hb dX0_tryAllCells_6 rfl (lv_at hl 2 rfl) ?_
          refine dg_calli hS hA1 hA (va_runV (As := []) (rest := [.int x_123]) F (c_g_endOfPlaces l g D o S_124 gr hk_gr I_124 H.size) (cwV 0 hts (bw_V wB_759 wB_721 wB_722 wB_9 wB_719) rfl rfl rfl (by decide +kernel) ⟨Nat.le_of_ble_eq_true rfl, Nat.le_of_ble_eq_true rfl⟩) (dg_preV (rX_0 gr hk_gr) rfl K ST hP hS hA1 hA) rfl rfl hl.1 rfl (lv_room (Nat.le_of_ble_eq_true rfl)) dX0_tryAllCells_7 ⟨Nat.le_of_ble_eq_true rfl, Nat.le_of_ble_eq_true rfl⟩) (fun x_126 S_127 hw_127 H locs hP hS => ?_)
          rw [hw_127.1] at hP
          obtain ⟨hq_127, w_127_0, w_127_1, -⟩ := hw_127
          have w_127_0 : 8 ≤ (x_126).toInt ∧ (x_126).toInt ≤ 64 := w_127_0
          refine lv_icmp_ge (tgt := 74) hx hb dX0_tryAllCells_10 (dk_dq rfl) (fun c_128 => ?_) (fun c_128 => ?_)
          · have jc_128 := dk_gec (k := (x_126).toInt) rfl c_128
            refine W.widen (k := 0) (n := 0) (Nat.le_of_ble_eq_true rfl) (Nat.le_of_ble_eq_true rfl) ?_
            exact dg_vret hx hb hr hlocks hP hS ⟨I_124, M_124, (Eq.symm (lp_r hF_1 (F_e_tryAllCells_p0 w_127_1 c_128))), trivial⟩ dX0_tryAllCells_74
          · as_aux_lemma =>
              have jc_128 := dk_ngec (k := (x_126).toInt) rfl c_128
              refine lv_aload_n hx hb dX0_tryAllCells_13 rfl (lv_at hl 3 rfl) ?_
              refine dg_get (C := RX5) (T := TX5) (N := 8) hx hb hts (fun w h => bw_mem (wU_X5 w h)) hown K hP (pX_0 pt hk_pt) rfl 2 (dk_dq rfl) (hts _ (bw_mem wB_760)) (fun _ h9 => h9) (v := .ref (o + (pt + 1))) (show S_124.1 pt 2 = .ref (o + (pt + 1)) from dg_I.rel (d := 1) I_124 (pX_0 pt hk_pt) (by decide +kernel)) dX0_tryAllCells_14 ?_
              refine lv_iload hx hb dX0_tryAllCells_17 (lv_at hl 0 rfl) ?_
              have hin_129 : vp_in x_123 72 := (dk_inv2 (by omega))
              refine dg_iald hx hb K hP (pX_1 pt hk_pt) hin_129 dX0_tryAllCells_19 (fun x_130 ex_130 => ?_)
              have b_x_130 := dg_c0_at (dg_I.cel0 (lo := 0) (hi := 255) I_124 (pX_1 pt hk_pt) (by decide +kernel)) hin_129 ex_130
              refine lv_bipush (v := 100) hx hb dX0_tryAllCells_20 (by decide +kernel) ?_
              have J_149 : ∀ (x_135 : Int32), ∀ S_148 : dg_S, CX o S_148 → dg_sm shX [(44, 6), (44, 7), (44, 8)] [47] S S_148 → ((F_e_tryAllCells_B1 o gr pt a2 a1) (x_123, S_124) = F_e_tryAllCells_J2 S_148 x_135 x_123 a2) → ∀ (H : Heap) (locs : List Loc), va_P D vwCl (dg_w g shX o rfX S_148) H → va_S A s.heap H locs → ∀ ls : Array Slot, lv_has ls 7 [(5, .int x_123), (0, .ref (o + 229)), (1, .ref (o + gr)), (2, .ref (o + pt)), (3, .int a1), (4, .int a2)] → W p l e ({ frames := 4, cells := 0, slots := 0, locals := 100 } : Room) s m args below meth c H locs 0 0 (MQ below (va_Qv (fun S' => CX o S' ∧ dg_sm shX [(44, 6), (44, 7), (44, 8)] [47] S S' ∧ (S' = F_e_tryAllCells o S gr pt a1 a2) ∧ True) (dg_B g D shX o rfX) A) args s 0 0 A) (F0 m 39 ls [.int x_135]) := by
                as_aux_lemma =>
                  intro x_135 S_148 I_148 M_148 hF_2 H locs hP hS ls hl
                  refine lv_istore (lv' := [(6, .int x_135), (5, .int x_123), (0, .ref (o + 229)), (1, .ref (o + gr)), (2, .ref (o + pt)), (3, .int a1), (4, .int a2)]) hx hb dX0_tryAllCells_39 hl (dk_dq rfl) rfl (fun ls hl => ?_)
                  refine lv_iload hx hb dX0_tryAllCells_41 (lv_at hl 0 rfl) ?_
                  refine lv_aload_n hx hb dX0_tryAllCells_43 rfl (lv_at hl 2 rfl) ?_
                  obtain ⟨x_150, f_x_150, b_x_150⟩ := dg_I.int (i := 229) (k := 8) (lo := (-2147483648)) (hi := 2147483647) I_148 sX_229 (by decide +kernel)
                  refine dg_get (C := RX0) (T := TX0) (N := 9) hx hb hts (fun w h => bw_mem (wU_X0 w h)) hown K hP sX_229 rfl 8 (dk_dq rfl) (hts _ (bw_mem wB_765)) (fun _ h9 => h9) (v := .int x_150) f_x_150 dX0_tryAllCells_44 ?_
                  have J_162 : ∀ S_161 : dg_S, CX o S_161 → dg_sm shX [(44, 6), (44, 7), (44, 8)] [47] S S_161 → ((F_e_tryAllCells_B1 o gr pt a2 a1) (x_123, S_124) = F_e_tryAllCells_J3 x_123 S_161) → ∀ (H : Heap) (locs : List Loc), va_P D vwCl (dg_w g shX o rfX S_161) H → va_S A s.heap H locs → ∀ ls : Array Slot, lv_has ls 7 [(6, .int x_135), (5, .int x_123), (0, .ref (o + 229)), (1, .ref (o + gr)), (2, .ref (o + pt)), (3, .int a1), (4, .int a2)] → W p l e ({ frames := 4, cells := 0, slots := 0, locals := 100 } : Room) s m args below meth c H locs 0 0 (MQ below (va_Qv (fun S' => CX o S' ∧ dg_sm shX [(44, 6), (44, 7), (44, 8)] [47] S S' ∧ (S' = F_e_tryAllCells o S gr pt a1 a2) ∧ True) (dg_B g D shX o rfX) A) args s 0 0 A) (F0 m 68 ls []) := by
                    intro S_161 I_161 M_161 hF_3 H locs hP hS ls hl
                    obtain ⟨x_163, ex_163⟩ : ∃ z, z = x_123 + 1 := ⟨_, rfl⟩
                    have jx_163 : (x_163).toInt = (x_123).toInt + 1 := by rw [ex_163]; exact dk_addT2 rfl (by decide +kernel) (by omega)
                    refine lv_iinc (v := x_163) (lv' := [(5, .int x_163), (6, .int x_135), (0, .ref (o + 229)), (1, .ref (o + gr)), (2, .ref (o + pt)), (3, .int a1), (4, .int a2)]) hx hb dX0_tryAllCells_68 hl (k := 1) rfl (by rw [ex_163]; rfl) (dk_dq rfl) rfl (fun ls hl => ?_)
                    refine lv_goto (tgt := 4) hx hb dX0_tryAllCells_71 (dk_dq rfl) ?_
                    exact ih x_163 (by omega) (by first | exact mu_lt hmu (by omega) (by omega) | omega) S_161 I_161 M_161  (lp_l hF_1 (Eq.trans hF_3 (F_e_tryAllCells_p1 ex_163))) _ _ hP hS _ (lv_sub hl [0, 2, 3, 4, 5, 6] rfl)
                  refine lv_icmp_ge (tgt := 68) hx hb dX0_tryAllCells_47 (dk_dq rfl) (fun c_164 => ?_) (fun c_164 => ?_)
                  · have hf_164 := dk_full x_135
                    have hf_165 := dk_full x_150
                    have jc_164 := dk_gec (k := (x_150).toInt) rfl c_164
                    exact J_162   S_148 I_148 M_148  (Eq.trans hF_2 (F_e_tryAllCells_p2 (zI_eq f_x_150) c_164)) _ _ hP hS _ (lv_sub hl [0, 1, 2, 3, 4, 5, 6] rfl)
                  · as_aux_lemma =>
                      have hf_166 := dk_full x_135
                      have hf_167 := dk_full x_150
                      have jc_164 := dk_ngec (k := (x_150).toInt) rfl c_164
                      refine lv_aload_n hx hb dX0_tryAllCells_50 rfl (lv_at hl 2 rfl) ?_
                      refine lv_iload hx hb dX0_tryAllCells_51 (lv_at hl 6 rfl) ?_
                      refine dg_put (ci := 0) (v := .int a2) (ty := tyX0 6) (C := RX0) (T := TX0) (N := 9) hx hb hts (fun w h => bw_mem (wU_X0 w h)) tyX0 tyX0_ok nmX0 hown K hP hS hA1 sX_229 rfl 6 (dk_dq rfl) (hts _ (bw_mem wB_766)) (fun _ h9 => h9) rfl (by decide +kernel) rfl rfl dX0_tryAllCells_53 (fun S_169 e_169 H locs hP hS => ?_)
                      have I_169 := dg_I.uFi (lo := (-2147483648)) (hi := 2147483647) I_148 e_169 sX_229 (by decide +kernel) (show (-2147483648) ≤ (a2).toInt ∧ (a2).toInt ≤ 2147483647 from (dk_full _))
                      have M_169 := dg_sm.uF M_148 e_169 sX_229 (dk_dq rfl)
                      refine lv_aload_n hx hb dX0_tryAllCells_56 rfl (lv_at hl 2 rfl) ?_
                      refine lv_iload hx hb dX0_tryAllCells_57 (lv_at hl 1 rfl) ?_
                      refine dg_put (ci := 0) (v := .int x_123) (ty := tyX0 7) (C := RX0) (T := TX0) (N := 9) hx hb hts (fun w h => bw_mem (wU_X0 w h)) tyX0 tyX0_ok nmX0 hown K hP hS hA1 sX_229 rfl 7 (dk_dq rfl) (hts _ (bw_mem wB_767)) (fun _ h9 => h9) rfl (by decide +kernel) rfl rfl dX0_tryAllCells_59 (fun S_170 e_170 H locs hP hS => ?_)
                      have I_170 := dg_I.uFi (lo := (-2147483648)) (hi := 2147483647) I_169 e_170 sX_229 (by decide +kernel) (show (-2147483648) ≤ (x_123).toInt ∧ (x_123).toInt ≤ 2147483647 from (dk_full _))
                      have M_170 := dg_sm.uF M_169 e_170 sX_229 (dk_dq rfl)
                      refine lv_aload_n hx hb dX0_tryAllCells_62 rfl (lv_at hl 2 rfl) ?_
                      refine lv_iload hx hb dX0_tryAllCells_63 (lv_at hl 0 rfl) ?_
                      refine dg_put (ci := 0) (v := .int x_135) (ty := tyX0 8) (C := RX0) (T := TX0) (N := 9) hx hb hts (fun w h => bw_mem (wU_X0 w h)) tyX0 tyX0_ok nmX0 hown K hP hS hA1 sX_229 rfl 8 (dk_dq rfl) (hts _ (bw_mem wB_765)) (fun _ h9 => h9) rfl (by decide +kernel) rfl rfl dX0_tryAllCells_65 (fun S_171 e_171 H locs hP hS => ?_)
                      have I_171 := dg_I.uFi (lo := (-2147483648)) (hi := 2147483647) I_170 e_171 sX_229 (by decide +kernel) (show (-2147483648) ≤ (x_135).toInt ∧ (x_135).toInt ≤ 2147483647 from (dk_full _))
                      have M_171 := dg_sm.uF M_170 e_171 sX_229 (dk_dq rfl)
                      exact J_162   S_171 I_171 M_171  (Eq.trans hF_2 (F_e_tryAllCells_p3 (zI_eq f_x_150) c_164 e_169 e_170 e_171)) _ _ hP hS _ (lv_sub hl [0, 1, 2, 3, 4, 5, 6] rfl)
              refine lv_icmp_ne (tgt := 32) hx hb dX0_tryAllCells_22 (dk_dq rfl) (fun c_172 => ?_) (fun c_172 => ?_)
              · have jc_172 := dk_neqc (k := 100) (by decide +kernel) c_172
                refine lv_aload_n hx hb dX0_tryAllCells_32 rfl (lv_at hl 1 rfl) ?_
                refine lv_iload_n hx hb dX0_tryAllCells_33 rfl (lv_at hl 4 rfl) ?_
                refine lv_iload hx hb dX0_tryAllCells_34 (lv_at hl 0 rfl) ?_
                refine dg_calli hS hA1 hA (va_runV (As := [.int a1, .int x_123]) (rest := []) F (c_e_mostLeft l g D o S_124 a1 x_123 (by omega) I_124 H.size) (cwV 2 hts (bw_V wB_762 wB_763 wB_764 wB_730 wB_761) rfl rfl rfl (by decide +kernel) ⟨Nat.le_of_ble_eq_true rfl, Nat.le_of_ble_eq_true rfl⟩) (dg_preV sX_229 rfl K ST hP hS hA1 hA) rfl rfl hl.1 rfl (lv_room (Nat.le_of_ble_eq_true rfl)) dX0_tryAllCells_36 ⟨Nat.le_of_ble_eq_true rfl, Nat.le_of_ble_eq_true rfl⟩) (fun x_173 S_174 hw_174 H locs hP hS => ?_)
                obtain ⟨I_174, m_174, w_174_0, w_174_1, -⟩ := hw_174
                have M_174 := dg_sm.tr M_124 m_174 (dk_dq rfl) (dk_dq rfl)
                have w_174_0 : 0 ≤ (x_173).toInt ∧ (x_173).toInt ≤ 2147483647 := w_174_0
                exact J_149 x_173  S_174 I_174 M_174  (F_e_tryAllCells_p4 w_127_1 c_128 (Eq.symm ex_130.symm) c_172 w_174_1.1 w_174_1.2) _ _ hP hS _ (lv_sub hl [0, 1, 2, 3, 4, 5] rfl)
              · have jc_172 := dk_eqc (k := 100) (by decide +kernel) c_172
                refine lv_aload_n hx hb dX0_tryAllCells_25 rfl (lv_at hl 1 rfl) ?_
                obtain ⟨x_175, f_x_175, b_x_175⟩ := dg_I.int (i := 229) (k := 8) (lo := (-2147483648)) (hi := 2147483647) I_124 sX_229 (by decide +kernel)
                refine dg_get (C := RX0) (T := TX0) (N := 9) hx hb hts (fun w h => bw_mem (wU_X0 w h)) hown K hP sX_229 rfl 8 (dk_dq rfl) (hts _ (bw_mem wB_765)) (fun _ h9 => h9) (v := .int x_175) f_x_175 dX0_tryAllCells_26 ?_
                refine lv_goto (tgt := 39) hx hb dX0_tryAllCells_29 (dk_dq rfl) ?_
                exact J_149 x_175  S_124 I_124 M_124  (F_e_tryAllCells_p5 w_127_1 c_128 (Eq.symm ex_130.symm) c_172 (zI_eq f_x_175)) _ _ hP hS _ (lv_sub hl [0, 1, 2, 3, 4, 5] rfl)
  have hz_176 : (8 : Int32).toInt = 8 := by decide +kernel
  have hz_177 : (8 : Int32).toInt = 8 := by decide +kernel
  exact L_125 ((65 - ((8 : Int32)).toInt).toNat + 1) 8 (by decide +kernel) (by first | exact mu_lt hmu (by omega) (by omega) | omega) S I M_0  (F_e_tryAllCells_p6) _ _ hP hS _ (lv_sub hl [0, 1, 2, 3, 4, 5] rfl)
noncomputable def F_e_seekTelling_B2 (x_69 : Int32) (o : Nat) (gr : Nat) (a1 : Int32) (pt : Nat) : (Int32 × dg_S) → (Int32 × dg_S) ⊕ (dg_S) := fun w9 => match w9 with | (x_99, S_100) => (if x_69 < x_99 then (Sum.inr ((S_100))) else let S_103 : dg_S := F_e_passAll o S_100 gr a1; let S_104 : dg_S := F_e_tryAllCells o S_103 gr pt a1 x_99; let x_105 : Int32 := x_99 + 1; (Sum.inl (x_105, S_104)))
noncomputable def F_e_seekTelling_J1 (S_65 : dg_S) (pt : Nat) (o : Nat) (gr : Nat) (a1 : Int32) (S : dg_S) : dg_S := let x_67 : Int32 := zI S_65 pt 0; let x_68 : Int32 := (999 : Int32) - x_67; let x_69 : Int32 := if x_68 < (30 : Int32) then x_68 else (30 : Int32); (lp (F_e_seekTelling_B2 x_69 o gr a1 pt) S ((32 - ((1 : Int32)).toInt).toNat + 1) ((1 : Int32), S_65))
noncomputable def F_e_seekTelling_B3 (pt : Nat) (o : Nat) (gr : Nat) (a1 : Int32) (S : dg_S) : (Int32 × dg_S) → (Int32 × dg_S) ⊕ (dg_S) := fun w9 => match w9 with | (x_118, S_119) => (if (21 : Int32) ≤ x_118 then (Sum.inr ((F_e_seekTelling_J1 S_119 pt o gr a1 S))) else let d_123 : Nat := 233 + 7 * (x_118 : Int32).toNatClampNeg; let S_124 : dg_S := F_p_copy o S_119 d_123 pt; let x_125 : Int32 := x_118 + 1; (Sum.inl (x_125, S_124)))
noncomputable def F_e_seekTelling (o : Nat) (S : dg_S) (gr : Nat) (pt : Nat) (a1 : Int32) : dg_S := let S_2 : dg_S := dg_uF S 229 4 (.int (1 : Int32)); let S_4 : dg_S := dg_uF S_2 229 7 (.int (-1 : Int32)); let S_6 : dg_S := dg_uF S_4 229 8 (.int (22 : Int32)); (if a1 = (0 : Int32) then (S_6) else (lp (F_e_seekTelling_B3 pt o gr a1 S) S ((22 - ((0 : Int32)).toInt).toNat + 1) ((0 : Int32), S_6)))
theorem F_e_seekTelling_p0 {x_69 : Int32} {o : Nat} {gr : Nat} {a1 : Int32} {pt : Nat} {x_99 : Int32} {S_100 : dg_S} (h0 : x_69 < x_99) : (F_e_seekTelling_B2 x_69 o gr a1 pt) (x_99, S_100) = Sum.inr (S_100) := (Eq.trans (if_pos h0) rfl)
theorem F_e_seekTelling_p1 {x_69 : Int32} {o : Nat} {gr : Nat} {a1 : Int32} {pt : Nat} {x_99 : Int32} {S_100 : dg_S} {x_105 : Int32} {S_104 : dg_S} {S_103 : dg_S} (h0 : ¬ (x_69 < x_99)) (h1 : S_103 = F_e_passAll o S_100 gr a1) (h2 : S_104 = F_e_tryAllCells o S_103 gr pt a1 x_99) (h3 : x_105 = x_99 + 1) : (F_e_seekTelling_B2 x_69 o gr a1 pt) (x_99, S_100) = Sum.inl (x_105, S_104) := by
  replace h1 := Eq.symm h1
  subst h1
  replace h2 := Eq.symm h2
  subst h2
  replace h3 := Eq.symm h3
  subst h3
  exact (Eq.trans (if_neg h0) rfl)
theorem F_e_seekTelling_p2 {S_65 : dg_S} {pt : Nat} {o : Nat} {gr : Nat} {a1 : Int32} {S : dg_S} {x_69 : Int32} {x_67 : Int32} {x_68 : Int32} (h0 : x_67 = zI S_65 pt 0) (h1 : x_68 = (999 : Int32) - x_67) (h2 : x_69 = if x_68 < (30 : Int32) then x_68 else (30 : Int32)) : F_e_seekTelling_J1 S_65 pt o gr a1 S = lp (F_e_seekTelling_B2 x_69 o gr a1 pt) S ((32 - ((1 : Int32)).toInt).toNat + 1) ((1 : Int32), S_65) := by
  replace h0 := Eq.symm h0
  subst h0
  replace h1 := Eq.symm h1
  subst h1
  replace h2 := Eq.symm h2
  subst h2
  exact rfl
theorem F_e_seekTelling_p3 {pt : Nat} {o : Nat} {gr : Nat} {a1 : Int32} {S : dg_S} {x_118 : Int32} {S_119 : dg_S} (h0 : (21 : Int32) ≤ x_118) : (F_e_seekTelling_B3 pt o gr a1 S) (x_118, S_119) = Sum.inr (F_e_seekTelling_J1 S_119 pt o gr a1 S) := (Eq.trans (if_pos h0) rfl)
theorem F_e_seekTelling_p4 {pt : Nat} {o : Nat} {gr : Nat} {a1 : Int32} {S : dg_S} {x_118 : Int32} {S_119 : dg_S} {x_125 : Int32} {S_124 : dg_S} {d_123 : Nat} (h0 : ¬ ((21 : Int32) ≤ x_118)) (h1 : d_123 = 233 + 7 * (x_118 : Int32).toNatClampNeg) (h2 : S_124 = F_p_copy o S_119 d_123 pt) (h3 : x_125 = x_118 + 1) : (F_e_seekTelling_B3 pt o gr a1 S) (x_118, S_119) = Sum.inl (x_125, S_124) := by
  replace h1 := Eq.symm h1
  subst h1
  replace h2 := Eq.symm h2
  subst h2
  replace h3 := Eq.symm h3
  subst h3
  exact (Eq.trans (if_neg h0) rfl)
theorem F_e_seekTelling_p5 {o : Nat} {S : dg_S} {gr : Nat} {pt : Nat} {a1 : Int32} {S_6 : dg_S} {S_2 : dg_S} {S_4 : dg_S} (h0 : S_2 = dg_uF S 229 4 (.int (1 : Int32))) (h1 : S_4 = dg_uF S_2 229 7 (.int (-1 : Int32))) (h2 : S_6 = dg_uF S_4 229 8 (.int (22 : Int32))) (h3 : ¬ (a1 = (0 : Int32))) : F_e_seekTelling o S gr pt a1 = lp (F_e_seekTelling_B3 pt o gr a1 S) S ((22 - ((0 : Int32)).toInt).toNat + 1) ((0 : Int32), S_6) := by
  replace h0 := Eq.symm h0
  subst h0
  replace h1 := Eq.symm h1
  subst h1
  replace h2 := Eq.symm h2
  subst h2
  exact (Eq.trans (if_neg h3) rfl)
theorem F_e_seekTelling_p6 {o : Nat} {S : dg_S} {gr : Nat} {pt : Nat} {a1 : Int32} {S_6 : dg_S} {S_2 : dg_S} {S_4 : dg_S} (h0 : S_2 = dg_uF S 229 4 (.int (1 : Int32))) (h1 : S_4 = dg_uF S_2 229 7 (.int (-1 : Int32))) (h2 : S_6 = dg_uF S_4 229 8 (.int (22 : Int32))) (h3 : a1 = (0 : Int32)) : F_e_seekTelling o S gr pt a1 = S_6 := by
  replace h0 := Eq.symm h0
  subst h0
  replace h1 := Eq.symm h1
  subst h1
  replace h2 := Eq.symm h2
  subst h2
  exact (Eq.trans (if_pos h3) rfl)
set_option maxHeartbeats 8000000 in
set_option maxRecDepth 100000 in
theorem c_e_seekTelling (l : Launch) (g : Nat → ClassId) (D : va_G) (o : Nat) (S : dg_S) (gr : Nat) (hk_gr : rX gr) (pt : Nat) (hk_pt : pX pt) (a1 : Int32) (hf_pt : dg_fil S pt) (Z2 : Z2X S) (Z3 : Z3X o S) (I : CX o S) (sz : Nat) : Met l yX0_seekTelling (bw yX0_seekTelling cX0_seekTelling 6 none) ({ frames := 7, cells := 0, slots := 0, locals := 172 } : Room) (dk_Pc g D (dg_w g shX o rfX S) sz [.ref (o + 229), .ref (o + gr), .ref (o + pt), .int a1]) (va_Qv (fun S' => CX o S' ∧ dg_sm shX [(3, 0), (3, 1), (36, 4), (36, 6), (36, 7), (36, 8), (36, 9), (36, 10), (36, 11), (36, 12), (37, 0), (37, 1), (37, 2), (37, 3), (37, 4), (37, 5), (37, 7), (44, 4), (44, 6), (44, 7), (44, 8)] [4, 5, 6, 7, 8, 9, 38, 39, 40, 41, 42, 47] S S' ∧ Z2X S' ∧ Z3X o S' ∧ dg_FG S S' ∧ (S' = F_e_seekTelling o S gr pt a1) ∧ True) (dg_B g D shX o rfX) (dg_A o shX.length sz)) 0 0 (dg_A o shX.length sz) := by
  refine dg_met (cc := cX0_seekTelling) (maxL := 6) (ret := none) (dk_dq rfl) rfl (Nat.le_of_ble_eq_true rfl) ?_
  intro p e s m args below meth c A hAe harg hx hb hr hml hts hown hlocks hin hP K hS hA1 hA ST hsz ls hl
  rw [← hAe]
  have F : CallFix p m c cX0_seekTelling 6 s args (bw yX0_seekTelling cX0_seekTelling 6 none) RX0 := ⟨hx, hb, hml, hown, hts⟩
  have hl : lv_has ls 6 [(0, .ref (o + 229)), (1, .ref (o + gr)), (2, .ref (o + pt)), (3, .int a1)] := hl
  have M_0 : dg_sm shX [(3, 0), (3, 1), (36, 4), (36, 6), (36, 7), (36, 8), (36, 9), (36, 10), (36, 11), (36, 12), (37, 0), (37, 1), (37, 2), (37, 3), (37, 4), (37, 5), (37, 7), (44, 4), (44, 6), (44, 7), (44, 8)] [4, 5, 6, 7, 8, 9, 38, 39, 40, 41, 42, 47] S S := dg_sm.rf
  refine lv_aload_n hx hb dX0_seekTelling_0 rfl (lv_at hl 0 rfl) ?_
  refine lv_iconst (v := 1) hx hb dX0_seekTelling_1 (by decide +kernel) ?_
  have hz_1 : (1 : Int32).toInt = 1 := by decide +kernel
  refine dg_put (ci := 0) (v := .int 1) (ty := tyX0 4) (C := RX0) (T := TX0) (N := 9) hx hb hts (fun w h => bw_mem (wU_X0 w h)) tyX0 tyX0_ok nmX0 hown K hP hS hA1 sX_229 rfl 4 (dk_dq rfl) (hts _ (bw_mem wB_723)) (fun _ h9 => h9) rfl (by decide +kernel) (by decide +kernel) (by decide +kernel) dX0_seekTelling_2 (fun S_2 e_2 H locs hP hS => ?_)
  have I_2 := dg_I.uFi (lo := 0) (hi := 1) I e_2 sX_229 (by decide +kernel) (show 0 ≤ ((1 : Int32)).toInt ∧ ((1 : Int32)).toInt ≤ 1 from (by decide +kernel))
  have M_2 := dg_sm.uF M_0 e_2 sX_229 (dk_dq rfl)
  refine lv_aload_n hx hb dX0_seekTelling_5 rfl (lv_at hl 0 rfl) ?_
  refine lv_iconst (v := (-1)) hx hb dX0_seekTelling_6 (by decide +kernel) ?_
  have hz_3 : (-1 : Int32).toInt = (-1) := by decide +kernel
  refine dg_put (ci := 0) (v := .int (-1)) (ty := tyX0 7) (C := RX0) (T := TX0) (N := 9) hx hb hts (fun w h => bw_mem (wU_X0 w h)) tyX0 tyX0_ok nmX0 hown K hP hS hA1 sX_229 rfl 7 (dk_dq rfl) (hts _ (bw_mem wB_767)) (fun _ h9 => h9) rfl (by decide +kernel) rfl rfl dX0_seekTelling_7 (fun S_4 e_4 H locs hP hS => ?_)
  have I_4 := dg_I.uFi (lo := (-2147483648)) (hi := 2147483647) I_2 e_4 sX_229 (by decide +kernel) (show (-2147483648) ≤ ((-1 : Int32)).toInt ∧ ((-1 : Int32)).toInt ≤ 2147483647 from (by decide +kernel))
  have M_4 := dg_sm.uF M_2 e_4 sX_229 (dk_dq rfl)
  refine lv_aload_n hx hb dX0_seekTelling_10 rfl (lv_at hl 0 rfl) ?_
  refine lv_bipush (v := 22) hx hb dX0_seekTelling_11 (by decide +kernel) ?_
  have hz_5 : (22 : Int32).toInt = 22 := by decide +kernel
  refine dg_put (ci := 0) (v := .int 22) (ty := tyX0 8) (C := RX0) (T := TX0) (N := 9) hx hb hts (fun w h => bw_mem (wU_X0 w h)) tyX0 tyX0_ok nmX0 hown K hP hS hA1 sX_229 rfl 8 (dk_dq rfl) (hts _ (bw_mem wB_765)) (fun _ h9 => h9) rfl (by decide +kernel) rfl rfl dX0_seekTelling_13 (fun S_6 e_6 H locs hP hS => ?_)
  have I_6 := dg_I.uFi (lo := (-2147483648)) (hi := 2147483647) I_4 e_6 sX_229 (by decide +kernel) (show (-2147483648) ≤ ((22 : Int32)).toInt ∧ ((22 : Int32)).toInt ≤ 2147483647 from (by decide +kernel))
  have M_6 := dg_sm.uF M_4 e_6 sX_229 (dk_dq rfl)
  refine lv_iload_n hx hb dX0_seekTelling_16 rfl (lv_at hl 3 rfl) ?_
  refine lv_if_ne (tgt := 21) hx hb dX0_seekTelling_17 (dk_dq rfl) (fun c_7 => ?_) (fun c_7 => ?_)
  · as_aux_lemma =>
      have jc_7 := dk_neqc (k := 0) (by decide +kernel) c_7
      refine lv_iconst (v := 0) hx hb dX0_seekTelling_21 (by decide +kernel) ?_
      refine lv_istore (lv' := [(4, .int 0), (0, .ref (o + 229)), (1, .ref (o + gr)), (2, .ref (o + pt)), (3, .int a1)]) hx hb dX0_seekTelling_22 hl (dk_dq rfl) rfl (fun ls hl => ?_)
      have J_66 : ∀ (x_25 : Int32), (21 ≤ (x_25).toInt ∧ (x_25).toInt ≤ 21) → ∀ S_65 : dg_S, CX o S_65 → dg_sm shX [(3, 0), (3, 1), (36, 4), (36, 6), (36, 7), (36, 8), (36, 9), (36, 10), (36, 11), (36, 12), (37, 0), (37, 1), (37, 2), (37, 3), (37, 4), (37, 5), (37, 7), (44, 4), (44, 6), (44, 7), (44, 8)] [4, 5, 6, 7, 8, 9, 38, 39, 40, 41, 42, 47] S S_65 → dg_FG S S_65 → S_65.1 229 4 = .int 1 → S_65.1 229 7 = .int (-1) → S_65.1 229 8 = .int 22 → Z2X S_65 → Z3X o S_65 → dg_fil S_65 pt → (dg_felk S_65 21) → (F_e_seekTelling o S gr pt a1 = F_e_seekTelling_J1 S_65 pt o gr a1 S) → ∀ (H : Heap) (locs : List Loc), va_P D vwCl (dg_w g shX o rfX S_65) H → va_S A s.heap H locs → ∀ ls : Array Slot, lv_has ls 6 [(4, .int x_25), (0, .ref (o + 229)), (1, .ref (o + gr)), (2, .ref (o + pt)), (3, .int a1)] → W p l e ({ frames := 7, cells := 0, slots := 0, locals := 172 } : Room) s m args below meth c H locs 0 0 (MQ below (va_Qv (fun S' => CX o S' ∧ dg_sm shX [(3, 0), (3, 1), (36, 4), (36, 6), (36, 7), (36, 8), (36, 9), (36, 10), (36, 11), (36, 12), (37, 0), (37, 1), (37, 2), (37, 3), (37, 4), (37, 5), (37, 7), (44, 4), (44, 6), (44, 7), (44, 8)] [4, 5, 6, 7, 8, 9, 38, 39, 40, 41, 42, 47] S S' ∧ Z2X S' ∧ Z3X o S' ∧ dg_FG S S' ∧ (S' = F_e_seekTelling o S gr pt a1) ∧ True) (dg_B g D shX o rfX) A) args s 0 0 A) (F0 m 48 ls []) := by
        as_aux_lemma =>
          intro x_25 b_x_25 S_65 I_65 M_65 G_65 ff_65_4_229 ff_65_7_229 ff_65_8_229 Z2_65 Z3_65 fl_65_0 srel_65_0 hF_1 H locs hP hS ls hl
          refine lv_bipush (v := 30) hx hb dX0_seekTelling_48 (by decide +kernel) ?_
          refine lv_sipush (v := 999) hx hb dX0_seekTelling_50 (by decide +kernel) ?_
          refine lv_aload_n hx hb dX0_seekTelling_53 rfl (lv_at hl 3 rfl) ?_
          obtain ⟨x_67, f_x_67, b_x_67⟩ := dg_I.int (i := pt) (k := 0) (lo := 0) (hi := 65535) I_65 (pX_0 pt hk_pt) (by decide +kernel)
          refine dg_get (C := RX5) (T := TX5) (N := 8) hx hb hts (fun w h => bw_mem (wU_X5 w h)) hown K hP (pX_0 pt hk_pt) rfl 0 (dk_dq rfl) (hts _ (bw_mem wB_752)) (fun _ h9 => h9) (v := .int x_67) f_x_67 dX0_seekTelling_54 ?_
          refine lv_isub hx hb dX0_seekTelling_57 ?_
          refine lv_topi (fun x_68 ex_68 => ?_)
          have jx_68 : (x_68).toInt = 999 - (x_67).toInt := by rw [ex_68]; exact dk_subT2 (by decide +kernel) rfl (by omega)
          refine va_mmin hx hb (by rw [hml]; exact hl.1.symm) hown (hts _ (bw_mem wB_768)) (hts _ (bw_mem wB_504)) (hts _ (bw_mem wB_505)) (hts _ (bw_mem wB_506)) (Nat.le_of_ble_eq_true rfl) (Nat.le_of_ble_eq_true rfl) (Nat.le_of_ble_eq_true rfl) (Nat.le_of_ble_eq_true rfl) dX0_seekTelling_58 ?_
          refine lv_topi (fun x_69 ex_69 => ?_)
          have jx_69 := dk_minT (a := 30) (b := (x_68).toInt) (by decide +kernel) rfl ex_69
          refine lv_istore (lv' := [(4, .int x_69), (0, .ref (o + 229)), (1, .ref (o + gr)), (2, .ref (o + pt)), (3, .int a1)]) hx hb dX0_seekTelling_61 hl (dk_dq rfl) rfl (fun ls hl => ?_)
          refine lv_iconst (v := 1) hx hb dX0_seekTelling_63 (by decide +kernel) ?_
          refine lv_istore (lv' := [(5, .int 1), (4, .int x_69), (0, .ref (o + 229)), (1, .ref (o + gr)), (2, .ref (o + pt)), (3, .int a1)]) hx hb dX0_seekTelling_64 hl (dk_dq rfl) rfl (fun ls hl => ?_)
          have L_101 : ∀ (n : Nat) (x_99 : Int32), (1 ≤ (x_99).toInt ∧ (x_99).toInt ≤ 31) → ((32 - (x_99).toInt).toNat < n) → ∀ S_100 : dg_S, CX o S_100 → dg_sm shX [(3, 0), (3, 1), (36, 4), (36, 6), (36, 7), (36, 8), (36, 9), (36, 10), (36, 11), (36, 12), (37, 0), (37, 1), (37, 2), (37, 3), (37, 4), (37, 5), (37, 7), (44, 4), (44, 6), (44, 7), (44, 8)] [4, 5, 6, 7, 8, 9, 38, 39, 40, 41, 42, 47] S S_100 → dg_FG S S_100 → S_100.1 229 4 = .int 1 → Z2X S_100 → Z3X o S_100 → dg_fil S_100 pt → (dg_felk S_100 21) → (F_e_seekTelling o S gr pt a1 = lp (F_e_seekTelling_B2 x_69 o gr a1 pt) S n (x_99, S_100)) → ∀ (H : Heap) (locs : List Loc), va_P D vwCl (dg_w g shX o rfX S_100) H → va_S A s.heap H locs → ∀ ls : Array Slot, lv_has ls 6 [(5, .int x_99), (4, .int x_69), (0, .ref (o + 229)), (1, .ref (o + gr)), (2, .ref (o + pt)), (3, .int a1)] → W p l e ({ frames := 7, cells := 0, slots := 0, locals := 172 } : Room) s m args below meth c H locs 0 0 (MQ below (va_Qv (fun S' => CX o S' ∧ dg_sm shX [(3, 0), (3, 1), (36, 4), (36, 6), (36, 7), (36, 8), (36, 9), (36, 10), (36, 11), (36, 12), (37, 0), (37, 1), (37, 2), (37, 3), (37, 4), (37, 5), (37, 7), (44, 4), (44, 6), (44, 7), (44, 8)] [4, 5, 6, 7, 8, 9, 38, 39, 40, 41, 42, 47] S S' ∧ Z2X S' ∧ Z3X o S' ∧ dg_FG S S' ∧ (S' = F_e_seekTelling o S gr pt a1) ∧ True) (dg_B g D shX o rfX) A) args s 0 0 A) (F0 m 66 ls []) := by
            as_aux_lemma =>
              intro n
              induction n with
              | zero =>
                intro x_99 b_x_99 hmu S_100 I_100 M_100 G_100 ff_100_4_229 Z2_100 Z3_100 fl_100_0 srel_100_0 hF_2 H locs hP hS ls hl
                omega
              | succ n ih =>
                as_aux_lemma =>
                  intro x_99 b_x_99 hmu S_100 I_100 M_100 G_100 ff_100_4_229 Z2_100 Z3_100 fl_100_0 srel_100_0 hF_2 H locs hP hS ls hl
                  refine lv_iload hx hb dX0_seekTelling_66 (lv_at hl 0 rfl) ?_
                  refine lv_iload hx hb dX0_seekTelling_68 (lv_at hl 1 rfl) ?_
                  refine lv_icmp_gt (tgt := 94) hx hb dX0_seekTelling_70 (dk_dq rfl) (fun c_102 => ?_) (fun c_102 => ?_)
                  · have jc_102 := dk_gtc (k := (x_69).toInt) rfl c_102
                    refine W.widen (k := 0) (n := 0) (Nat.le_of_ble_eq_true rfl) (Nat.le_of_ble_eq_true rfl) ?_
                    exact dg_vret hx hb hr hlocks hP hS ⟨I_100, M_100, Z2_100, Z3_100, G_100, (Eq.symm (lp_r hF_2 (F_e_seekTelling_p0 c_102))), trivial⟩ dX0_seekTelling_94
                  · as_aux_lemma =>
                      have jc_102 := dk_ngtc (k := (x_69).toInt) rfl c_102
                      refine lv_aload_n hx hb dX0_seekTelling_73 rfl (lv_at hl 2 rfl) ?_
                      refine lv_aload_n hx hb dX0_seekTelling_74 rfl (lv_at hl 3 rfl) ?_
                      refine lv_iload_n hx hb dX0_seekTelling_75 rfl (lv_at hl 5 rfl) ?_
                      refine dg_callv hS hA1 hA (va_runV (As := [.ref (o + gr), .int a1]) (rest := []) F (c_e_passAll l g D o S_100 gr hk_gr a1 (by omega) Z2_100 Z3_100 I_100 H.size) (cwV 2 hts (bw_V wB_770 wB_771 wB_772 wB_730 wB_769) rfl rfl rfl (by decide +kernel) ⟨Nat.le_of_ble_eq_true rfl, Nat.le_of_ble_eq_true rfl⟩) (dg_preV sX_229 rfl K ST hP hS hA1 hA) rfl rfl hl.1 rfl (lv_room (Nat.le_of_ble_eq_true rfl)) dX0_seekTelling_76 ⟨Nat.le_of_ble_eq_true rfl, Nat.le_of_ble_eq_true rfl⟩) (fun S_103 hw_103 H locs hP hS => ?_)
                      obtain ⟨I_103, m_103, w_103_0, w_103_1, w_103_2, w_103_3, -⟩ := hw_103
                      have M_103 := dg_sm.tr M_100 m_103 (dk_dq rfl) (dk_dq rfl)
                      refine lv_aload_n hx hb dX0_seekTelling_79 rfl (lv_at hl 2 rfl) ?_
                      refine lv_aload_n hx hb dX0_seekTelling_80 rfl (lv_at hl 3 rfl) ?_
                      refine lv_aload_n hx hb dX0_seekTelling_81 rfl (lv_at hl 4 rfl) ?_
                      refine lv_iload_n hx hb dX0_seekTelling_82 rfl (lv_at hl 5 rfl) ?_
                      refine lv_iload hx hb dX0_seekTelling_83 (lv_at hl 0 rfl) ?_
                      refine dg_callv hS hA1 hA (va_runV (As := [.ref (o + gr), .ref (o + pt), .int a1, .int x_99]) (rest := []) F (c_e_tryAllCells l g D o S_103 gr hk_gr pt hk_pt a1 x_99 I_103 H.size) (cwV 4 hts (bw_V wB_774 wB_775 wB_776 wB_730 wB_773) rfl rfl rfl (by decide +kernel) ⟨Nat.le_of_ble_eq_true rfl, Nat.le_of_ble_eq_true rfl⟩) (dg_preV sX_229 rfl K ST hP hS hA1 hA) rfl rfl hl.1 rfl (lv_room (Nat.le_of_ble_eq_true rfl)) dX0_seekTelling_85 ⟨Nat.le_of_ble_eq_true rfl, Nat.le_of_ble_eq_true rfl⟩) (fun S_104 hw_104 H locs hP hS => ?_)
                      obtain ⟨I_104, m_104, w_104_0, -⟩ := hw_104
                      have M_104 := dg_sm.tr M_103 m_104 (dk_dq rfl) (dk_dq rfl)
                      obtain ⟨x_105, ex_105⟩ : ∃ z, z = x_99 + 1 := ⟨_, rfl⟩
                      have jx_105 : (x_105).toInt = (x_99).toInt + 1 := by rw [ex_105]; exact dk_addT2 rfl (by decide +kernel) (by omega)
                      refine lv_iinc (v := x_105) (lv' := [(5, .int x_105), (4, .int x_69), (0, .ref (o + 229)), (1, .ref (o + gr)), (2, .ref (o + pt)), (3, .int a1)]) hx hb dX0_seekTelling_88 hl (k := 0) rfl (by rw [ex_105]; rfl) (dk_dq rfl) rfl (fun ls hl => ?_)
                      refine lv_goto (tgt := 66) hx hb dX0_seekTelling_91 (dk_dq rfl) ?_
                      exact ih x_105 (by omega) (by first | exact mu_lt hmu (by omega) (by omega) | omega) S_104 I_104 M_104 (dg_FG.tr (dg_FG.tr G_100 w_103_2) (dg_FG.sm m_104 (dk_dq rfl))) (((m_104.1 229 4 _ sX_229 (dk_dq rfl)).trans (m_103.1 229 4 _ sX_229 (dk_dq rfl))).trans ff_100_4_229) (Z2X.keep w_103_0 m_104 (dk_dq rfl) (dk_dq rfl)) (Z3X.keep w_103_1 m_104 (dg_FG.sm m_104 (dk_dq rfl)) (dk_dq rfl)) ((dg_FG.tr w_103_2 (dg_FG.sm m_104 (dk_dq rfl))) pt hk_pt fl_100_0) (dg_felk.keep srel_100_0 (dg_FG.tr w_103_2 (dg_FG.sm m_104 (dk_dq rfl)))) (lp_l hF_2 (F_e_seekTelling_p1 c_102 w_103_3 w_104_0 ex_105)) _ _ hP hS _ (lv_sub hl [0, 1, 2, 3, 4, 5] rfl)
          have hz_106 : (1 : Int32).toInt = 1 := by decide +kernel
          have hz_107 : (1 : Int32).toInt = 1 := by decide +kernel
          exact L_101 ((32 - ((1 : Int32)).toInt).toNat + 1) 1 (by decide +kernel) (by first | exact mu_lt hmu (by omega) (by omega) | omega) S_65 I_65 M_65 G_65 ff_65_4_229 Z2_65 Z3_65 fl_65_0 srel_65_0 (Eq.trans hF_1 (F_e_seekTelling_p2 (zI_eq f_x_67) ex_68 ex_69)) _ _ hP hS _ (lv_sub hl [0, 1, 2, 3, 4, 5] rfl)
      have L_120 : ∀ (n : Nat) (x_118 : Int32), (0 ≤ (x_118).toInt ∧ (x_118).toInt ≤ 21) → ((22 - (x_118).toInt).toNat < n) → ∀ S_119 : dg_S, CX o S_119 → dg_sm shX [(3, 0), (3, 1), (36, 4), (36, 6), (36, 7), (36, 8), (36, 9), (36, 10), (36, 11), (36, 12), (37, 0), (37, 1), (37, 2), (37, 3), (37, 4), (37, 5), (37, 7), (44, 4), (44, 6), (44, 7), (44, 8)] [4, 5, 6, 7, 8, 9, 38, 39, 40, 41, 42, 47] S S_119 → dg_FG S S_119 → S_119.1 229 4 = .int 1 → S_119.1 229 7 = .int (-1) → S_119.1 229 8 = .int 22 → Z2X S_119 → Z3X o S_119 → dg_fil S_119 pt → (dg_felk S_119 (x_118 : Int32).toInt) → (F_e_seekTelling o S gr pt a1 = lp (F_e_seekTelling_B3 pt o gr a1 S) S n (x_118, S_119)) → ∀ (H : Heap) (locs : List Loc), va_P D vwCl (dg_w g shX o rfX S_119) H → va_S A s.heap H locs → ∀ ls : Array Slot, lv_has ls 6 [(4, .int x_118), (0, .ref (o + 229)), (1, .ref (o + gr)), (2, .ref (o + pt)), (3, .int a1)] → W p l e ({ frames := 7, cells := 0, slots := 0, locals := 172 } : Room) s m args below meth c H locs 0 0 (MQ below (va_Qv (fun S' => CX o S' ∧ dg_sm shX [(3, 0), (3, 1), (36, 4), (36, 6), (36, 7), (36, 8), (36, 9), (36, 10), (36, 11), (36, 12), (37, 0), (37, 1), (37, 2), (37, 3), (37, 4), (37, 5), (37, 7), (44, 4), (44, 6), (44, 7), (44, 8)] [4, 5, 6, 7, 8, 9, 38, 39, 40, 41, 42, 47] S S' ∧ Z2X S' ∧ Z3X o S' ∧ dg_FG S S' ∧ (S' = F_e_seekTelling o S gr pt a1) ∧ True) (dg_B g D shX o rfX) A) args s 0 0 A) (F0 m 24 ls []) := by
        as_aux_lemma =>
          intro n
          induction n with
          | zero =>
            intro x_118 b_x_118 hmu S_119 I_119 M_119 G_119 ff_119_4_229 ff_119_7_229 ff_119_8_229 Z2_119 Z3_119 fl_119_0 srel_119_0 hF_3 H locs hP hS ls hl
            omega
          | succ n ih =>
            as_aux_lemma =>
              intro x_118 b_x_118 hmu S_119 I_119 M_119 G_119 ff_119_4_229 ff_119_7_229 ff_119_8_229 Z2_119 Z3_119 fl_119_0 srel_119_0 hF_3 H locs hP hS ls hl
              refine lv_iload hx hb dX0_seekTelling_24 (lv_at hl 0 rfl) ?_
              refine lv_bipush (v := 21) hx hb dX0_seekTelling_26 (by decide +kernel) ?_
              refine lv_icmp_ge (tgt := 48) hx hb dX0_seekTelling_28 (dk_dq rfl) (fun c_121 => ?_) (fun c_121 => ?_)
              · have jc_121 := dk_gec (k := 21) (by decide +kernel) c_121
                exact J_66 x_118 (by omega) S_119 I_119 M_119 G_119 ff_119_4_229 ff_119_7_229 ff_119_8_229 Z2_119 Z3_119 fl_119_0 (by have h9 := srel_119_0; rw [show (x_118 : Int32).toInt = 21 from by omega] at h9; exact h9) (lp_r hF_3 (F_e_seekTelling_p3 c_121)) _ _ hP hS _ (lv_sub hl [0, 1, 2, 3, 4] rfl)
              · as_aux_lemma =>
                  have jc_121 := dk_ngec (k := 21) (by decide +kernel) c_121
                  refine lv_aload_n hx hb dX0_seekTelling_31 rfl (lv_at hl 1 rfl) ?_
                  refine dg_get (C := RX0) (T := TX0) (N := 9) hx hb hts (fun w h => bw_mem (wU_X0 w h)) hown K hP sX_229 rfl 2 (dk_dq rfl) (hts _ (bw_mem wB_742)) (fun _ h9 => h9) (v := .ref (o + 231)) (show S_119.1 229 2 = .ref (o + 231) from dg_I.rel (d := 2) I_119 sX_229 (by decide +kernel)) dX0_seekTelling_32 ?_
                  refine lv_iload hx hb dX0_seekTelling_35 (lv_at hl 0 rfl) ?_
                  have hin_122 : vp_in x_118 21 := (dk_inv2 (by omega))
                  obtain ⟨d_123, hk_d_123, g_d_123, q_d_123⟩ : ∃ d, pX d ∧ rfX 231 (x_118 : Int32).toNatClampNeg = some d ∧ d = 233 + 7 * (x_118 : Int32).toNatClampNeg := ⟨_, pX_f9 _ (dk_inT hin_122).2, rfX_f (dk_inT hin_122).2, rfl⟩
                  refine dg_aald hx hb K hP sX_231 hin_122 g_d_123 dX0_seekTelling_37 ?_
                  refine lv_aload_n hx hb dX0_seekTelling_38 rfl (lv_at hl 3 rfl) ?_
                  refine dg_callv hS hA1 hA (va_runV (As := [.ref (o + pt)]) (rest := []) F (c_p_copy l g D o S_119 d_123 hk_d_123 pt hk_pt fl_119_0 I_119 H.size) (cwV 1 hts (bw_V wB_743 wB_662 wB_663 wB_493 wB_660) rfl rfl rfl (by decide +kernel) ⟨Nat.le_of_ble_eq_true rfl, Nat.le_of_ble_eq_true rfl⟩) (dg_preV (pX_0 d_123 hk_d_123) rfl K ST hP hS hA1 hA) rfl rfl hl.1 rfl (lv_room (Nat.le_of_ble_eq_true rfl)) dX0_seekTelling_39 ⟨Nat.le_of_ble_eq_true rfl, Nat.le_of_ble_eq_true rfl⟩) (fun S_124 hw_124 H locs hP hS => ?_)
                  obtain ⟨I_124, m_124, w_124_0, w_124_1, w_124_2, -⟩ := hw_124
                  have M_124 := dg_sm.tr M_119 m_124 (dk_dq rfl) (dk_dq rfl)
                  obtain ⟨x_125, ex_125⟩ : ∃ z, z = x_118 + 1 := ⟨_, rfl⟩
                  have jx_125 : (x_125).toInt = (x_118).toInt + 1 := by rw [ex_125]; exact dk_addT2 rfl (by decide +kernel) (by omega)
                  refine lv_iinc (v := x_125) (lv' := [(4, .int x_125), (0, .ref (o + 229)), (1, .ref (o + gr)), (2, .ref (o + pt)), (3, .int a1)]) hx hb dX0_seekTelling_42 hl (k := 0) rfl (by rw [ex_125]; rfl) (dk_dq rfl) rfl (fun ls hl => ?_)
                  refine lv_goto (tgt := 24) hx hb dX0_seekTelling_45 (dk_dq rfl) ?_
                  exact ih x_125 (by omega) (by first | exact mu_lt hmu (by omega) (by omega) | omega) S_124 I_124 M_124 (dg_FG.tr G_119 w_124_1) ((m_124.1 229 4 _ sX_229 (dk_dq rfl)).trans ff_119_4_229) ((m_124.1 229 7 _ sX_229 (dk_dq rfl)).trans ff_119_7_229) ((m_124.1 229 8 _ sX_229 (dk_dq rfl)).trans ff_119_8_229) (Z2X.keep Z2_119 m_124 (dk_dq rfl) (dk_dq rfl)) (Z3X.keep Z3_119 m_124 w_124_1 (dk_dq rfl)) (w_124_1 pt hk_pt fl_119_0) (dg_felk.more srel_119_0 w_124_1 (by have h9 := w_124_0; rw [q_d_123] at h9; exact h9) (by omega) (by omega)) (lp_l hF_3 (F_e_seekTelling_p4 c_121 q_d_123 w_124_2 ex_125)) _ _ hP hS _ (lv_sub hl [0, 1, 2, 3, 4] rfl)
      have hz_126 : (0 : Int32).toInt = 0 := by decide +kernel
      have hz_127 : (0 : Int32).toInt = 0 := by decide +kernel
      exact L_120 ((22 - ((0 : Int32)).toInt).toNat + 1) 0 (by decide +kernel) (by first | exact mu_lt hmu (by omega) (by omega) | omega) S_6 I_6 M_6 (dg_FG.tr (dg_FG.tr (dg_FG.uF e_2) (dg_FG.uF e_4)) (dg_FG.uF e_6)) (((dg_uF_ne e_6 (fun z => absurd z.2 (dk_dq rfl))).trans (dg_uF_ne e_4 (fun z => absurd z.2 (dk_dq rfl)))).trans (dg_uF_at e_2)) ((dg_uF_ne e_6 (fun z => absurd z.2 (dk_dq rfl))).trans (dg_uF_at e_4)) (dg_uF_at e_6) (Z2X.keep (Z2X.keep (Z2X.keep Z2 (dg_sm.uF (WF := [(44, 4)]) (WA := []) dg_sm.rf e_2 sX_229 (dk_dq rfl)) (dk_dq rfl) (dk_dq rfl)) (dg_sm.uF (WF := [(44, 7)]) (WA := []) dg_sm.rf e_4 sX_229 (dk_dq rfl)) (dk_dq rfl) (dk_dq rfl)) (dg_sm.uF (WF := [(44, 8)]) (WA := []) dg_sm.rf e_6 sX_229 (dk_dq rfl)) (dk_dq rfl) (dk_dq rfl)) (Z3X.keep (Z3X.keep (Z3X.keep Z3 (dg_sm.uF (WF := [(44, 4)]) (WA := []) dg_sm.rf e_2 sX_229 (dk_dq rfl)) (dg_FG.uF e_2) (dk_dq rfl)) (dg_sm.uF (WF := [(44, 7)]) (WA := []) dg_sm.rf e_4 sX_229 (dk_dq rfl)) (dg_FG.uF e_4) (dk_dq rfl)) (dg_sm.uF (WF := [(44, 8)]) (WA := []) dg_sm.rf e_6 sX_229 (dk_dq rfl)) (dg_FG.uF e_6) (dk_dq rfl)) ((dg_FG.tr (dg_FG.tr (dg_FG.uF e_2) (dg_FG.uF e_4)) (dg_FG.uF e_6)) pt hk_pt hf_pt) (dg_felk.none (by omega)) (F_e_seekTelling_p5 e_2 e_4 e_6 c_7) _ _ hP hS _ (lv_sub hl [0, 1, 2, 3, 4] rfl)
  · have jc_7 := dk_eqc (k := 0) (by decide +kernel) c_7
    refine W.widen (k := 0) (n := 0) (Nat.le_of_ble_eq_true rfl) (Nat.le_of_ble_eq_true rfl) ?_
    exact dg_vret hx hb hr hlocks hP hS ⟨I_6, M_6, (Z2X.keep (Z2X.keep (Z2X.keep Z2 (dg_sm.uF (WF := [(44, 4)]) (WA := []) dg_sm.rf e_2 sX_229 (dk_dq rfl)) (dk_dq rfl) (dk_dq rfl)) (dg_sm.uF (WF := [(44, 7)]) (WA := []) dg_sm.rf e_4 sX_229 (dk_dq rfl)) (dk_dq rfl) (dk_dq rfl)) (dg_sm.uF (WF := [(44, 8)]) (WA := []) dg_sm.rf e_6 sX_229 (dk_dq rfl)) (dk_dq rfl) (dk_dq rfl)), (Z3X.keep (Z3X.keep (Z3X.keep Z3 (dg_sm.uF (WF := [(44, 4)]) (WA := []) dg_sm.rf e_2 sX_229 (dk_dq rfl)) (dg_FG.uF e_2) (dk_dq rfl)) (dg_sm.uF (WF := [(44, 7)]) (WA := []) dg_sm.rf e_4 sX_229 (dk_dq rfl)) (dg_FG.uF e_4) (dk_dq rfl)) (dg_sm.uF (WF := [(44, 8)]) (WA := []) dg_sm.rf e_6 sX_229 (dk_dq rfl)) (dg_FG.uF e_6) (dk_dq rfl)), (dg_FG.tr (dg_FG.tr (dg_FG.uF e_2) (dg_FG.uF e_4)) (dg_FG.uF e_6)), (Eq.symm (F_e_seekTelling_p6 e_2 e_4 e_6 c_7)), trivial⟩ dX0_seekTelling_20
