/-! 19.dark3.lean.txt -/
theorem dX11_later_0 : decode cX11_later 0 = .ok (.aload_n 0, 1) := dk_o42 (by decide +kernel)
theorem dX11_later_1 : decode cX11_later 1 = .ok (.getfield 49, 3) := dk_o180 (by decide +kernel)
theorem dX11_later_4 : decode cX11_later 4 = .ok (.iload_n 1, 1) := dk_o27 (by decide +kernel)
theorem dX11_later_5 : decode cX11_later 5 = .ok (.iload_n 2, 1) := dk_o28 (by decide +kernel)
theorem dX11_later_6 : decode cX11_later 6 = .ok (.invokevirtual 187, 3) := dk_o182 (by decide +kernel)
theorem dX11_later_9 : decode cX11_later 9 = .ok (.istore 4, 2) := dk_o54 (by decide +kernel)
theorem dX11_later_11 : decode cX11_later 11 = .ok (.iload 4, 2) := dk_o21 (by decide +kernel)
theorem dX11_later_13 : decode cX11_later 13 = .ok (.iconst (-1), 1) := dk_o2 (by decide +kernel)
theorem dX11_later_14 : decode cX11_later 14 = .ok (.if_icmp .eq 14, 3) := dk_o159 (by decide +kernel)
theorem dX11_later_17 : decode cX11_later 17 = .ok (.aload_n 0, 1) := dk_o42 (by decide +kernel)
theorem dX11_later_18 : decode cX11_later 18 = .ok (.iconst 0, 1) := dk_o3 (by decide +kernel)
theorem dX11_later_19 : decode cX11_later 19 = .ok (.iload_n 3, 1) := dk_o29 (by decide +kernel)
theorem dX11_later_20 : decode cX11_later 20 = .ok (.bipush 40, 2) := dk_o16 (by decide +kernel)
theorem dX11_later_22 : decode cX11_later 22 = .ok (.invokevirtual 261, 3) := dk_o182 (by decide +kernel)
theorem dX11_later_25 : decode cX11_later 25 = .ok (.ifCond .ne 5, 3) := dk_o154 (by decide +kernel)
theorem dX11_later_28 : decode cX11_later 28 = .ok (.iconst (-1), 1) := dk_o2 (by decide +kernel)
theorem dX11_later_29 : decode cX11_later 29 = .ok (.ireturn, 1) := dk_o172 (by decide +kernel)
theorem dX11_later_30 : decode cX11_later 30 = .ok (.aload_n 0, 1) := dk_o42 (by decide +kernel)
theorem dX11_later_31 : decode cX11_later 31 = .ok (.iload_n 3, 1) := dk_o29 (by decide +kernel)
theorem dX11_later_32 : decode cX11_later 32 = .ok (.invokevirtual 265, 3) := dk_o182 (by decide +kernel)
theorem dX11_later_35 : decode cX11_later 35 = .ok (.aload_n 0, 1) := dk_o42 (by decide +kernel)
theorem dX11_later_36 : decode cX11_later 36 = .ok (.getfield 23, 3) := dk_o180 (by decide +kernel)
theorem dX11_later_39 : decode cX11_later 39 = .ok (.iload 4, 2) := dk_o21 (by decide +kernel)
theorem dX11_later_41 : decode cX11_later 41 = .ok (.invokevirtual 197, 3) := dk_o182 (by decide +kernel)
theorem dX11_later_44 : decode cX11_later 44 = .ok (.ireturn, 1) := dk_o172 (by decide +kernel)
theorem dX11_opens_0 : decode cX11_opens 0 = .ok (.aload_n 0, 1) := dk_o42 (by decide +kernel)
theorem dX11_opens_1 : decode cX11_opens 1 = .ok (.getfield 49, 3) := dk_o180 (by decide +kernel)
theorem dX11_opens_4 : decode cX11_opens 4 = .ok (.iload_n 1, 1) := dk_o27 (by decide +kernel)
theorem dX11_opens_5 : decode cX11_opens 5 = .ok (.iload_n 2, 1) := dk_o28 (by decide +kernel)
theorem dX11_opens_6 : decode cX11_opens 6 = .ok (.invokevirtual 187, 3) := dk_o182 (by decide +kernel)
theorem dX11_opens_9 : decode cX11_opens 9 = .ok (.istore_n 3, 1) := dk_o62 (by decide +kernel)
theorem dX11_opens_10 : decode cX11_opens 10 = .ok (.iload_n 3, 1) := dk_o29 (by decide +kernel)
theorem dX11_opens_11 : decode cX11_opens 11 = .ok (.iconst (-1), 1) := dk_o2 (by decide +kernel)
theorem dX11_opens_12 : decode cX11_opens 12 = .ok (.if_icmp .ne 5, 3) := dk_o160 (by decide +kernel)
theorem dX11_opens_15 : decode cX11_opens 15 = .ok (.iconst (-1), 1) := dk_o2 (by decide +kernel)
theorem dX11_opens_16 : decode cX11_opens 16 = .ok (.ireturn, 1) := dk_o172 (by decide +kernel)
theorem dX11_opens_17 : decode cX11_opens 17 = .ok (.aload_n 0, 1) := dk_o42 (by decide +kernel)
theorem dX11_opens_18 : decode cX11_opens 18 = .ok (.iconst 0, 1) := dk_o3 (by decide +kernel)
theorem dX11_opens_19 : decode cX11_opens 19 = .ok (.invokevirtual 265, 3) := dk_o182 (by decide +kernel)
theorem dX11_opens_22 : decode cX11_opens 22 = .ok (.bipush 40, 2) := dk_o16 (by decide +kernel)
theorem dX11_opens_24 : decode cX11_opens 24 = .ok (.sipush 999, 3) := dk_o17 (by decide +kernel)
theorem dX11_opens_27 : decode cX11_opens 27 = .ok (.aload_n 0, 1) := dk_o42 (by decide +kernel)
theorem dX11_opens_28 : decode cX11_opens 28 = .ok (.getfield 19, 3) := dk_o180 (by decide +kernel)
theorem dX11_opens_31 : decode cX11_opens 31 = .ok (.getfield 146, 3) := dk_o180 (by decide +kernel)
theorem dX11_opens_34 : decode cX11_opens 34 = .ok (.isub, 1) := dk_o100 (by decide +kernel)
theorem dX11_opens_35 : decode cX11_opens 35 = .ok (.invokestatic 268, 3) := dk_o184 (by decide +kernel)
theorem dX11_opens_38 : decode cX11_opens 38 = .ok (.istore 4, 2) := dk_o54 (by decide +kernel)
theorem dX11_opens_40 : decode cX11_opens 40 = .ok (.iconst 0, 1) := dk_o3 (by decide +kernel)
theorem dX11_opens_41 : decode cX11_opens 41 = .ok (.istore 5, 2) := dk_o54 (by decide +kernel)
theorem dX11_opens_43 : decode cX11_opens 43 = .ok (.iload 5, 2) := dk_o21 (by decide +kernel)
theorem dX11_opens_45 : decode cX11_opens 45 = .ok (.iload 4, 2) := dk_o21 (by decide +kernel)
theorem dX11_opens_47 : decode cX11_opens 47 = .ok (.if_icmp .gt 31, 3) := dk_o163 (by decide +kernel)
theorem dX11_opens_50 : decode cX11_opens 50 = .ok (.aload_n 0, 1) := dk_o42 (by decide +kernel)
theorem dX11_opens_51 : decode cX11_opens 51 = .ok (.getfield 23, 3) := dk_o180 (by decide +kernel)
theorem dX11_opens_54 : decode cX11_opens 54 = .ok (.iload_n 3, 1) := dk_o29 (by decide +kernel)
theorem dX11_opens_55 : decode cX11_opens 55 = .ok (.invokevirtual 200, 3) := dk_o182 (by decide +kernel)
theorem dX11_opens_58 : decode cX11_opens 58 = .ok (.ifCond .eq 6, 3) := dk_o153 (by decide +kernel)
theorem dX11_opens_61 : decode cX11_opens 61 = .ok (.iload 5, 2) := dk_o21 (by decide +kernel)
theorem dX11_opens_63 : decode cX11_opens 63 = .ok (.ireturn, 1) := dk_o172 (by decide +kernel)
theorem dX11_opens_64 : decode cX11_opens 64 = .ok (.aload_n 0, 1) := dk_o42 (by decide +kernel)
theorem dX11_opens_65 : decode cX11_opens 65 = .ok (.getfield 70, 3) := dk_o180 (by decide +kernel)
theorem dX11_opens_68 : decode cX11_opens 68 = .ok (.iconst 1, 1) := dk_o4 (by decide +kernel)
theorem dX11_opens_69 : decode cX11_opens 69 = .ok (.invokevirtual 273, 3) := dk_o182 (by decide +kernel)
theorem dX11_opens_72 : decode cX11_opens 72 = .ok (.iinc 5 1, 3) := dk_o132 (by decide +kernel)
theorem dX11_opens_75 : decode cX11_opens 75 = .ok (.goto (-32), 3) := dk_o167 (by decide +kernel)
theorem dX11_opens_78 : decode cX11_opens 78 = .ok (.iconst (-1), 1) := dk_o2 (by decide +kernel)
theorem dX11_opens_79 : decode cX11_opens 79 = .ok (.ireturn, 1) := dk_o172 (by decide +kernel)
theorem dX11_worth_0 : decode cX11_worth 0 = .ok (.aload_n 0, 1) := dk_o42 (by decide +kernel)
theorem dX11_worth_1 : decode cX11_worth 1 = .ok (.iconst 0, 1) := dk_o3 (by decide +kernel)
theorem dX11_worth_2 : decode cX11_worth 2 = .ok (.iload_n 1, 1) := dk_o27 (by decide +kernel)
theorem dX11_worth_3 : decode cX11_worth 3 = .ok (.bipush 40, 2) := dk_o16 (by decide +kernel)
theorem dX11_worth_5 : decode cX11_worth 5 = .ok (.invokevirtual 261, 3) := dk_o182 (by decide +kernel)
theorem dX11_worth_8 : decode cX11_worth 8 = .ok (.ifCond .ne 5, 3) := dk_o154 (by decide +kernel)
theorem dX11_worth_11 : decode cX11_worth 11 = .ok (.iconst (-1), 1) := dk_o2 (by decide +kernel)
theorem dX11_worth_12 : decode cX11_worth 12 = .ok (.ireturn, 1) := dk_o172 (by decide +kernel)
theorem dX11_worth_13 : decode cX11_worth 13 = .ok (.aload_n 0, 1) := dk_o42 (by decide +kernel)
theorem dX11_worth_14 : decode cX11_worth 14 = .ok (.iload_n 1, 1) := dk_o27 (by decide +kernel)
theorem dX11_worth_15 : decode cX11_worth 15 = .ok (.invokevirtual 265, 3) := dk_o182 (by decide +kernel)
theorem dX11_worth_18 : decode cX11_worth 18 = .ok (.aload_n 0, 1) := dk_o42 (by decide +kernel)
theorem dX11_worth_19 : decode cX11_worth 19 = .ok (.getfield 23, 3) := dk_o180 (by decide +kernel)
theorem dX11_worth_22 : decode cX11_worth 22 = .ok (.invokevirtual 168, 3) := dk_o182 (by decide +kernel)
theorem dX11_worth_25 : decode cX11_worth 25 = .ok (.ireturn, 1) := dk_o172 (by decide +kernel)
theorem dX11_shade_0 : decode cX11_shade 0 = .ok (.aload_n 0, 1) := dk_o42 (by decide +kernel)
theorem dX11_shade_1 : decode cX11_shade 1 = .ok (.iconst 1, 1) := dk_o4 (by decide +kernel)
theorem dX11_shade_2 : decode cX11_shade 2 = .ok (.iload_n 1, 1) := dk_o27 (by decide +kernel)
theorem dX11_shade_3 : decode cX11_shade 3 = .ok (.bipush 20, 2) := dk_o16 (by decide +kernel)
theorem dX11_shade_5 : decode cX11_shade 5 = .ok (.invokevirtual 261, 3) := dk_o182 (by decide +kernel)
theorem dX11_shade_8 : decode cX11_shade 8 = .ok (.ifCond .ne 5, 3) := dk_o154 (by decide +kernel)
theorem dX11_shade_11 : decode cX11_shade 11 = .ok (.iconst (-1), 1) := dk_o2 (by decide +kernel)
theorem dX11_shade_12 : decode cX11_shade 12 = .ok (.ireturn, 1) := dk_o172 (by decide +kernel)
theorem dX11_shade_13 : decode cX11_shade 13 = .ok (.aload_n 0, 1) := dk_o42 (by decide +kernel)
theorem dX11_shade_14 : decode cX11_shade 14 = .ok (.getfield 79, 3) := dk_o180 (by decide +kernel)
theorem dX11_shade_17 : decode cX11_shade 17 = .ok (.aload_n 0, 1) := dk_o42 (by decide +kernel)
theorem dX11_shade_18 : decode cX11_shade 18 = .ok (.getfield 49, 3) := dk_o180 (by decide +kernel)
theorem dX11_shade_21 : decode cX11_shade 21 = .ok (.aload_n 0, 1) := dk_o42 (by decide +kernel)
theorem dX11_shade_22 : decode cX11_shade 22 = .ok (.getfield 19, 3) := dk_o180 (by decide +kernel)
theorem dX11_shade_25 : decode cX11_shade 25 = .ok (.iload_n 1, 1) := dk_o27 (by decide +kernel)
theorem dX11_shade_26 : decode cX11_shade 26 = .ok (.invokevirtual 276, 3) := dk_o182 (by decide +kernel)
theorem dX11_shade_29 : decode cX11_shade 29 = .ok (.aload_n 0, 1) := dk_o42 (by decide +kernel)
theorem dX11_shade_30 : decode cX11_shade 30 = .ok (.getfield 79, 3) := dk_o180 (by decide +kernel)
theorem dX11_shade_33 : decode cX11_shade 33 = .ok (.getfield 279, 3) := dk_o180 (by decide +kernel)
theorem dX11_shade_36 : decode cX11_shade 36 = .ok (.iconst (-1), 1) := dk_o2 (by decide +kernel)
theorem dX11_shade_37 : decode cX11_shade 37 = .ok (.if_icmp .ne 5, 3) := dk_o160 (by decide +kernel)
theorem dX11_shade_40 : decode cX11_shade 40 = .ok (.iconst (-1), 1) := dk_o2 (by decide +kernel)
theorem dX11_shade_41 : decode cX11_shade 41 = .ok (.ireturn, 1) := dk_o172 (by decide +kernel)
theorem dX11_shade_42 : decode cX11_shade 42 = .ok (.iload_n 2, 1) := dk_o28 (by decide +kernel)
theorem dX11_shade_43 : decode cX11_shade 43 = .ok (.tableswitch 55 0 2 #[25, 36, 47], 25) := by decide +kernel
theorem dX11_shade_68 : decode cX11_shade 68 = .ok (.aload_n 0, 1) := dk_o42 (by decide +kernel)
theorem dX11_shade_69 : decode cX11_shade 69 = .ok (.getfield 79, 3) := dk_o180 (by decide +kernel)
theorem dX11_shade_72 : decode cX11_shade 72 = .ok (.getfield 279, 3) := dk_o180 (by decide +kernel)
theorem dX11_shade_75 : decode cX11_shade 75 = .ok (.invokestatic 234, 3) := dk_o184 (by decide +kernel)
theorem dX11_shade_78 : decode cX11_shade 78 = .ok (.ireturn, 1) := dk_o172 (by decide +kernel)
theorem dX11_shade_79 : decode cX11_shade 79 = .ok (.aload_n 0, 1) := dk_o42 (by decide +kernel)
theorem dX11_shade_80 : decode cX11_shade 80 = .ok (.getfield 79, 3) := dk_o180 (by decide +kernel)
theorem dX11_shade_83 : decode cX11_shade 83 = .ok (.getfield 279, 3) := dk_o180 (by decide +kernel)
theorem dX11_shade_86 : decode cX11_shade 86 = .ok (.invokestatic 237, 3) := dk_o184 (by decide +kernel)
theorem dX11_shade_89 : decode cX11_shade 89 = .ok (.ireturn, 1) := dk_o172 (by decide +kernel)
theorem dX11_shade_90 : decode cX11_shade 90 = .ok (.aload_n 0, 1) := dk_o42 (by decide +kernel)
theorem dX11_shade_91 : decode cX11_shade 91 = .ok (.getfield 79, 3) := dk_o180 (by decide +kernel)
theorem dX11_shade_94 : decode cX11_shade 94 = .ok (.getfield 282, 3) := dk_o180 (by decide +kernel)
theorem dX11_shade_97 : decode cX11_shade 97 = .ok (.ireturn, 1) := dk_o172 (by decide +kernel)
theorem dX11_shade_98 : decode cX11_shade 98 = .ok (.iconst (-1), 1) := dk_o2 (by decide +kernel)
theorem dX11_shade_99 : decode cX11_shade 99 = .ok (.ireturn, 1) := dk_o172 (by decide +kernel)
theorem dX11_change_0 : decode cX11_change 0 = .ok (.aload_n 0, 1) := dk_o42 (by decide +kernel)
theorem dX11_change_1 : decode cX11_change 1 = .ok (.iconst 1, 1) := dk_o4 (by decide +kernel)
theorem dX11_change_2 : decode cX11_change 2 = .ok (.iload_n 1, 1) := dk_o27 (by decide +kernel)
theorem dX11_change_3 : decode cX11_change 3 = .ok (.bipush 20, 2) := dk_o16 (by decide +kernel)
theorem dX11_change_5 : decode cX11_change 5 = .ok (.invokevirtual 261, 3) := dk_o182 (by decide +kernel)
theorem dX11_change_8 : decode cX11_change 8 = .ok (.ifCond .ne 5, 3) := dk_o154 (by decide +kernel)
theorem dX11_change_11 : decode cX11_change 11 = .ok (.iconst (-1), 1) := dk_o2 (by decide +kernel)
theorem dX11_change_12 : decode cX11_change 12 = .ok (.ireturn, 1) := dk_o172 (by decide +kernel)
theorem dX11_change_13 : decode cX11_change 13 = .ok (.aload_n 0, 1) := dk_o42 (by decide +kernel)
theorem dX11_change_14 : decode cX11_change 14 = .ok (.getfield 79, 3) := dk_o180 (by decide +kernel)
theorem dX11_change_17 : decode cX11_change 17 = .ok (.aload_n 0, 1) := dk_o42 (by decide +kernel)
theorem dX11_change_18 : decode cX11_change 18 = .ok (.getfield 49, 3) := dk_o180 (by decide +kernel)
theorem dX11_change_21 : decode cX11_change 21 = .ok (.aload_n 0, 1) := dk_o42 (by decide +kernel)
theorem dX11_change_22 : decode cX11_change 22 = .ok (.getfield 19, 3) := dk_o180 (by decide +kernel)
theorem dX11_change_25 : decode cX11_change 25 = .ok (.iload_n 1, 1) := dk_o27 (by decide +kernel)
theorem dX11_change_26 : decode cX11_change 26 = .ok (.invokevirtual 285, 3) := dk_o182 (by decide +kernel)
theorem dX11_change_29 : decode cX11_change 29 = .ok (.aload_n 0, 1) := dk_o42 (by decide +kernel)
theorem dX11_change_30 : decode cX11_change 30 = .ok (.getfield 79, 3) := dk_o180 (by decide +kernel)
theorem dX11_change_33 : decode cX11_change 33 = .ok (.getfield 288, 3) := dk_o180 (by decide +kernel)
theorem dX11_change_36 : decode cX11_change 36 = .ok (.iconst (-1), 1) := dk_o2 (by decide +kernel)
theorem dX11_change_37 : decode cX11_change 37 = .ok (.if_icmp .ne 5, 3) := dk_o160 (by decide +kernel)
theorem dX11_change_40 : decode cX11_change 40 = .ok (.iconst (-1), 1) := dk_o2 (by decide +kernel)
theorem dX11_change_41 : decode cX11_change 41 = .ok (.ireturn, 1) := dk_o172 (by decide +kernel)
theorem dX11_change_42 : decode cX11_change 42 = .ok (.iload_n 2, 1) := dk_o28 (by decide +kernel)
theorem dX11_change_43 : decode cX11_change 43 = .ok (.tableswitch 49 0 2 #[25, 33, 41], 25) := by decide +kernel
theorem dX11_change_68 : decode cX11_change 68 = .ok (.aload_n 0, 1) := dk_o42 (by decide +kernel)
theorem dX11_change_69 : decode cX11_change 69 = .ok (.getfield 79, 3) := dk_o180 (by decide +kernel)
theorem dX11_change_72 : decode cX11_change 72 = .ok (.getfield 288, 3) := dk_o180 (by decide +kernel)
theorem dX11_change_75 : decode cX11_change 75 = .ok (.ireturn, 1) := dk_o172 (by decide +kernel)
theorem dX11_change_76 : decode cX11_change 76 = .ok (.aload_n 0, 1) := dk_o42 (by decide +kernel)
theorem dX11_change_77 : decode cX11_change 77 = .ok (.getfield 79, 3) := dk_o180 (by decide +kernel)
theorem dX11_change_80 : decode cX11_change 80 = .ok (.getfield 291, 3) := dk_o180 (by decide +kernel)
theorem dX11_change_83 : decode cX11_change 83 = .ok (.ireturn, 1) := dk_o172 (by decide +kernel)
theorem dX11_change_84 : decode cX11_change 84 = .ok (.aload_n 0, 1) := dk_o42 (by decide +kernel)
theorem dX11_change_85 : decode cX11_change 85 = .ok (.getfield 79, 3) := dk_o180 (by decide +kernel)
theorem dX11_change_88 : decode cX11_change 88 = .ok (.getfield 294, 3) := dk_o180 (by decide +kernel)
theorem dX11_change_91 : decode cX11_change 91 = .ok (.ireturn, 1) := dk_o172 (by decide +kernel)
theorem dX11_change_92 : decode cX11_change 92 = .ok (.iconst (-1), 1) := dk_o2 (by decide +kernel)
theorem dX11_change_93 : decode cX11_change 93 = .ok (.ireturn, 1) := dk_o172 (by decide +kernel)
theorem dX11_sale_0 : decode cX11_sale 0 = .ok (.iload_n 1, 1) := dk_o27 (by decide +kernel)
theorem dX11_sale_1 : decode cX11_sale 1 = .ok (.ifCond .eq 10, 3) := dk_o153 (by decide +kernel)
theorem dX11_sale_4 : decode cX11_sale 4 = .ok (.iload_n 1, 1) := dk_o27 (by decide +kernel)
theorem dX11_sale_5 : decode cX11_sale 5 = .ok (.iconst 1, 1) := dk_o4 (by decide +kernel)
theorem dX11_sale_6 : decode cX11_sale 6 = .ok (.if_icmp .eq 5, 3) := dk_o159 (by decide +kernel)
theorem dX11_sale_9 : decode cX11_sale 9 = .ok (.iconst (-1), 1) := dk_o2 (by decide +kernel)
theorem dX11_sale_10 : decode cX11_sale 10 = .ok (.ireturn, 1) := dk_o172 (by decide +kernel)
theorem dX11_sale_11 : decode cX11_sale 11 = .ok (.iconst 0, 1) := dk_o3 (by decide +kernel)
theorem dX11_sale_12 : decode cX11_sale 12 = .ok (.istore_n 2, 1) := dk_o61 (by decide +kernel)
theorem dX11_sale_13 : decode cX11_sale 13 = .ok (.iconst 1, 1) := dk_o4 (by decide +kernel)
theorem dX11_sale_14 : decode cX11_sale 14 = .ok (.istore_n 3, 1) := dk_o62 (by decide +kernel)
theorem dX11_sale_15 : decode cX11_sale 15 = .ok (.iload_n 3, 1) := dk_o29 (by decide +kernel)
theorem dX11_sale_16 : decode cX11_sale 16 = .ok (.iconst 1, 1) := dk_o4 (by decide +kernel)
theorem dX11_sale_17 : decode cX11_sale 17 = .ok (.aload_n 0, 1) := dk_o42 (by decide +kernel)
theorem dX11_sale_18 : decode cX11_sale 18 = .ok (.getfield 49, 3) := dk_o180 (by decide +kernel)
theorem dX11_sale_21 : decode cX11_sale 21 = .ok (.getfield 143, 3) := dk_o180 (by decide +kernel)
theorem dX11_sale_24 : decode cX11_sale 24 = .ok (.ishl, 1) := dk_o120 (by decide +kernel)
theorem dX11_sale_25 : decode cX11_sale 25 = .ok (.if_icmp .ge 28, 3) := dk_o162 (by decide +kernel)
theorem dX11_sale_28 : decode cX11_sale 28 = .ok (.aload_n 0, 1) := dk_o42 (by decide +kernel)
theorem dX11_sale_29 : decode cX11_sale 29 = .ok (.iload_n 3, 1) := dk_o29 (by decide +kernel)
theorem dX11_sale_30 : decode cX11_sale 30 = .ok (.invokevirtual 297, 3) := dk_o182 (by decide +kernel)
theorem dX11_sale_33 : decode cX11_sale 33 = .ok (.ifCond .eq 14, 3) := dk_o153 (by decide +kernel)
theorem dX11_sale_36 : decode cX11_sale 36 = .ok (.aload_n 0, 1) := dk_o42 (by decide +kernel)
theorem dX11_sale_37 : decode cX11_sale 37 = .ok (.iload_n 3, 1) := dk_o29 (by decide +kernel)
theorem dX11_sale_38 : decode cX11_sale 38 = .ok (.iload_n 2, 1) := dk_o28 (by decide +kernel)
theorem dX11_sale_39 : decode cX11_sale 39 = .ok (.invokevirtual 300, 3) := dk_o182 (by decide +kernel)
theorem dX11_sale_42 : decode cX11_sale 42 = .ok (.ifCond .eq 5, 3) := dk_o153 (by decide +kernel)
theorem dX11_sale_45 : decode cX11_sale 45 = .ok (.iload_n 3, 1) := dk_o29 (by decide +kernel)
theorem dX11_sale_46 : decode cX11_sale 46 = .ok (.istore_n 2, 1) := dk_o61 (by decide +kernel)
theorem dX11_sale_47 : decode cX11_sale 47 = .ok (.iinc 3 1, 3) := dk_o132 (by decide +kernel)
theorem dX11_sale_50 : decode cX11_sale 50 = .ok (.goto (-35), 3) := dk_o167 (by decide +kernel)
theorem dX11_sale_53 : decode cX11_sale 53 = .ok (.iload_n 1, 1) := dk_o27 (by decide +kernel)
theorem dX11_sale_54 : decode cX11_sale 54 = .ok (.ifCond .ne 7, 3) := dk_o154 (by decide +kernel)
theorem dX11_sale_57 : decode cX11_sale 57 = .ok (.iload_n 2, 1) := dk_o28 (by decide +kernel)
theorem dX11_sale_58 : decode cX11_sale 58 = .ok (.goto 8, 3) := dk_o167 (by decide +kernel)
theorem dX11_sale_61 : decode cX11_sale 61 = .ok (.aload_n 0, 1) := dk_o42 (by decide +kernel)
theorem dX11_sale_62 : decode cX11_sale 62 = .ok (.iload_n 2, 1) := dk_o28 (by decide +kernel)
theorem dX11_sale_63 : decode cX11_sale 63 = .ok (.invokevirtual 304, 3) := dk_o182 (by decide +kernel)
theorem dX11_sale_66 : decode cX11_sale 66 = .ok (.ireturn, 1) := dk_o172 (by decide +kernel)
theorem dX11_odds_0 : decode cX11_odds 0 = .ok (.aload_n 0, 1) := dk_o42 (by decide +kernel)
theorem dX11_odds_1 : decode cX11_odds 1 = .ok (.iconst 1, 1) := dk_o4 (by decide +kernel)
theorem dX11_odds_2 : decode cX11_odds 2 = .ok (.iconst 1, 1) := dk_o4 (by decide +kernel)
theorem dX11_odds_3 : decode cX11_odds 3 = .ok (.iconst 1, 1) := dk_o4 (by decide +kernel)
theorem dX11_odds_4 : decode cX11_odds 4 = .ok (.invokevirtual 261, 3) := dk_o182 (by decide +kernel)
theorem dX11_odds_7 : decode cX11_odds 7 = .ok (.ifCond .ne 5, 3) := dk_o154 (by decide +kernel)
theorem dX11_odds_10 : decode cX11_odds 10 = .ok (.iconst (-1), 1) := dk_o2 (by decide +kernel)
theorem dX11_odds_11 : decode cX11_odds 11 = .ok (.ireturn, 1) := dk_o172 (by decide +kernel)
theorem dX11_odds_12 : decode cX11_odds 12 = .ok (.iload_n 1, 1) := dk_o27 (by decide +kernel)
theorem dX11_odds_13 : decode cX11_odds 13 = .ok (.iconst (-1), 1) := dk_o2 (by decide +kernel)
theorem dX11_odds_14 : decode cX11_odds 14 = .ok (.if_icmp .ne 22, 3) := dk_o160 (by decide +kernel)
theorem dX11_odds_17 : decode cX11_odds 17 = .ok (.bipush 100, 2) := dk_o16 (by decide +kernel)
theorem dX11_odds_19 : decode cX11_odds 19 = .ok (.aload_n 0, 1) := dk_o42 (by decide +kernel)
theorem dX11_odds_20 : decode cX11_odds 20 = .ok (.getfield 49, 3) := dk_o180 (by decide +kernel)
theorem dX11_odds_23 : decode cX11_odds 23 = .ok (.getfield 131, 3) := dk_o180 (by decide +kernel)
theorem dX11_odds_26 : decode cX11_odds 26 = .ok (.imul, 1) := dk_o104 (by decide +kernel)
theorem dX11_odds_27 : decode cX11_odds 27 = .ok (.aload_n 0, 1) := dk_o42 (by decide +kernel)
theorem dX11_odds_28 : decode cX11_odds 28 = .ok (.getfield 49, 3) := dk_o180 (by decide +kernel)
theorem dX11_odds_31 : decode cX11_odds 31 = .ok (.getfield 134, 3) := dk_o180 (by decide +kernel)
theorem dX11_odds_34 : decode cX11_odds 34 = .ok (.imul, 1) := dk_o104 (by decide +kernel)
theorem dX11_odds_35 : decode cX11_odds 35 = .ok (.ireturn, 1) := dk_o172 (by decide +kernel)
theorem dX11_odds_36 : decode cX11_odds 36 = .ok (.aload_n 0, 1) := dk_o42 (by decide +kernel)
theorem dX11_odds_37 : decode cX11_odds 37 = .ok (.getfield 49, 3) := dk_o180 (by decide +kernel)
theorem dX11_odds_40 : decode cX11_odds 40 = .ok (.iload_n 1, 1) := dk_o27 (by decide +kernel)
theorem dX11_odds_41 : decode cX11_odds 41 = .ok (.iload_n 2, 1) := dk_o28 (by decide +kernel)
theorem dX11_odds_42 : decode cX11_odds 42 = .ok (.invokevirtual 187, 3) := dk_o182 (by decide +kernel)
theorem dX11_odds_45 : decode cX11_odds 45 = .ok (.istore_n 3, 1) := dk_o62 (by decide +kernel)
theorem dX11_odds_46 : decode cX11_odds 46 = .ok (.iload_n 3, 1) := dk_o29 (by decide +kernel)
theorem dX11_odds_47 : decode cX11_odds 47 = .ok (.iconst (-1), 1) := dk_o2 (by decide +kernel)
theorem dX11_odds_48 : decode cX11_odds 48 = .ok (.if_icmp .ne 7, 3) := dk_o160 (by decide +kernel)
theorem dX11_odds_51 : decode cX11_odds 51 = .ok (.iconst (-1), 1) := dk_o2 (by decide +kernel)
theorem dX11_odds_52 : decode cX11_odds 52 = .ok (.goto 19, 3) := dk_o167 (by decide +kernel)
theorem dX11_odds_55 : decode cX11_odds 55 = .ok (.aload_n 0, 1) := dk_o42 (by decide +kernel)
theorem dX11_odds_56 : decode cX11_odds 56 = .ok (.getfield 79, 3) := dk_o180 (by decide +kernel)
theorem dX11_odds_59 : decode cX11_odds 59 = .ok (.aload_n 0, 1) := dk_o42 (by decide +kernel)
theorem dX11_odds_60 : decode cX11_odds 60 = .ok (.getfield 49, 3) := dk_o180 (by decide +kernel)
theorem dX11_odds_63 : decode cX11_odds 63 = .ok (.aload_n 0, 1) := dk_o42 (by decide +kernel)
theorem dX11_odds_64 : decode cX11_odds 64 = .ok (.getfield 19, 3) := dk_o180 (by decide +kernel)
theorem dX11_odds_67 : decode cX11_odds 67 = .ok (.iload_n 3, 1) := dk_o29 (by decide +kernel)
theorem dX11_odds_68 : decode cX11_odds 68 = .ok (.invokevirtual 307, 3) := dk_o182 (by decide +kernel)
theorem dX11_odds_71 : decode cX11_odds 71 = .ok (.ireturn, 1) := dk_o172 (by decide +kernel)
theorem dX11_feel_0 : decode cX11_feel 0 = .ok (.aload_n 0, 1) := dk_o42 (by decide +kernel)
theorem dX11_feel_1 : decode cX11_feel 1 = .ok (.getfield 86, 3) := dk_o180 (by decide +kernel)
theorem dX11_feel_4 : decode cX11_feel 4 = .ok (.aload_n 0, 1) := dk_o42 (by decide +kernel)
theorem dX11_feel_5 : decode cX11_feel 5 = .ok (.getfield 49, 3) := dk_o180 (by decide +kernel)
theorem dX11_feel_8 : decode cX11_feel 8 = .ok (.aload_n 0, 1) := dk_o42 (by decide +kernel)
theorem dX11_feel_9 : decode cX11_feel 9 = .ok (.getfield 10, 3) := dk_o180 (by decide +kernel)
theorem dX11_feel_12 : decode cX11_feel 12 = .ok (.invokevirtual 311, 3) := dk_o182 (by decide +kernel)
theorem dX11_feel_15 : decode cX11_feel 15 = .ok (.istore_n 1, 1) := dk_o60 (by decide +kernel)
theorem dX11_feel_16 : decode cX11_feel 16 = .ok (.aload_n 0, 1) := dk_o42 (by decide +kernel)
theorem dX11_feel_17 : decode cX11_feel 17 = .ok (.getfield 10, 3) := dk_o180 (by decide +kernel)
theorem dX11_feel_20 : decode cX11_feel 20 = .ok (.iconst 0, 1) := dk_o3 (by decide +kernel)
theorem dX11_feel_21 : decode cX11_feel 21 = .ok (.putfield 97, 3) := dk_o181 (by decide +kernel)
theorem dX11_feel_24 : decode cX11_feel 24 = .ok (.iload_n 1, 1) := dk_o27 (by decide +kernel)
theorem dX11_feel_25 : decode cX11_feel 25 = .ok (.ifCond .eq 13, 3) := dk_o153 (by decide +kernel)
theorem dX11_feel_28 : decode cX11_feel 28 = .ok (.aload_n 0, 1) := dk_o42 (by decide +kernel)
theorem dX11_feel_29 : decode cX11_feel 29 = .ok (.getfield 86, 3) := dk_o180 (by decide +kernel)
theorem dX11_feel_32 : decode cX11_feel 32 = .ok (.getfield 119, 3) := dk_o180 (by decide +kernel)
theorem dX11_feel_35 : decode cX11_feel 35 = .ok (.goto 8, 3) := dk_o167 (by decide +kernel)
theorem dX11_feel_38 : decode cX11_feel 38 = .ok (.aload_n 0, 1) := dk_o42 (by decide +kernel)
theorem dX11_feel_39 : decode cX11_feel 39 = .ok (.iconst 5, 1) := dk_o8 (by decide +kernel)
theorem dX11_feel_40 : decode cX11_feel 40 = .ok (.invokevirtual 100, 3) := dk_o182 (by decide +kernel)
theorem dX11_feel_43 : decode cX11_feel 43 = .ok (.ireturn, 1) := dk_o172 (by decide +kernel)
theorem dX11_reaches_0 : decode cX11_reaches 0 = .ok (.aload_n 0, 1) := dk_o42 (by decide +kernel)
theorem dX11_reaches_1 : decode cX11_reaches 1 = .ok (.getfield 49, 3) := dk_o180 (by decide +kernel)
theorem dX11_reaches_4 : decode cX11_reaches 4 = .ok (.invokevirtual 315, 3) := dk_o182 (by decide +kernel)
theorem dX11_reaches_7 : decode cX11_reaches 7 = .ok (.ifCond .eq 21, 3) := dk_o153 (by decide +kernel)
theorem dX11_reaches_10 : decode cX11_reaches 10 = .ok (.aload_n 0, 1) := dk_o42 (by decide +kernel)
theorem dX11_reaches_11 : decode cX11_reaches 11 = .ok (.getfield 86, 3) := dk_o180 (by decide +kernel)
theorem dX11_reaches_14 : decode cX11_reaches 14 = .ok (.aload_n 0, 1) := dk_o42 (by decide +kernel)
theorem dX11_reaches_15 : decode cX11_reaches 15 = .ok (.getfield 49, 3) := dk_o180 (by decide +kernel)
theorem dX11_reaches_18 : decode cX11_reaches 18 = .ok (.aload_n 0, 1) := dk_o42 (by decide +kernel)
theorem dX11_reaches_19 : decode cX11_reaches 19 = .ok (.getfield 19, 3) := dk_o180 (by decide +kernel)
theorem dX11_reaches_22 : decode cX11_reaches 22 = .ok (.invokevirtual 319, 3) := dk_o182 (by decide +kernel)
theorem dX11_reaches_25 : decode cX11_reaches 25 = .ok (.goto 4, 3) := dk_o167 (by decide +kernel)
theorem dX11_reaches_28 : decode cX11_reaches 28 = .ok (.iconst (-1), 1) := dk_o2 (by decide +kernel)
theorem dX11_reaches_29 : decode cX11_reaches 29 = .ok (.ireturn, 1) := dk_o172 (by decide +kernel)
theorem dX11_tells_0 : decode cX11_tells 0 = .ok (.aload_n 0, 1) := dk_o42 (by decide +kernel)
theorem dX11_tells_1 : decode cX11_tells 1 = .ok (.iconst 1, 1) := dk_o4 (by decide +kernel)
theorem dX11_tells_2 : decode cX11_tells 2 = .ok (.iconst 1, 1) := dk_o4 (by decide +kernel)
theorem dX11_tells_3 : decode cX11_tells 3 = .ok (.iconst 1, 1) := dk_o4 (by decide +kernel)
theorem dX11_tells_4 : decode cX11_tells 4 = .ok (.invokevirtual 261, 3) := dk_o182 (by decide +kernel)
theorem dX11_tells_7 : decode cX11_tells 7 = .ok (.ifCond .ne 5, 3) := dk_o154 (by decide +kernel)
theorem dX11_tells_10 : decode cX11_tells 10 = .ok (.iconst (-1), 1) := dk_o2 (by decide +kernel)
theorem dX11_tells_11 : decode cX11_tells 11 = .ok (.ireturn, 1) := dk_o172 (by decide +kernel)
theorem dX11_tells_12 : decode cX11_tells 12 = .ok (.aload_n 0, 1) := dk_o42 (by decide +kernel)
theorem dX11_tells_13 : decode cX11_tells 13 = .ok (.getfield 86, 3) := dk_o180 (by decide +kernel)
theorem dX11_tells_16 : decode cX11_tells 16 = .ok (.getfield 323, 3) := dk_o180 (by decide +kernel)
theorem dX11_tells_19 : decode cX11_tells 19 = .ok (.ifCond .ne 33, 3) := dk_o154 (by decide +kernel)
theorem dX11_tells_22 : decode cX11_tells 22 = .ok (.aload_n 0, 1) := dk_o42 (by decide +kernel)
theorem dX11_tells_23 : decode cX11_tells 23 = .ok (.getfield 86, 3) := dk_o180 (by decide +kernel)
theorem dX11_tells_26 : decode cX11_tells 26 = .ok (.aload_n 0, 1) := dk_o42 (by decide +kernel)
theorem dX11_tells_27 : decode cX11_tells 27 = .ok (.getfield 49, 3) := dk_o180 (by decide +kernel)
theorem dX11_tells_30 : decode cX11_tells 30 = .ok (.aload_n 0, 1) := dk_o42 (by decide +kernel)
theorem dX11_tells_31 : decode cX11_tells 31 = .ok (.getfield 19, 3) := dk_o180 (by decide +kernel)
theorem dX11_tells_34 : decode cX11_tells 34 = .ok (.aload_n 0, 1) := dk_o42 (by decide +kernel)
theorem dX11_tells_35 : decode cX11_tells 35 = .ok (.getfield 86, 3) := dk_o180 (by decide +kernel)
theorem dX11_tells_38 : decode cX11_tells 38 = .ok (.aload_n 0, 1) := dk_o42 (by decide +kernel)
theorem dX11_tells_39 : decode cX11_tells 39 = .ok (.getfield 49, 3) := dk_o180 (by decide +kernel)
theorem dX11_tells_42 : decode cX11_tells 42 = .ok (.aload_n 0, 1) := dk_o42 (by decide +kernel)
theorem dX11_tells_43 : decode cX11_tells 43 = .ok (.getfield 19, 3) := dk_o180 (by decide +kernel)
theorem dX11_tells_46 : decode cX11_tells 46 = .ok (.invokevirtual 319, 3) := dk_o182 (by decide +kernel)
theorem dX11_tells_49 : decode cX11_tells 49 = .ok (.invokevirtual 327, 3) := dk_o182 (by decide +kernel)
theorem dX11_tells_52 : decode cX11_tells 52 = .ok (.aload_n 0, 1) := dk_o42 (by decide +kernel)
theorem dX11_tells_53 : decode cX11_tells 53 = .ok (.getfield 86, 3) := dk_o180 (by decide +kernel)
theorem dX11_tells_56 : decode cX11_tells 56 = .ok (.getfield 330, 3) := dk_o180 (by decide +kernel)
theorem dX11_tells_59 : decode cX11_tells 59 = .ok (.iconst (-1), 1) := dk_o2 (by decide +kernel)
theorem dX11_tells_60 : decode cX11_tells 60 = .ok (.if_icmp .ne 5, 3) := dk_o160 (by decide +kernel)
theorem dX11_tells_63 : decode cX11_tells 63 = .ok (.iconst (-1), 1) := dk_o2 (by decide +kernel)
theorem dX11_tells_64 : decode cX11_tells 64 = .ok (.ireturn, 1) := dk_o172 (by decide +kernel)
theorem dX11_tells_65 : decode cX11_tells 65 = .ok (.iload_n 1, 1) := dk_o27 (by decide +kernel)
theorem dX11_tells_66 : decode cX11_tells 66 = .ok (.tableswitch 53 0 2 #[26, 34, 45], 26) := by decide +kernel
theorem dX11_tells_92 : decode cX11_tells 92 = .ok (.aload_n 0, 1) := dk_o42 (by decide +kernel)
theorem dX11_tells_93 : decode cX11_tells 93 = .ok (.getfield 86, 3) := dk_o180 (by decide +kernel)
theorem dX11_tells_96 : decode cX11_tells 96 = .ok (.getfield 333, 3) := dk_o180 (by decide +kernel)
theorem dX11_tells_99 : decode cX11_tells 99 = .ok (.ireturn, 1) := dk_o172 (by decide +kernel)
theorem dX11_tells_100 : decode cX11_tells 100 = .ok (.aload_n 0, 1) := dk_o42 (by decide +kernel)
theorem dX11_tells_101 : decode cX11_tells 101 = .ok (.getfield 86, 3) := dk_o180 (by decide +kernel)
theorem dX11_tells_104 : decode cX11_tells 104 = .ok (.getfield 330, 3) := dk_o180 (by decide +kernel)
theorem dX11_tells_107 : decode cX11_tells 107 = .ok (.bipush 8, 2) := dk_o16 (by decide +kernel)
theorem dX11_tells_109 : decode cX11_tells 109 = .ok (.isub, 1) := dk_o100 (by decide +kernel)
theorem dX11_tells_110 : decode cX11_tells 110 = .ok (.ireturn, 1) := dk_o172 (by decide +kernel)
theorem dX11_tells_111 : decode cX11_tells 111 = .ok (.aload_n 0, 1) := dk_o42 (by decide +kernel)
theorem dX11_tells_112 : decode cX11_tells 112 = .ok (.getfield 86, 3) := dk_o180 (by decide +kernel)
theorem dX11_tells_115 : decode cX11_tells 115 = .ok (.getfield 336, 3) := dk_o180 (by decide +kernel)
theorem dX11_tells_118 : decode cX11_tells 118 = .ok (.ireturn, 1) := dk_o172 (by decide +kernel)
theorem dX11_tells_119 : decode cX11_tells 119 = .ok (.iconst (-1), 1) := dk_o2 (by decide +kernel)
theorem dX11_tells_120 : decode cX11_tells 120 = .ok (.ireturn, 1) := dk_o172 (by decide +kernel)
theorem wB_983 : Cond.code yX11_shiftsCome cX11_shiftsCome 4 (some .boolean) ∈ dgB := List.mem_filter.mpr ⟨tbl_5 _ (List.mem_of_getElem? (i := 87) rfl), rfl⟩
theorem wB_984 : Cond.methodLink RX11 261 yX11_shiftsCome ∈ dgB := List.mem_filter.mpr ⟨tbl_5 _ (List.mem_of_getElem? (i := 84) (by decide +kernel)), by decide +kernel⟩
theorem wB_985 : Cond.instanceMethod yX11_shiftsCome ∈ dgB := List.mem_filter.mpr ⟨tbl_5 _ (List.mem_of_getElem? (i := 86) (by decide +kernel)), by decide +kernel⟩
theorem wB_986 : Cond.selects RX11 yX11_shiftsCome yX11_shiftsCome ∈ dgB := List.mem_filter.mpr ⟨List.mem_of_getElem? (i := 55) (by decide +kernel), by decide +kernel⟩
theorem wB_987 : Cond.code yX11_lookAhead cX11_lookAhead 2 none ∈ dgB := List.mem_filter.mpr ⟨tbl_5 _ (List.mem_of_getElem? (i := 91) rfl), rfl⟩
theorem wB_988 : Cond.methodLink RX11 265 yX11_lookAhead ∈ dgB := List.mem_filter.mpr ⟨tbl_5 _ (List.mem_of_getElem? (i := 88) (by decide +kernel)), by decide +kernel⟩
theorem wB_989 : Cond.instanceMethod yX11_lookAhead ∈ dgB := List.mem_filter.mpr ⟨tbl_5 _ (List.mem_of_getElem? (i := 90) (by decide +kernel)), by decide +kernel⟩
theorem wB_990 : Cond.selects RX11 yX11_lookAhead yX11_lookAhead ∈ dgB := List.mem_filter.mpr ⟨List.mem_of_getElem? (i := 56) (by decide +kernel), by decide +kernel⟩
theorem wB_991 : Cond.methodLink RX11 268 Lib.Math.min.name ∈ dgB := List.mem_filter.mpr ⟨tbl_5 _ (List.mem_of_getElem? (i := 123) (by decide +kernel)), by decide +kernel⟩
theorem wB_992 : Cond.code yX1_seekShade cX1_seekShade 5 none ∈ dgB := List.mem_filter.mpr ⟨tbl_5 _ (List.mem_of_getElem? (i := 135) rfl), rfl⟩
theorem wB_993 : Cond.methodLink RX11 276 yX1_seekShade ∈ dgB := List.mem_filter.mpr ⟨tbl_5 _ (List.mem_of_getElem? (i := 132) (by decide +kernel)), by decide +kernel⟩
theorem wB_994 : Cond.instanceMethod yX1_seekShade ∈ dgB := List.mem_filter.mpr ⟨tbl_5 _ (List.mem_of_getElem? (i := 133) (by decide +kernel)), by decide +kernel⟩
theorem wB_995 : Cond.selects RX1 yX1_seekShade yX1_seekShade ∈ dgB := List.mem_filter.mpr ⟨tbl_5 _ (List.mem_of_getElem? (i := 134) (by decide +kernel)), by decide +kernel⟩
theorem wB_996 : Cond.fieldLink RX11 279 "DarkMine$Foresight" "shadePlace" "I" ∈ dgB := List.mem_filter.mpr ⟨tbl_2 _ (List.mem_of_getElem? (i := 205) (by decide +kernel)), by decide +kernel⟩
theorem wB_997 : Cond.fieldLink RX11 282 "DarkMine$Foresight" "shadeWorth" "I" ∈ dgB := List.mem_filter.mpr ⟨tbl_2 _ (List.mem_of_getElem? (i := 207) (by decide +kernel)), by decide +kernel⟩
theorem wB_998 : Cond.code yX1_seekChange cX1_seekChange 7 none ∈ dgB := List.mem_filter.mpr ⟨tbl_5 _ (List.mem_of_getElem? (i := 151) rfl), rfl⟩
theorem wB_999 : Cond.methodLink RX11 285 yX1_seekChange ∈ dgB := List.mem_filter.mpr ⟨tbl_5 _ (List.mem_of_getElem? (i := 148) (by decide +kernel)), by decide +kernel⟩
theorem wB_1000 : Cond.instanceMethod yX1_seekChange ∈ dgB := List.mem_filter.mpr ⟨tbl_5 _ (List.mem_of_getElem? (i := 149) (by decide +kernel)), by decide +kernel⟩
theorem wB_1001 : Cond.selects RX1 yX1_seekChange yX1_seekChange ∈ dgB := List.mem_filter.mpr ⟨tbl_5 _ (List.mem_of_getElem? (i := 150) (by decide +kernel)), by decide +kernel⟩
theorem wB_1002 : Cond.fieldLink RX11 288 "DarkMine$Foresight" "changeRow" "I" ∈ dgB := List.mem_filter.mpr ⟨tbl_2 _ (List.mem_of_getElem? (i := 209) (by decide +kernel)), by decide +kernel⟩
theorem wB_1003 : Cond.fieldLink RX11 291 "DarkMine$Foresight" "changeOther" "I" ∈ dgB := List.mem_filter.mpr ⟨tbl_2 _ (List.mem_of_getElem? (i := 211) (by decide +kernel)), by decide +kernel⟩
theorem wB_1004 : Cond.fieldLink RX11 294 "DarkMine$Foresight" "changeGrades" "I" ∈ dgB := List.mem_filter.mpr ⟨tbl_2 _ (List.mem_of_getElem? (i := 213) (by decide +kernel)), by decide +kernel⟩
theorem wB_1005 : Cond.code yX11_canAllBeSold cX11_canAllBeSold 4 (some .boolean) ∈ dgB := List.mem_filter.mpr ⟨tbl_5 _ (List.mem_of_getElem? (i := 168) rfl), rfl⟩
theorem wB_1006 : Cond.methodLink RX11 297 yX11_canAllBeSold ∈ dgB := List.mem_filter.mpr ⟨tbl_5 _ (List.mem_of_getElem? (i := 165) (by decide +kernel)), by decide +kernel⟩
theorem wB_1007 : Cond.instanceMethod yX11_canAllBeSold ∈ dgB := List.mem_filter.mpr ⟨tbl_5 _ (List.mem_of_getElem? (i := 167) (by decide +kernel)), by decide +kernel⟩
theorem wB_1008 : Cond.selects RX11 yX11_canAllBeSold yX11_canAllBeSold ∈ dgB := List.mem_filter.mpr ⟨List.mem_of_getElem? (i := 61) (by decide +kernel), by decide +kernel⟩
theorem wB_1009 : Cond.code yX11_isBetterSale cX11_isBetterSale 4 (some .boolean) ∈ dgB := List.mem_filter.mpr ⟨tbl_5 _ (List.mem_of_getElem? (i := 176) rfl), rfl⟩
theorem wB_1010 : Cond.methodLink RX11 300 yX11_isBetterSale ∈ dgB := List.mem_filter.mpr ⟨tbl_5 _ (List.mem_of_getElem? (i := 173) (by decide +kernel)), by decide +kernel⟩
theorem wB_1011 : Cond.instanceMethod yX11_isBetterSale ∈ dgB := List.mem_filter.mpr ⟨tbl_5 _ (List.mem_of_getElem? (i := 175) (by decide +kernel)), by decide +kernel⟩
theorem wB_1012 : Cond.selects RX11 yX11_isBetterSale yX11_isBetterSale ∈ dgB := List.mem_filter.mpr ⟨List.mem_of_getElem? (i := 63) (by decide +kernel), by decide +kernel⟩
theorem wB_1013 : Cond.code yX1_oddsOf cX1_oddsOf 9 (some .int) ∈ dgB := List.mem_filter.mpr ⟨tbl_5 _ (List.mem_of_getElem? (i := 194) rfl), rfl⟩
theorem wB_1014 : Cond.methodLink RX11 307 yX1_oddsOf ∈ dgB := List.mem_filter.mpr ⟨tbl_5 _ (List.mem_of_getElem? (i := 191) (by decide +kernel)), by decide +kernel⟩
theorem wB_1015 : Cond.instanceMethod yX1_oddsOf ∈ dgB := List.mem_filter.mpr ⟨tbl_5 _ (List.mem_of_getElem? (i := 192) (by decide +kernel)), by decide +kernel⟩
theorem wB_1016 : Cond.selects RX1 yX1_oddsOf yX1_oddsOf ∈ dgB := List.mem_filter.mpr ⟨tbl_5 _ (List.mem_of_getElem? (i := 193) (by decide +kernel)), by decide +kernel⟩
theorem wB_1017 : Cond.code yX0_take cX0_take 5 (some .boolean) ∈ dgB := List.mem_filter.mpr ⟨tbl_5 _ (List.mem_of_getElem? (i := 215) rfl), rfl⟩
theorem wB_1018 : Cond.methodLink RX11 311 yX0_take ∈ dgB := List.mem_filter.mpr ⟨tbl_5 _ (List.mem_of_getElem? (i := 212) (by decide +kernel)), by decide +kernel⟩
theorem wB_1019 : Cond.instanceMethod yX0_take ∈ dgB := List.mem_filter.mpr ⟨tbl_5 _ (List.mem_of_getElem? (i := 213) (by decide +kernel)), by decide +kernel⟩
theorem wB_1020 : Cond.selects RX0 yX0_take yX0_take ∈ dgB := List.mem_filter.mpr ⟨tbl_5 _ (List.mem_of_getElem? (i := 214) (by decide +kernel)), by decide +kernel⟩
theorem wB_1021 : Cond.code yX0_reachBits cX0_reachBits 6 (some .int) ∈ dgB := List.mem_filter.mpr ⟨tbl_5 _ (List.mem_of_getElem? (i := 229) rfl), rfl⟩
theorem wB_1022 : Cond.methodLink RX11 319 yX0_reachBits ∈ dgB := List.mem_filter.mpr ⟨tbl_5 _ (List.mem_of_getElem? (i := 226) (by decide +kernel)), by decide +kernel⟩
theorem wB_1023 : Cond.instanceMethod yX0_reachBits ∈ dgB := List.mem_filter.mpr ⟨tbl_5 _ (List.mem_of_getElem? (i := 227) (by decide +kernel)), by decide +kernel⟩
theorem wB_1024 : Cond.selects RX0 yX0_reachBits yX0_reachBits ∈ dgB := List.mem_filter.mpr ⟨tbl_5 _ (List.mem_of_getElem? (i := 228) (by decide +kernel)), by decide +kernel⟩
theorem wB_1025 : Cond.fieldLink RX11 323 "DarkMine$Feeling" "isTold" "Z" ∈ dgB := List.mem_filter.mpr ⟨tbl_3 _ (List.mem_of_getElem? (i := 6) (by decide +kernel)), by decide +kernel⟩
theorem wB_1026 : Cond.code yX0_seekTelling cX0_seekTelling 6 none ∈ dgB := List.mem_filter.mpr ⟨tbl_6 _ (List.mem_of_getElem? (i := 10) rfl), rfl⟩
theorem wB_1027 : Cond.methodLink RX11 327 yX0_seekTelling ∈ dgB := List.mem_filter.mpr ⟨tbl_6 _ (List.mem_of_getElem? (i := 7) (by decide +kernel)), by decide +kernel⟩
theorem wB_1028 : Cond.instanceMethod yX0_seekTelling ∈ dgB := List.mem_filter.mpr ⟨tbl_6 _ (List.mem_of_getElem? (i := 8) (by decide +kernel)), by decide +kernel⟩
theorem wB_1029 : Cond.selects RX0 yX0_seekTelling yX0_seekTelling ∈ dgB := List.mem_filter.mpr ⟨tbl_6 _ (List.mem_of_getElem? (i := 9) (by decide +kernel)), by decide +kernel⟩
theorem wB_1030 : Cond.fieldLink RX11 330 "DarkMine$Feeling" "tellingPlace" "I" ∈ dgB := List.mem_filter.mpr ⟨tbl_3 _ (List.mem_of_getElem? (i := 12) (by decide +kernel)), by decide +kernel⟩
theorem wB_1031 : Cond.fieldLink RX11 333 "DarkMine$Feeling" "tellingShifts" "I" ∈ dgB := List.mem_filter.mpr ⟨tbl_3 _ (List.mem_of_getElem? (i := 10) (by decide +kernel)), by decide +kernel⟩
theorem wB_1032 : Cond.fieldLink RX11 336 "DarkMine$Feeling" "tellingLeft" "I" ∈ dgB := List.mem_filter.mpr ⟨tbl_3 _ (List.mem_of_getElem? (i := 14) (by decide +kernel)), by decide +kernel⟩
noncomputable def F_d_later (o : Nat) (S : dg_S) (a1 : Int32) (a2 : Int32) (a3 : Int32) : dg_S × Int32 := let d_1 : Nat := zR o S 0 6; let x_2 : Int32 := zI S d_1 0; let x_3 : Int32 := zI S d_1 1; let x_4 : Int32 := F_g_placeOf o S d_1 a1 a2; (if x_4 = (-1 : Int32) then (S, (-1 : Int32)) else let x_8 : Int32 := F_d_shiftsCome o S (0 : Int32) a3 (40 : Int32); (if x_8 = (0 : Int32) then (S, (-1 : Int32)) else let S_11 : dg_S := F_d_lookAhead o S a3; let x_12 : Int32 := F_p_gradeAt o S_11 10 x_4; (S_11, x_12)))
theorem F_d_later_p0 {o : Nat} {S : dg_S} {a1 : Int32} {a2 : Int32} {a3 : Int32} {d_1 : Nat} {x_4 : Int32} (h0 : d_1 = zR o S 0 6) (h1 : x_4 = F_g_placeOf o S d_1 a1 a2) (h2 : x_4 = (-1 : Int32)) : F_d_later o S a1 a2 a3 = (S, (-1 : Int32)) := by
  replace h0 := Eq.symm h0
  subst h0
  replace h1 := Eq.symm h1
  subst h1
  exact (Eq.trans (if_pos h2) rfl)
theorem F_d_later_p1 {o : Nat} {S : dg_S} {a1 : Int32} {a2 : Int32} {a3 : Int32} {S_11 : dg_S} {x_12 : Int32} {d_1 : Nat} {x_4 : Int32} {x_8 : Int32} (h0 : d_1 = zR o S 0 6) (h1 : x_4 = F_g_placeOf o S d_1 a1 a2) (h2 : ¬ (x_4 = (-1 : Int32))) (h3 : x_8 = F_d_shiftsCome o S (0 : Int32) a3 (40 : Int32)) (h4 : ¬ (x_8 = (0 : Int32))) (h5 : S_11 = F_d_lookAhead o S a3) (h6 : x_12 = F_p_gradeAt o S_11 10 x_4) : F_d_later o S a1 a2 a3 = (S_11, x_12) := by
  replace h0 := Eq.symm h0
  subst h0
  replace h1 := Eq.symm h1
  subst h1
  replace h3 := Eq.symm h3
  subst h3
  replace h5 := Eq.symm h5
  subst h5
  replace h6 := Eq.symm h6
  subst h6
  exact (Eq.trans (if_neg h2) (Eq.trans (if_neg h4) rfl))
theorem F_d_later_p2 {o : Nat} {S : dg_S} {a1 : Int32} {a2 : Int32} {a3 : Int32} {d_1 : Nat} {x_4 : Int32} {x_8 : Int32} (h0 : d_1 = zR o S 0 6) (h1 : x_4 = F_g_placeOf o S d_1 a1 a2) (h2 : ¬ (x_4 = (-1 : Int32))) (h3 : x_8 = F_d_shiftsCome o S (0 : Int32) a3 (40 : Int32)) (h4 : x_8 = (0 : Int32)) : F_d_later o S a1 a2 a3 = (S, (-1 : Int32)) := by
  replace h0 := Eq.symm h0
  subst h0
  replace h1 := Eq.symm h1
  subst h1
  replace h3 := Eq.symm h3
  subst h3
  exact (Eq.trans (if_neg h2) (Eq.trans (if_pos h4) rfl))
set_option maxHeartbeats 8000000 in
set_option maxRecDepth 100000 in
theorem c_d_later (l : Launch) (g : Nat → ClassId) (D : va_G) (o : Nat) (S : dg_S) (a1 : Int32) (a2 : Int32) (a3 : Int32) (Z1 : Z1X S) (Z2 : Z2X S) (Z3 : Z3X o S) (Z4 : Z4X S) (Z6 : Z6X S) (I : CX o S) (sz : Nat) : Met l yX11_later (bw yX11_later cX11_later 5 (some .int)) ({ frames := 7, cells := 0, slots := 0, locals := 170 } : Room) (dk_Pc g D (dg_w g shX o rfX S) sz [.ref (o + 0), .int a1, .int a2, .int a3]) (va_Qi (fun (r : Int32) S' => CX o S' ∧ dg_sm shX [(3, 0), (3, 1), (36, 4), (36, 6), (36, 7), (36, 8), (36, 9), (36, 10), (36, 11), (36, 12), (37, 0), (37, 1), (37, 2), (37, 3), (37, 4), (37, 5), (37, 7)] [4, 5, 6, 7, 8, 9, 38, 39, 40, 41, 42] S S' ∧ ((-1) ≤ (r).toInt ∧ (r).toInt ≤ 9) ∧ Z2X S' ∧ Z3X o S' ∧ Z4X S' ∧ Z6X S' ∧ dg_FG S S' ∧ (S' = (F_d_later o S a1 a2 a3).1 ∧ r = (F_d_later o S a1 a2 a3).2) ∧ True) (dg_B g D shX o rfX) (dg_A o shX.length sz)) 0 0 (dg_A o shX.length sz) := by
  refine dg_met (cc := cX11_later) (maxL := 5) (ret := (some .int)) (dk_dq rfl) rfl (Nat.le_of_ble_eq_true rfl) ?_
  intro p e s m args below meth c A hAe harg hx hb hr hml hts hown hlocks hin hP K hS hA1 hA ST hsz ls hl
  rw [← hAe]
  have F : CallFix p m c cX11_later 5 s args (bw yX11_later cX11_later 5 (some .int)) RX11 := ⟨hx, hb, hml, hown, hts⟩
  have hl : lv_has ls 5 [(0, .ref (o + 0)), (1, .int a1), (2, .int a2), (3, .int a3)] := hl
  have M_0 : dg_sm shX [(3, 0), (3, 1), (36, 4), (36, 6), (36, 7), (36, 8), (36, 9), (36, 10), (36, 11), (36, 12), (37, 0), (37, 1), (37, 2), (37, 3), (37, 4), (37, 5), (37, 7)] [4, 5, 6, 7, 8, 9, 38, 39, 40, 41, 42] S S := dg_sm.rf
  refine lv_aload_n hx hb dX11_later_0 rfl (lv_at hl 0 rfl) ?_
  obtain ⟨d_1, hk_d_1, f_d_1⟩ := dg_I.one (i := 0) (k := 6) (d := 0) I sX_0 (by decide +kernel)
  have hk_d_1 : rX d_1 := hk_d_1
  refine dg_get (C := RX11) (T := TX11) (N := 13) hx hb hts (fun w h => bw_mem (wU_X11 w h)) hown K hP sX_0 rfl 6 (dk_dq rfl) (hts _ (bw_mem wB_286)) (fun _ h9 => h9) (v := .ref (o + d_1)) f_d_1 dX11_later_1 ?_
  refine lv_iload_n hx hb dX11_later_4 rfl (lv_at hl 1 rfl) ?_
  refine lv_iload_n hx hb dX11_later_5 rfl (lv_at hl 2 rfl) ?_
  obtain ⟨x_2, f_x_2, b_x_2⟩ := dg_I.int (i := d_1) (k := 0) (lo := 0) (hi := 7) I (rX_0 d_1 hk_d_1) (by decide +kernel)
  obtain ⟨x_3, f_x_3, b_x_3⟩ := dg_I.int (i := d_1) (k := 1) (lo := 0) (hi := 7) I (rX_0 d_1 hk_d_1) (by decide +kernel)
  refine dg_calli hS hA1 hA (va_runV (As := [.int a1, .int a2]) (rest := []) F (c_g_placeOfR l g D o S d_1 hk_d_1 a1 a2 x_2 f_x_2 (by omega) x_3 f_x_3 (by omega) I s.heap.size) (cwV 2 hts (bw_V wB_880 wB_55 wB_56 wB_9 wB_53) rfl rfl rfl (by decide +kernel) ⟨Nat.le_of_ble_eq_true rfl, Nat.le_of_ble_eq_true rfl⟩) (dg_preV (rX_0 d_1 hk_d_1) rfl K ST hP hS hA1 hA) rfl rfl hl.1 rfl (lv_room (Nat.le_of_ble_eq_true rfl)) dX11_later_6 ⟨Nat.le_of_ble_eq_true rfl, Nat.le_of_ble_eq_true rfl⟩) (fun x_4 S_5 hw_5 H locs hP hS => ?_)
  rw [hw_5.1] at hP
  obtain ⟨hq_5, w_5_0, w_5_1, w_5_2, -⟩ := hw_5
  have w_5_0 : ((-1) ≤ (x_4).toInt ∧ (x_4).toInt ≤ 62) ∧ ((x_4).toInt ≤ (-1) ∨ 8 ≤ (x_4).toInt) := w_5_0
  have w_5_1 : (0 ≤ (a1).toInt ∧ (a1).toInt < (x_2).toInt ∧ 0 ≤ (a2).toInt ∧ (a2).toInt < (x_3).toInt) → 8 ≤ (x_4).toInt := w_5_1
  refine lv_istore (lv' := [(4, .int x_4), (0, .ref (o + 0)), (1, .int a1), (2, .int a2), (3, .int a3)]) hx hb dX11_later_9 hl (dk_dq rfl) rfl (fun ls hl => ?_)
  refine lv_iload hx hb dX11_later_11 (lv_at hl 0 rfl) ?_
  refine lv_iconst (v := (-1)) hx hb dX11_later_13 (by decide +kernel) ?_
  refine lv_icmp_eq (tgt := 28) hx hb dX11_later_14 (dk_dq rfl) (fun c_6 => ?_) (fun c_6 => ?_)
  · have jc_6 := dk_eqc (k := (-1)) (by decide +kernel) c_6
    refine lv_iconst (v := (-1)) hx hb dX11_later_28 (by decide +kernel) ?_
    have hz_7 : (-1 : Int32).toInt = (-1) := by decide +kernel
    refine W.widen (k := 0) (n := 0) (Nat.le_of_ble_eq_true rfl) (Nat.le_of_ble_eq_true rfl) ?_
    exact dg_iret hx hb hr hlocks rfl hP hS ⟨I, M_0, (by decide +kernel), Z2, Z3, Z4, Z6, dg_FG.rf, ⟨congrArg Prod.fst (Eq.symm (F_d_later_p0 (zR_eq f_d_1) w_5_2 c_6)), congrArg Prod.snd (Eq.symm (F_d_later_p0 (zR_eq f_d_1) w_5_2 c_6))⟩, trivial⟩ dX11_later_29
  · as_aux_lemma =>
      have jc_6 := dk_neqc (k := (-1)) (by decide +kernel) c_6
      refine lv_aload_n hx hb dX11_later_17 rfl (lv_at hl 1 rfl) ?_
      refine lv_iconst (v := 0) hx hb dX11_later_18 (by decide +kernel) ?_
      refine lv_iload_n hx hb dX11_later_19 rfl (lv_at hl 4 rfl) ?_
      refine lv_bipush (v := 40) hx hb dX11_later_20 (by decide +kernel) ?_
      refine dg_calli hS hA1 hA (va_runV (As := [.int 0, .int a3, .int 40]) (rest := []) F (c_d_shiftsCome l g D o S 0 a3 40 Z1 Z2 Z3 Z4 Z6 I H.size) (cwV 3 hts (bw_V wB_984 wB_985 wB_986 wB_610 wB_983) rfl rfl rfl (by decide +kernel) ⟨Nat.le_of_ble_eq_true rfl, Nat.le_of_ble_eq_true rfl⟩) (dg_preV sX_0 rfl K ST hP hS hA1 hA) rfl rfl hl.1 rfl (lv_room (Nat.le_of_ble_eq_true rfl)) dX11_later_22 ⟨Nat.le_of_ble_eq_true rfl, Nat.le_of_ble_eq_true rfl⟩) (fun x_8 S_9 hw_9 H locs hP hS => ?_)
      rw [hw_9.1] at hP
      obtain ⟨hq_9, w_9_0, w_9_1, -⟩ := hw_9
      have w_9_0 : 0 ≤ (x_8).toInt ∧ (x_8).toInt ≤ 1 := w_9_0
      refine lv_if_ne (tgt := 30) hx hb dX11_later_25 (dk_dq rfl) (fun c_10 => ?_) (fun c_10 => ?_)
      · have jc_10 := dk_neqc (k := 0) (by decide +kernel) c_10
        refine lv_aload_n hx hb dX11_later_30 rfl (lv_at hl 1 rfl) ?_
        refine lv_iload_n hx hb dX11_later_31 rfl (lv_at hl 4 rfl) ?_
        refine dg_callv hS hA1 hA (va_runV (As := [.int a3]) (rest := []) F (c_d_lookAhead l g D o S a3 Z1 Z2 Z3 Z4 Z6 I H.size) (cwV 1 hts (bw_V wB_988 wB_989 wB_990 wB_610 wB_987) rfl rfl rfl (by decide +kernel) ⟨Nat.le_of_ble_eq_true rfl, Nat.le_of_ble_eq_true rfl⟩) (dg_preV sX_0 rfl K ST hP hS hA1 hA) rfl rfl hl.1 rfl (lv_room (Nat.le_of_ble_eq_true rfl)) dX11_later_32 ⟨Nat.le_of_ble_eq_true rfl, Nat.le_of_ble_eq_true rfl⟩) (fun S_11 hw_11 H locs hP hS => ?_)
        obtain ⟨I_11, m_11, w_11_0, w_11_1, w_11_2, w_11_3, w_11_4, w_11_5, -⟩ := hw_11
        have M_11 := dg_sm.tr M_0 m_11 (dk_dq rfl) (dk_dq rfl)
        refine lv_aload_n hx hb dX11_later_35 rfl (lv_at hl 1 rfl) ?_
        refine dg_get (C := RX11) (T := TX11) (N := 13) hx hb hts (fun w h => bw_mem (wU_X11 w h)) hown K hP sX_0 rfl 2 (dk_dq rfl) (hts _ (bw_mem wB_856)) (fun _ h9 => h9) (v := .ref (o + 10)) (show S_11.1 0 2 = .ref (o + 10) from dg_I.rel (d := 10) I_11 sX_0 (by decide +kernel)) dX11_later_36 ?_
        refine lv_iload hx hb dX11_later_39 (lv_at hl 0 rfl) ?_
        refine dg_calli hS hA1 hA (va_runV (As := [.int x_4]) (rest := []) F (c_p_gradeAt l g D o S_11 10 (by unfold pX; decide : pX 10) x_4 (by omega) I_11 H.size) (cwV 1 hts (bw_V wB_956 wB_740 wB_741 wB_493 wB_738) rfl rfl rfl (by decide +kernel) ⟨Nat.le_of_ble_eq_true rfl, Nat.le_of_ble_eq_true rfl⟩) (dg_preV (pX_0 10 (dk_dq rfl)) rfl K ST hP hS hA1 hA) rfl rfl hl.1 rfl (lv_room (Nat.le_of_ble_eq_true rfl)) dX11_later_41 ⟨Nat.le_of_ble_eq_true rfl, Nat.le_of_ble_eq_true rfl⟩) (fun x_12 S_13 hw_13 H locs hP hS => ?_)
        rw [hw_13.1] at hP
        obtain ⟨hq_13, w_13_0, w_13_1, -⟩ := hw_13
        have w_13_0 : (-1) ≤ (x_12).toInt ∧ (x_12).toInt ≤ 9 := w_13_0
        refine W.widen (k := 0) (n := 0) (Nat.le_of_ble_eq_true rfl) (Nat.le_of_ble_eq_true rfl) ?_
        exact dg_iret hx hb hr hlocks rfl hP hS ⟨I_11, M_11, (by omega), w_11_0, w_11_1, w_11_2, w_11_3, w_11_4, ⟨congrArg Prod.fst (Eq.symm (F_d_later_p1 (zR_eq f_d_1) w_5_2 c_6 w_9_1 c_10 w_11_5 w_13_1)), congrArg Prod.snd (Eq.symm (F_d_later_p1 (zR_eq f_d_1) w_5_2 c_6 w_9_1 c_10 w_11_5 w_13_1))⟩, trivial⟩ dX11_later_44
      · have jc_10 := dk_eqc (k := 0) (by decide +kernel) c_10
        refine lv_iconst (v := (-1)) hx hb dX11_later_28 (by decide +kernel) ?_
        have hz_14 : (-1 : Int32).toInt = (-1) := by decide +kernel
        refine W.widen (k := 0) (n := 0) (Nat.le_of_ble_eq_true rfl) (Nat.le_of_ble_eq_true rfl) ?_
        exact dg_iret hx hb hr hlocks rfl hP hS ⟨I, M_0, (by decide +kernel), Z2, Z3, Z4, Z6, dg_FG.rf, ⟨congrArg Prod.fst (Eq.symm (F_d_later_p2 (zR_eq f_d_1) w_5_2 c_6 w_9_1 c_10)), congrArg Prod.snd (Eq.symm (F_d_later_p2 (zR_eq f_d_1) w_5_2 c_6 w_9_1 c_10))⟩, trivial⟩ dX11_later_29
noncomputable def F_d_opens_B1 (x_10 : Int32) (o : Nat) (x_4 : Int32) : (Int32 × dg_S) → (Int32 × dg_S) ⊕ (dg_S × Int32) := fun w9 => match w9 with | (x_56, S_57) => (if x_10 < x_56 then (Sum.inr ((S_57, (-1 : Int32)))) else let x_61 : Int32 := F_p_isOpen o S_57 10 x_4; (if x_61 = (0 : Int32) then let S_64 : dg_S := F_w_pass o S_57 (1 : Int32); let x_65 : Int32 := x_56 + 1; (Sum.inl (x_65, S_64)) else (Sum.inr ((S_57, x_56)))))
noncomputable def F_d_opens (o : Nat) (S : dg_S) (a1 : Int32) (a2 : Int32) : dg_S × Int32 := let d_1 : Nat := zR o S 0 6; let x_2 : Int32 := zI S d_1 0; let x_3 : Int32 := zI S d_1 1; let x_4 : Int32 := F_g_placeOf o S d_1 a1 a2; (if x_4 = (-1 : Int32) then (S, (-1 : Int32)) else let S_7 : dg_S := F_d_lookAhead o S (0 : Int32); let x_8 : Int32 := zI S_7 3 0; let x_9 : Int32 := (999 : Int32) - x_8; let x_10 : Int32 := if x_9 < (40 : Int32) then x_9 else (40 : Int32); (lp (F_d_opens_B1 x_10 o x_4) (S, (0 : Int32)) ((42 - ((0 : Int32)).toInt).toNat + 1) ((0 : Int32), S_7)))
theorem F_d_opens_p0 {x_10 : Int32} {o : Nat} {x_4 : Int32} {x_56 : Int32} {S_57 : dg_S} (h0 : x_10 < x_56) : (F_d_opens_B1 x_10 o x_4) (x_56, S_57) = Sum.inr ((S_57, (-1 : Int32))) := (Eq.trans (if_pos h0) rfl)
theorem F_d_opens_p1 {x_10 : Int32} {o : Nat} {x_4 : Int32} {x_56 : Int32} {S_57 : dg_S} {x_65 : Int32} {S_64 : dg_S} {x_61 : Int32} (h0 : ¬ (x_10 < x_56)) (h1 : x_61 = F_p_isOpen o S_57 10 x_4) (h2 : x_61 = (0 : Int32)) (h3 : S_64 = F_w_pass o S_57 (1 : Int32)) (h4 : x_65 = x_56 + 1) : (F_d_opens_B1 x_10 o x_4) (x_56, S_57) = Sum.inl (x_65, S_64) := by
  replace h1 := Eq.symm h1
  subst h1
  replace h3 := Eq.symm h3
  subst h3
  replace h4 := Eq.symm h4
  subst h4
  exact (Eq.trans (if_neg h0) (Eq.trans (if_pos h2) rfl))
theorem F_d_opens_p2 {x_10 : Int32} {o : Nat} {x_4 : Int32} {x_56 : Int32} {S_57 : dg_S} {x_61 : Int32} (h0 : ¬ (x_10 < x_56)) (h1 : x_61 = F_p_isOpen o S_57 10 x_4) (h2 : ¬ (x_61 = (0 : Int32))) : (F_d_opens_B1 x_10 o x_4) (x_56, S_57) = Sum.inr ((S_57, x_56)) := by
  replace h1 := Eq.symm h1
  subst h1
  exact (Eq.trans (if_neg h0) (Eq.trans (if_neg h2) rfl))
theorem F_d_opens_p3 {o : Nat} {S : dg_S} {a1 : Int32} {a2 : Int32} {x_10 : Int32} {x_4 : Int32} {S_7 : dg_S} {d_1 : Nat} {x_8 : Int32} {x_9 : Int32} (h0 : d_1 = zR o S 0 6) (h1 : x_4 = F_g_placeOf o S d_1 a1 a2) (h2 : ¬ (x_4 = (-1 : Int32))) (h3 : S_7 = F_d_lookAhead o S (0 : Int32)) (h4 : x_8 = zI S_7 3 0) (h5 : x_9 = (999 : Int32) - x_8) (h6 : x_10 = if x_9 < (40 : Int32) then x_9 else (40 : Int32)) : F_d_opens o S a1 a2 = lp (F_d_opens_B1 x_10 o x_4) (S, (0 : Int32)) ((42 - ((0 : Int32)).toInt).toNat + 1) ((0 : Int32), S_7) := by
  replace h0 := Eq.symm h0
  subst h0
  replace h1 := Eq.symm h1
  subst h1
  replace h3 := Eq.symm h3
  subst h3
  replace h4 := Eq.symm h4
  subst h4
  replace h5 := Eq.symm h5
  subst h5
  replace h6 := Eq.symm h6
  subst h6
  exact (Eq.trans (if_neg h2) rfl)
theorem F_d_opens_p4 {o : Nat} {S : dg_S} {a1 : Int32} {a2 : Int32} {d_1 : Nat} {x_4 : Int32} (h0 : d_1 = zR o S 0 6) (h1 : x_4 = F_g_placeOf o S d_1 a1 a2) (h2 : x_4 = (-1 : Int32)) : F_d_opens o S a1 a2 = (S, (-1 : Int32)) := by
  replace h0 := Eq.symm h0
  subst h0
  replace h1 := Eq.symm h1
  subst h1
  exact (Eq.trans (if_pos h2) rfl)
set_option maxHeartbeats 8000000 in
set_option maxRecDepth 100000 in
theorem c_d_opens (l : Launch) (g : Nat → ClassId) (D : va_G) (o : Nat) (S : dg_S) (a1 : Int32) (a2 : Int32) (Z1 : Z1X S) (Z2 : Z2X S) (Z3 : Z3X o S) (Z4 : Z4X S) (Z6 : Z6X S) (I : CX o S) (sz : Nat) : Met l yX11_opens (bw yX11_opens cX11_opens 6 (some .int)) ({ frames := 7, cells := 0, slots := 0, locals := 170 } : Room) (dk_Pc g D (dg_w g shX o rfX S) sz [.ref (o + 0), .int a1, .int a2]) (va_Qi (fun (r : Int32) S' => CX o S' ∧ dg_sm shX [(3, 0), (3, 1), (36, 4), (36, 6), (36, 7), (36, 8), (36, 9), (36, 10), (36, 11), (36, 12), (37, 0), (37, 1), (37, 2), (37, 3), (37, 4), (37, 5), (37, 7)] [4, 5, 6, 7, 8, 9, 38, 39, 40, 41, 42] S S' ∧ ((-1) ≤ (r).toInt ∧ (r).toInt ≤ 40) ∧ Z2X S' ∧ Z3X o S' ∧ Z4X S' ∧ Z6X S' ∧ dg_FG S S' ∧ (S' = (F_d_opens o S a1 a2).1 ∧ r = (F_d_opens o S a1 a2).2) ∧ True) (dg_B g D shX o rfX) (dg_A o shX.length sz)) 0 0 (dg_A o shX.length sz) := by
  refine dg_met (cc := cX11_opens) (maxL := 6) (ret := (some .int)) (dk_dq rfl) rfl (Nat.le_of_ble_eq_true rfl) ?_
  intro p e s m args below meth c A hAe harg hx hb hr hml hts hown hlocks hin hP K hS hA1 hA ST hsz ls hl
  rw [← hAe]
  have F : CallFix p m c cX11_opens 6 s args (bw yX11_opens cX11_opens 6 (some .int)) RX11 := ⟨hx, hb, hml, hown, hts⟩
  have hl : lv_has ls 6 [(0, .ref (o + 0)), (1, .int a1), (2, .int a2)] := hl
  have M_0 : dg_sm shX [(3, 0), (3, 1), (36, 4), (36, 6), (36, 7), (36, 8), (36, 9), (36, 10), (36, 11), (36, 12), (37, 0), (37, 1), (37, 2), (37, 3), (37, 4), (37, 5), (37, 7)] [4, 5, 6, 7, 8, 9, 38, 39, 40, 41, 42] S S := dg_sm.rf
  refine lv_aload_n hx hb dX11_opens_0 rfl (lv_at hl 0 rfl) ?_
  obtain ⟨d_1, hk_d_1, f_d_1⟩ := dg_I.one (i := 0) (k := 6) (d := 0) I sX_0 (by decide +kernel)
  have hk_d_1 : rX d_1 := hk_d_1
  refine dg_get (C := RX11) (T := TX11) (N := 13) hx hb hts (fun w h => bw_mem (wU_X11 w h)) hown K hP sX_0 rfl 6 (dk_dq rfl) (hts _ (bw_mem wB_286)) (fun _ h9 => h9) (v := .ref (o + d_1)) f_d_1 dX11_opens_1 ?_
  refine lv_iload_n hx hb dX11_opens_4 rfl (lv_at hl 1 rfl) ?_
  refine lv_iload_n hx hb dX11_opens_5 rfl (lv_at hl 2 rfl) ?_
  obtain ⟨x_2, f_x_2, b_x_2⟩ := dg_I.int (i := d_1) (k := 0) (lo := 0) (hi := 7) I (rX_0 d_1 hk_d_1) (by decide +kernel)
  obtain ⟨x_3, f_x_3, b_x_3⟩ := dg_I.int (i := d_1) (k := 1) (lo := 0) (hi := 7) I (rX_0 d_1 hk_d_1) (by decide +kernel)
  refine dg_calli hS hA1 hA (va_runV (As := [.int a1, .int a2]) (rest := []) F (c_g_placeOfR l g D o S d_1 hk_d_1 a1 a2 x_2 f_x_2 (by omega) x_3 f_x_3 (by omega) I s.heap.size) (cwV 2 hts (bw_V wB_880 wB_55 wB_56 wB_9 wB_53) rfl rfl rfl (by decide +kernel) ⟨Nat.le_of_ble_eq_true rfl, Nat.le_of_ble_eq_true rfl⟩) (dg_preV (rX_0 d_1 hk_d_1) rfl K ST hP hS hA1 hA) rfl rfl hl.1 rfl (lv_room (Nat.le_of_ble_eq_true rfl)) dX11_opens_6 ⟨Nat.le_of_ble_eq_true rfl, Nat.le_of_ble_eq_true rfl⟩) (fun x_4 S_5 hw_5 H locs hP hS => ?_)
  rw [hw_5.1] at hP
  obtain ⟨hq_5, w_5_0, w_5_1, w_5_2, -⟩ := hw_5
  have w_5_0 : ((-1) ≤ (x_4).toInt ∧ (x_4).toInt ≤ 62) ∧ ((x_4).toInt ≤ (-1) ∨ 8 ≤ (x_4).toInt) := w_5_0
  have w_5_1 : (0 ≤ (a1).toInt ∧ (a1).toInt < (x_2).toInt ∧ 0 ≤ (a2).toInt ∧ (a2).toInt < (x_3).toInt) → 8 ≤ (x_4).toInt := w_5_1
  refine lv_istore_n (lv' := [(3, .int x_4), (0, .ref (o + 0)), (1, .int a1), (2, .int a2)]) hx hb dX11_opens_9 rfl hl (dk_dq rfl) rfl (fun ls hl => ?_)
  refine lv_iload_n hx hb dX11_opens_10 rfl (lv_at hl 0 rfl) ?_
  refine lv_iconst (v := (-1)) hx hb dX11_opens_11 (by decide +kernel) ?_
  refine lv_icmp_ne (tgt := 17) hx hb dX11_opens_12 (dk_dq rfl) (fun c_6 => ?_) (fun c_6 => ?_)
  · as_aux_lemma =>
      have jc_6 := dk_neqc (k := (-1)) (by decide +kernel) c_6
      refine lv_aload_n hx hb dX11_opens_17 rfl (lv_at hl 1 rfl) ?_
      refine lv_iconst (v := 0) hx hb dX11_opens_18 (by decide +kernel) ?_
      refine dg_callv hS hA1 hA (va_runV (As := [.int 0]) (rest := []) F (c_d_lookAhead l g D o S 0 Z1 Z2 Z3 Z4 Z6 I H.size) (cwV 1 hts (bw_V wB_988 wB_989 wB_990 wB_610 wB_987) rfl rfl rfl (by decide +kernel) ⟨Nat.le_of_ble_eq_true rfl, Nat.le_of_ble_eq_true rfl⟩) (dg_preV sX_0 rfl K ST hP hS hA1 hA) rfl rfl hl.1 rfl (lv_room (Nat.le_of_ble_eq_true rfl)) dX11_opens_19 ⟨Nat.le_of_ble_eq_true rfl, Nat.le_of_ble_eq_true rfl⟩) (fun S_7 hw_7 H locs hP hS => ?_)
      obtain ⟨I_7, m_7, w_7_0, w_7_1, w_7_2, w_7_3, w_7_4, w_7_5, -⟩ := hw_7
      have M_7 := dg_sm.tr M_0 m_7 (dk_dq rfl) (dk_dq rfl)
      refine lv_bipush (v := 40) hx hb dX11_opens_22 (by decide +kernel) ?_
      refine lv_sipush (v := 999) hx hb dX11_opens_24 (by decide +kernel) ?_
      refine lv_aload_n hx hb dX11_opens_27 rfl (lv_at hl 1 rfl) ?_
      refine dg_get (C := RX11) (T := TX11) (N := 13) hx hb hts (fun w h => bw_mem (wU_X11 w h)) hown K hP sX_0 rfl 1 (dk_dq rfl) (hts _ (bw_mem wB_287)) (fun _ h9 => h9) (v := .ref (o + 3)) (show S_7.1 0 1 = .ref (o + 3) from dg_I.rel (d := 3) I_7 sX_0 (by decide +kernel)) dX11_opens_28 ?_
      obtain ⟨x_8, f_x_8, b_x_8⟩ := dg_I.int (i := 3) (k := 0) (lo := 0) (hi := 65535) I_7 (pX_0 3 (dk_dq rfl)) (by decide +kernel)
      refine dg_get (C := RX5) (T := TX5) (N := 8) hx hb hts (fun w h => bw_mem (wU_X5 w h)) hown K hP (pX_0 3 (dk_dq rfl)) rfl 0 (dk_dq rfl) (hts _ (bw_mem wB_855)) (fun _ h9 => h9) (v := .int x_8) f_x_8 dX11_opens_31 ?_
      refine lv_isub hx hb dX11_opens_34 ?_
      refine lv_topi (fun x_9 ex_9 => ?_)
      have jx_9 : (x_9).toInt = 999 - (x_8).toInt := by rw [ex_9]; exact dk_subT2 (by decide +kernel) rfl (by omega)
      refine va_mmin hx hb (by rw [hml]; exact hl.1.symm) hown (hts _ (bw_mem wB_991)) (hts _ (bw_mem wB_504)) (hts _ (bw_mem wB_505)) (hts _ (bw_mem wB_506)) (Nat.le_of_ble_eq_true rfl) (Nat.le_of_ble_eq_true rfl) (Nat.le_of_ble_eq_true rfl) (Nat.le_of_ble_eq_true rfl) dX11_opens_35 ?_
      refine lv_topi (fun x_10 ex_10 => ?_)
      have jx_10 := dk_minT (a := 40) (b := (x_9).toInt) (by decide +kernel) rfl ex_10
      refine lv_istore (lv' := [(4, .int x_10), (3, .int x_4), (0, .ref (o + 0)), (1, .int a1), (2, .int a2)]) hx hb dX11_opens_38 hl (dk_dq rfl) rfl (fun ls hl => ?_)
      refine lv_iconst (v := 0) hx hb dX11_opens_40 (by decide +kernel) ?_
      refine lv_istore (lv' := [(5, .int 0), (4, .int x_10), (3, .int x_4), (0, .ref (o + 0)), (1, .int a1), (2, .int a2)]) hx hb dX11_opens_41 hl (dk_dq rfl) rfl (fun ls hl => ?_)
      have L_58 : ∀ (n : Nat) (x_56 : Int32), (0 ≤ (x_56).toInt ∧ (x_56).toInt ≤ 41) → ((42 - (x_56).toInt).toNat < n) → ∀ S_57 : dg_S, CX o S_57 → dg_sm shX [(3, 0), (3, 1), (36, 4), (36, 6), (36, 7), (36, 8), (36, 9), (36, 10), (36, 11), (36, 12), (37, 0), (37, 1), (37, 2), (37, 3), (37, 4), (37, 5), (37, 7)] [4, 5, 6, 7, 8, 9, 38, 39, 40, 41, 42] S S_57 → dg_FG S S_57 → Z2X S_57 → Z3X o S_57 → Z4X S_57 → Z6X S_57 → (F_d_opens o S a1 a2 = lp (F_d_opens_B1 x_10 o x_4) (S, (0 : Int32)) n (x_56, S_57)) → ∀ (H : Heap) (locs : List Loc), va_P D vwCl (dg_w g shX o rfX S_57) H → va_S A s.heap H locs → ∀ ls : Array Slot, lv_has ls 6 [(5, .int x_56), (4, .int x_10), (3, .int x_4), (0, .ref (o + 0)), (1, .int a1), (2, .int a2)] → W p l e ({ frames := 7, cells := 0, slots := 0, locals := 170 } : Room) s m args below meth c H locs 0 0 (MQ below (va_Qi (fun (r : Int32) S' => CX o S' ∧ dg_sm shX [(3, 0), (3, 1), (36, 4), (36, 6), (36, 7), (36, 8), (36, 9), (36, 10), (36, 11), (36, 12), (37, 0), (37, 1), (37, 2), (37, 3), (37, 4), (37, 5), (37, 7)] [4, 5, 6, 7, 8, 9, 38, 39, 40, 41, 42] S S' ∧ ((-1) ≤ (r).toInt ∧ (r).toInt ≤ 40) ∧ Z2X S' ∧ Z3X o S' ∧ Z4X S' ∧ Z6X S' ∧ dg_FG S S' ∧ (S' = (F_d_opens o S a1 a2).1 ∧ r = (F_d_opens o S a1 a2).2) ∧ True) (dg_B g D shX o rfX) A) args s 0 0 A) (F0 m 43 ls []) := by
        as_aux_lemma =>
          intro n
          induction n with
          | zero =>
            intro x_56 b_x_56 hmu S_57 I_57 M_57 G_57 Z2_57 Z3_57 Z4_57 Z6_57 hF_1 H locs hP hS ls hl
            omega
          | succ n ih =>
            as_aux_lemma =>
              intro x_56 b_x_56 hmu S_57 I_57 M_57 G_57 Z2_57 Z3_57 Z4_57 Z6_57 hF_1 H locs hP hS ls hl
              refine lv_iload hx hb dX11_opens_43 (lv_at hl 0 rfl) ?_
              refine lv_iload hx hb dX11_opens_45 (lv_at hl 1 rfl) ?_
              refine lv_icmp_gt (tgt := 78) hx hb dX11_opens_47 (dk_dq rfl) (fun c_59 => ?_) (fun c_59 => ?_)
              · have jc_59 := dk_gtc (k := (x_10).toInt) rfl c_59
                refine lv_iconst (v := (-1)) hx hb dX11_opens_78 (by decide +kernel) ?_
                have hz_60 : (-1 : Int32).toInt = (-1) := by decide +kernel
                refine W.widen (k := 0) (n := 0) (Nat.le_of_ble_eq_true rfl) (Nat.le_of_ble_eq_true rfl) ?_
                exact dg_iret hx hb hr hlocks rfl hP hS ⟨I_57, M_57, (by decide +kernel), Z2_57, Z3_57, Z4_57, Z6_57, G_57, ⟨congrArg Prod.fst (Eq.symm (lp_r hF_1 (F_d_opens_p0 c_59))), congrArg Prod.snd (Eq.symm (lp_r hF_1 (F_d_opens_p0 c_59)))⟩, trivial⟩ dX11_opens_79
              · as_aux_lemma =>
                  have jc_59 := dk_ngtc (k := (x_10).toInt) rfl c_59
                  refine lv_aload_n hx hb dX11_opens_50 rfl (lv_at hl 3 rfl) ?_
                  refine dg_get (C := RX11) (T := TX11) (N := 13) hx hb hts (fun w h => bw_mem (wU_X11 w h)) hown K hP sX_0 rfl 2 (dk_dq rfl) (hts _ (bw_mem wB_856)) (fun _ h9 => h9) (v := .ref (o + 10)) (show S_57.1 0 2 = .ref (o + 10) from dg_I.rel (d := 10) I_57 sX_0 (by decide +kernel)) dX11_opens_51 ?_
                  refine lv_iload_n hx hb dX11_opens_54 rfl (lv_at hl 2 rfl) ?_
                  refine dg_calli hS hA1 hA (va_runV (As := [.int x_4]) (rest := []) F (c_p_isOpen l g D o S_57 10 (by unfold pX; decide : pX 10) x_4 (by omega) I_57 H.size) (cwV 1 hts (bw_V wB_882 wB_496 wB_497 wB_493 wB_494) rfl rfl rfl (by decide +kernel) ⟨Nat.le_of_ble_eq_true rfl, Nat.le_of_ble_eq_true rfl⟩) (dg_preV (pX_0 10 (dk_dq rfl)) rfl K ST hP hS hA1 hA) rfl rfl hl.1 rfl (lv_room (Nat.le_of_ble_eq_true rfl)) dX11_opens_55 ⟨Nat.le_of_ble_eq_true rfl, Nat.le_of_ble_eq_true rfl⟩) (fun x_61 S_62 hw_62 H locs hP hS => ?_)
                  rw [hw_62.1] at hP
                  obtain ⟨hq_62, w_62_0, w_62_1, w_62_2, -⟩ := hw_62
                  have w_62_0 : 0 ≤ (x_61).toInt ∧ (x_61).toInt ≤ 1 := w_62_0
                  have w_62_1 : (x_61).toInt = 1 → (8 ≤ (x_4).toInt ∧ (x_4).toInt ≤ 63) := w_62_1
                  refine lv_if_eq (tgt := 64) hx hb dX11_opens_58 (dk_dq rfl) (fun c_63 => ?_) (fun c_63 => ?_)
                  · have jc_63 := dk_eqc (k := 0) (by decide +kernel) c_63
                    refine lv_aload_n hx hb dX11_opens_64 rfl (lv_at hl 3 rfl) ?_
                    refine dg_get (C := RX11) (T := TX11) (N := 13) hx hb hts (fun w h => bw_mem (wU_X11 w h)) hown K hP sX_0 rfl 9 (dk_dq rfl) (hts _ (bw_mem wB_858)) (fun _ h9 => h9) (v := .ref (o + 214)) (show S_57.1 0 9 = .ref (o + 214) from dg_I.rel (d := 214) I_57 sX_0 (by decide +kernel)) dX11_opens_65 ?_
                    refine lv_iconst (v := 1) hx hb dX11_opens_68 (by decide +kernel) ?_
                    refine dg_callv hS hA1 hA (va_runV (As := [.int 1]) (rest := []) F (c_w_pass l g D o S_57 1 Z2_57 Z3_57 I_57 H.size) (cwV 1 hts (bw_V wB_861 wB_680 wB_681 wB_594 wB_678) rfl rfl rfl (by decide +kernel) ⟨Nat.le_of_ble_eq_true rfl, Nat.le_of_ble_eq_true rfl⟩) (dg_preV sX_214 rfl K ST hP hS hA1 hA) rfl rfl hl.1 rfl (lv_room (Nat.le_of_ble_eq_true rfl)) dX11_opens_69 ⟨Nat.le_of_ble_eq_true rfl, Nat.le_of_ble_eq_true rfl⟩) (fun S_64 hw_64 H locs hP hS => ?_)
                    obtain ⟨I_64, m_64, w_64_0, w_64_1, w_64_2, w_64_3, -⟩ := hw_64
                    have M_64 := dg_sm.tr M_57 m_64 (dk_dq rfl) (dk_dq rfl)
                    obtain ⟨x_65, ex_65⟩ : ∃ z, z = x_56 + 1 := ⟨_, rfl⟩
                    have jx_65 : (x_65).toInt = (x_56).toInt + 1 := by rw [ex_65]; exact dk_addT2 rfl (by decide +kernel) (by omega)
                    refine lv_iinc (v := x_65) (lv' := [(5, .int x_65), (4, .int x_10), (3, .int x_4), (0, .ref (o + 0)), (1, .int a1), (2, .int a2)]) hx hb dX11_opens_72 hl (k := 0) rfl (by rw [ex_65]; rfl) (dk_dq rfl) rfl (fun ls hl => ?_)
                    refine lv_goto (tgt := 43) hx hb dX11_opens_75 (dk_dq rfl) ?_
                    exact ih x_65 (by omega) (by first | exact mu_lt hmu (by omega) (by omega) | omega) S_64 I_64 M_64 (dg_FG.tr G_57 w_64_2) w_64_0 w_64_1 (Z4X.keep Z4_57 m_64 w_64_2 (dk_dq rfl) (dk_dq rfl)) (Z6X.keep Z6_57 m_64 w_64_2) (lp_l hF_1 (F_d_opens_p1 c_59 w_62_2 c_63 w_64_3 ex_65)) _ _ hP hS _ (lv_sub hl [0, 1, 2, 3, 4, 5] rfl)
                  · have jc_63 := dk_neqc (k := 0) (by decide +kernel) c_63
                    refine lv_iload hx hb dX11_opens_61 (lv_at hl 0 rfl) ?_
                    refine W.widen (k := 0) (n := 0) (Nat.le_of_ble_eq_true rfl) (Nat.le_of_ble_eq_true rfl) ?_
                    exact dg_iret hx hb hr hlocks rfl hP hS ⟨I_57, M_57, (by omega), Z2_57, Z3_57, Z4_57, Z6_57, G_57, ⟨congrArg Prod.fst (Eq.symm (lp_r hF_1 (F_d_opens_p2 c_59 w_62_2 c_63))), congrArg Prod.snd (Eq.symm (lp_r hF_1 (F_d_opens_p2 c_59 w_62_2 c_63)))⟩, trivial⟩ dX11_opens_63
      have hz_66 : (0 : Int32).toInt = 0 := by decide +kernel
      have hz_67 : (0 : Int32).toInt = 0 := by decide +kernel
      exact L_58 ((42 - ((0 : Int32)).toInt).toNat + 1) 0 (by decide +kernel) (by first | exact mu_lt hmu (by omega) (by omega) | omega) S_7 I_7 M_7 w_7_4 w_7_0 w_7_1 w_7_2 w_7_3 (F_d_opens_p3 (zR_eq f_d_1) w_5_2 c_6 w_7_5 (zI_eq f_x_8) ex_9 ex_10) _ _ hP hS _ (lv_sub hl [0, 1, 2, 3, 4, 5] rfl)
  · have jc_6 := dk_eqc (k := (-1)) (by decide +kernel) c_6
    refine lv_iconst (v := (-1)) hx hb dX11_opens_15 (by decide +kernel) ?_
    have hz_68 : (-1 : Int32).toInt = (-1) := by decide +kernel
    refine W.widen (k := 0) (n := 0) (Nat.le_of_ble_eq_true rfl) (Nat.le_of_ble_eq_true rfl) ?_
    exact dg_iret hx hb hr hlocks rfl hP hS ⟨I, M_0, (by decide +kernel), Z2, Z3, Z4, Z6, dg_FG.rf, ⟨congrArg Prod.fst (Eq.symm (F_d_opens_p4 (zR_eq f_d_1) w_5_2 c_6)), congrArg Prod.snd (Eq.symm (F_d_opens_p4 (zR_eq f_d_1) w_5_2 c_6))⟩, trivial⟩ dX11_opens_16
noncomputable def F_d_worth (o : Nat) (S : dg_S) (a1 : Int32) : dg_S × Int32 := let x_1 : Int32 := F_d_shiftsCome o S (0 : Int32) a1 (40 : Int32); (if x_1 = (0 : Int32) then (S, (-1 : Int32)) else let S_4 : dg_S := F_d_lookAhead o S a1; let x_5 : Int32 := F_p_wholeWorth o S_4 10; (S_4, x_5))
theorem F_d_worth_p0 {o : Nat} {S : dg_S} {a1 : Int32} {S_4 : dg_S} {x_5 : Int32} {x_1 : Int32} (h0 : x_1 = F_d_shiftsCome o S (0 : Int32) a1 (40 : Int32)) (h1 : ¬ (x_1 = (0 : Int32))) (h2 : S_4 = F_d_lookAhead o S a1) (h3 : x_5 = F_p_wholeWorth o S_4 10) : F_d_worth o S a1 = (S_4, x_5) := by
  replace h0 := Eq.symm h0
  subst h0
  replace h2 := Eq.symm h2
  subst h2
  replace h3 := Eq.symm h3
  subst h3
  exact (Eq.trans (if_neg h1) rfl)
theorem F_d_worth_p1 {o : Nat} {S : dg_S} {a1 : Int32} {x_1 : Int32} (h0 : x_1 = F_d_shiftsCome o S (0 : Int32) a1 (40 : Int32)) (h1 : x_1 = (0 : Int32)) : F_d_worth o S a1 = (S, (-1 : Int32)) := by
  replace h0 := Eq.symm h0
  subst h0
  exact (Eq.trans (if_pos h1) rfl)
set_option maxHeartbeats 8000000 in
set_option maxRecDepth 100000 in
theorem c_d_worth (l : Launch) (g : Nat → ClassId) (D : va_G) (o : Nat) (S : dg_S) (a1 : Int32) (Z1 : Z1X S) (Z2 : Z2X S) (Z3 : Z3X o S) (Z4 : Z4X S) (Z6 : Z6X S) (I : CX o S) (sz : Nat) : Met l yX11_worth (bw yX11_worth cX11_worth 2 (some .int)) ({ frames := 7, cells := 0, slots := 0, locals := 170 } : Room) (dk_Pc g D (dg_w g shX o rfX S) sz [.ref (o + 0), .int a1]) (va_Qi (fun (r : Int32) S' => CX o S' ∧ dg_sm shX [(3, 0), (3, 1), (36, 4), (36, 6), (36, 7), (36, 8), (36, 9), (36, 10), (36, 11), (36, 12), (37, 0), (37, 1), (37, 2), (37, 3), (37, 4), (37, 5), (37, 7)] [4, 5, 6, 7, 8, 9, 38, 39, 40, 41, 42] S S' ∧ Z2X S' ∧ Z3X o S' ∧ Z4X S' ∧ Z6X S' ∧ dg_FG S S' ∧ (S' = (F_d_worth o S a1).1 ∧ r = (F_d_worth o S a1).2) ∧ True) (dg_B g D shX o rfX) (dg_A o shX.length sz)) 0 0 (dg_A o shX.length sz) := by
  refine dg_met (cc := cX11_worth) (maxL := 2) (ret := (some .int)) (dk_dq rfl) rfl (Nat.le_of_ble_eq_true rfl) ?_
  intro p e s m args below meth c A hAe harg hx hb hr hml hts hown hlocks hin hP K hS hA1 hA ST hsz ls hl
  rw [← hAe]
  have F : CallFix p m c cX11_worth 2 s args (bw yX11_worth cX11_worth 2 (some .int)) RX11 := ⟨hx, hb, hml, hown, hts⟩
  have hl : lv_has ls 2 [(0, .ref (o + 0)), (1, .int a1)] := hl
  have M_0 : dg_sm shX [(3, 0), (3, 1), (36, 4), (36, 6), (36, 7), (36, 8), (36, 9), (36, 10), (36, 11), (36, 12), (37, 0), (37, 1), (37, 2), (37, 3), (37, 4), (37, 5), (37, 7)] [4, 5, 6, 7, 8, 9, 38, 39, 40, 41, 42] S S := dg_sm.rf
  refine lv_aload_n hx hb dX11_worth_0 rfl (lv_at hl 0 rfl) ?_
  refine lv_iconst (v := 0) hx hb dX11_worth_1 (by decide +kernel) ?_
  refine lv_iload_n hx hb dX11_worth_2 rfl (lv_at hl 1 rfl) ?_
  refine lv_bipush (v := 40) hx hb dX11_worth_3 (by decide +kernel) ?_
  refine dg_calli hS hA1 hA (va_runV (As := [.int 0, .int a1, .int 40]) (rest := []) F (c_d_shiftsCome l g D o S 0 a1 40 Z1 Z2 Z3 Z4 Z6 I s.heap.size) (cwV 3 hts (bw_V wB_984 wB_985 wB_986 wB_610 wB_983) rfl rfl rfl (by decide +kernel) ⟨Nat.le_of_ble_eq_true rfl, Nat.le_of_ble_eq_true rfl⟩) (dg_preV sX_0 rfl K ST hP hS hA1 hA) rfl rfl hl.1 rfl (lv_room (Nat.le_of_ble_eq_true rfl)) dX11_worth_5 ⟨Nat.le_of_ble_eq_true rfl, Nat.le_of_ble_eq_true rfl⟩) (fun x_1 S_2 hw_2 H locs hP hS => ?_)
  rw [hw_2.1] at hP
  obtain ⟨hq_2, w_2_0, w_2_1, -⟩ := hw_2
  have w_2_0 : 0 ≤ (x_1).toInt ∧ (x_1).toInt ≤ 1 := w_2_0
  refine lv_if_ne (tgt := 13) hx hb dX11_worth_8 (dk_dq rfl) (fun c_3 => ?_) (fun c_3 => ?_)
  · have jc_3 := dk_neqc (k := 0) (by decide +kernel) c_3
    refine lv_aload_n hx hb dX11_worth_13 rfl (lv_at hl 0 rfl) ?_
    refine lv_iload_n hx hb dX11_worth_14 rfl (lv_at hl 1 rfl) ?_
    refine dg_callv hS hA1 hA (va_runV (As := [.int a1]) (rest := []) F (c_d_lookAhead l g D o S a1 Z1 Z2 Z3 Z4 Z6 I H.size) (cwV 1 hts (bw_V wB_988 wB_989 wB_990 wB_610 wB_987) rfl rfl rfl (by decide +kernel) ⟨Nat.le_of_ble_eq_true rfl, Nat.le_of_ble_eq_true rfl⟩) (dg_preV sX_0 rfl K ST hP hS hA1 hA) rfl rfl hl.1 rfl (lv_room (Nat.le_of_ble_eq_true rfl)) dX11_worth_15 ⟨Nat.le_of_ble_eq_true rfl, Nat.le_of_ble_eq_true rfl⟩) (fun S_4 hw_4 H locs hP hS => ?_)
    obtain ⟨I_4, m_4, w_4_0, w_4_1, w_4_2, w_4_3, w_4_4, w_4_5, -⟩ := hw_4
    have M_4 := dg_sm.tr M_0 m_4 (dk_dq rfl) (dk_dq rfl)
    refine lv_aload_n hx hb dX11_worth_18 rfl (lv_at hl 0 rfl) ?_
    refine dg_get (C := RX11) (T := TX11) (N := 13) hx hb hts (fun w h => bw_mem (wU_X11 w h)) hown K hP sX_0 rfl 2 (dk_dq rfl) (hts _ (bw_mem wB_856)) (fun _ h9 => h9) (v := .ref (o + 10)) (show S_4.1 0 2 = .ref (o + 10) from dg_I.rel (d := 10) I_4 sX_0 (by decide +kernel)) dX11_worth_19 ?_
    refine dg_calli hS hA1 hA (va_runV (As := []) (rest := []) F (c_p_wholeWorth l g D o S_4 10 (by unfold pX; decide : pX 10) I_4 H.size) (cwV 0 hts (bw_V wB_947 wB_684 wB_685 wB_493 wB_682) rfl rfl rfl (by decide +kernel) ⟨Nat.le_of_ble_eq_true rfl, Nat.le_of_ble_eq_true rfl⟩) (dg_preV (pX_0 10 (dk_dq rfl)) rfl K ST hP hS hA1 hA) rfl rfl hl.1 rfl (lv_room (Nat.le_of_ble_eq_true rfl)) dX11_worth_22 ⟨Nat.le_of_ble_eq_true rfl, Nat.le_of_ble_eq_true rfl⟩) (fun x_5 S_6 hw_6 H locs hP hS => ?_)
    rw [hw_6.1] at hP
    obtain ⟨hq_6, w_6_0, -⟩ := hw_6
    refine W.widen (k := 0) (n := 0) (Nat.le_of_ble_eq_true rfl) (Nat.le_of_ble_eq_true rfl) ?_
    exact dg_iret hx hb hr hlocks rfl hP hS ⟨I_4, M_4, w_4_0, w_4_1, w_4_2, w_4_3, w_4_4, ⟨congrArg Prod.fst (Eq.symm (F_d_worth_p0 w_2_1 c_3 w_4_5 w_6_0)), congrArg Prod.snd (Eq.symm (F_d_worth_p0 w_2_1 c_3 w_4_5 w_6_0))⟩, trivial⟩ dX11_worth_25
  · have jc_3 := dk_eqc (k := 0) (by decide +kernel) c_3
    refine lv_iconst (v := (-1)) hx hb dX11_worth_11 (by decide +kernel) ?_
    refine W.widen (k := 0) (n := 0) (Nat.le_of_ble_eq_true rfl) (Nat.le_of_ble_eq_true rfl) ?_
    exact dg_iret hx hb hr hlocks rfl hP hS ⟨I, M_0, Z2, Z3, Z4, Z6, dg_FG.rf, ⟨congrArg Prod.fst (Eq.symm (F_d_worth_p1 w_2_1 c_3)), congrArg Prod.snd (Eq.symm (F_d_worth_p1 w_2_1 c_3))⟩, trivial⟩ dX11_worth_12
noncomputable def F_d_shade (o : Nat) (S : dg_S) (a1 : Int32) (a2 : Int32) : dg_S × Int32 := let x_1 : Int32 := F_d_shiftsCome o S (1 : Int32) a1 (20 : Int32); (if x_1 = (0 : Int32) then (S, (-1 : Int32)) else let d_4 : Nat := zR o S 0 6; let S_5 : dg_S := F_f_seekShade o S d_4 3 a1; let x_6 : Int32 := zI S_5 221 4; (if x_6 = (-1 : Int32) then (S_5, (-1 : Int32)) else (if a2 = (0 : Int32) then let x_9 : Int32 := F_columnOf o S_5 x_6; (S_5, x_9) else (if a2 = (1 : Int32) then let x_11 : Int32 := F_rowOf o S_5 x_6; (S_5, x_11) else (if a2 = (2 : Int32) then let x_13 : Int32 := zI S_5 221 5; (S_5, x_13) else (S_5, (-1 : Int32)))))))
theorem F_d_shade_p0 {o : Nat} {S : dg_S} {a1 : Int32} {a2 : Int32} {S_5 : dg_S} {x_1 : Int32} {d_4 : Nat} {x_6 : Int32} (h0 : x_1 = F_d_shiftsCome o S (1 : Int32) a1 (20 : Int32)) (h1 : ¬ (x_1 = (0 : Int32))) (h2 : d_4 = zR o S 0 6) (h3 : S_5 = F_f_seekShade o S d_4 3 a1) (h4 : x_6 = zI S_5 221 4) (h5 : ¬ (x_6 = (-1 : Int32))) (h6 : ¬ (a2 = (0 : Int32))) (h7 : ¬ (a2 = (1 : Int32))) (h8 : ¬ (a2 = (2 : Int32))) : F_d_shade o S a1 a2 = (S_5, (-1 : Int32)) := by
  replace h0 := Eq.symm h0
  subst h0
  replace h2 := Eq.symm h2
  subst h2
  replace h3 := Eq.symm h3
  subst h3
  replace h4 := Eq.symm h4
  subst h4
  exact (Eq.trans (if_neg h1) (Eq.trans (if_neg h5) (Eq.trans (if_neg h6) (Eq.trans (if_neg h7) (Eq.trans (if_neg h8) rfl)))))
theorem F_d_shade_p1 {o : Nat} {S : dg_S} {a1 : Int32} {a2 : Int32} {S_5 : dg_S} {x_9 : Int32} {x_1 : Int32} {d_4 : Nat} {x_6 : Int32} (h0 : x_1 = F_d_shiftsCome o S (1 : Int32) a1 (20 : Int32)) (h1 : ¬ (x_1 = (0 : Int32))) (h2 : d_4 = zR o S 0 6) (h3 : S_5 = F_f_seekShade o S d_4 3 a1) (h4 : x_6 = zI S_5 221 4) (h5 : ¬ (x_6 = (-1 : Int32))) (h6 : a2 = (0 : Int32)) (h7 : x_9 = F_columnOf o S_5 x_6) : F_d_shade o S a1 a2 = (S_5, x_9) := by
  replace h0 := Eq.symm h0
  subst h0
  replace h2 := Eq.symm h2
  subst h2
  replace h3 := Eq.symm h3
  subst h3
  replace h4 := Eq.symm h4
  subst h4
  replace h7 := Eq.symm h7
  subst h7
  exact (Eq.trans (if_neg h1) (Eq.trans (if_neg h5) (Eq.trans (if_pos h6) rfl)))
theorem F_d_shade_p2 {o : Nat} {S : dg_S} {a1 : Int32} {a2 : Int32} {S_5 : dg_S} {x_11 : Int32} {x_1 : Int32} {d_4 : Nat} {x_6 : Int32} (h0 : x_1 = F_d_shiftsCome o S (1 : Int32) a1 (20 : Int32)) (h1 : ¬ (x_1 = (0 : Int32))) (h2 : d_4 = zR o S 0 6) (h3 : S_5 = F_f_seekShade o S d_4 3 a1) (h4 : x_6 = zI S_5 221 4) (h5 : ¬ (x_6 = (-1 : Int32))) (h6 : ¬ (a2 = (0 : Int32))) (h7 : a2 = (1 : Int32)) (h8 : x_11 = F_rowOf o S_5 x_6) : F_d_shade o S a1 a2 = (S_5, x_11) := by
  replace h0 := Eq.symm h0
  subst h0
  replace h2 := Eq.symm h2
  subst h2
  replace h3 := Eq.symm h3
  subst h3
  replace h4 := Eq.symm h4
  subst h4
  replace h8 := Eq.symm h8
  subst h8
  exact (Eq.trans (if_neg h1) (Eq.trans (if_neg h5) (Eq.trans (if_neg h6) (Eq.trans (if_pos h7) rfl))))
theorem F_d_shade_p3 {o : Nat} {S : dg_S} {a1 : Int32} {a2 : Int32} {S_5 : dg_S} {x_13 : Int32} {x_1 : Int32} {d_4 : Nat} {x_6 : Int32} (h0 : x_1 = F_d_shiftsCome o S (1 : Int32) a1 (20 : Int32)) (h1 : ¬ (x_1 = (0 : Int32))) (h2 : d_4 = zR o S 0 6) (h3 : S_5 = F_f_seekShade o S d_4 3 a1) (h4 : x_6 = zI S_5 221 4) (h5 : ¬ (x_6 = (-1 : Int32))) (h6 : ¬ (a2 = (0 : Int32))) (h7 : ¬ (a2 = (1 : Int32))) (h8 : a2 = (2 : Int32)) (h9 : x_13 = zI S_5 221 5) : F_d_shade o S a1 a2 = (S_5, x_13) := by
  replace h0 := Eq.symm h0
  subst h0
  replace h2 := Eq.symm h2
  subst h2
  replace h3 := Eq.symm h3
  subst h3
  replace h4 := Eq.symm h4
  subst h4
  replace h9 := Eq.symm h9
  subst h9
  exact (Eq.trans (if_neg h1) (Eq.trans (if_neg h5) (Eq.trans (if_neg h6) (Eq.trans (if_neg h7) (Eq.trans (if_pos h8) rfl)))))
theorem F_d_shade_p4 {o : Nat} {S : dg_S} {a1 : Int32} {a2 : Int32} {S_5 : dg_S} {x_1 : Int32} {d_4 : Nat} {x_6 : Int32} (h0 : x_1 = F_d_shiftsCome o S (1 : Int32) a1 (20 : Int32)) (h1 : ¬ (x_1 = (0 : Int32))) (h2 : d_4 = zR o S 0 6) (h3 : S_5 = F_f_seekShade o S d_4 3 a1) (h4 : x_6 = zI S_5 221 4) (h5 : x_6 = (-1 : Int32)) : F_d_shade o S a1 a2 = (S_5, (-1 : Int32)) := by
  replace h0 := Eq.symm h0
  subst h0
  replace h2 := Eq.symm h2
  subst h2
  replace h3 := Eq.symm h3
  subst h3
  replace h4 := Eq.symm h4
  subst h4
  exact (Eq.trans (if_neg h1) (Eq.trans (if_pos h5) rfl))
theorem F_d_shade_p5 {o : Nat} {S : dg_S} {a1 : Int32} {a2 : Int32} {x_1 : Int32} (h0 : x_1 = F_d_shiftsCome o S (1 : Int32) a1 (20 : Int32)) (h1 : x_1 = (0 : Int32)) : F_d_shade o S a1 a2 = (S, (-1 : Int32)) := by
  replace h0 := Eq.symm h0
  subst h0
  exact (Eq.trans (if_pos h1) rfl)
set_option maxHeartbeats 8000000 in
set_option maxRecDepth 100000 in
theorem c_d_shade (l : Launch) (g : Nat → ClassId) (D : va_G) (o : Nat) (S : dg_S) (a1 : Int32) (a2 : Int32) (Z1 : Z1X S) (Z2 : Z2X S) (Z3 : Z3X o S) (Z4 : Z4X S) (Z6 : Z6X S) (I : CX o S) (sz : Nat) : Met l yX11_shade (bw yX11_shade cX11_shade 3 (some .int)) ({ frames := 8, cells := 0, slots := 0, locals := 198 } : Room) (dk_Pc g D (dg_w g shX o rfX S) sz [.ref (o + 0), .int a1, .int a2]) (va_Qi (fun (r : Int32) S' => CX o S' ∧ dg_sm shX [(3, 0), (3, 1), (36, 4), (36, 6), (36, 7), (36, 8), (36, 9), (36, 10), (36, 11), (36, 12), (37, 0), (37, 1), (37, 2), (37, 3), (37, 4), (37, 5), (37, 7), (43, 2), (43, 4), (43, 5)] [4, 5, 6, 7, 8, 9, 38, 39, 40, 41, 42] S S' ∧ Z2X S' ∧ Z3X o S' ∧ Z4X S' ∧ Z6X S' ∧ dg_FG S S' ∧ (S' = (F_d_shade o S a1 a2).1 ∧ r = (F_d_shade o S a1 a2).2) ∧ True) (dg_B g D shX o rfX) (dg_A o shX.length sz)) 0 0 (dg_A o shX.length sz) := by
  refine dg_met (cc := cX11_shade) (maxL := 3) (ret := (some .int)) (dk_dq rfl) rfl (Nat.le_of_ble_eq_true rfl) ?_
  intro p e s m args below meth c A hAe harg hx hb hr hml hts hown hlocks hin hP K hS hA1 hA ST hsz ls hl
  rw [← hAe]
  have F : CallFix p m c cX11_shade 3 s args (bw yX11_shade cX11_shade 3 (some .int)) RX11 := ⟨hx, hb, hml, hown, hts⟩
  have hl : lv_has ls 3 [(0, .ref (o + 0)), (1, .int a1), (2, .int a2)] := hl
  have M_0 : dg_sm shX [(3, 0), (3, 1), (36, 4), (36, 6), (36, 7), (36, 8), (36, 9), (36, 10), (36, 11), (36, 12), (37, 0), (37, 1), (37, 2), (37, 3), (37, 4), (37, 5), (37, 7), (43, 2), (43, 4), (43, 5)] [4, 5, 6, 7, 8, 9, 38, 39, 40, 41, 42] S S := dg_sm.rf
  refine lv_aload_n hx hb dX11_shade_0 rfl (lv_at hl 0 rfl) ?_
  refine lv_iconst (v := 1) hx hb dX11_shade_1 (by decide +kernel) ?_
  refine lv_iload_n hx hb dX11_shade_2 rfl (lv_at hl 1 rfl) ?_
  refine lv_bipush (v := 20) hx hb dX11_shade_3 (by decide +kernel) ?_
  refine dg_calli hS hA1 hA (va_runV (As := [.int 1, .int a1, .int 20]) (rest := []) F (c_d_shiftsCome l g D o S 1 a1 20 Z1 Z2 Z3 Z4 Z6 I s.heap.size) (cwV 3 hts (bw_V wB_984 wB_985 wB_986 wB_610 wB_983) rfl rfl rfl (by decide +kernel) ⟨Nat.le_of_ble_eq_true rfl, Nat.le_of_ble_eq_true rfl⟩) (dg_preV sX_0 rfl K ST hP hS hA1 hA) rfl rfl hl.1 rfl (lv_room (Nat.le_of_ble_eq_true rfl)) dX11_shade_5 ⟨Nat.le_of_ble_eq_true rfl, Nat.le_of_ble_eq_true rfl⟩) (fun x_1 S_2 hw_2 H locs hP hS => ?_)
  rw [hw_2.1] at hP
  obtain ⟨hq_2, w_2_0, w_2_1, -⟩ := hw_2
  have w_2_0 : 0 ≤ (x_1).toInt ∧ (x_1).toInt ≤ 1 := w_2_0
  refine lv_if_ne (tgt := 13) hx hb dX11_shade_8 (dk_dq rfl) (fun c_3 => ?_) (fun c_3 => ?_)
  · as_aux_lemma =>
      have jc_3 := dk_neqc (k := 0) (by decide +kernel) c_3
      refine lv_aload_n hx hb dX11_shade_13 rfl (lv_at hl 0 rfl) ?_
      refine dg_get (C := RX11) (T := TX11) (N := 13) hx hb hts (fun w h => bw_mem (wU_X11 w h)) hown K hP sX_0 rfl 10 (dk_dq rfl) (hts _ (bw_mem wB_837)) (fun _ h9 => h9) (v := .ref (o + 221)) (show S.1 0 10 = .ref (o + 221) from dg_I.rel (d := 221) I sX_0 (by decide +kernel)) dX11_shade_14 ?_
      refine lv_aload_n hx hb dX11_shade_17 rfl (lv_at hl 0 rfl) ?_
      obtain ⟨d_4, hk_d_4, f_d_4⟩ := dg_I.one (i := 0) (k := 6) (d := 0) I sX_0 (by decide +kernel)
      have hk_d_4 : rX d_4 := hk_d_4
      refine dg_get (C := RX11) (T := TX11) (N := 13) hx hb hts (fun w h => bw_mem (wU_X11 w h)) hown K hP sX_0 rfl 6 (dk_dq rfl) (hts _ (bw_mem wB_286)) (fun _ h9 => h9) (v := .ref (o + d_4)) f_d_4 dX11_shade_18 ?_
      refine lv_aload_n hx hb dX11_shade_21 rfl (lv_at hl 0 rfl) ?_
      refine dg_get (C := RX11) (T := TX11) (N := 13) hx hb hts (fun w h => bw_mem (wU_X11 w h)) hown K hP sX_0 rfl 1 (dk_dq rfl) (hts _ (bw_mem wB_287)) (fun _ h9 => h9) (v := .ref (o + 3)) (show S.1 0 1 = .ref (o + 3) from dg_I.rel (d := 3) I sX_0 (by decide +kernel)) dX11_shade_22 ?_
      refine lv_iload_n hx hb dX11_shade_25 rfl (lv_at hl 1 rfl) ?_
      refine dg_callv hS hA1 hA (va_runV (As := [.ref (o + d_4), .ref (o + 3), .int a1]) (rest := []) F (c_f_seekShade l g D o S d_4 hk_d_4 3 (by unfold pX; decide : pX 3) a1 Z6 Z2 Z3 I H.size) (cwV 3 hts (bw_V wB_993 wB_994 wB_995 wB_693 wB_992) rfl rfl rfl (by decide +kernel) ⟨Nat.le_of_ble_eq_true rfl, Nat.le_of_ble_eq_true rfl⟩) (dg_preV sX_221 rfl K ST hP hS hA1 hA) rfl rfl hl.1 rfl (lv_room (Nat.le_of_ble_eq_true rfl)) dX11_shade_26 ⟨Nat.le_of_ble_eq_true rfl, Nat.le_of_ble_eq_true rfl⟩) (fun S_5 hw_5 H locs hP hS => ?_)
      obtain ⟨I_5, m_5, w_5_0, w_5_1, w_5_2, w_5_3, -⟩ := hw_5
      have M_5 := dg_sm.tr M_0 m_5 (dk_dq rfl) (dk_dq rfl)
      refine lv_aload_n hx hb dX11_shade_29 rfl (lv_at hl 0 rfl) ?_
      refine dg_get (C := RX11) (T := TX11) (N := 13) hx hb hts (fun w h => bw_mem (wU_X11 w h)) hown K hP sX_0 rfl 10 (dk_dq rfl) (hts _ (bw_mem wB_837)) (fun _ h9 => h9) (v := .ref (o + 221)) (show S_5.1 0 10 = .ref (o + 221) from dg_I.rel (d := 221) I_5 sX_0 (by decide +kernel)) dX11_shade_30 ?_
      obtain ⟨x_6, f_x_6, b_x_6⟩ := dg_I.int (i := 221) (k := 4) (lo := (-2147483648)) (hi := 2147483647) I_5 sX_221 (by decide +kernel)
      refine dg_get (C := RX1) (T := TX1) (N := 9) hx hb hts (fun w h => bw_mem (wU_X1 w h)) hown K hP sX_221 rfl 4 (dk_dq rfl) (hts _ (bw_mem wB_996)) (fun _ h9 => h9) (v := .int x_6) f_x_6 dX11_shade_33 ?_
      refine lv_iconst (v := (-1)) hx hb dX11_shade_36 (by decide +kernel) ?_
      refine lv_icmp_ne (tgt := 42) hx hb dX11_shade_37 (dk_dq rfl) (fun c_7 => ?_) (fun c_7 => ?_)
      · as_aux_lemma =>
          have jc_7 := dk_neqc (k := (-1)) (by decide +kernel) c_7
          refine lv_iload_n hx hb dX11_shade_42 rfl (lv_at hl 2 rfl) ?_
          rcases (show ((a2).toInt < 0 ∨ 2 < (a2).toInt) ∨ (a2).toInt = 0 ∨ (a2).toInt = 1 ∨ (a2).toInt = 2 by omega) with jc_8 | jc_8 | jc_8 | jc_8
          · refine lv_tableOut (tgt := 98) hx hb dX11_shade_43 jc_8 (dk_dq rfl) ?_
            refine lv_iconst (v := (-1)) hx hb dX11_shade_98 (by decide +kernel) ?_
            refine W.widen (k := 0) (n := 0) (Nat.le_of_ble_eq_true rfl) (Nat.le_of_ble_eq_true rfl) ?_
            exact dg_iret hx hb hr hlocks rfl hP hS ⟨I_5, M_5, w_5_0, w_5_1, (Z4X.keep Z4 m_5 w_5_2 (dk_dq rfl) (dk_dq rfl)), (Z6X.keep Z6 m_5 w_5_2), w_5_2, ⟨congrArg Prod.fst (Eq.symm (F_d_shade_p0 w_2_1 c_3 (zR_eq f_d_4) w_5_3 (zI_eq f_x_6) c_7 (dk_neO jc_8 (k := 0) (b := 0) (by decide +kernel) (dk_dq rfl)) (dk_neO jc_8 (k := 1) (b := 1) (by decide +kernel) (dk_dq rfl)) (dk_neO jc_8 (k := 2) (b := 2) (by decide +kernel) (dk_dq rfl)))), congrArg Prod.snd (Eq.symm (F_d_shade_p0 w_2_1 c_3 (zR_eq f_d_4) w_5_3 (zI_eq f_x_6) c_7 (dk_neO jc_8 (k := 0) (b := 0) (by decide +kernel) (dk_dq rfl)) (dk_neO jc_8 (k := 1) (b := 1) (by decide +kernel) (dk_dq rfl)) (dk_neO jc_8 (k := 2) (b := 2) (by decide +kernel) (dk_dq rfl))))⟩, trivial⟩ dX11_shade_99
          · refine lv_tableIn (off := 25) (tgt := 68) hx hb dX11_shade_43 (by rw [jc_8]; decide) (by rw [jc_8]; decide) (by rw [jc_8]; decide +kernel) (dk_dq rfl) ?_
            refine lv_aload_n hx hb dX11_shade_68 rfl (lv_at hl 0 rfl) ?_
            refine dg_get (C := RX11) (T := TX11) (N := 13) hx hb hts (fun w h => bw_mem (wU_X11 w h)) hown K hP sX_0 rfl 10 (dk_dq rfl) (hts _ (bw_mem wB_837)) (fun _ h9 => h9) (v := .ref (o + 221)) (show S_5.1 0 10 = .ref (o + 221) from dg_I.rel (d := 221) I_5 sX_0 (by decide +kernel)) dX11_shade_69 ?_
            refine dg_get (C := RX1) (T := TX1) (N := 9) hx hb hts (fun w h => bw_mem (wU_X1 w h)) hown K hP sX_221 rfl 4 (dk_dq rfl) (hts _ (bw_mem wB_996)) (fun _ h9 => h9) (v := .int x_6) f_x_6 dX11_shade_72 ?_
            refine dg_calli hS hA1 hA (va_runS (As := [.int x_6]) (rest := []) F (c_columnOf l g D o S_5 x_6 I_5 H.size) (va_cwS 1 hts (bw_S wB_972 wB_800 wB_610 wB_799) rfl rfl rfl (by decide +kernel) ⟨Nat.le_of_ble_eq_true rfl, Nat.le_of_ble_eq_true rfl⟩) (dg_preS K ST hP hS hA1 hA) rfl rfl hl.1 rfl (lv_room (Nat.le_of_ble_eq_true rfl)) dX11_shade_75 ⟨Nat.le_of_ble_eq_true rfl, Nat.le_of_ble_eq_true rfl⟩) (fun x_9 S_10 hw_10 H locs hP hS => ?_)
            rw [hw_10.1] at hP
            obtain ⟨hq_10, w_10_0, w_10_1, -⟩ := hw_10
            have w_10_0 : 0 ≤ (x_9).toInt ∧ (x_9).toInt ≤ 7 := w_10_0
            refine W.widen (k := 0) (n := 0) (Nat.le_of_ble_eq_true rfl) (Nat.le_of_ble_eq_true rfl) ?_
            exact dg_iret hx hb hr hlocks rfl hP hS ⟨I_5, M_5, w_5_0, w_5_1, (Z4X.keep Z4 m_5 w_5_2 (dk_dq rfl) (dk_dq rfl)), (Z6X.keep Z6 m_5 w_5_2), w_5_2, ⟨congrArg Prod.fst (Eq.symm (F_d_shade_p1 w_2_1 c_3 (zR_eq f_d_4) w_5_3 (zI_eq f_x_6) c_7 (dk_eqT jc_8 (k := 0) (by decide +kernel)) w_10_1)), congrArg Prod.snd (Eq.symm (F_d_shade_p1 w_2_1 c_3 (zR_eq f_d_4) w_5_3 (zI_eq f_x_6) c_7 (dk_eqT jc_8 (k := 0) (by decide +kernel)) w_10_1))⟩, trivial⟩ dX11_shade_78
          · refine lv_tableIn (off := 36) (tgt := 79) hx hb dX11_shade_43 (by rw [jc_8]; decide) (by rw [jc_8]; decide) (by rw [jc_8]; decide +kernel) (dk_dq rfl) ?_
            refine lv_aload_n hx hb dX11_shade_79 rfl (lv_at hl 0 rfl) ?_
            refine dg_get (C := RX11) (T := TX11) (N := 13) hx hb hts (fun w h => bw_mem (wU_X11 w h)) hown K hP sX_0 rfl 10 (dk_dq rfl) (hts _ (bw_mem wB_837)) (fun _ h9 => h9) (v := .ref (o + 221)) (show S_5.1 0 10 = .ref (o + 221) from dg_I.rel (d := 221) I_5 sX_0 (by decide +kernel)) dX11_shade_80 ?_
            refine dg_get (C := RX1) (T := TX1) (N := 9) hx hb hts (fun w h => bw_mem (wU_X1 w h)) hown K hP sX_221 rfl 4 (dk_dq rfl) (hts _ (bw_mem wB_996)) (fun _ h9 => h9) (v := .int x_6) f_x_6 dX11_shade_83 ?_
            refine dg_calli hS hA1 hA (va_runS (As := [.int x_6]) (rest := []) F (c_rowOf l g D o S_5 x_6 I_5 H.size) (va_cwS 1 hts (bw_S wB_973 wB_611 wB_610 wB_609) rfl rfl rfl (by decide +kernel) ⟨Nat.le_of_ble_eq_true rfl, Nat.le_of_ble_eq_true rfl⟩) (dg_preS K ST hP hS hA1 hA) rfl rfl hl.1 rfl (lv_room (Nat.le_of_ble_eq_true rfl)) dX11_shade_86 ⟨Nat.le_of_ble_eq_true rfl, Nat.le_of_ble_eq_true rfl⟩) (fun x_11 S_12 hw_12 H locs hP hS => ?_)
            rw [hw_12.1] at hP
            obtain ⟨hq_12, w_12_0, -⟩ := hw_12
            refine W.widen (k := 0) (n := 0) (Nat.le_of_ble_eq_true rfl) (Nat.le_of_ble_eq_true rfl) ?_
            exact dg_iret hx hb hr hlocks rfl hP hS ⟨I_5, M_5, w_5_0, w_5_1, (Z4X.keep Z4 m_5 w_5_2 (dk_dq rfl) (dk_dq rfl)), (Z6X.keep Z6 m_5 w_5_2), w_5_2, ⟨congrArg Prod.fst (Eq.symm (F_d_shade_p2 w_2_1 c_3 (zR_eq f_d_4) w_5_3 (zI_eq f_x_6) c_7 (dk_neT jc_8 (k := 0) (b := 0) (by decide +kernel) (dk_dq rfl)) (dk_eqT jc_8 (k := 1) (by decide +kernel)) w_12_0)), congrArg Prod.snd (Eq.symm (F_d_shade_p2 w_2_1 c_3 (zR_eq f_d_4) w_5_3 (zI_eq f_x_6) c_7 (dk_neT jc_8 (k := 0) (b := 0) (by decide +kernel) (dk_dq rfl)) (dk_eqT jc_8 (k := 1) (by decide +kernel)) w_12_0))⟩, trivial⟩ dX11_shade_89
          · refine lv_tableIn (off := 47) (tgt := 90) hx hb dX11_shade_43 (by rw [jc_8]; decide) (by rw [jc_8]; decide) (by rw [jc_8]; decide +kernel) (dk_dq rfl) ?_
            refine lv_aload_n hx hb dX11_shade_90 rfl (lv_at hl 0 rfl) ?_
            refine dg_get (C := RX11) (T := TX11) (N := 13) hx hb hts (fun w h => bw_mem (wU_X11 w h)) hown K hP sX_0 rfl 10 (dk_dq rfl) (hts _ (bw_mem wB_837)) (fun _ h9 => h9) (v := .ref (o + 221)) (show S_5.1 0 10 = .ref (o + 221) from dg_I.rel (d := 221) I_5 sX_0 (by decide +kernel)) dX11_shade_91 ?_
            obtain ⟨x_13, f_x_13, b_x_13⟩ := dg_I.int (i := 221) (k := 5) (lo := (-2147483648)) (hi := 2147483647) I_5 sX_221 (by decide +kernel)
            refine dg_get (C := RX1) (T := TX1) (N := 9) hx hb hts (fun w h => bw_mem (wU_X1 w h)) hown K hP sX_221 rfl 5 (dk_dq rfl) (hts _ (bw_mem wB_997)) (fun _ h9 => h9) (v := .int x_13) f_x_13 dX11_shade_94 ?_
            refine W.widen (k := 0) (n := 0) (Nat.le_of_ble_eq_true rfl) (Nat.le_of_ble_eq_true rfl) ?_
            exact dg_iret hx hb hr hlocks rfl hP hS ⟨I_5, M_5, w_5_0, w_5_1, (Z4X.keep Z4 m_5 w_5_2 (dk_dq rfl) (dk_dq rfl)), (Z6X.keep Z6 m_5 w_5_2), w_5_2, ⟨congrArg Prod.fst (Eq.symm (F_d_shade_p3 w_2_1 c_3 (zR_eq f_d_4) w_5_3 (zI_eq f_x_6) c_7 (dk_neT jc_8 (k := 0) (b := 0) (by decide +kernel) (dk_dq rfl)) (dk_neT jc_8 (k := 1) (b := 1) (by decide +kernel) (dk_dq rfl)) (dk_eqT jc_8 (k := 2) (by decide +kernel)) (zI_eq f_x_13))), congrArg Prod.snd (Eq.symm (F_d_shade_p3 w_2_1 c_3 (zR_eq f_d_4) w_5_3 (zI_eq f_x_6) c_7 (dk_neT jc_8 (k := 0) (b := 0) (by decide +kernel) (dk_dq rfl)) (dk_neT jc_8 (k := 1) (b := 1) (by decide +kernel) (dk_dq rfl)) (dk_eqT jc_8 (k := 2) (by decide +kernel)) (zI_eq f_x_13)))⟩, trivial⟩ dX11_shade_97
      · have jc_7 := dk_eqc (k := (-1)) (by decide +kernel) c_7
        refine lv_iconst (v := (-1)) hx hb dX11_shade_40 (by decide +kernel) ?_
        refine W.widen (k := 0) (n := 0) (Nat.le_of_ble_eq_true rfl) (Nat.le_of_ble_eq_true rfl) ?_
        exact dg_iret hx hb hr hlocks rfl hP hS ⟨I_5, M_5, w_5_0, w_5_1, (Z4X.keep Z4 m_5 w_5_2 (dk_dq rfl) (dk_dq rfl)), (Z6X.keep Z6 m_5 w_5_2), w_5_2, ⟨congrArg Prod.fst (Eq.symm (F_d_shade_p4 w_2_1 c_3 (zR_eq f_d_4) w_5_3 (zI_eq f_x_6) c_7)), congrArg Prod.snd (Eq.symm (F_d_shade_p4 w_2_1 c_3 (zR_eq f_d_4) w_5_3 (zI_eq f_x_6) c_7))⟩, trivial⟩ dX11_shade_41
  · have jc_3 := dk_eqc (k := 0) (by decide +kernel) c_3
    refine lv_iconst (v := (-1)) hx hb dX11_shade_11 (by decide +kernel) ?_
    refine W.widen (k := 0) (n := 0) (Nat.le_of_ble_eq_true rfl) (Nat.le_of_ble_eq_true rfl) ?_
    exact dg_iret hx hb hr hlocks rfl hP hS ⟨I, M_0, Z2, Z3, Z4, Z6, dg_FG.rf, ⟨congrArg Prod.fst (Eq.symm (F_d_shade_p5 w_2_1 c_3)), congrArg Prod.snd (Eq.symm (F_d_shade_p5 w_2_1 c_3))⟩, trivial⟩ dX11_shade_12
noncomputable def F_d_change (o : Nat) (S : dg_S) (a1 : Int32) (a2 : Int32) : dg_S × Int32 := let x_1 : Int32 := F_d_shiftsCome o S (1 : Int32) a1 (20 : Int32); (if x_1 = (0 : Int32) then (S, (-1 : Int32)) else let d_4 : Nat := zR o S 0 6; let S_5 : dg_S := F_f_seekChange o S d_4 3 a1; let x_6 : Int32 := zI S_5 221 6; (if x_6 = (-1 : Int32) then (S_5, (-1 : Int32)) else (if a2 = (0 : Int32) then (S_5, x_6) else (if a2 = (1 : Int32) then let x_9 : Int32 := zI S_5 221 7; (S_5, x_9) else (if a2 = (2 : Int32) then let x_10 : Int32 := zI S_5 221 8; (S_5, x_10) else (S_5, (-1 : Int32)))))))
theorem F_d_change_p0 {o : Nat} {S : dg_S} {a1 : Int32} {a2 : Int32} {S_5 : dg_S} {x_1 : Int32} {d_4 : Nat} {x_6 : Int32} (h0 : x_1 = F_d_shiftsCome o S (1 : Int32) a1 (20 : Int32)) (h1 : ¬ (x_1 = (0 : Int32))) (h2 : d_4 = zR o S 0 6) (h3 : S_5 = F_f_seekChange o S d_4 3 a1) (h4 : x_6 = zI S_5 221 6) (h5 : ¬ (x_6 = (-1 : Int32))) (h6 : ¬ (a2 = (0 : Int32))) (h7 : ¬ (a2 = (1 : Int32))) (h8 : ¬ (a2 = (2 : Int32))) : F_d_change o S a1 a2 = (S_5, (-1 : Int32)) := by
  replace h0 := Eq.symm h0
  subst h0
  replace h2 := Eq.symm h2
  subst h2
  replace h3 := Eq.symm h3
  subst h3
  replace h4 := Eq.symm h4
  subst h4
  exact (Eq.trans (if_neg h1) (Eq.trans (if_neg h5) (Eq.trans (if_neg h6) (Eq.trans (if_neg h7) (Eq.trans (if_neg h8) rfl)))))
theorem F_d_change_p1 {o : Nat} {S : dg_S} {a1 : Int32} {a2 : Int32} {S_5 : dg_S} {x_6 : Int32} {x_1 : Int32} {d_4 : Nat} (h0 : x_1 = F_d_shiftsCome o S (1 : Int32) a1 (20 : Int32)) (h1 : ¬ (x_1 = (0 : Int32))) (h2 : d_4 = zR o S 0 6) (h3 : S_5 = F_f_seekChange o S d_4 3 a1) (h4 : x_6 = zI S_5 221 6) (h5 : ¬ (x_6 = (-1 : Int32))) (h6 : a2 = (0 : Int32)) : F_d_change o S a1 a2 = (S_5, x_6) := by
  replace h0 := Eq.symm h0
  subst h0
  replace h2 := Eq.symm h2
  subst h2
  replace h3 := Eq.symm h3
  subst h3
  replace h4 := Eq.symm h4
  subst h4
  exact (Eq.trans (if_neg h1) (Eq.trans (if_neg h5) (Eq.trans (if_pos h6) rfl)))
theorem F_d_change_p2 {o : Nat} {S : dg_S} {a1 : Int32} {a2 : Int32} {S_5 : dg_S} {x_9 : Int32} {x_1 : Int32} {d_4 : Nat} {x_6 : Int32} (h0 : x_1 = F_d_shiftsCome o S (1 : Int32) a1 (20 : Int32)) (h1 : ¬ (x_1 = (0 : Int32))) (h2 : d_4 = zR o S 0 6) (h3 : S_5 = F_f_seekChange o S d_4 3 a1) (h4 : x_6 = zI S_5 221 6) (h5 : ¬ (x_6 = (-1 : Int32))) (h6 : ¬ (a2 = (0 : Int32))) (h7 : a2 = (1 : Int32)) (h8 : x_9 = zI S_5 221 7) : F_d_change o S a1 a2 = (S_5, x_9) := by
  replace h0 := Eq.symm h0
  subst h0
  replace h2 := Eq.symm h2
  subst h2
  replace h3 := Eq.symm h3
  subst h3
  replace h4 := Eq.symm h4
  subst h4
  replace h8 := Eq.symm h8
  subst h8
  exact (Eq.trans (if_neg h1) (Eq.trans (if_neg h5) (Eq.trans (if_neg h6) (Eq.trans (if_pos h7) rfl))))
theorem F_d_change_p3 {o : Nat} {S : dg_S} {a1 : Int32} {a2 : Int32} {S_5 : dg_S} {x_10 : Int32} {x_1 : Int32} {d_4 : Nat} {x_6 : Int32} (h0 : x_1 = F_d_shiftsCome o S (1 : Int32) a1 (20 : Int32)) (h1 : ¬ (x_1 = (0 : Int32))) (h2 : d_4 = zR o S 0 6) (h3 : S_5 = F_f_seekChange o S d_4 3 a1) (h4 : x_6 = zI S_5 221 6) (h5 : ¬ (x_6 = (-1 : Int32))) (h6 : ¬ (a2 = (0 : Int32))) (h7 : ¬ (a2 = (1 : Int32))) (h8 : a2 = (2 : Int32)) (h9 : x_10 = zI S_5 221 8) : F_d_change o S a1 a2 = (S_5, x_10) := by
  replace h0 := Eq.symm h0
  subst h0
  replace h2 := Eq.symm h2
  subst h2
  replace h3 := Eq.symm h3
  subst h3
  replace h4 := Eq.symm h4
  subst h4
  replace h9 := Eq.symm h9
  subst h9
  exact (Eq.trans (if_neg h1) (Eq.trans (if_neg h5) (Eq.trans (if_neg h6) (Eq.trans (if_neg h7) (Eq.trans (if_pos h8) rfl)))))
theorem F_d_change_p4 {o : Nat} {S : dg_S} {a1 : Int32} {a2 : Int32} {S_5 : dg_S} {x_1 : Int32} {d_4 : Nat} {x_6 : Int32} (h0 : x_1 = F_d_shiftsCome o S (1 : Int32) a1 (20 : Int32)) (h1 : ¬ (x_1 = (0 : Int32))) (h2 : d_4 = zR o S 0 6) (h3 : S_5 = F_f_seekChange o S d_4 3 a1) (h4 : x_6 = zI S_5 221 6) (h5 : x_6 = (-1 : Int32)) : F_d_change o S a1 a2 = (S_5, (-1 : Int32)) := by
  replace h0 := Eq.symm h0
  subst h0
  replace h2 := Eq.symm h2
  subst h2
  replace h3 := Eq.symm h3
  subst h3
  replace h4 := Eq.symm h4
  subst h4
  exact (Eq.trans (if_neg h1) (Eq.trans (if_pos h5) rfl))
theorem F_d_change_p5 {o : Nat} {S : dg_S} {a1 : Int32} {a2 : Int32} {x_1 : Int32} (h0 : x_1 = F_d_shiftsCome o S (1 : Int32) a1 (20 : Int32)) (h1 : x_1 = (0 : Int32)) : F_d_change o S a1 a2 = (S, (-1 : Int32)) := by
  replace h0 := Eq.symm h0
  subst h0
  exact (Eq.trans (if_pos h1) rfl)
set_option maxHeartbeats 8000000 in
set_option maxRecDepth 100000 in
theorem c_d_change (l : Launch) (g : Nat → ClassId) (D : va_G) (o : Nat) (S : dg_S) (a1 : Int32) (a2 : Int32) (Z1 : Z1X S) (Z2 : Z2X S) (Z3 : Z3X o S) (Z4 : Z4X S) (Z6 : Z6X S) (I : CX o S) (sz : Nat) : Met l yX11_change (bw yX11_change cX11_change 3 (some .int)) ({ frames := 8, cells := 0, slots := 0, locals := 200 } : Room) (dk_Pc g D (dg_w g shX o rfX S) sz [.ref (o + 0), .int a1, .int a2]) (va_Qi (fun (r : Int32) S' => CX o S' ∧ dg_sm shX [(3, 0), (3, 1), (36, 4), (36, 6), (36, 7), (36, 8), (36, 9), (36, 10), (36, 11), (36, 12), (37, 0), (37, 1), (37, 2), (37, 3), (37, 4), (37, 5), (37, 7), (43, 3), (43, 6), (43, 7), (43, 8)] [4, 5, 6, 7, 8, 9, 38, 39, 40, 41, 42] S S' ∧ Z2X S' ∧ Z3X o S' ∧ Z4X S' ∧ Z6X S' ∧ dg_FG S S' ∧ (S' = (F_d_change o S a1 a2).1 ∧ r = (F_d_change o S a1 a2).2) ∧ True) (dg_B g D shX o rfX) (dg_A o shX.length sz)) 0 0 (dg_A o shX.length sz) := by
  refine dg_met (cc := cX11_change) (maxL := 3) (ret := (some .int)) (dk_dq rfl) rfl (Nat.le_of_ble_eq_true rfl) ?_
  intro p e s m args below meth c A hAe harg hx hb hr hml hts hown hlocks hin hP K hS hA1 hA ST hsz ls hl
  rw [← hAe]
  have F : CallFix p m c cX11_change 3 s args (bw yX11_change cX11_change 3 (some .int)) RX11 := ⟨hx, hb, hml, hown, hts⟩
  have hl : lv_has ls 3 [(0, .ref (o + 0)), (1, .int a1), (2, .int a2)] := hl
  have M_0 : dg_sm shX [(3, 0), (3, 1), (36, 4), (36, 6), (36, 7), (36, 8), (36, 9), (36, 10), (36, 11), (36, 12), (37, 0), (37, 1), (37, 2), (37, 3), (37, 4), (37, 5), (37, 7), (43, 3), (43, 6), (43, 7), (43, 8)] [4, 5, 6, 7, 8, 9, 38, 39, 40, 41, 42] S S := dg_sm.rf
  refine lv_aload_n hx hb dX11_change_0 rfl (lv_at hl 0 rfl) ?_
  refine lv_iconst (v := 1) hx hb dX11_change_1 (by decide +kernel) ?_
  refine lv_iload_n hx hb dX11_change_2 rfl (lv_at hl 1 rfl) ?_
  refine lv_bipush (v := 20) hx hb dX11_change_3 (by decide +kernel) ?_
  refine dg_calli hS hA1 hA (va_runV (As := [.int 1, .int a1, .int 20]) (rest := []) F (c_d_shiftsCome l g D o S 1 a1 20 Z1 Z2 Z3 Z4 Z6 I s.heap.size) (cwV 3 hts (bw_V wB_984 wB_985 wB_986 wB_610 wB_983) rfl rfl rfl (by decide +kernel) ⟨Nat.le_of_ble_eq_true rfl, Nat.le_of_ble_eq_true rfl⟩) (dg_preV sX_0 rfl K ST hP hS hA1 hA) rfl rfl hl.1 rfl (lv_room (Nat.le_of_ble_eq_true rfl)) dX11_change_5 ⟨Nat.le_of_ble_eq_true rfl, Nat.le_of_ble_eq_true rfl⟩) (fun x_1 S_2 hw_2 H locs hP hS => ?_)
  rw [hw_2.1] at hP
  obtain ⟨hq_2, w_2_0, w_2_1, -⟩ := hw_2
  have w_2_0 : 0 ≤ (x_1).toInt ∧ (x_1).toInt ≤ 1 := w_2_0
  refine lv_if_ne (tgt := 13) hx hb dX11_change_8 (dk_dq rfl) (fun c_3 => ?_) (fun c_3 => ?_)
  · as_aux_lemma =>
      have jc_3 := dk_neqc (k := 0) (by decide +kernel) c_3
      refine lv_aload_n hx hb dX11_change_13 rfl (lv_at hl 0 rfl) ?_
      refine dg_get (C := RX11) (T := TX11) (N := 13) hx hb hts (fun w h => bw_mem (wU_X11 w h)) hown K hP sX_0 rfl 10 (dk_dq rfl) (hts _ (bw_mem wB_837)) (fun _ h9 => h9) (v := .ref (o + 221)) (show S.1 0 10 = .ref (o + 221) from dg_I.rel (d := 221) I sX_0 (by decide +kernel)) dX11_change_14 ?_
      refine lv_aload_n hx hb dX11_change_17 rfl (lv_at hl 0 rfl) ?_
      obtain ⟨d_4, hk_d_4, f_d_4⟩ := dg_I.one (i := 0) (k := 6) (d := 0) I sX_0 (by decide +kernel)
      have hk_d_4 : rX d_4 := hk_d_4
      refine dg_get (C := RX11) (T := TX11) (N := 13) hx hb hts (fun w h => bw_mem (wU_X11 w h)) hown K hP sX_0 rfl 6 (dk_dq rfl) (hts _ (bw_mem wB_286)) (fun _ h9 => h9) (v := .ref (o + d_4)) f_d_4 dX11_change_18 ?_
      refine lv_aload_n hx hb dX11_change_21 rfl (lv_at hl 0 rfl) ?_
      refine dg_get (C := RX11) (T := TX11) (N := 13) hx hb hts (fun w h => bw_mem (wU_X11 w h)) hown K hP sX_0 rfl 1 (dk_dq rfl) (hts _ (bw_mem wB_287)) (fun _ h9 => h9) (v := .ref (o + 3)) (show S.1 0 1 = .ref (o + 3) from dg_I.rel (d := 3) I sX_0 (by decide +kernel)) dX11_change_22 ?_
      refine lv_iload_n hx hb dX11_change_25 rfl (lv_at hl 1 rfl) ?_
      refine dg_callv hS hA1 hA (va_runV (As := [.ref (o + d_4), .ref (o + 3), .int a1]) (rest := []) F (c_f_seekChange l g D o S d_4 hk_d_4 3 (by unfold pX; decide : pX 3) a1 Z6 Z2 Z3 I H.size) (cwV 3 hts (bw_V wB_999 wB_1000 wB_1001 wB_693 wB_998) rfl rfl rfl (by decide +kernel) ⟨Nat.le_of_ble_eq_true rfl, Nat.le_of_ble_eq_true rfl⟩) (dg_preV sX_221 rfl K ST hP hS hA1 hA) rfl rfl hl.1 rfl (lv_room (Nat.le_of_ble_eq_true rfl)) dX11_change_26 ⟨Nat.le_of_ble_eq_true rfl, Nat.le_of_ble_eq_true rfl⟩) (fun S_5 hw_5 H locs hP hS => ?_)
      obtain ⟨I_5, m_5, w_5_0, w_5_1, w_5_2, w_5_3, -⟩ := hw_5
      have M_5 := dg_sm.tr M_0 m_5 (dk_dq rfl) (dk_dq rfl)
      refine lv_aload_n hx hb dX11_change_29 rfl (lv_at hl 0 rfl) ?_
      refine dg_get (C := RX11) (T := TX11) (N := 13) hx hb hts (fun w h => bw_mem (wU_X11 w h)) hown K hP sX_0 rfl 10 (dk_dq rfl) (hts _ (bw_mem wB_837)) (fun _ h9 => h9) (v := .ref (o + 221)) (show S_5.1 0 10 = .ref (o + 221) from dg_I.rel (d := 221) I_5 sX_0 (by decide +kernel)) dX11_change_30 ?_
      obtain ⟨x_6, f_x_6, b_x_6⟩ := dg_I.int (i := 221) (k := 6) (lo := (-2147483648)) (hi := 2147483647) I_5 sX_221 (by decide +kernel)
      refine dg_get (C := RX1) (T := TX1) (N := 9) hx hb hts (fun w h => bw_mem (wU_X1 w h)) hown K hP sX_221 rfl 6 (dk_dq rfl) (hts _ (bw_mem wB_1002)) (fun _ h9 => h9) (v := .int x_6) f_x_6 dX11_change_33 ?_
      refine lv_iconst (v := (-1)) hx hb dX11_change_36 (by decide +kernel) ?_
      refine lv_icmp_ne (tgt := 42) hx hb dX11_change_37 (dk_dq rfl) (fun c_7 => ?_) (fun c_7 => ?_)
      · as_aux_lemma =>
          have jc_7 := dk_neqc (k := (-1)) (by decide +kernel) c_7
          refine lv_iload_n hx hb dX11_change_42 rfl (lv_at hl 2 rfl) ?_
          rcases (show ((a2).toInt < 0 ∨ 2 < (a2).toInt) ∨ (a2).toInt = 0 ∨ (a2).toInt = 1 ∨ (a2).toInt = 2 by omega) with jc_8 | jc_8 | jc_8 | jc_8
          · refine lv_tableOut (tgt := 92) hx hb dX11_change_43 jc_8 (dk_dq rfl) ?_
            refine lv_iconst (v := (-1)) hx hb dX11_change_92 (by decide +kernel) ?_
            refine W.widen (k := 0) (n := 0) (Nat.le_of_ble_eq_true rfl) (Nat.le_of_ble_eq_true rfl) ?_
            exact dg_iret hx hb hr hlocks rfl hP hS ⟨I_5, M_5, w_5_0, w_5_1, (Z4X.keep Z4 m_5 w_5_2 (dk_dq rfl) (dk_dq rfl)), (Z6X.keep Z6 m_5 w_5_2), w_5_2, ⟨congrArg Prod.fst (Eq.symm (F_d_change_p0 w_2_1 c_3 (zR_eq f_d_4) w_5_3 (zI_eq f_x_6) c_7 (dk_neO jc_8 (k := 0) (b := 0) (by decide +kernel) (dk_dq rfl)) (dk_neO jc_8 (k := 1) (b := 1) (by decide +kernel) (dk_dq rfl)) (dk_neO jc_8 (k := 2) (b := 2) (by decide +kernel) (dk_dq rfl)))), congrArg Prod.snd (Eq.symm (F_d_change_p0 w_2_1 c_3 (zR_eq f_d_4) w_5_3 (zI_eq f_x_6) c_7 (dk_neO jc_8 (k := 0) (b := 0) (by decide +kernel) (dk_dq rfl)) (dk_neO jc_8 (k := 1) (b := 1) (by decide +kernel) (dk_dq rfl)) (dk_neO jc_8 (k := 2) (b := 2) (by decide +kernel) (dk_dq rfl))))⟩, trivial⟩ dX11_change_93
          · refine lv_tableIn (off := 25) (tgt := 68) hx hb dX11_change_43 (by rw [jc_8]; decide) (by rw [jc_8]; decide) (by rw [jc_8]; decide +kernel) (dk_dq rfl) ?_
            refine lv_aload_n hx hb dX11_change_68 rfl (lv_at hl 0 rfl) ?_
            refine dg_get (C := RX11) (T := TX11) (N := 13) hx hb hts (fun w h => bw_mem (wU_X11 w h)) hown K hP sX_0 rfl 10 (dk_dq rfl) (hts _ (bw_mem wB_837)) (fun _ h9 => h9) (v := .ref (o + 221)) (show S_5.1 0 10 = .ref (o + 221) from dg_I.rel (d := 221) I_5 sX_0 (by decide +kernel)) dX11_change_69 ?_
            refine dg_get (C := RX1) (T := TX1) (N := 9) hx hb hts (fun w h => bw_mem (wU_X1 w h)) hown K hP sX_221 rfl 6 (dk_dq rfl) (hts _ (bw_mem wB_1002)) (fun _ h9 => h9) (v := .int x_6) f_x_6 dX11_change_72 ?_
            refine W.widen (k := 0) (n := 0) (Nat.le_of_ble_eq_true rfl) (Nat.le_of_ble_eq_true rfl) ?_
            exact dg_iret hx hb hr hlocks rfl hP hS ⟨I_5, M_5, w_5_0, w_5_1, (Z4X.keep Z4 m_5 w_5_2 (dk_dq rfl) (dk_dq rfl)), (Z6X.keep Z6 m_5 w_5_2), w_5_2, ⟨congrArg Prod.fst (Eq.symm (F_d_change_p1 w_2_1 c_3 (zR_eq f_d_4) w_5_3 (zI_eq f_x_6) c_7 (dk_eqT jc_8 (k := 0) (by decide +kernel)))), congrArg Prod.snd (Eq.symm (F_d_change_p1 w_2_1 c_3 (zR_eq f_d_4) w_5_3 (zI_eq f_x_6) c_7 (dk_eqT jc_8 (k := 0) (by decide +kernel))))⟩, trivial⟩ dX11_change_75
          · refine lv_tableIn (off := 33) (tgt := 76) hx hb dX11_change_43 (by rw [jc_8]; decide) (by rw [jc_8]; decide) (by rw [jc_8]; decide +kernel) (dk_dq rfl) ?_
            refine lv_aload_n hx hb dX11_change_76 rfl (lv_at hl 0 rfl) ?_
            refine dg_get (C := RX11) (T := TX11) (N := 13) hx hb hts (fun w h => bw_mem (wU_X11 w h)) hown K hP sX_0 rfl 10 (dk_dq rfl) (hts _ (bw_mem wB_837)) (fun _ h9 => h9) (v := .ref (o + 221)) (show S_5.1 0 10 = .ref (o + 221) from dg_I.rel (d := 221) I_5 sX_0 (by decide +kernel)) dX11_change_77 ?_
            obtain ⟨x_9, f_x_9, b_x_9⟩ := dg_I.int (i := 221) (k := 7) (lo := (-2147483648)) (hi := 2147483647) I_5 sX_221 (by decide +kernel)
            refine dg_get (C := RX1) (T := TX1) (N := 9) hx hb hts (fun w h => bw_mem (wU_X1 w h)) hown K hP sX_221 rfl 7 (dk_dq rfl) (hts _ (bw_mem wB_1003)) (fun _ h9 => h9) (v := .int x_9) f_x_9 dX11_change_80 ?_
            refine W.widen (k := 0) (n := 0) (Nat.le_of_ble_eq_true rfl) (Nat.le_of_ble_eq_true rfl) ?_
            exact dg_iret hx hb hr hlocks rfl hP hS ⟨I_5, M_5, w_5_0, w_5_1, (Z4X.keep Z4 m_5 w_5_2 (dk_dq rfl) (dk_dq rfl)), (Z6X.keep Z6 m_5 w_5_2), w_5_2, ⟨congrArg Prod.fst (Eq.symm (F_d_change_p2 w_2_1 c_3 (zR_eq f_d_4) w_5_3 (zI_eq f_x_6) c_7 (dk_neT jc_8 (k := 0) (b := 0) (by decide +kernel) (dk_dq rfl)) (dk_eqT jc_8 (k := 1) (by decide +kernel)) (zI_eq f_x_9))), congrArg Prod.snd (Eq.symm (F_d_change_p2 w_2_1 c_3 (zR_eq f_d_4) w_5_3 (zI_eq f_x_6) c_7 (dk_neT jc_8 (k := 0) (b := 0) (by decide +kernel) (dk_dq rfl)) (dk_eqT jc_8 (k := 1) (by decide +kernel)) (zI_eq f_x_9)))⟩, trivial⟩ dX11_change_83
          · refine lv_tableIn (off := 41) (tgt := 84) hx hb dX11_change_43 (by rw [jc_8]; decide) (by rw [jc_8]; decide) (by rw [jc_8]; decide +kernel) (dk_dq rfl) ?_
            refine lv_aload_n hx hb dX11_change_84 rfl (lv_at hl 0 rfl) ?_
            refine dg_get (C := RX11) (T := TX11) (N := 13) hx hb hts (fun w h => bw_mem (wU_X11 w h)) hown K hP sX_0 rfl 10 (dk_dq rfl) (hts _ (bw_mem wB_837)) (fun _ h9 => h9) (v := .ref (o + 221)) (show S_5.1 0 10 = .ref (o + 221) from dg_I.rel (d := 221) I_5 sX_0 (by decide +kernel)) dX11_change_85 ?_
            obtain ⟨x_10, f_x_10, b_x_10⟩ := dg_I.int (i := 221) (k := 8) (lo := (-2147483648)) (hi := 2147483647) I_5 sX_221 (by decide +kernel)
            refine dg_get (C := RX1) (T := TX1) (N := 9) hx hb hts (fun w h => bw_mem (wU_X1 w h)) hown K hP sX_221 rfl 8 (dk_dq rfl) (hts _ (bw_mem wB_1004)) (fun _ h9 => h9) (v := .int x_10) f_x_10 dX11_change_88 ?_
            refine W.widen (k := 0) (n := 0) (Nat.le_of_ble_eq_true rfl) (Nat.le_of_ble_eq_true rfl) ?_
            exact dg_iret hx hb hr hlocks rfl hP hS ⟨I_5, M_5, w_5_0, w_5_1, (Z4X.keep Z4 m_5 w_5_2 (dk_dq rfl) (dk_dq rfl)), (Z6X.keep Z6 m_5 w_5_2), w_5_2, ⟨congrArg Prod.fst (Eq.symm (F_d_change_p3 w_2_1 c_3 (zR_eq f_d_4) w_5_3 (zI_eq f_x_6) c_7 (dk_neT jc_8 (k := 0) (b := 0) (by decide +kernel) (dk_dq rfl)) (dk_neT jc_8 (k := 1) (b := 1) (by decide +kernel) (dk_dq rfl)) (dk_eqT jc_8 (k := 2) (by decide +kernel)) (zI_eq f_x_10))), congrArg Prod.snd (Eq.symm (F_d_change_p3 w_2_1 c_3 (zR_eq f_d_4) w_5_3 (zI_eq f_x_6) c_7 (dk_neT jc_8 (k := 0) (b := 0) (by decide +kernel) (dk_dq rfl)) (dk_neT jc_8 (k := 1) (b := 1) (by decide +kernel) (dk_dq rfl)) (dk_eqT jc_8 (k := 2) (by decide +kernel)) (zI_eq f_x_10)))⟩, trivial⟩ dX11_change_91
      · have jc_7 := dk_eqc (k := (-1)) (by decide +kernel) c_7
        refine lv_iconst (v := (-1)) hx hb dX11_change_40 (by decide +kernel) ?_
        refine W.widen (k := 0) (n := 0) (Nat.le_of_ble_eq_true rfl) (Nat.le_of_ble_eq_true rfl) ?_
        exact dg_iret hx hb hr hlocks rfl hP hS ⟨I_5, M_5, w_5_0, w_5_1, (Z4X.keep Z4 m_5 w_5_2 (dk_dq rfl) (dk_dq rfl)), (Z6X.keep Z6 m_5 w_5_2), w_5_2, ⟨congrArg Prod.fst (Eq.symm (F_d_change_p4 w_2_1 c_3 (zR_eq f_d_4) w_5_3 (zI_eq f_x_6) c_7)), congrArg Prod.snd (Eq.symm (F_d_change_p4 w_2_1 c_3 (zR_eq f_d_4) w_5_3 (zI_eq f_x_6) c_7))⟩, trivial⟩ dX11_change_41
  · have jc_3 := dk_eqc (k := 0) (by decide +kernel) c_3
    refine lv_iconst (v := (-1)) hx hb dX11_change_11 (by decide +kernel) ?_
    refine W.widen (k := 0) (n := 0) (Nat.le_of_ble_eq_true rfl) (Nat.le_of_ble_eq_true rfl) ?_
    exact dg_iret hx hb hr hlocks rfl hP hS ⟨I, M_0, Z2, Z3, Z4, Z6, dg_FG.rf, ⟨congrArg Prod.fst (Eq.symm (F_d_change_p5 w_2_1 c_3)), congrArg Prod.snd (Eq.symm (F_d_change_p5 w_2_1 c_3))⟩, trivial⟩ dX11_change_12
noncomputable def F_d_sale_J3 (x_171 : Int32) (x_191 : Int32) : (Int32 × Int32) ⊕ (Int32) := let x_196 : Int32 := x_171 + 1; (Sum.inl (x_196, x_191))
noncomputable def F_d_sale_B2 (o : Nat) (S : dg_S) (a1 : Int32) : (Int32 × Int32) → (Int32 × Int32) ⊕ (Int32) := fun w9 => match w9 with | (x_171, x_172) => let d_174 : Nat := zR o S 0 6; let x_175 : Int32 := zI S d_174 11; let x_176 : Int32 := (1 : Int32) <<< (x_175 &&& 31); (if x_176 ≤ x_171 then (Sum.inr ((if a1 = (0 : Int32) then x_172 else let x_181 : Int32 := F_d_paidFor o S x_172; x_181))) else let x_185 : Int32 := F_d_canAllBeSold o S x_171; (if x_185 = (0 : Int32) then (F_d_sale_J3 x_171 x_172) else let x_201 : Int32 := F_d_isBetterSale o S x_171 x_172; (if x_201 = (0 : Int32) then (F_d_sale_J3 x_171 x_172) else (F_d_sale_J3 x_171 x_171))))
noncomputable def F_d_sale_J1 (o : Nat) (S : dg_S) (a1 : Int32) : Int32 := (lp (F_d_sale_B2 o S a1) (0 : Int32) ((2147483648 - ((1 : Int32)).toInt).toNat + 1) ((1 : Int32), (0 : Int32)))
noncomputable def F_d_sale (o : Nat) (S : dg_S) (a1 : Int32) : Int32 := (if a1 = (0 : Int32) then (F_d_sale_J1 o S a1) else (if a1 = (1 : Int32) then (F_d_sale_J1 o S a1) else (-1 : Int32)))
theorem F_d_sale_p0 {o : Nat} {S : dg_S} {a1 : Int32} {x_171 : Int32} {x_172 : Int32} {x_181 : Int32} {d_174 : Nat} {x_175 : Int32} {x_176 : Int32} (h0 : d_174 = zR o S 0 6) (h1 : x_175 = zI S d_174 11) (h2 : x_176 = (1 : Int32) <<< (x_175 &&& 31)) (h3 : x_176 ≤ x_171) (h5 : ¬ (a1 = (0 : Int32))) (h6 : x_181 = F_d_paidFor o S x_172) : (F_d_sale_B2 o S a1) (x_171, x_172) = Sum.inr (x_181) := by
  replace h0 := Eq.symm h0
  subst h0
  replace h1 := Eq.symm h1
  subst h1
  replace h2 := Eq.symm h2
  subst h2
  replace h6 := Eq.symm h6
  subst h6
  exact (Eq.trans (if_pos h3) (congrArg Sum.inr (Eq.trans (if_neg h5) rfl)))
theorem F_d_sale_p1 {o : Nat} {S : dg_S} {a1 : Int32} {x_171 : Int32} {x_172 : Int32} {d_174 : Nat} {x_175 : Int32} {x_176 : Int32} (h0 : d_174 = zR o S 0 6) (h1 : x_175 = zI S d_174 11) (h2 : x_176 = (1 : Int32) <<< (x_175 &&& 31)) (h3 : x_176 ≤ x_171) (h5 : a1 = (0 : Int32)) : (F_d_sale_B2 o S a1) (x_171, x_172) = Sum.inr (x_172) := by
  replace h0 := Eq.symm h0
  subst h0
  replace h1 := Eq.symm h1
  subst h1
  replace h2 := Eq.symm h2
  subst h2
  exact (Eq.trans (if_pos h3) (congrArg Sum.inr (Eq.trans (if_pos h5) rfl)))
theorem F_d_sale_p2 {x_171 : Int32} {x_191 : Int32} {x_196 : Int32} (h0 : x_196 = x_171 + 1) : F_d_sale_J3 x_171 x_191 = Sum.inl (x_196, x_191) := by
  replace h0 := Eq.symm h0
  subst h0
  exact rfl
theorem F_d_sale_p3 {o : Nat} {S : dg_S} {a1 : Int32} {x_171 : Int32} {x_172 : Int32} {d_174 : Nat} {x_175 : Int32} {x_176 : Int32} {x_185 : Int32} (h0 : d_174 = zR o S 0 6) (h1 : x_175 = zI S d_174 11) (h2 : x_176 = (1 : Int32) <<< (x_175 &&& 31)) (h3 : ¬ (x_176 ≤ x_171)) (h4 : x_185 = F_d_canAllBeSold o S x_171) (h5 : x_185 = (0 : Int32)) : (F_d_sale_B2 o S a1) (x_171, x_172) = F_d_sale_J3 x_171 x_172 := by
  replace h0 := Eq.symm h0
  subst h0
  replace h1 := Eq.symm h1
  subst h1
  replace h2 := Eq.symm h2
  subst h2
  replace h4 := Eq.symm h4
  subst h4
  exact (Eq.trans (if_neg h3) (Eq.trans (if_pos h5) rfl))
theorem F_d_sale_p4 {o : Nat} {S : dg_S} {a1 : Int32} {x_171 : Int32} {x_172 : Int32} {d_174 : Nat} {x_175 : Int32} {x_176 : Int32} {x_185 : Int32} {x_201 : Int32} (h0 : d_174 = zR o S 0 6) (h1 : x_175 = zI S d_174 11) (h2 : x_176 = (1 : Int32) <<< (x_175 &&& 31)) (h3 : ¬ (x_176 ≤ x_171)) (h4 : x_185 = F_d_canAllBeSold o S x_171) (h5 : ¬ (x_185 = (0 : Int32))) (h6 : x_201 = F_d_isBetterSale o S x_171 x_172) (h7 : x_201 = (0 : Int32)) : (F_d_sale_B2 o S a1) (x_171, x_172) = F_d_sale_J3 x_171 x_172 := by
  replace h0 := Eq.symm h0
  subst h0
  replace h1 := Eq.symm h1
  subst h1
  replace h2 := Eq.symm h2
  subst h2
  replace h4 := Eq.symm h4
  subst h4
  replace h6 := Eq.symm h6
  subst h6
  exact (Eq.trans (if_neg h3) (Eq.trans (if_neg h5) (Eq.trans (if_pos h7) rfl)))
theorem F_d_sale_p5 {o : Nat} {S : dg_S} {a1 : Int32} {x_171 : Int32} {x_172 : Int32} {d_174 : Nat} {x_175 : Int32} {x_176 : Int32} {x_185 : Int32} {x_201 : Int32} (h0 : d_174 = zR o S 0 6) (h1 : x_175 = zI S d_174 11) (h2 : x_176 = (1 : Int32) <<< (x_175 &&& 31)) (h3 : ¬ (x_176 ≤ x_171)) (h4 : x_185 = F_d_canAllBeSold o S x_171) (h5 : ¬ (x_185 = (0 : Int32))) (h6 : x_201 = F_d_isBetterSale o S x_171 x_172) (h7 : ¬ (x_201 = (0 : Int32))) : (F_d_sale_B2 o S a1) (x_171, x_172) = F_d_sale_J3 x_171 x_171 := by
  replace h0 := Eq.symm h0
  subst h0
  replace h1 := Eq.symm h1
  subst h1
  replace h2 := Eq.symm h2
  subst h2
  replace h4 := Eq.symm h4
  subst h4
  replace h6 := Eq.symm h6
  subst h6
  exact (Eq.trans (if_neg h3) (Eq.trans (if_neg h5) (Eq.trans (if_neg h7) rfl)))
theorem F_d_sale_p6 {o : Nat} {S : dg_S} {a1 : Int32}  : F_d_sale_J1 o S a1 = lp (F_d_sale_B2 o S a1) (0 : Int32) ((2147483648 - ((1 : Int32)).toInt).toNat + 1) ((1 : Int32), (0 : Int32)) := rfl
theorem F_d_sale_p7 {o : Nat} {S : dg_S} {a1 : Int32} (h0 : a1 = (0 : Int32)) : F_d_sale o S a1 = F_d_sale_J1 o S a1 := (Eq.trans (if_pos h0) rfl)
theorem F_d_sale_p8 {o : Nat} {S : dg_S} {a1 : Int32} (h0 : ¬ (a1 = (0 : Int32))) (h1 : a1 = (1 : Int32)) : F_d_sale o S a1 = F_d_sale_J1 o S a1 := (Eq.trans (if_neg h0) (Eq.trans (if_pos h1) rfl))
theorem F_d_sale_p9 {o : Nat} {S : dg_S} {a1 : Int32} (h0 : ¬ (a1 = (0 : Int32))) (h1 : ¬ (a1 = (1 : Int32))) : F_d_sale o S a1 = (-1 : Int32) := (Eq.trans (if_neg h0) (Eq.trans (if_neg h1) rfl))
set_option maxHeartbeats 8000000 in
set_option maxRecDepth 100000 in
theorem c_d_sale (l : Launch) (g : Nat → ClassId) (D : va_G) (o : Nat) (S : dg_S) (a1 : Int32) (Z1 : Z1X S) (Z2 : Z2X S) (Z3 : Z3X o S) (Z4 : Z4X S) (Z6 : Z6X S) (I : CX o S) (sz : Nat) : Met l yX11_sale (bw yX11_sale cX11_sale 4 (some .int)) ({ frames := 3, cells := 0, slots := 0, locals := 79 } : Room) (dk_Pc g D (dg_w g shX o rfX S) sz [.ref (o + 0), .int a1]) (va_Qi (fun (r : Int32) S' => S' = S ∧ (r = F_d_sale o S a1) ∧ True) (dg_B g D shX o rfX) (dg_A o shX.length sz)) 0 0 (dg_A o shX.length sz) := by
  refine dg_met (cc := cX11_sale) (maxL := 4) (ret := (some .int)) (dk_dq rfl) rfl (Nat.le_of_ble_eq_true rfl) ?_
  intro p e s m args below meth c A hAe harg hx hb hr hml hts hown hlocks hin hP K hS hA1 hA ST hsz ls hl
  rw [← hAe]
  have F : CallFix p m c cX11_sale 4 s args (bw yX11_sale cX11_sale 4 (some .int)) RX11 := ⟨hx, hb, hml, hown, hts⟩
  have hl : lv_has ls 4 [(0, .ref (o + 0)), (1, .int a1)] := hl
  have M_0 : dg_sm shX [] [] S S := dg_sm.rf
  refine lv_iload_n hx hb dX11_sale_0 rfl (lv_at hl 1 rfl) ?_
  have J_97 : (F_d_sale o S a1 = F_d_sale_J1 o S a1) → ∀ (H : Heap) (locs : List Loc), va_P D vwCl (dg_w g shX o rfX S) H → va_S A s.heap H locs → ∀ ls : Array Slot, lv_has ls 4 [(0, .ref (o + 0)), (1, .int a1)] → W p l e ({ frames := 3, cells := 0, slots := 0, locals := 79 } : Room) s m args below meth c H locs 0 0 (MQ below (va_Qi (fun (r : Int32) S' => S' = S ∧ (r = F_d_sale o S a1) ∧ True) (dg_B g D shX o rfX) A) args s 0 0 A) (F0 m 11 ls []) := by
    as_aux_lemma =>
      intro hF_1 H locs hP hS ls hl
      refine lv_iconst (v := 0) hx hb dX11_sale_11 (by decide +kernel) ?_
      refine lv_istore_n (lv' := [(2, .int 0), (0, .ref (o + 0)), (1, .int a1)]) hx hb dX11_sale_12 rfl hl (dk_dq rfl) rfl (fun ls hl => ?_)
      refine lv_iconst (v := 1) hx hb dX11_sale_13 (by decide +kernel) ?_
      refine lv_istore_n (lv' := [(3, .int 1), (2, .int 0), (0, .ref (o + 0)), (1, .int a1)]) hx hb dX11_sale_14 rfl hl (dk_dq rfl) rfl (fun ls hl => ?_)
      have L_173 : ∀ (n : Nat) (x_171 : Int32) (x_172 : Int32), (1 ≤ (x_171).toInt ∧ (x_171).toInt ≤ 2147483647) → (0 ≤ (x_172).toInt ∧ (x_172).toInt ≤ 2147483647) → ((2147483648 - (x_171).toInt).toNat < n) → (F_d_sale o S a1 = lp (F_d_sale_B2 o S a1) (0 : Int32) n (x_171, x_172)) → ∀ (H : Heap) (locs : List Loc), va_P D vwCl (dg_w g shX o rfX S) H → va_S A s.heap H locs → ∀ ls : Array Slot, lv_has ls 4 [(3, .int x_171), (2, .int x_172), (0, .ref (o + 0)), (1, .int a1)] → W p l e ({ frames := 3, cells := 0, slots := 0, locals := 79 } : Room) s m args below meth c H locs 0 0 (MQ below (va_Qi (fun (r : Int32) S' => S' = S ∧ (r = F_d_sale o S a1) ∧ True) (dg_B g D shX o rfX) A) args s 0 0 A) (F0 m 15 ls []) := by
        as_aux_lemma =>
          intro n
          induction n with
          | zero =>
            intro x_171 x_172 b_x_171 b_x_172 hmu hF_2 H locs hP hS ls hl
            omega
          | succ n ih =>
            as_aux_lemma =>
              intro x_171 x_172 b_x_171 b_x_172 hmu hF_2 H locs hP hS ls hl
              refine lv_iload_n hx hb dX11_sale_15 rfl (lv_at hl 0 rfl) ?_
              refine lv_iconst (v := 1) hx hb dX11_sale_16 (by decide +kernel) ?_
              refine lv_aload_n hx hb dX11_sale_17 rfl (lv_at hl 2 rfl) ?_
              obtain ⟨d_174, hk_d_174, f_d_174⟩ := dg_I.one (i := 0) (k := 6) (d := 0) I sX_0 (by decide +kernel)
              have hk_d_174 : rX d_174 := hk_d_174
              refine dg_get (C := RX11) (T := TX11) (N := 13) hx hb hts (fun w h => bw_mem (wU_X11 w h)) hown K hP sX_0 rfl 6 (dk_dq rfl) (hts _ (bw_mem wB_286)) (fun _ h9 => h9) (v := .ref (o + d_174)) f_d_174 dX11_sale_18 ?_
              obtain ⟨x_175, f_x_175, b_x_175⟩ := dg_I.int (i := d_174) (k := 11) (lo := 0) (hi := 5) I (rX_0 d_174 hk_d_174) (by decide +kernel)
              refine dg_get (C := RX2) (T := TX2) (N := 19) hx hb hts (fun w h => bw_mem (wU_X2 w h)) hown K hP (rX_0 d_174 hk_d_174) rfl 11 (dk_dq rfl) (hts _ (bw_mem wB_900)) (fun _ h9 => h9) (v := .int x_175) f_x_175 dX11_sale_21 ?_
              refine lv_ishl hx hb dX11_sale_24 ?_
              refine lv_topi (fun x_176 ex_176 => ?_)
              refine lv_icmp_ge (tgt := 53) hx hb dX11_sale_25 (dk_dq rfl) (fun c_177 => ?_) (fun c_177 => ?_)
              · as_aux_lemma =>
                  have hf_177 := dk_full x_171
                  have hf_178 := dk_full x_176
                  have jc_177 := dk_gec (k := (x_176).toInt) rfl c_177
                  refine lv_iload_n hx hb dX11_sale_53 rfl (lv_at hl 3 rfl) ?_
                  refine lv_if_ne (tgt := 61) hx hb dX11_sale_54 (dk_dq rfl) (fun c_180 => ?_) (fun c_180 => ?_)
                  · have jc_180 := dk_neqc (k := 0) (by decide +kernel) c_180
                    refine lv_aload_n hx hb dX11_sale_61 rfl (lv_at hl 2 rfl) ?_
                    refine lv_iload_n hx hb dX11_sale_62 rfl (lv_at hl 1 rfl) ?_
                    refine dg_calli hS hA1 hA (va_runV (As := [.int x_172]) (rest := []) F (c_d_paidFor l g D o S x_172 Z1 Z2 Z3 Z4 Z6 I H.size) (cwV 1 hts (bw_V wB_907 wB_908 wB_909 wB_610 wB_906) rfl rfl rfl (by decide +kernel) ⟨Nat.le_of_ble_eq_true rfl, Nat.le_of_ble_eq_true rfl⟩) (dg_preV sX_0 rfl K ST hP hS hA1 hA) rfl rfl hl.1 rfl (lv_room (Nat.le_of_ble_eq_true rfl)) dX11_sale_63 ⟨Nat.le_of_ble_eq_true rfl, Nat.le_of_ble_eq_true rfl⟩) (fun x_181 S_182 hw_182 H locs hP hS => ?_)
                    rw [hw_182.1] at hP
                    obtain ⟨hq_182, w_182_0, -⟩ := hw_182
                    refine W.widen (k := 0) (n := 0) (Nat.le_of_ble_eq_true rfl) (Nat.le_of_ble_eq_true rfl) ?_
                    exact dg_iret hx hb hr hlocks rfl hP hS ⟨rfl, (Eq.symm (lp_r hF_2 (F_d_sale_p0 (zR_eq f_d_174) (zI_eq f_x_175) ex_176 c_177 c_180 w_182_0))), trivial⟩ dX11_sale_66
                  · have jc_180 := dk_eqc (k := 0) (by decide +kernel) c_180
                    refine lv_iload_n hx hb dX11_sale_57 rfl (lv_at hl 1 rfl) ?_
                    refine lv_goto (tgt := 66) hx hb dX11_sale_58 (dk_dq rfl) ?_
                    refine W.widen (k := 0) (n := 0) (Nat.le_of_ble_eq_true rfl) (Nat.le_of_ble_eq_true rfl) ?_
                    exact dg_iret hx hb hr hlocks rfl hP hS ⟨rfl, (Eq.symm (lp_r hF_2 (F_d_sale_p1 (zR_eq f_d_174) (zI_eq f_x_175) ex_176 c_177 c_180))), trivial⟩ dX11_sale_66
              · as_aux_lemma =>
                  have hf_182 := dk_full x_171
                  have hf_183 := dk_full x_176
                  have jc_177 := dk_ngec (k := (x_176).toInt) rfl c_177
                  refine lv_aload_n hx hb dX11_sale_28 rfl (lv_at hl 2 rfl) ?_
                  refine lv_iload_n hx hb dX11_sale_29 rfl (lv_at hl 0 rfl) ?_
                  refine dg_calli hS hA1 hA (va_runV (As := [.int x_171]) (rest := []) F (c_d_canAllBeSold l g D o S x_171 Z1 Z2 Z3 Z4 Z6 I H.size) (cwV 1 hts (bw_V wB_1006 wB_1007 wB_1008 wB_610 wB_1005) rfl rfl rfl (by decide +kernel) ⟨Nat.le_of_ble_eq_true rfl, Nat.le_of_ble_eq_true rfl⟩) (dg_preV sX_0 rfl K ST hP hS hA1 hA) rfl rfl hl.1 rfl (lv_room (Nat.le_of_ble_eq_true rfl)) dX11_sale_30 ⟨Nat.le_of_ble_eq_true rfl, Nat.le_of_ble_eq_true rfl⟩) (fun x_185 S_186 hw_186 H locs hP hS => ?_)
                  rw [hw_186.1] at hP
                  obtain ⟨hq_186, w_186_0, w_186_1, -⟩ := hw_186
                  have w_186_0 : 0 ≤ (x_185).toInt ∧ (x_185).toInt ≤ 1 := w_186_0
                  have J_195 : ∀ (x_191 : Int32), (0 ≤ (x_191).toInt ∧ (x_191).toInt ≤ 2147483647) → ((F_d_sale_B2 o S a1) (x_171, x_172) = F_d_sale_J3 x_171 x_191) → ∀ (H : Heap) (locs : List Loc), va_P D vwCl (dg_w g shX o rfX S) H → va_S A s.heap H locs → ∀ ls : Array Slot, lv_has ls 4 [(3, .int x_171), (2, .int x_191), (0, .ref (o + 0)), (1, .int a1)] → W p l e ({ frames := 3, cells := 0, slots := 0, locals := 79 } : Room) s m args below meth c H locs 0 0 (MQ below (va_Qi (fun (r : Int32) S' => S' = S ∧ (r = F_d_sale o S a1) ∧ True) (dg_B g D shX o rfX) A) args s 0 0 A) (F0 m 47 ls []) := by
                    intro x_191 b_x_191 hF_3 H locs hP hS ls hl
                    obtain ⟨x_196, ex_196⟩ : ∃ z, z = x_171 + 1 := ⟨_, rfl⟩
                    have jx_196 : (x_196).toInt = (x_171).toInt + 1 := by rw [ex_196]; exact dk_addT2 rfl (by decide +kernel) (by omega)
                    refine lv_iinc (v := x_196) (lv' := [(3, .int x_196), (2, .int x_191), (0, .ref (o + 0)), (1, .int a1)]) hx hb dX11_sale_47 hl (k := 0) rfl (by rw [ex_196]; rfl) (dk_dq rfl) rfl (fun ls hl => ?_)
                    refine lv_goto (tgt := 15) hx hb dX11_sale_50 (dk_dq rfl) ?_
                    have hf_196 := dk_full x_196
                    have hf_197 := dk_full x_191
                    exact ih x_196 x_191 (by omega) (by omega) (by first | exact mu_lt hmu (by omega) (by omega) | omega) (lp_l hF_2 (Eq.trans hF_3 (F_d_sale_p2 ex_196))) _ _ hP hS _ (lv_sub hl [0, 1, 2, 3] rfl)
                  refine lv_if_eq (tgt := 47) hx hb dX11_sale_33 (dk_dq rfl) (fun c_199 => ?_) (fun c_199 => ?_)
                  · have jc_199 := dk_eqc (k := 0) (by decide +kernel) c_199
                    have hf_199 := dk_full x_172
                    exact J_195 x_172 (by omega) (F_d_sale_p3 (zR_eq f_d_174) (zI_eq f_x_175) ex_176 c_177 w_186_1 c_199) _ _ hP hS _ (lv_sub hl [0, 1, 2, 3] rfl)
                  · as_aux_lemma =>
                      have jc_199 := dk_neqc (k := 0) (by decide +kernel) c_199
                      refine lv_aload_n hx hb dX11_sale_36 rfl (lv_at hl 2 rfl) ?_
                      refine lv_iload_n hx hb dX11_sale_37 rfl (lv_at hl 0 rfl) ?_
                      refine lv_iload_n hx hb dX11_sale_38 rfl (lv_at hl 1 rfl) ?_
                      refine dg_calli hS hA1 hA (va_runV (As := [.int x_171, .int x_172]) (rest := []) F (c_d_isBetterSale l g D o S x_171 x_172 Z1 Z2 Z3 Z4 Z6 I H.size) (cwV 2 hts (bw_V wB_1010 wB_1011 wB_1012 wB_610 wB_1009) rfl rfl rfl (by decide +kernel) ⟨Nat.le_of_ble_eq_true rfl, Nat.le_of_ble_eq_true rfl⟩) (dg_preV sX_0 rfl K ST hP hS hA1 hA) rfl rfl hl.1 rfl (lv_room (Nat.le_of_ble_eq_true rfl)) dX11_sale_39 ⟨Nat.le_of_ble_eq_true rfl, Nat.le_of_ble_eq_true rfl⟩) (fun x_201 S_202 hw_202 H locs hP hS => ?_)
                      rw [hw_202.1] at hP
                      obtain ⟨hq_202, w_202_0, w_202_1, -⟩ := hw_202
                      have w_202_0 : 0 ≤ (x_201).toInt ∧ (x_201).toInt ≤ 1 := w_202_0
                      refine lv_if_eq (tgt := 47) hx hb dX11_sale_42 (dk_dq rfl) (fun c_203 => ?_) (fun c_203 => ?_)
                      · have jc_203 := dk_eqc (k := 0) (by decide +kernel) c_203
                        have hf_203 := dk_full x_172
                        exact J_195 x_172 (by omega) (F_d_sale_p4 (zR_eq f_d_174) (zI_eq f_x_175) ex_176 c_177 w_186_1 c_199 w_202_1 c_203) _ _ hP hS _ (lv_sub hl [0, 1, 2, 3] rfl)
                      · have jc_203 := dk_neqc (k := 0) (by decide +kernel) c_203
                        refine lv_iload_n hx hb dX11_sale_45 rfl (lv_at hl 0 rfl) ?_
                        refine lv_istore_n (lv' := [(2, .int x_171), (3, .int x_171), (0, .ref (o + 0)), (1, .int a1)]) hx hb dX11_sale_46 rfl hl (dk_dq rfl) rfl (fun ls hl => ?_)
                        have hf_204 := dk_full x_171
                        exact J_195 x_171 (by omega) (F_d_sale_p5 (zR_eq f_d_174) (zI_eq f_x_175) ex_176 c_177 w_186_1 c_199 w_202_1 c_203) _ _ hP hS _ (lv_sub hl [1, 0, 2, 3] rfl)
      have hz_206 : (1 : Int32).toInt = 1 := by decide +kernel
      have hz_207 : (0 : Int32).toInt = 0 := by decide +kernel
      have hz_208 : (1 : Int32).toInt = 1 := by decide +kernel
      have hz_209 : (0 : Int32).toInt = 0 := by decide +kernel
      exact L_173 ((2147483648 - ((1 : Int32)).toInt).toNat + 1) 1 0 (by decide +kernel) (by decide +kernel) (by first | exact mu_lt hmu (by omega) (by omega) | omega) (Eq.trans hF_1 (F_d_sale_p6)) _ _ hP hS _ (lv_sub hl [0, 1, 2, 3] rfl)
  refine lv_if_eq (tgt := 11) hx hb dX11_sale_1 (dk_dq rfl) (fun c_210 => ?_) (fun c_210 => ?_)
  · have jc_210 := dk_eqc (k := 0) (by decide +kernel) c_210
    exact J_97   (F_d_sale_p7 c_210) _ _ hP hS _ (lv_sub hl [0, 1] rfl)
  · have jc_210 := dk_neqc (k := 0) (by decide +kernel) c_210
    refine lv_iload_n hx hb dX11_sale_4 rfl (lv_at hl 1 rfl) ?_
    refine lv_iconst (v := 1) hx hb dX11_sale_5 (by decide +kernel) ?_
    refine lv_icmp_eq (tgt := 11) hx hb dX11_sale_6 (dk_dq rfl) (fun c_211 => ?_) (fun c_211 => ?_)
    · have jc_211 := dk_eqc (k := 1) (by decide +kernel) c_211
      exact J_97   (F_d_sale_p8 c_210 c_211) _ _ hP hS _ (lv_sub hl [0, 1] rfl)
    · have jc_211 := dk_neqc (k := 1) (by decide +kernel) c_211
      refine lv_iconst (v := (-1)) hx hb dX11_sale_9 (by decide +kernel) ?_
      refine W.widen (k := 0) (n := 0) (Nat.le_of_ble_eq_true rfl) (Nat.le_of_ble_eq_true rfl) ?_
      exact dg_iret hx hb hr hlocks rfl hP hS ⟨rfl, (Eq.symm (F_d_sale_p9 c_210 c_211)), trivial⟩ dX11_sale_10
noncomputable def F_d_odds (o : Nat) (S : dg_S) (a1 : Int32) (a2 : Int32) : dg_S × Int32 := let x_1 : Int32 := F_d_shiftsCome o S (1 : Int32) (1 : Int32) (1 : Int32); (if x_1 = (0 : Int32) then (S, (-1 : Int32)) else (if a1 = (-1 : Int32) then let d_13 : Nat := zR o S 0 6; let x_14 : Int32 := zI S d_13 0; let x_15 : Int32 := (100 : Int32) * x_14; let x_16 : Int32 := zI S d_13 1; let x_17 : Int32 := x_15 * x_16; (S, x_17) else let d_5 : Nat := zR o S 0 6; let x_6 : Int32 := zI S d_5 0; let x_7 : Int32 := zI S d_5 1; let x_8 : Int32 := F_g_placeOf o S d_5 a1 a2; (if x_8 = (-1 : Int32) then (S, (-1 : Int32)) else let S_12 : dg_S := (F_f_oddsOf o S d_5 3 x_8).1; let x_11 : Int32 := (F_f_oddsOf o S d_5 3 x_8).2; (S_12, x_11))))
theorem F_d_odds_p0 {o : Nat} {S : dg_S} {a1 : Int32} {a2 : Int32} {S_12 : dg_S} {x_11 : Int32} {x_1 : Int32} {d_5 : Nat} {x_8 : Int32} (h0 : x_1 = F_d_shiftsCome o S (1 : Int32) (1 : Int32) (1 : Int32)) (h1 : ¬ (x_1 = (0 : Int32))) (h2 : ¬ (a1 = (-1 : Int32))) (h3 : d_5 = zR o S 0 6) (h4 : x_8 = F_g_placeOf o S d_5 a1 a2) (h5 : ¬ (x_8 = (-1 : Int32))) (h6 : S_12 = (F_f_oddsOf o S d_5 3 x_8).1) (h7 : x_11 = (F_f_oddsOf o S d_5 3 x_8).2) : F_d_odds o S a1 a2 = (S_12, x_11) := by
  replace h0 := Eq.symm h0
  subst h0
  replace h3 := Eq.symm h3
  subst h3
  replace h4 := Eq.symm h4
  subst h4
  replace h6 := Eq.symm h6
  subst h6
  replace h7 := Eq.symm h7
  subst h7
  exact (Eq.trans (if_neg h1) (Eq.trans (if_neg h2) (Eq.trans (if_neg h5) rfl)))
theorem F_d_odds_p1 {o : Nat} {S : dg_S} {a1 : Int32} {a2 : Int32} {x_1 : Int32} {d_5 : Nat} {x_8 : Int32} (h0 : x_1 = F_d_shiftsCome o S (1 : Int32) (1 : Int32) (1 : Int32)) (h1 : ¬ (x_1 = (0 : Int32))) (h2 : ¬ (a1 = (-1 : Int32))) (h3 : d_5 = zR o S 0 6) (h4 : x_8 = F_g_placeOf o S d_5 a1 a2) (h5 : x_8 = (-1 : Int32)) : F_d_odds o S a1 a2 = (S, (-1 : Int32)) := by
  replace h0 := Eq.symm h0
  subst h0
  replace h3 := Eq.symm h3
  subst h3
  replace h4 := Eq.symm h4
  subst h4
  exact (Eq.trans (if_neg h1) (Eq.trans (if_neg h2) (Eq.trans (if_pos h5) rfl)))
theorem F_d_odds_p2 {o : Nat} {S : dg_S} {a1 : Int32} {a2 : Int32} {x_17 : Int32} {x_1 : Int32} {d_13 : Nat} {x_14 : Int32} {x_15 : Int32} {x_16 : Int32} (h0 : x_1 = F_d_shiftsCome o S (1 : Int32) (1 : Int32) (1 : Int32)) (h1 : ¬ (x_1 = (0 : Int32))) (h2 : a1 = (-1 : Int32)) (h3 : d_13 = zR o S 0 6) (h4 : x_14 = zI S d_13 0) (h5 : x_15 = (100 : Int32) * x_14) (h6 : x_16 = zI S d_13 1) (h7 : x_17 = x_15 * x_16) : F_d_odds o S a1 a2 = (S, x_17) := by
  replace h0 := Eq.symm h0
  subst h0
  replace h3 := Eq.symm h3
  subst h3
  replace h4 := Eq.symm h4
  subst h4
  replace h5 := Eq.symm h5
  subst h5
  replace h6 := Eq.symm h6
  subst h6
  replace h7 := Eq.symm h7
  subst h7
  exact (Eq.trans (if_neg h1) (Eq.trans (if_pos h2) rfl))
theorem F_d_odds_p3 {o : Nat} {S : dg_S} {a1 : Int32} {a2 : Int32} {x_1 : Int32} (h0 : x_1 = F_d_shiftsCome o S (1 : Int32) (1 : Int32) (1 : Int32)) (h1 : x_1 = (0 : Int32)) : F_d_odds o S a1 a2 = (S, (-1 : Int32)) := by
  replace h0 := Eq.symm h0
  subst h0
  exact (Eq.trans (if_pos h1) rfl)
set_option maxHeartbeats 8000000 in
set_option maxRecDepth 100000 in
theorem c_d_odds (l : Launch) (g : Nat → ClassId) (D : va_G) (o : Nat) (S : dg_S) (a1 : Int32) (a2 : Int32) (Z1 : Z1X S) (Z2 : Z2X S) (Z3 : Z3X o S) (Z4 : Z4X S) (Z6 : Z6X S) (I : CX o S) (sz : Nat) : Met l yX11_odds (bw yX11_odds cX11_odds 4 (some .int)) ({ frames := 8, cells := 0, slots := 0, locals := 201 } : Room) (dk_Pc g D (dg_w g shX o rfX S) sz [.ref (o + 0), .int a1, .int a2]) (va_Qi (fun (r : Int32) S' => CX o S' ∧ dg_sm shX [(3, 0), (3, 1), (36, 4), (36, 6), (36, 7), (36, 8), (36, 9), (36, 10), (36, 11), (36, 12), (37, 0), (37, 1), (37, 2), (37, 3), (37, 4), (37, 5), (37, 7)] [4, 5, 6, 7, 8, 9, 38, 39, 40, 41, 42] S S' ∧ Z2X S' ∧ Z3X o S' ∧ Z4X S' ∧ Z6X S' ∧ dg_FG S S' ∧ (S' = (F_d_odds o S a1 a2).1 ∧ r = (F_d_odds o S a1 a2).2) ∧ True) (dg_B g D shX o rfX) (dg_A o shX.length sz)) 0 0 (dg_A o shX.length sz) := by
  refine dg_met (cc := cX11_odds) (maxL := 4) (ret := (some .int)) (dk_dq rfl) rfl (Nat.le_of_ble_eq_true rfl) ?_
  intro p e s m args below meth c A hAe harg hx hb hr hml hts hown hlocks hin hP K hS hA1 hA ST hsz ls hl
  rw [← hAe]
  have F : CallFix p m c cX11_odds 4 s args (bw yX11_odds cX11_odds 4 (some .int)) RX11 := ⟨hx, hb, hml, hown, hts⟩
  have hl : lv_has ls 4 [(0, .ref (o + 0)), (1, .int a1), (2, .int a2)] := hl
  have M_0 : dg_sm shX [(3, 0), (3, 1), (36, 4), (36, 6), (36, 7), (36, 8), (36, 9), (36, 10), (36, 11), (36, 12), (37, 0), (37, 1), (37, 2), (37, 3), (37, 4), (37, 5), (37, 7)] [4, 5, 6, 7, 8, 9, 38, 39, 40, 41, 42] S S := dg_sm.rf
  refine lv_aload_n hx hb dX11_odds_0 rfl (lv_at hl 0 rfl) ?_
  refine lv_iconst (v := 1) hx hb dX11_odds_1 (by decide +kernel) ?_
  refine lv_iconst (v := 1) hx hb dX11_odds_2 (by decide +kernel) ?_
  refine lv_iconst (v := 1) hx hb dX11_odds_3 (by decide +kernel) ?_
  refine dg_calli hS hA1 hA (va_runV (As := [.int 1, .int 1, .int 1]) (rest := []) F (c_d_shiftsCome l g D o S 1 1 1 Z1 Z2 Z3 Z4 Z6 I s.heap.size) (cwV 3 hts (bw_V wB_984 wB_985 wB_986 wB_610 wB_983) rfl rfl rfl (by decide +kernel) ⟨Nat.le_of_ble_eq_true rfl, Nat.le_of_ble_eq_true rfl⟩) (dg_preV sX_0 rfl K ST hP hS hA1 hA) rfl rfl hl.1 rfl (lv_room (Nat.le_of_ble_eq_true rfl)) dX11_odds_4 ⟨Nat.le_of_ble_eq_true rfl, Nat.le_of_ble_eq_true rfl⟩) (fun x_1 S_2 hw_2 H locs hP hS => ?_)
  rw [hw_2.1] at hP
  obtain ⟨hq_2, w_2_0, w_2_1, -⟩ := hw_2
  have w_2_0 : 0 ≤ (x_1).toInt ∧ (x_1).toInt ≤ 1 := w_2_0
  refine lv_if_ne (tgt := 12) hx hb dX11_odds_7 (dk_dq rfl) (fun c_3 => ?_) (fun c_3 => ?_)
  · as_aux_lemma =>
      have jc_3 := dk_neqc (k := 0) (by decide +kernel) c_3
      refine lv_iload_n hx hb dX11_odds_12 rfl (lv_at hl 1 rfl) ?_
      refine lv_iconst (v := (-1)) hx hb dX11_odds_13 (by decide +kernel) ?_
      refine lv_icmp_ne (tgt := 36) hx hb dX11_odds_14 (dk_dq rfl) (fun c_4 => ?_) (fun c_4 => ?_)
      · as_aux_lemma =>
          have jc_4 := dk_neqc (k := (-1)) (by decide +kernel) c_4
          refine lv_aload_n hx hb dX11_odds_36 rfl (lv_at hl 0 rfl) ?_
          obtain ⟨d_5, hk_d_5, f_d_5⟩ := dg_I.one (i := 0) (k := 6) (d := 0) I sX_0 (by decide +kernel)
          have hk_d_5 : rX d_5 := hk_d_5
          refine dg_get (C := RX11) (T := TX11) (N := 13) hx hb hts (fun w h => bw_mem (wU_X11 w h)) hown K hP sX_0 rfl 6 (dk_dq rfl) (hts _ (bw_mem wB_286)) (fun _ h9 => h9) (v := .ref (o + d_5)) f_d_5 dX11_odds_37 ?_
          refine lv_iload_n hx hb dX11_odds_40 rfl (lv_at hl 1 rfl) ?_
          refine lv_iload_n hx hb dX11_odds_41 rfl (lv_at hl 2 rfl) ?_
          obtain ⟨x_6, f_x_6, b_x_6⟩ := dg_I.int (i := d_5) (k := 0) (lo := 0) (hi := 7) I (rX_0 d_5 hk_d_5) (by decide +kernel)
          obtain ⟨x_7, f_x_7, b_x_7⟩ := dg_I.int (i := d_5) (k := 1) (lo := 0) (hi := 7) I (rX_0 d_5 hk_d_5) (by decide +kernel)
          refine dg_calli hS hA1 hA (va_runV (As := [.int a1, .int a2]) (rest := []) F (c_g_placeOfR l g D o S d_5 hk_d_5 a1 a2 x_6 f_x_6 (by omega) x_7 f_x_7 (by omega) I H.size) (cwV 2 hts (bw_V wB_880 wB_55 wB_56 wB_9 wB_53) rfl rfl rfl (by decide +kernel) ⟨Nat.le_of_ble_eq_true rfl, Nat.le_of_ble_eq_true rfl⟩) (dg_preV (rX_0 d_5 hk_d_5) rfl K ST hP hS hA1 hA) rfl rfl hl.1 rfl (lv_room (Nat.le_of_ble_eq_true rfl)) dX11_odds_42 ⟨Nat.le_of_ble_eq_true rfl, Nat.le_of_ble_eq_true rfl⟩) (fun x_8 S_9 hw_9 H locs hP hS => ?_)
          rw [hw_9.1] at hP
          obtain ⟨hq_9, w_9_0, w_9_1, w_9_2, -⟩ := hw_9
          have w_9_0 : ((-1) ≤ (x_8).toInt ∧ (x_8).toInt ≤ 62) ∧ ((x_8).toInt ≤ (-1) ∨ 8 ≤ (x_8).toInt) := w_9_0
          have w_9_1 : (0 ≤ (a1).toInt ∧ (a1).toInt < (x_6).toInt ∧ 0 ≤ (a2).toInt ∧ (a2).toInt < (x_7).toInt) → 8 ≤ (x_8).toInt := w_9_1
          refine lv_istore_n (lv' := [(3, .int x_8), (0, .ref (o + 0)), (1, .int a1), (2, .int a2)]) hx hb dX11_odds_45 rfl hl (dk_dq rfl) rfl (fun ls hl => ?_)
          refine lv_iload_n hx hb dX11_odds_46 rfl (lv_at hl 0 rfl) ?_
          refine lv_iconst (v := (-1)) hx hb dX11_odds_47 (by decide +kernel) ?_
          refine lv_icmp_ne (tgt := 55) hx hb dX11_odds_48 (dk_dq rfl) (fun c_10 => ?_) (fun c_10 => ?_)
          · have jc_10 := dk_neqc (k := (-1)) (by decide +kernel) c_10
            refine lv_aload_n hx hb dX11_odds_55 rfl (lv_at hl 1 rfl) ?_
            refine dg_get (C := RX11) (T := TX11) (N := 13) hx hb hts (fun w h => bw_mem (wU_X11 w h)) hown K hP sX_0 rfl 10 (dk_dq rfl) (hts _ (bw_mem wB_837)) (fun _ h9 => h9) (v := .ref (o + 221)) (show S.1 0 10 = .ref (o + 221) from dg_I.rel (d := 221) I sX_0 (by decide +kernel)) dX11_odds_56 ?_
            refine lv_aload_n hx hb dX11_odds_59 rfl (lv_at hl 1 rfl) ?_
            refine dg_get (C := RX11) (T := TX11) (N := 13) hx hb hts (fun w h => bw_mem (wU_X11 w h)) hown K hP sX_0 rfl 6 (dk_dq rfl) (hts _ (bw_mem wB_286)) (fun _ h9 => h9) (v := .ref (o + d_5)) f_d_5 dX11_odds_60 ?_
            refine lv_aload_n hx hb dX11_odds_63 rfl (lv_at hl 1 rfl) ?_
            refine dg_get (C := RX11) (T := TX11) (N := 13) hx hb hts (fun w h => bw_mem (wU_X11 w h)) hown K hP sX_0 rfl 1 (dk_dq rfl) (hts _ (bw_mem wB_287)) (fun _ h9 => h9) (v := .ref (o + 3)) (show S.1 0 1 = .ref (o + 3) from dg_I.rel (d := 3) I sX_0 (by decide +kernel)) dX11_odds_64 ?_
            refine lv_iload_n hx hb dX11_odds_67 rfl (lv_at hl 0 rfl) ?_
            refine dg_calli hS hA1 hA (va_runV (As := [.ref (o + d_5), .ref (o + 3), .int x_8]) (rest := []) F (c_f_oddsOf l g D o S d_5 hk_d_5 3 (by unfold pX; decide : pX 3) x_8 (by omega) Z6 Z2 Z3 I H.size) (cwV 3 hts (bw_V wB_1014 wB_1015 wB_1016 wB_693 wB_1013) rfl rfl rfl (by decide +kernel) ⟨Nat.le_of_ble_eq_true rfl, Nat.le_of_ble_eq_true rfl⟩) (dg_preV sX_221 rfl K ST hP hS hA1 hA) rfl rfl hl.1 rfl (lv_room (Nat.le_of_ble_eq_true rfl)) dX11_odds_68 ⟨Nat.le_of_ble_eq_true rfl, Nat.le_of_ble_eq_true rfl⟩) (fun x_11 S_12 hw_12 H locs hP hS => ?_)
            obtain ⟨I_12, m_12, w_12_0, w_12_1, w_12_2, w_12_3, -⟩ := hw_12
            have M_12 := dg_sm.tr M_0 m_12 (dk_dq rfl) (dk_dq rfl)
            refine W.widen (k := 0) (n := 0) (Nat.le_of_ble_eq_true rfl) (Nat.le_of_ble_eq_true rfl) ?_
            exact dg_iret hx hb hr hlocks rfl hP hS ⟨I_12, M_12, w_12_0, w_12_1, (Z4X.keep Z4 m_12 w_12_2 (dk_dq rfl) (dk_dq rfl)), (Z6X.keep Z6 m_12 w_12_2), w_12_2, ⟨congrArg Prod.fst (Eq.symm (F_d_odds_p0 w_2_1 c_3 c_4 (zR_eq f_d_5) w_9_2 c_10 w_12_3.1 w_12_3.2)), congrArg Prod.snd (Eq.symm (F_d_odds_p0 w_2_1 c_3 c_4 (zR_eq f_d_5) w_9_2 c_10 w_12_3.1 w_12_3.2))⟩, trivial⟩ dX11_odds_71
          · have jc_10 := dk_eqc (k := (-1)) (by decide +kernel) c_10
            refine lv_iconst (v := (-1)) hx hb dX11_odds_51 (by decide +kernel) ?_
            refine lv_goto (tgt := 71) hx hb dX11_odds_52 (dk_dq rfl) ?_
            refine W.widen (k := 0) (n := 0) (Nat.le_of_ble_eq_true rfl) (Nat.le_of_ble_eq_true rfl) ?_
            exact dg_iret hx hb hr hlocks rfl hP hS ⟨I, M_0, Z2, Z3, Z4, Z6, dg_FG.rf, ⟨congrArg Prod.fst (Eq.symm (F_d_odds_p1 w_2_1 c_3 c_4 (zR_eq f_d_5) w_9_2 c_10)), congrArg Prod.snd (Eq.symm (F_d_odds_p1 w_2_1 c_3 c_4 (zR_eq f_d_5) w_9_2 c_10))⟩, trivial⟩ dX11_odds_71
      · as_aux_lemma =>
          have jc_4 := dk_eqc (k := (-1)) (by decide +kernel) c_4
          refine lv_bipush (v := 100) hx hb dX11_odds_17 (by decide +kernel) ?_
          refine lv_aload_n hx hb dX11_odds_19 rfl (lv_at hl 0 rfl) ?_
          obtain ⟨d_13, hk_d_13, f_d_13⟩ := dg_I.one (i := 0) (k := 6) (d := 0) I sX_0 (by decide +kernel)
          have hk_d_13 : rX d_13 := hk_d_13
          refine dg_get (C := RX11) (T := TX11) (N := 13) hx hb hts (fun w h => bw_mem (wU_X11 w h)) hown K hP sX_0 rfl 6 (dk_dq rfl) (hts _ (bw_mem wB_286)) (fun _ h9 => h9) (v := .ref (o + d_13)) f_d_13 dX11_odds_20 ?_
          obtain ⟨x_14, f_x_14, b_x_14⟩ := dg_I.int (i := d_13) (k := 0) (lo := 0) (hi := 7) I (rX_0 d_13 hk_d_13) (by decide +kernel)
          refine dg_get (C := RX2) (T := TX2) (N := 19) hx hb hts (fun w h => bw_mem (wU_X2 w h)) hown K hP (rX_0 d_13 hk_d_13) rfl 0 (dk_dq rfl) (hts _ (bw_mem wB_878)) (fun _ h9 => h9) (v := .int x_14) f_x_14 dX11_odds_23 ?_
          refine lv_imul hx hb dX11_odds_26 ?_
          refine lv_topi (fun x_15 ex_15 => ?_)
          have jx_15 : (x_15).toInt = 100 * (x_14).toInt := by rw [ex_15]; exact dk_mulT2 (by decide +kernel) rfl (by omega)
          refine lv_aload_n hx hb dX11_odds_27 rfl (lv_at hl 0 rfl) ?_
          refine dg_get (C := RX11) (T := TX11) (N := 13) hx hb hts (fun w h => bw_mem (wU_X11 w h)) hown K hP sX_0 rfl 6 (dk_dq rfl) (hts _ (bw_mem wB_286)) (fun _ h9 => h9) (v := .ref (o + d_13)) f_d_13 dX11_odds_28 ?_
          obtain ⟨x_16, f_x_16, b_x_16⟩ := dg_I.int (i := d_13) (k := 1) (lo := 0) (hi := 7) I (rX_0 d_13 hk_d_13) (by decide +kernel)
          refine dg_get (C := RX2) (T := TX2) (N := 19) hx hb hts (fun w h => bw_mem (wU_X2 w h)) hown K hP (rX_0 d_13 hk_d_13) rfl 1 (dk_dq rfl) (hts _ (bw_mem wB_879)) (fun _ h9 => h9) (v := .int x_16) f_x_16 dX11_odds_31 ?_
          refine lv_imul hx hb dX11_odds_34 ?_
          refine lv_topi (fun x_17 ex_17 => ?_)
          have jx_17 := dk_mulB (x := x_15) (y := x_16) (A := 700) (B := 7) (by omega) (by omega) (dk_dq rfl)
          rw [← ex_17] at jx_17
          refine W.widen (k := 0) (n := 0) (Nat.le_of_ble_eq_true rfl) (Nat.le_of_ble_eq_true rfl) ?_
          exact dg_iret hx hb hr hlocks rfl hP hS ⟨I, M_0, Z2, Z3, Z4, Z6, dg_FG.rf, ⟨congrArg Prod.fst (Eq.symm (F_d_odds_p2 w_2_1 c_3 c_4 (zR_eq f_d_13) (zI_eq f_x_14) ex_15 (zI_eq f_x_16) ex_17)), congrArg Prod.snd (Eq.symm (F_d_odds_p2 w_2_1 c_3 c_4 (zR_eq f_d_13) (zI_eq f_x_14) ex_15 (zI_eq f_x_16) ex_17))⟩, trivial⟩ dX11_odds_35
  · have jc_3 := dk_eqc (k := 0) (by decide +kernel) c_3
    refine lv_iconst (v := (-1)) hx hb dX11_odds_10 (by decide +kernel) ?_
    refine W.widen (k := 0) (n := 0) (Nat.le_of_ble_eq_true rfl) (Nat.le_of_ble_eq_true rfl) ?_
    exact dg_iret hx hb hr hlocks rfl hP hS ⟨I, M_0, Z2, Z3, Z4, Z6, dg_FG.rf, ⟨congrArg Prod.fst (Eq.symm (F_d_odds_p3 w_2_1 c_3)), congrArg Prod.snd (Eq.symm (F_d_odds_p3 w_2_1 c_3))⟩, trivial⟩ dX11_odds_11
noncomputable def F_d_feel (o : Nat) (S : dg_S) : dg_S × Int32 := let d_1 : Nat := zR o S 0 6; let S_3 : dg_S := (F_e_take o S d_1).1; let x_2 : Int32 := (F_e_take o S d_1).2; let S_5 : dg_S := dg_uF S_3 1 1 (.int (0 : Int32)); (if x_2 = (0 : Int32) then let S_9 : dg_S := (F_d_none o S_5 (5 : Int32)).1; let x_8 : Int32 := (F_d_none o S_5 (5 : Int32)).2; (S_9, x_8) else let x_11 : Int32 := zI S_5 229 5; (S_5, x_11))
theorem F_d_feel_p0 {o : Nat} {S : dg_S} {S_9 : dg_S} {x_8 : Int32} {d_1 : Nat} {S_3 : dg_S} {x_2 : Int32} {S_5 : dg_S} (h0 : d_1 = zR o S 0 6) (h1 : S_3 = (F_e_take o S d_1).1) (h2 : x_2 = (F_e_take o S d_1).2) (h3 : S_5 = dg_uF S_3 1 1 (.int (0 : Int32))) (h4 : x_2 = (0 : Int32)) (h5 : S_9 = (F_d_none o S_5 (5 : Int32)).1) (h6 : x_8 = (F_d_none o S_5 (5 : Int32)).2) : F_d_feel o S = (S_9, x_8) := by
  replace h0 := Eq.symm h0
  subst h0
  replace h1 := Eq.symm h1
  subst h1
  replace h2 := Eq.symm h2
  subst h2
  replace h3 := Eq.symm h3
  subst h3
  replace h5 := Eq.symm h5
  subst h5
  replace h6 := Eq.symm h6
  subst h6
  exact (Eq.trans (if_pos h4) rfl)
theorem F_d_feel_p1 {o : Nat} {S : dg_S} {S_5 : dg_S} {x_11 : Int32} {d_1 : Nat} {S_3 : dg_S} {x_2 : Int32} (h0 : d_1 = zR o S 0 6) (h1 : S_3 = (F_e_take o S d_1).1) (h2 : x_2 = (F_e_take o S d_1).2) (h3 : S_5 = dg_uF S_3 1 1 (.int (0 : Int32))) (h4 : ¬ (x_2 = (0 : Int32))) (h5 : x_11 = zI S_5 229 5) : F_d_feel o S = (S_5, x_11) := by
  replace h0 := Eq.symm h0
  subst h0
  replace h1 := Eq.symm h1
  subst h1
  replace h2 := Eq.symm h2
  subst h2
  replace h3 := Eq.symm h3
  subst h3
  replace h5 := Eq.symm h5
  subst h5
  exact (Eq.trans (if_neg h4) rfl)
set_option maxHeartbeats 8000000 in
set_option maxRecDepth 100000 in
theorem c_d_feel (l : Launch) (g : Nat → ClassId) (D : va_G) (o : Nat) (S : dg_S) (Z1 : Z1X S) (Z2 : Z2X S) (Z3 : Z3X o S) (Z4 : Z4X S) (Z6 : Z6X S) (I : CX o S) (sz : Nat) : Met l yX11_feel (bw yX11_feel cX11_feel 2 (some .int)) ({ frames := 4, cells := 0, slots := 0, locals := 101 } : Room) (dk_Pc g D (dg_w g shX o rfX S) sz [.ref (o + 0)]) (va_Qi (fun (r : Int32) S' => CX o S' ∧ dg_sm shX [(1, 1), (44, 4), (44, 5)] [18, 45] S S' ∧ ((-1) ≤ (r).toInt ∧ (r).toInt ≤ 16) ∧ (∃ y9 : Int32, S'.1 1 1 = .int y9 ∧ ((y9).toInt = 0)) ∧ (S' = (F_d_feel o S).1 ∧ r = (F_d_feel o S).2) ∧ True) (dg_B g D shX o rfX) (dg_A o shX.length sz)) 0 0 (dg_A o shX.length sz) := by
  refine dg_met (cc := cX11_feel) (maxL := 2) (ret := (some .int)) (dk_dq rfl) rfl (Nat.le_of_ble_eq_true rfl) ?_
  intro p e s m args below meth c A hAe harg hx hb hr hml hts hown hlocks hin hP K hS hA1 hA ST hsz ls hl
  rw [← hAe]
  have F : CallFix p m c cX11_feel 2 s args (bw yX11_feel cX11_feel 2 (some .int)) RX11 := ⟨hx, hb, hml, hown, hts⟩
  have hl : lv_has ls 2 [(0, .ref (o + 0))] := hl
  have M_0 : dg_sm shX [(1, 1), (44, 4), (44, 5)] [18, 45] S S := dg_sm.rf
  refine lv_aload_n hx hb dX11_feel_0 rfl (lv_at hl 0 rfl) ?_
  refine dg_get (C := RX11) (T := TX11) (N := 13) hx hb hts (fun w h => bw_mem (wU_X11 w h)) hown K hP sX_0 rfl 11 (dk_dq rfl) (hts _ (bw_mem wB_842)) (fun _ h9 => h9) (v := .ref (o + 229)) (show S.1 0 11 = .ref (o + 229) from dg_I.rel (d := 229) I sX_0 (by decide +kernel)) dX11_feel_1 ?_
  refine lv_aload_n hx hb dX11_feel_4 rfl (lv_at hl 0 rfl) ?_
  obtain ⟨d_1, hk_d_1, f_d_1⟩ := dg_I.one (i := 0) (k := 6) (d := 0) I sX_0 (by decide +kernel)
  have hk_d_1 : rX d_1 := hk_d_1
  refine dg_get (C := RX11) (T := TX11) (N := 13) hx hb hts (fun w h => bw_mem (wU_X11 w h)) hown K hP sX_0 rfl 6 (dk_dq rfl) (hts _ (bw_mem wB_286)) (fun _ h9 => h9) (v := .ref (o + d_1)) f_d_1 dX11_feel_5 ?_
  refine lv_aload_n hx hb dX11_feel_8 rfl (lv_at hl 0 rfl) ?_
  refine dg_get (C := RX11) (T := TX11) (N := 13) hx hb hts (fun w h => bw_mem (wU_X11 w h)) hown K hP sX_0 rfl 0 (dk_dq rfl) (hts _ (bw_mem wB_279)) (fun _ h9 => h9) (v := .ref (o + 1)) (show S.1 0 0 = .ref (o + 1) from dg_I.rel (d := 1) I sX_0 (by decide +kernel)) dX11_feel_9 ?_
  refine dg_calli hS hA1 hA (va_runV (As := [.ref (o + d_1), .ref (o + 1)]) (rest := []) F (c_e_take l g D o S d_1 hk_d_1 I s.heap.size) (cwV 2 hts (bw_V wB_1018 wB_1019 wB_1020 wB_730 wB_1017) rfl rfl rfl (by decide +kernel) ⟨Nat.le_of_ble_eq_true rfl, Nat.le_of_ble_eq_true rfl⟩) (dg_preV sX_229 rfl K ST hP hS hA1 hA) rfl rfl hl.1 rfl (lv_room (Nat.le_of_ble_eq_true rfl)) dX11_feel_12 ⟨Nat.le_of_ble_eq_true rfl, Nat.le_of_ble_eq_true rfl⟩) (fun x_2 S_3 hw_3 H locs hP hS => ?_)
  obtain ⟨I_3, m_3, w_3_0, w_3_1, -⟩ := hw_3
  have M_3 := dg_sm.tr M_0 m_3 (dk_dq rfl) (dk_dq rfl)
  have w_3_0 : 0 ≤ (x_2).toInt ∧ (x_2).toInt ≤ 1 := w_3_0
  refine lv_istore_n (lv' := [(1, .int x_2), (0, .ref (o + 0))]) hx hb dX11_feel_15 rfl hl (dk_dq rfl) rfl (fun ls hl => ?_)
  refine lv_aload_n hx hb dX11_feel_16 rfl (lv_at hl 1 rfl) ?_
  refine dg_get (C := RX11) (T := TX11) (N := 13) hx hb hts (fun w h => bw_mem (wU_X11 w h)) hown K hP sX_0 rfl 0 (dk_dq rfl) (hts _ (bw_mem wB_279)) (fun _ h9 => h9) (v := .ref (o + 1)) (show S_3.1 0 0 = .ref (o + 1) from dg_I.rel (d := 1) I_3 sX_0 (by decide +kernel)) dX11_feel_17 ?_
  refine lv_iconst (v := 0) hx hb dX11_feel_20 (by decide +kernel) ?_
  have hz_4 : (0 : Int32).toInt = 0 := by decide +kernel
  refine dg_put (ci := 8) (v := .int 0) (ty := tyX8 1) (C := RX8) (T := TX8) (N := 2) hx hb hts (fun w h => bw_mem (wU_X8 w h)) tyX8 tyX8_ok nmX8 hown K hP hS hA1 sX_1 rfl 1 (dk_dq rfl) (hts _ (bw_mem wB_285)) (fun _ h9 => h9) rfl (by decide +kernel) rfl rfl dX11_feel_21 (fun S_5 e_5 H locs hP hS => ?_)
  have I_5 := dg_I.uFi (lo := 0) (hi := 1600) I_3 e_5 sX_1 (by decide +kernel) (show 0 ≤ ((0 : Int32)).toInt ∧ ((0 : Int32)).toInt ≤ 1600 from (by decide +kernel))
  have M_5 := dg_sm.uF M_3 e_5 sX_1 (dk_dq rfl)
  refine lv_iload_n hx hb dX11_feel_24 rfl (lv_at hl 0 rfl) ?_
  refine lv_if_eq (tgt := 38) hx hb dX11_feel_25 (dk_dq rfl) (fun c_6 => ?_) (fun c_6 => ?_)
  · have jc_6 := dk_eqc (k := 0) (by decide +kernel) c_6
    refine lv_aload_n hx hb dX11_feel_38 rfl (lv_at hl 1 rfl) ?_
    refine lv_iconst (v := 5) hx hb dX11_feel_39 (by decide +kernel) ?_
    have hz_7 : (5 : Int32).toInt = 5 := by decide +kernel
    refine dg_calli hS hA1 hA (va_runV (As := [.int 5]) (rest := []) F (c_d_none l g D o S_5 5 (by decide +kernel) (Z1X.keep (Z1X.keep Z1 m_3 (dk_dq rfl) (dk_dq rfl) (dk_dq rfl)) (dg_sm.uF (WF := [(1, 1)]) (WA := []) dg_sm.rf e_5 sX_1 (dk_dq rfl)) (dk_dq rfl) (dk_dq rfl) (dk_dq rfl)) (Z2X.keep (Z2X.keep Z2 m_3 (dk_dq rfl) (dk_dq rfl)) (dg_sm.uF (WF := [(1, 1)]) (WA := []) dg_sm.rf e_5 sX_1 (dk_dq rfl)) (dk_dq rfl) (dk_dq rfl)) (Z3X.keep (Z3X.keep Z3 m_3 (dg_FG.sm m_3 (dk_dq rfl)) (dk_dq rfl)) (dg_sm.uF (WF := [(1, 1)]) (WA := []) dg_sm.rf e_5 sX_1 (dk_dq rfl)) (dg_FG.uF e_5) (dk_dq rfl)) (Z4X.keep (Z4X.keep Z4 m_3 (dg_FG.sm m_3 (dk_dq rfl)) (dk_dq rfl) (dk_dq rfl)) (dg_sm.uF (WF := [(1, 1)]) (WA := []) dg_sm.rf e_5 sX_1 (dk_dq rfl)) (dg_FG.uF e_5) (dk_dq rfl) (dk_dq rfl)) (Z6X.keep (Z6X.keep Z6 m_3 (dg_FG.sm m_3 (dk_dq rfl))) (dg_sm.uF (WF := [(1, 1)]) (WA := []) dg_sm.rf e_5 sX_1 (dk_dq rfl)) (dg_FG.uF e_5)) I_5 H.size) (cwV 1 hts (bw_V wB_920 wB_921 wB_922 wB_610 wB_919) rfl rfl rfl (by decide +kernel) ⟨Nat.le_of_ble_eq_true rfl, Nat.le_of_ble_eq_true rfl⟩) (dg_preV sX_0 rfl K ST hP hS hA1 hA) rfl rfl hl.1 rfl (lv_room (Nat.le_of_ble_eq_true rfl)) dX11_feel_40 ⟨Nat.le_of_ble_eq_true rfl, Nat.le_of_ble_eq_true rfl⟩) (fun x_8 S_9 hw_9 H locs hP hS => ?_)
    obtain ⟨I_9, m_9, w_9_0, w_9_1, -⟩ := hw_9
    have M_9 := dg_sm.tr M_5 m_9 (dk_dq rfl) (dk_dq rfl)
    have w_9_0 : (-1) ≤ (x_8).toInt ∧ (x_8).toInt ≤ (-1) := w_9_0
    have hz_10 : (0 : Int32).toInt = 0 := by decide +kernel
    refine W.widen (k := 0) (n := 0) (Nat.le_of_ble_eq_true rfl) (Nat.le_of_ble_eq_true rfl) ?_
    exact dg_iret hx hb hr hlocks rfl hP hS ⟨I_9, M_9, (by omega), ⟨0, ((m_9.1 1 1 _ sX_1 (dk_dq rfl)).trans (dg_uF_at e_5)), (by omega)⟩, ⟨congrArg Prod.fst (Eq.symm (F_d_feel_p0 (zR_eq f_d_1) w_3_1.1 w_3_1.2 e_5 c_6 w_9_1.1 w_9_1.2)), congrArg Prod.snd (Eq.symm (F_d_feel_p0 (zR_eq f_d_1) w_3_1.1 w_3_1.2 e_5 c_6 w_9_1.1 w_9_1.2))⟩, trivial⟩ dX11_feel_43
  · have jc_6 := dk_neqc (k := 0) (by decide +kernel) c_6
    refine lv_aload_n hx hb dX11_feel_28 rfl (lv_at hl 1 rfl) ?_
    refine dg_get (C := RX11) (T := TX11) (N := 13) hx hb hts (fun w h => bw_mem (wU_X11 w h)) hown K hP sX_0 rfl 11 (dk_dq rfl) (hts _ (bw_mem wB_842)) (fun _ h9 => h9) (v := .ref (o + 229)) (show S_5.1 0 11 = .ref (o + 229) from dg_I.rel (d := 229) I_5 sX_0 (by decide +kernel)) dX11_feel_29 ?_
    obtain ⟨x_11, f_x_11, b_x_11⟩ := dg_I.int (i := 229) (k := 5) (lo := 0) (hi := 16) I_5 sX_229 (by decide +kernel)
    refine dg_get (C := RX0) (T := TX0) (N := 9) hx hb hts (fun w h => bw_mem (wU_X0 w h)) hown K hP sX_229 rfl 5 (dk_dq rfl) (hts _ (bw_mem wB_949)) (fun _ h9 => h9) (v := .int x_11) f_x_11 dX11_feel_32 ?_
    refine lv_goto (tgt := 43) hx hb dX11_feel_35 (dk_dq rfl) ?_
    have hz_12 : (0 : Int32).toInt = 0 := by decide +kernel
    refine W.widen (k := 0) (n := 0) (Nat.le_of_ble_eq_true rfl) (Nat.le_of_ble_eq_true rfl) ?_
    exact dg_iret hx hb hr hlocks rfl hP hS ⟨I_5, M_5, (by omega), ⟨0, (dg_uF_at e_5), (by omega)⟩, ⟨congrArg Prod.fst (Eq.symm (F_d_feel_p1 (zR_eq f_d_1) w_3_1.1 w_3_1.2 e_5 c_6 (zI_eq f_x_11))), congrArg Prod.snd (Eq.symm (F_d_feel_p1 (zR_eq f_d_1) w_3_1.1 w_3_1.2 e_5 c_6 (zI_eq f_x_11)))⟩, trivial⟩ dX11_feel_43
noncomputable def F_d_reaches (o : Nat) (S : dg_S) : dg_S × Int32 := let d_1 : Nat := zR o S 0 6; let x_2 : Int32 := zI S d_1 0; let x_3 : Int32 := F_g_hasSeam o S d_1; (if x_3 = (0 : Int32) then (S, (-1 : Int32)) else let S_7 : dg_S := (F_e_reachBits o S d_1 3).1; let x_6 : Int32 := (F_e_reachBits o S d_1 3).2; (S_7, x_6))
theorem F_d_reaches_p0 {o : Nat} {S : dg_S} {d_1 : Nat} {x_3 : Int32} (h0 : d_1 = zR o S 0 6) (h1 : x_3 = F_g_hasSeam o S d_1) (h2 : x_3 = (0 : Int32)) : F_d_reaches o S = (S, (-1 : Int32)) := by
  replace h0 := Eq.symm h0
  subst h0
  replace h1 := Eq.symm h1
  subst h1
  exact (Eq.trans (if_pos h2) rfl)
theorem F_d_reaches_p1 {o : Nat} {S : dg_S} {S_7 : dg_S} {x_6 : Int32} {d_1 : Nat} {x_3 : Int32} (h0 : d_1 = zR o S 0 6) (h1 : x_3 = F_g_hasSeam o S d_1) (h2 : ¬ (x_3 = (0 : Int32))) (h3 : S_7 = (F_e_reachBits o S d_1 3).1) (h4 : x_6 = (F_e_reachBits o S d_1 3).2) : F_d_reaches o S = (S_7, x_6) := by
  replace h0 := Eq.symm h0
  subst h0
  replace h1 := Eq.symm h1
  subst h1
  replace h3 := Eq.symm h3
  subst h3
  replace h4 := Eq.symm h4
  subst h4
  exact (Eq.trans (if_neg h2) rfl)
set_option maxHeartbeats 8000000 in
set_option maxRecDepth 100000 in
theorem c_d_reaches (l : Launch) (g : Nat → ClassId) (D : va_G) (o : Nat) (S : dg_S) (Z1 : Z1X S) (Z2 : Z2X S) (Z3 : Z3X o S) (Z4 : Z4X S) (Z6 : Z6X S) (I : CX o S) (sz : Nat) : Met l yX11_reaches (bw yX11_reaches cX11_reaches 1 (some .int)) ({ frames := 8, cells := 0, slots := 0, locals := 200 } : Room) (dk_Pc g D (dg_w g shX o rfX S) sz [.ref (o + 0)]) (va_Qi (fun (r : Int32) S' => CX o S' ∧ dg_sm shX [(3, 0), (3, 1), (36, 4), (36, 6), (36, 7), (36, 8), (36, 9), (36, 10), (36, 11), (36, 12), (37, 0), (37, 1), (37, 2), (37, 3), (37, 4), (37, 5), (37, 7)] [4, 5, 6, 7, 8, 9, 38, 39, 40, 41, 42] S S' ∧ Z2X S' ∧ Z3X o S' ∧ Z4X S' ∧ Z6X S' ∧ dg_FG S S' ∧ (S' = (F_d_reaches o S).1 ∧ r = (F_d_reaches o S).2) ∧ True) (dg_B g D shX o rfX) (dg_A o shX.length sz)) 0 0 (dg_A o shX.length sz) := by
  refine dg_met (cc := cX11_reaches) (maxL := 1) (ret := (some .int)) (dk_dq rfl) rfl (Nat.le_of_ble_eq_true rfl) ?_
  intro p e s m args below meth c A hAe harg hx hb hr hml hts hown hlocks hin hP K hS hA1 hA ST hsz ls hl
  rw [← hAe]
  have F : CallFix p m c cX11_reaches 1 s args (bw yX11_reaches cX11_reaches 1 (some .int)) RX11 := ⟨hx, hb, hml, hown, hts⟩
  have hl : lv_has ls 1 [(0, .ref (o + 0))] := hl
  have M_0 : dg_sm shX [(3, 0), (3, 1), (36, 4), (36, 6), (36, 7), (36, 8), (36, 9), (36, 10), (36, 11), (36, 12), (37, 0), (37, 1), (37, 2), (37, 3), (37, 4), (37, 5), (37, 7)] [4, 5, 6, 7, 8, 9, 38, 39, 40, 41, 42] S S := dg_sm.rf
  refine lv_aload_n hx hb dX11_reaches_0 rfl (lv_at hl 0 rfl) ?_
  obtain ⟨d_1, hk_d_1, f_d_1⟩ := dg_I.one (i := 0) (k := 6) (d := 0) I sX_0 (by decide +kernel)
  have hk_d_1 : rX d_1 := hk_d_1
  refine dg_get (C := RX11) (T := TX11) (N := 13) hx hb hts (fun w h => bw_mem (wU_X11 w h)) hown K hP sX_0 rfl 6 (dk_dq rfl) (hts _ (bw_mem wB_286)) (fun _ h9 => h9) (v := .ref (o + d_1)) f_d_1 dX11_reaches_1 ?_
  obtain ⟨x_2, f_x_2, b_x_2⟩ := dg_I.int (i := d_1) (k := 0) (lo := 0) (hi := 7) I (rX_0 d_1 hk_d_1) (by decide +kernel)
  refine dg_calli hS hA1 hA (va_runV (As := []) (rest := []) F (c_g_hasSeam l g D o S d_1 hk_d_1 x_2 f_x_2 (by omega) I s.heap.size) (cwV 0 hts (bw_V wB_854 wB_527 wB_528 wB_9 wB_525) rfl rfl rfl (by decide +kernel) ⟨Nat.le_of_ble_eq_true rfl, Nat.le_of_ble_eq_true rfl⟩) (dg_preV (rX_0 d_1 hk_d_1) rfl K ST hP hS hA1 hA) rfl rfl hl.1 rfl (lv_room (Nat.le_of_ble_eq_true rfl)) dX11_reaches_4 ⟨Nat.le_of_ble_eq_true rfl, Nat.le_of_ble_eq_true rfl⟩) (fun x_3 S_4 hw_4 H locs hP hS => ?_)
  rw [hw_4.1] at hP
  obtain ⟨hq_4, w_4_0, w_4_1, w_4_2, -⟩ := hw_4
  have w_4_0 : 0 ≤ (x_3).toInt ∧ (x_3).toInt ≤ 1 := w_4_0
  have w_4_1 : (x_3).toInt = 1 ↔ 0 < (x_2).toInt := w_4_1
  refine lv_if_eq (tgt := 28) hx hb dX11_reaches_7 (dk_dq rfl) (fun c_5 => ?_) (fun c_5 => ?_)
  · have jc_5 := dk_eqc (k := 0) (by decide +kernel) c_5
    refine lv_iconst (v := (-1)) hx hb dX11_reaches_28 (by decide +kernel) ?_
    refine W.widen (k := 0) (n := 0) (Nat.le_of_ble_eq_true rfl) (Nat.le_of_ble_eq_true rfl) ?_
    exact dg_iret hx hb hr hlocks rfl hP hS ⟨I, M_0, Z2, Z3, Z4, Z6, dg_FG.rf, ⟨congrArg Prod.fst (Eq.symm (F_d_reaches_p0 (zR_eq f_d_1) w_4_2 c_5)), congrArg Prod.snd (Eq.symm (F_d_reaches_p0 (zR_eq f_d_1) w_4_2 c_5))⟩, trivial⟩ dX11_reaches_29
  · have jc_5 := dk_neqc (k := 0) (by decide +kernel) c_5
    refine lv_aload_n hx hb dX11_reaches_10 rfl (lv_at hl 0 rfl) ?_
    refine dg_get (C := RX11) (T := TX11) (N := 13) hx hb hts (fun w h => bw_mem (wU_X11 w h)) hown K hP sX_0 rfl 11 (dk_dq rfl) (hts _ (bw_mem wB_842)) (fun _ h9 => h9) (v := .ref (o + 229)) (show S.1 0 11 = .ref (o + 229) from dg_I.rel (d := 229) I sX_0 (by decide +kernel)) dX11_reaches_11 ?_
    refine lv_aload_n hx hb dX11_reaches_14 rfl (lv_at hl 0 rfl) ?_
    refine dg_get (C := RX11) (T := TX11) (N := 13) hx hb hts (fun w h => bw_mem (wU_X11 w h)) hown K hP sX_0 rfl 6 (dk_dq rfl) (hts _ (bw_mem wB_286)) (fun _ h9 => h9) (v := .ref (o + d_1)) f_d_1 dX11_reaches_15 ?_
    refine lv_aload_n hx hb dX11_reaches_18 rfl (lv_at hl 0 rfl) ?_
    refine dg_get (C := RX11) (T := TX11) (N := 13) hx hb hts (fun w h => bw_mem (wU_X11 w h)) hown K hP sX_0 rfl 1 (dk_dq rfl) (hts _ (bw_mem wB_287)) (fun _ h9 => h9) (v := .ref (o + 3)) (show S.1 0 1 = .ref (o + 3) from dg_I.rel (d := 3) I sX_0 (by decide +kernel)) dX11_reaches_19 ?_
    refine dg_calli hS hA1 hA (va_runV (As := [.ref (o + d_1), .ref (o + 3)]) (rest := []) F (c_e_reachBits l g D o S d_1 hk_d_1 3 (by unfold pX; decide : pX 3) Z6 Z2 Z3 I H.size) (cwV 2 hts (bw_V wB_1022 wB_1023 wB_1024 wB_730 wB_1021) rfl rfl rfl (by decide +kernel) ⟨Nat.le_of_ble_eq_true rfl, Nat.le_of_ble_eq_true rfl⟩) (dg_preV sX_229 rfl K ST hP hS hA1 hA) rfl rfl hl.1 rfl (lv_room (Nat.le_of_ble_eq_true rfl)) dX11_reaches_22 ⟨Nat.le_of_ble_eq_true rfl, Nat.le_of_ble_eq_true rfl⟩) (fun x_6 S_7 hw_7 H locs hP hS => ?_)
    obtain ⟨I_7, m_7, w_7_0, w_7_1, w_7_2, w_7_3, -⟩ := hw_7
    have M_7 := dg_sm.tr M_0 m_7 (dk_dq rfl) (dk_dq rfl)
    refine lv_goto (tgt := 29) hx hb dX11_reaches_25 (dk_dq rfl) ?_
    refine W.widen (k := 0) (n := 0) (Nat.le_of_ble_eq_true rfl) (Nat.le_of_ble_eq_true rfl) ?_
    exact dg_iret hx hb hr hlocks rfl hP hS ⟨I_7, M_7, w_7_0, w_7_1, (Z4X.keep Z4 m_7 w_7_2 (dk_dq rfl) (dk_dq rfl)), (Z6X.keep Z6 m_7 w_7_2), w_7_2, ⟨congrArg Prod.fst (Eq.symm (F_d_reaches_p1 (zR_eq f_d_1) w_4_2 c_5 w_7_3.1 w_7_3.2)), congrArg Prod.snd (Eq.symm (F_d_reaches_p1 (zR_eq f_d_1) w_4_2 c_5 w_7_3.1 w_7_3.2))⟩, trivial⟩ dX11_reaches_29
noncomputable def F_d_tells_J1 (S_17 : dg_S) (a1 : Int32) : dg_S × Int32 := let x_19 : Int32 := zI S_17 229 7; (if x_19 = (-1 : Int32) then (S_17, (-1 : Int32)) else (if a1 = (0 : Int32) then let x_22 : Int32 := zI S_17 229 6; (S_17, x_22) else (if a1 = (1 : Int32) then let x_23 : Int32 := x_19 - (8 : Int32); (S_17, x_23) else (if a1 = (2 : Int32) then let x_24 : Int32 := zI S_17 229 8; (S_17, x_24) else (S_17, (-1 : Int32))))))
noncomputable def F_d_tells (o : Nat) (S : dg_S) (a1 : Int32) : dg_S × Int32 := let x_1 : Int32 := F_d_shiftsCome o S (1 : Int32) (1 : Int32) (1 : Int32); (if x_1 = (0 : Int32) then (S, (-1 : Int32)) else let x_4 : Int32 := zI S 229 4; (if x_4 = (0 : Int32) then let d_26 : Nat := zR o S 0 6; let S_28 : dg_S := (F_e_reachBits o S d_26 3).1; let x_27 : Int32 := (F_e_reachBits o S d_26 3).2; let S_29 : dg_S := F_e_seekTelling o S_28 d_26 3 x_27; (F_d_tells_J1 S_29 a1) else (F_d_tells_J1 S a1)))
theorem F_d_tells_p0 {S_17 : dg_S} {a1 : Int32} {x_19 : Int32} (h0 : x_19 = zI S_17 229 7) (h1 : ¬ (x_19 = (-1 : Int32))) (h2 : ¬ (a1 = (0 : Int32))) (h3 : ¬ (a1 = (1 : Int32))) (h4 : ¬ (a1 = (2 : Int32))) : F_d_tells_J1 S_17 a1 = (S_17, (-1 : Int32)) := by
  replace h0 := Eq.symm h0
  subst h0
  exact (Eq.trans (if_neg h1) (Eq.trans (if_neg h2) (Eq.trans (if_neg h3) (Eq.trans (if_neg h4) rfl))))
theorem F_d_tells_p1 {S_17 : dg_S} {a1 : Int32} {x_22 : Int32} {x_19 : Int32} (h0 : x_19 = zI S_17 229 7) (h1 : ¬ (x_19 = (-1 : Int32))) (h2 : a1 = (0 : Int32)) (h3 : x_22 = zI S_17 229 6) : F_d_tells_J1 S_17 a1 = (S_17, x_22) := by
  replace h0 := Eq.symm h0
  subst h0
  replace h3 := Eq.symm h3
  subst h3
  exact (Eq.trans (if_neg h1) (Eq.trans (if_pos h2) rfl))
theorem F_d_tells_p2 {S_17 : dg_S} {a1 : Int32} {x_23 : Int32} {x_19 : Int32} (h0 : x_19 = zI S_17 229 7) (h1 : ¬ (x_19 = (-1 : Int32))) (h2 : ¬ (a1 = (0 : Int32))) (h3 : a1 = (1 : Int32)) (h4 : x_23 = x_19 - (8 : Int32)) : F_d_tells_J1 S_17 a1 = (S_17, x_23) := by
  replace h0 := Eq.symm h0
  subst h0
  replace h4 := Eq.symm h4
  subst h4
  exact (Eq.trans (if_neg h1) (Eq.trans (if_neg h2) (Eq.trans (if_pos h3) rfl)))
theorem F_d_tells_p3 {S_17 : dg_S} {a1 : Int32} {x_24 : Int32} {x_19 : Int32} (h0 : x_19 = zI S_17 229 7) (h1 : ¬ (x_19 = (-1 : Int32))) (h2 : ¬ (a1 = (0 : Int32))) (h3 : ¬ (a1 = (1 : Int32))) (h4 : a1 = (2 : Int32)) (h5 : x_24 = zI S_17 229 8) : F_d_tells_J1 S_17 a1 = (S_17, x_24) := by
  replace h0 := Eq.symm h0
  subst h0
  replace h5 := Eq.symm h5
  subst h5
  exact (Eq.trans (if_neg h1) (Eq.trans (if_neg h2) (Eq.trans (if_neg h3) (Eq.trans (if_pos h4) rfl))))
theorem F_d_tells_p4 {S_17 : dg_S} {a1 : Int32} {x_19 : Int32} (h0 : x_19 = zI S_17 229 7) (h1 : x_19 = (-1 : Int32)) : F_d_tells_J1 S_17 a1 = (S_17, (-1 : Int32)) := by
  replace h0 := Eq.symm h0
  subst h0
  exact (Eq.trans (if_pos h1) rfl)
theorem F_d_tells_p5 {o : Nat} {S : dg_S} {a1 : Int32} {x_1 : Int32} {x_4 : Int32} (h0 : x_1 = F_d_shiftsCome o S (1 : Int32) (1 : Int32) (1 : Int32)) (h1 : ¬ (x_1 = (0 : Int32))) (h2 : x_4 = zI S 229 4) (h3 : ¬ (x_4 = (0 : Int32))) : F_d_tells o S a1 = F_d_tells_J1 S a1 := by
  replace h0 := Eq.symm h0
  subst h0
  replace h2 := Eq.symm h2
  subst h2
  exact (Eq.trans (if_neg h1) (Eq.trans (if_neg h3) rfl))
theorem F_d_tells_p6 {o : Nat} {S : dg_S} {a1 : Int32} {S_29 : dg_S} {x_1 : Int32} {x_4 : Int32} {d_26 : Nat} {S_28 : dg_S} {x_27 : Int32} (h0 : x_1 = F_d_shiftsCome o S (1 : Int32) (1 : Int32) (1 : Int32)) (h1 : ¬ (x_1 = (0 : Int32))) (h2 : x_4 = zI S 229 4) (h3 : x_4 = (0 : Int32)) (h4 : d_26 = zR o S 0 6) (h5 : S_28 = (F_e_reachBits o S d_26 3).1) (h6 : x_27 = (F_e_reachBits o S d_26 3).2) (h7 : S_29 = F_e_seekTelling o S_28 d_26 3 x_27) : F_d_tells o S a1 = F_d_tells_J1 S_29 a1 := by
  replace h0 := Eq.symm h0
  subst h0
  replace h2 := Eq.symm h2
  subst h2
  replace h4 := Eq.symm h4
  subst h4
  replace h5 := Eq.symm h5
  subst h5
  replace h6 := Eq.symm h6
  subst h6
  replace h7 := Eq.symm h7
  subst h7
  exact (Eq.trans (if_neg h1) (Eq.trans (if_pos h3) rfl))
theorem F_d_tells_p7 {o : Nat} {S : dg_S} {a1 : Int32} {x_1 : Int32} (h0 : x_1 = F_d_shiftsCome o S (1 : Int32) (1 : Int32) (1 : Int32)) (h1 : x_1 = (0 : Int32)) : F_d_tells o S a1 = (S, (-1 : Int32)) := by
  replace h0 := Eq.symm h0
  subst h0
  exact (Eq.trans (if_pos h1) rfl)
set_option maxHeartbeats 8000000 in
set_option maxRecDepth 100000 in
theorem c_d_tells (l : Launch) (g : Nat → ClassId) (D : va_G) (o : Nat) (S : dg_S) (a1 : Int32) (Z1 : Z1X S) (Z2 : Z2X S) (Z3 : Z3X o S) (Z4 : Z4X S) (Z6 : Z6X S) (I : CX o S) (sz : Nat) : Met l yX11_tells (bw yX11_tells cX11_tells 2 (some .int)) ({ frames := 8, cells := 0, slots := 0, locals := 200 } : Room) (dk_Pc g D (dg_w g shX o rfX S) sz [.ref (o + 0), .int a1]) (va_Qi (fun (r : Int32) S' => CX o S' ∧ dg_sm shX [(3, 0), (3, 1), (36, 4), (36, 6), (36, 7), (36, 8), (36, 9), (36, 10), (36, 11), (36, 12), (37, 0), (37, 1), (37, 2), (37, 3), (37, 4), (37, 5), (37, 7), (44, 4), (44, 6), (44, 7), (44, 8)] [4, 5, 6, 7, 8, 9, 38, 39, 40, 41, 42, 47] S S' ∧ Z2X S' ∧ Z3X o S' ∧ Z4X S' ∧ Z6X S' ∧ dg_FG S S' ∧ (S' = (F_d_tells o S a1).1 ∧ r = (F_d_tells o S a1).2) ∧ True) (dg_B g D shX o rfX) (dg_A o shX.length sz)) 0 0 (dg_A o shX.length sz) := by
  refine dg_met (cc := cX11_tells) (maxL := 2) (ret := (some .int)) (dk_dq rfl) rfl (Nat.le_of_ble_eq_true rfl) ?_
  intro p e s m args below meth c A hAe harg hx hb hr hml hts hown hlocks hin hP K hS hA1 hA ST hsz ls hl
  rw [← hAe]
  have F : CallFix p m c cX11_tells 2 s args (bw yX11_tells cX11_tells 2 (some .int)) RX11 := ⟨hx, hb, hml, hown, hts⟩
  have hl : lv_has ls 2 [(0, .ref (o + 0)), (1, .int a1)] := hl
  have M_0 : dg_sm shX [(3, 0), (3, 1), (36, 4), (36, 6), (36, 7), (36, 8), (36, 9), (36, 10), (36, 11), (36, 12), (37, 0), (37, 1), (37, 2), (37, 3), (37, 4), (37, 5), (37, 7), (44, 4), (44, 6), (44, 7), (44, 8)] [4, 5, 6, 7, 8, 9, 38, 39, 40, 41, 42, 47] S S := dg_sm.rf
  refine lv_aload_n hx hb dX11_tells_0 rfl (lv_at hl 0 rfl) ?_
  refine lv_iconst (v := 1) hx hb dX11_tells_1 (by decide +kernel) ?_
  refine lv_iconst (v := 1) hx hb dX11_tells_2 (by decide +kernel) ?_
  refine lv_iconst (v := 1) hx hb dX11_tells_3 (by decide +kernel) ?_
  refine dg_calli hS hA1 hA (va_runV (As := [.int 1, .int 1, .int 1]) (rest := []) F (c_d_shiftsCome l g D o S 1 1 1 Z1 Z2 Z3 Z4 Z6 I s.heap.size) (cwV 3 hts (bw_V wB_984 wB_985 wB_986 wB_610 wB_983) rfl rfl rfl (by decide +kernel) ⟨Nat.le_of_ble_eq_true rfl, Nat.le_of_ble_eq_true rfl⟩) (dg_preV sX_0 rfl K ST hP hS hA1 hA) rfl rfl hl.1 rfl (lv_room (Nat.le_of_ble_eq_true rfl)) dX11_tells_4 ⟨Nat.le_of_ble_eq_true rfl, Nat.le_of_ble_eq_true rfl⟩) (fun x_1 S_2 hw_2 H locs hP hS => ?_)
  rw [hw_2.1] at hP
  obtain ⟨hq_2, w_2_0, w_2_1, -⟩ := hw_2
  have w_2_0 : 0 ≤ (x_1).toInt ∧ (x_1).toInt ≤ 1 := w_2_0
  refine lv_if_ne (tgt := 12) hx hb dX11_tells_7 (dk_dq rfl) (fun c_3 => ?_) (fun c_3 => ?_)
  · as_aux_lemma =>
      have jc_3 := dk_neqc (k := 0) (by decide +kernel) c_3
      refine lv_aload_n hx hb dX11_tells_12 rfl (lv_at hl 0 rfl) ?_
      refine dg_get (C := RX11) (T := TX11) (N := 13) hx hb hts (fun w h => bw_mem (wU_X11 w h)) hown K hP sX_0 rfl 11 (dk_dq rfl) (hts _ (bw_mem wB_842)) (fun _ h9 => h9) (v := .ref (o + 229)) (show S.1 0 11 = .ref (o + 229) from dg_I.rel (d := 229) I sX_0 (by decide +kernel)) dX11_tells_13 ?_
      obtain ⟨x_4, f_x_4, b_x_4⟩ := dg_I.int (i := 229) (k := 4) (lo := 0) (hi := 1) I sX_229 (by decide +kernel)
      refine dg_get (C := RX0) (T := TX0) (N := 9) hx hb hts (fun w h => bw_mem (wU_X0 w h)) hown K hP sX_229 rfl 4 (dk_dq rfl) (hts _ (bw_mem wB_1025)) (fun _ h9 => h9) (v := .int x_4) f_x_4 dX11_tells_16 ?_
      have J_18 : ∀ S_17 : dg_S, CX o S_17 → dg_sm shX [(3, 0), (3, 1), (36, 4), (36, 6), (36, 7), (36, 8), (36, 9), (36, 10), (36, 11), (36, 12), (37, 0), (37, 1), (37, 2), (37, 3), (37, 4), (37, 5), (37, 7), (44, 4), (44, 6), (44, 7), (44, 8)] [4, 5, 6, 7, 8, 9, 38, 39, 40, 41, 42, 47] S S_17 → dg_FG S S_17 → Z2X S_17 → Z3X o S_17 → Z4X S_17 → Z6X S_17 → (F_d_tells o S a1 = F_d_tells_J1 S_17 a1) → ∀ (H : Heap) (locs : List Loc), va_P D vwCl (dg_w g shX o rfX S_17) H → va_S A s.heap H locs → ∀ ls : Array Slot, lv_has ls 2 [(0, .ref (o + 0)), (1, .int a1)] → W p l e ({ frames := 8, cells := 0, slots := 0, locals := 200 } : Room) s m args below meth c H locs 0 0 (MQ below (va_Qi (fun (r : Int32) S' => CX o S' ∧ dg_sm shX [(3, 0), (3, 1), (36, 4), (36, 6), (36, 7), (36, 8), (36, 9), (36, 10), (36, 11), (36, 12), (37, 0), (37, 1), (37, 2), (37, 3), (37, 4), (37, 5), (37, 7), (44, 4), (44, 6), (44, 7), (44, 8)] [4, 5, 6, 7, 8, 9, 38, 39, 40, 41, 42, 47] S S' ∧ Z2X S' ∧ Z3X o S' ∧ Z4X S' ∧ Z6X S' ∧ dg_FG S S' ∧ (S' = (F_d_tells o S a1).1 ∧ r = (F_d_tells o S a1).2) ∧ True) (dg_B g D shX o rfX) A) args s 0 0 A) (F0 m 52 ls []) := by
        as_aux_lemma =>
          intro S_17 I_17 M_17 G_17 Z2_17 Z3_17 Z4_17 Z6_17 hF_1 H locs hP hS ls hl
          refine lv_aload_n hx hb dX11_tells_52 rfl (lv_at hl 0 rfl) ?_
          refine dg_get (C := RX11) (T := TX11) (N := 13) hx hb hts (fun w h => bw_mem (wU_X11 w h)) hown K hP sX_0 rfl 11 (dk_dq rfl) (hts _ (bw_mem wB_842)) (fun _ h9 => h9) (v := .ref (o + 229)) (show S_17.1 0 11 = .ref (o + 229) from dg_I.rel (d := 229) I_17 sX_0 (by decide +kernel)) dX11_tells_53 ?_
          obtain ⟨x_19, f_x_19, b_x_19⟩ := dg_I.int (i := 229) (k := 7) (lo := (-2147483648)) (hi := 2147483647) I_17 sX_229 (by decide +kernel)
          refine dg_get (C := RX0) (T := TX0) (N := 9) hx hb hts (fun w h => bw_mem (wU_X0 w h)) hown K hP sX_229 rfl 7 (dk_dq rfl) (hts _ (bw_mem wB_1030)) (fun _ h9 => h9) (v := .int x_19) f_x_19 dX11_tells_56 ?_
          refine lv_iconst (v := (-1)) hx hb dX11_tells_59 (by decide +kernel) ?_
          refine lv_icmp_ne (tgt := 65) hx hb dX11_tells_60 (dk_dq rfl) (fun c_20 => ?_) (fun c_20 => ?_)
          · as_aux_lemma =>
              have jc_20 := dk_neqc (k := (-1)) (by decide +kernel) c_20
              refine lv_iload_n hx hb dX11_tells_65 rfl (lv_at hl 1 rfl) ?_
              rcases (show ((a1).toInt < 0 ∨ 2 < (a1).toInt) ∨ (a1).toInt = 0 ∨ (a1).toInt = 1 ∨ (a1).toInt = 2 by omega) with jc_21 | jc_21 | jc_21 | jc_21
              · refine lv_tableOut (tgt := 119) hx hb dX11_tells_66 jc_21 (dk_dq rfl) ?_
                refine lv_iconst (v := (-1)) hx hb dX11_tells_119 (by decide +kernel) ?_
                refine W.widen (k := 0) (n := 0) (Nat.le_of_ble_eq_true rfl) (Nat.le_of_ble_eq_true rfl) ?_
                exact dg_iret hx hb hr hlocks rfl hP hS ⟨I_17, M_17, Z2_17, Z3_17, Z4_17, Z6_17, G_17, ⟨congrArg Prod.fst (Eq.symm (Eq.trans hF_1 (F_d_tells_p0 (zI_eq f_x_19) c_20 (dk_neO jc_21 (k := 0) (b := 0) (by decide +kernel) (dk_dq rfl)) (dk_neO jc_21 (k := 1) (b := 1) (by decide +kernel) (dk_dq rfl)) (dk_neO jc_21 (k := 2) (b := 2) (by decide +kernel) (dk_dq rfl))))), congrArg Prod.snd (Eq.symm (Eq.trans hF_1 (F_d_tells_p0 (zI_eq f_x_19) c_20 (dk_neO jc_21 (k := 0) (b := 0) (by decide +kernel) (dk_dq rfl)) (dk_neO jc_21 (k := 1) (b := 1) (by decide +kernel) (dk_dq rfl)) (dk_neO jc_21 (k := 2) (b := 2) (by decide +kernel) (dk_dq rfl)))))⟩, trivial⟩ dX11_tells_120
              · refine lv_tableIn (off := 26) (tgt := 92) hx hb dX11_tells_66 (by rw [jc_21]; decide) (by rw [jc_21]; decide) (by rw [jc_21]; decide +kernel) (dk_dq rfl) ?_
                refine lv_aload_n hx hb dX11_tells_92 rfl (lv_at hl 0 rfl) ?_
                refine dg_get (C := RX11) (T := TX11) (N := 13) hx hb hts (fun w h => bw_mem (wU_X11 w h)) hown K hP sX_0 rfl 11 (dk_dq rfl) (hts _ (bw_mem wB_842)) (fun _ h9 => h9) (v := .ref (o + 229)) (show S_17.1 0 11 = .ref (o + 229) from dg_I.rel (d := 229) I_17 sX_0 (by decide +kernel)) dX11_tells_93 ?_
                obtain ⟨x_22, f_x_22, b_x_22⟩ := dg_I.int (i := 229) (k := 6) (lo := (-2147483648)) (hi := 2147483647) I_17 sX_229 (by decide +kernel)
                refine dg_get (C := RX0) (T := TX0) (N := 9) hx hb hts (fun w h => bw_mem (wU_X0 w h)) hown K hP sX_229 rfl 6 (dk_dq rfl) (hts _ (bw_mem wB_1031)) (fun _ h9 => h9) (v := .int x_22) f_x_22 dX11_tells_96 ?_
                refine W.widen (k := 0) (n := 0) (Nat.le_of_ble_eq_true rfl) (Nat.le_of_ble_eq_true rfl) ?_
                exact dg_iret hx hb hr hlocks rfl hP hS ⟨I_17, M_17, Z2_17, Z3_17, Z4_17, Z6_17, G_17, ⟨congrArg Prod.fst (Eq.symm (Eq.trans hF_1 (F_d_tells_p1 (zI_eq f_x_19) c_20 (dk_eqT jc_21 (k := 0) (by decide +kernel)) (zI_eq f_x_22)))), congrArg Prod.snd (Eq.symm (Eq.trans hF_1 (F_d_tells_p1 (zI_eq f_x_19) c_20 (dk_eqT jc_21 (k := 0) (by decide +kernel)) (zI_eq f_x_22))))⟩, trivial⟩ dX11_tells_99
              · refine lv_tableIn (off := 34) (tgt := 100) hx hb dX11_tells_66 (by rw [jc_21]; decide) (by rw [jc_21]; decide) (by rw [jc_21]; decide +kernel) (dk_dq rfl) ?_
                refine lv_aload_n hx hb dX11_tells_100 rfl (lv_at hl 0 rfl) ?_
                refine dg_get (C := RX11) (T := TX11) (N := 13) hx hb hts (fun w h => bw_mem (wU_X11 w h)) hown K hP sX_0 rfl 11 (dk_dq rfl) (hts _ (bw_mem wB_842)) (fun _ h9 => h9) (v := .ref (o + 229)) (show S_17.1 0 11 = .ref (o + 229) from dg_I.rel (d := 229) I_17 sX_0 (by decide +kernel)) dX11_tells_101 ?_
                refine dg_get (C := RX0) (T := TX0) (N := 9) hx hb hts (fun w h => bw_mem (wU_X0 w h)) hown K hP sX_229 rfl 7 (dk_dq rfl) (hts _ (bw_mem wB_1030)) (fun _ h9 => h9) (v := .int x_19) f_x_19 dX11_tells_104 ?_
                refine lv_bipush (v := 8) hx hb dX11_tells_107 (by decide +kernel) ?_
                refine lv_isub hx hb dX11_tells_109 ?_
                refine lv_topi (fun x_23 ex_23 => ?_)
                refine W.widen (k := 0) (n := 0) (Nat.le_of_ble_eq_true rfl) (Nat.le_of_ble_eq_true rfl) ?_
                exact dg_iret hx hb hr hlocks rfl hP hS ⟨I_17, M_17, Z2_17, Z3_17, Z4_17, Z6_17, G_17, ⟨congrArg Prod.fst (Eq.symm (Eq.trans hF_1 (F_d_tells_p2 (zI_eq f_x_19) c_20 (dk_neT jc_21 (k := 0) (b := 0) (by decide +kernel) (dk_dq rfl)) (dk_eqT jc_21 (k := 1) (by decide +kernel)) ex_23))), congrArg Prod.snd (Eq.symm (Eq.trans hF_1 (F_d_tells_p2 (zI_eq f_x_19) c_20 (dk_neT jc_21 (k := 0) (b := 0) (by decide +kernel) (dk_dq rfl)) (dk_eqT jc_21 (k := 1) (by decide +kernel)) ex_23)))⟩, trivial⟩ dX11_tells_110
              · refine lv_tableIn (off := 45) (tgt := 111) hx hb dX11_tells_66 (by rw [jc_21]; decide) (by rw [jc_21]; decide) (by rw [jc_21]; decide +kernel) (dk_dq rfl) ?_
                refine lv_aload_n hx hb dX11_tells_111 rfl (lv_at hl 0 rfl) ?_
                refine dg_get (C := RX11) (T := TX11) (N := 13) hx hb hts (fun w h => bw_mem (wU_X11 w h)) hown K hP sX_0 rfl 11 (dk_dq rfl) (hts _ (bw_mem wB_842)) (fun _ h9 => h9) (v := .ref (o + 229)) (show S_17.1 0 11 = .ref (o + 229) from dg_I.rel (d := 229) I_17 sX_0 (by decide +kernel)) dX11_tells_112 ?_
                obtain ⟨x_24, f_x_24, b_x_24⟩ := dg_I.int (i := 229) (k := 8) (lo := (-2147483648)) (hi := 2147483647) I_17 sX_229 (by decide +kernel)
                refine dg_get (C := RX0) (T := TX0) (N := 9) hx hb hts (fun w h => bw_mem (wU_X0 w h)) hown K hP sX_229 rfl 8 (dk_dq rfl) (hts _ (bw_mem wB_1032)) (fun _ h9 => h9) (v := .int x_24) f_x_24 dX11_tells_115 ?_
                refine W.widen (k := 0) (n := 0) (Nat.le_of_ble_eq_true rfl) (Nat.le_of_ble_eq_true rfl) ?_
                exact dg_iret hx hb hr hlocks rfl hP hS ⟨I_17, M_17, Z2_17, Z3_17, Z4_17, Z6_17, G_17, ⟨congrArg Prod.fst (Eq.symm (Eq.trans hF_1 (F_d_tells_p3 (zI_eq f_x_19) c_20 (dk_neT jc_21 (k := 0) (b := 0) (by decide +kernel) (dk_dq rfl)) (dk_neT jc_21 (k := 1) (b := 1) (by decide +kernel) (dk_dq rfl)) (dk_eqT jc_21 (k := 2) (by decide +kernel)) (zI_eq f_x_24)))), congrArg Prod.snd (Eq.symm (Eq.trans hF_1 (F_d_tells_p3 (zI_eq f_x_19) c_20 (dk_neT jc_21 (k := 0) (b := 0) (by decide +kernel) (dk_dq rfl)) (dk_neT jc_21 (k := 1) (b := 1) (by decide +kernel) (dk_dq rfl)) (dk_eqT jc_21 (k := 2) (by decide +kernel)) (zI_eq f_x_24))))⟩, trivial⟩ dX11_tells_118
          · have jc_20 := dk_eqc (k := (-1)) (by decide +kernel) c_20
            refine lv_iconst (v := (-1)) hx hb dX11_tells_63 (by decide +kernel) ?_
            refine W.widen (k := 0) (n := 0) (Nat.le_of_ble_eq_true rfl) (Nat.le_of_ble_eq_true rfl) ?_
            exact dg_iret hx hb hr hlocks rfl hP hS ⟨I_17, M_17, Z2_17, Z3_17, Z4_17, Z6_17, G_17, ⟨congrArg Prod.fst (Eq.symm (Eq.trans hF_1 (F_d_tells_p4 (zI_eq f_x_19) c_20))), congrArg Prod.snd (Eq.symm (Eq.trans hF_1 (F_d_tells_p4 (zI_eq f_x_19) c_20)))⟩, trivial⟩ dX11_tells_64
      refine lv_if_ne (tgt := 52) hx hb dX11_tells_19 (dk_dq rfl) (fun c_25 => ?_) (fun c_25 => ?_)
      · have jc_25 := dk_neqc (k := 0) (by decide +kernel) c_25
        exact J_18   S I M_0 dg_FG.rf Z2 Z3 Z4 Z6 (F_d_tells_p5 w_2_1 c_3 (zI_eq f_x_4) c_25) _ _ hP hS _ (lv_sub hl [0, 1] rfl)
      · as_aux_lemma =>
          have jc_25 := dk_eqc (k := 0) (by decide +kernel) c_25
          refine lv_aload_n hx hb dX11_tells_22 rfl (lv_at hl 0 rfl) ?_
          refine dg_get (C := RX11) (T := TX11) (N := 13) hx hb hts (fun w h => bw_mem (wU_X11 w h)) hown K hP sX_0 rfl 11 (dk_dq rfl) (hts _ (bw_mem wB_842)) (fun _ h9 => h9) (v := .ref (o + 229)) (show S.1 0 11 = .ref (o + 229) from dg_I.rel (d := 229) I sX_0 (by decide +kernel)) dX11_tells_23 ?_
          refine lv_aload_n hx hb dX11_tells_26 rfl (lv_at hl 0 rfl) ?_
          obtain ⟨d_26, hk_d_26, f_d_26⟩ := dg_I.one (i := 0) (k := 6) (d := 0) I sX_0 (by decide +kernel)
          have hk_d_26 : rX d_26 := hk_d_26
          refine dg_get (C := RX11) (T := TX11) (N := 13) hx hb hts (fun w h => bw_mem (wU_X11 w h)) hown K hP sX_0 rfl 6 (dk_dq rfl) (hts _ (bw_mem wB_286)) (fun _ h9 => h9) (v := .ref (o + d_26)) f_d_26 dX11_tells_27 ?_
          refine lv_aload_n hx hb dX11_tells_30 rfl (lv_at hl 0 rfl) ?_
          refine dg_get (C := RX11) (T := TX11) (N := 13) hx hb hts (fun w h => bw_mem (wU_X11 w h)) hown K hP sX_0 rfl 1 (dk_dq rfl) (hts _ (bw_mem wB_287)) (fun _ h9 => h9) (v := .ref (o + 3)) (show S.1 0 1 = .ref (o + 3) from dg_I.rel (d := 3) I sX_0 (by decide +kernel)) dX11_tells_31 ?_
          refine lv_aload_n hx hb dX11_tells_34 rfl (lv_at hl 0 rfl) ?_
          refine dg_get (C := RX11) (T := TX11) (N := 13) hx hb hts (fun w h => bw_mem (wU_X11 w h)) hown K hP sX_0 rfl 11 (dk_dq rfl) (hts _ (bw_mem wB_842)) (fun _ h9 => h9) (v := .ref (o + 229)) (show S.1 0 11 = .ref (o + 229) from dg_I.rel (d := 229) I sX_0 (by decide +kernel)) dX11_tells_35 ?_
          refine lv_aload_n hx hb dX11_tells_38 rfl (lv_at hl 0 rfl) ?_
          refine dg_get (C := RX11) (T := TX11) (N := 13) hx hb hts (fun w h => bw_mem (wU_X11 w h)) hown K hP sX_0 rfl 6 (dk_dq rfl) (hts _ (bw_mem wB_286)) (fun _ h9 => h9) (v := .ref (o + d_26)) f_d_26 dX11_tells_39 ?_
          refine lv_aload_n hx hb dX11_tells_42 rfl (lv_at hl 0 rfl) ?_
          refine dg_get (C := RX11) (T := TX11) (N := 13) hx hb hts (fun w h => bw_mem (wU_X11 w h)) hown K hP sX_0 rfl 1 (dk_dq rfl) (hts _ (bw_mem wB_287)) (fun _ h9 => h9) (v := .ref (o + 3)) (show S.1 0 1 = .ref (o + 3) from dg_I.rel (d := 3) I sX_0 (by decide +kernel)) dX11_tells_43 ?_
          refine dg_calli hS hA1 hA (va_runV (As := [.ref (o + d_26), .ref (o + 3)]) (rest := [.ref (o + 3), .ref (o + d_26), .ref (o + 229)]) F (c_e_reachBits l g D o S d_26 hk_d_26 3 (by unfold pX; decide : pX 3) Z6 Z2 Z3 I H.size) (cwV 2 hts (bw_V wB_1022 wB_1023 wB_1024 wB_730 wB_1021) rfl rfl rfl (by decide +kernel) ⟨Nat.le_of_ble_eq_true rfl, Nat.le_of_ble_eq_true rfl⟩) (dg_preV sX_229 rfl K ST hP hS hA1 hA) rfl rfl hl.1 rfl (lv_room (Nat.le_of_ble_eq_true rfl)) dX11_tells_46 ⟨Nat.le_of_ble_eq_true rfl, Nat.le_of_ble_eq_true rfl⟩) (fun x_27 S_28 hw_28 H locs hP hS => ?_)
          obtain ⟨I_28, m_28, w_28_0, w_28_1, w_28_2, w_28_3, -⟩ := hw_28
          have M_28 := dg_sm.tr M_0 m_28 (dk_dq rfl) (dk_dq rfl)
          refine dg_callv hS hA1 hA (va_runV (As := [.ref (o + d_26), .ref (o + 3), .int x_27]) (rest := []) F (c_e_seekTelling l g D o S_28 d_26 hk_d_26 3 (by unfold pX; decide : pX 3) x_27 (Z6X.keep Z6 m_28 w_28_2) w_28_0 w_28_1 I_28 H.size) (cwV 3 hts (bw_V wB_1027 wB_1028 wB_1029 wB_730 wB_1026) rfl rfl rfl (by decide +kernel) ⟨Nat.le_of_ble_eq_true rfl, Nat.le_of_ble_eq_true rfl⟩) (dg_preV sX_229 rfl K ST hP hS hA1 hA) rfl rfl hl.1 rfl (lv_room (Nat.le_of_ble_eq_true rfl)) dX11_tells_49 ⟨Nat.le_of_ble_eq_true rfl, Nat.le_of_ble_eq_true rfl⟩) (fun S_29 hw_29 H locs hP hS => ?_)
          obtain ⟨I_29, m_29, w_29_0, w_29_1, w_29_2, w_29_3, -⟩ := hw_29
          have M_29 := dg_sm.tr M_28 m_29 (dk_dq rfl) (dk_dq rfl)
          exact J_18   S_29 I_29 M_29 (dg_FG.tr w_28_2 w_29_2) w_29_0 w_29_1 (Z4X.keep (Z4X.keep Z4 m_28 w_28_2 (dk_dq rfl) (dk_dq rfl)) m_29 w_29_2 (dk_dq rfl) (dk_dq rfl)) (Z6X.keep (Z6X.keep Z6 m_28 w_28_2) m_29 w_29_2) (F_d_tells_p6 w_2_1 c_3 (zI_eq f_x_4) c_25 (zR_eq f_d_26) w_28_3.1 w_28_3.2 w_29_3) _ _ hP hS _ (lv_sub hl [0, 1] rfl)
  · have jc_3 := dk_eqc (k := 0) (by decide +kernel) c_3
    refine lv_iconst (v := (-1)) hx hb dX11_tells_10 (by decide +kernel) ?_
    refine W.widen (k := 0) (n := 0) (Nat.le_of_ble_eq_true rfl) (Nat.le_of_ble_eq_true rfl) ?_
    exact dg_iret hx hb hr hlocks rfl hP hS ⟨I, M_0, Z2, Z3, Z4, Z6, dg_FG.rf, ⟨congrArg Prod.fst (Eq.symm (F_d_tells_p7 w_2_1 c_3)), congrArg Prod.snd (Eq.symm (F_d_tells_p7 w_2_1 c_3))⟩, trivial⟩ dX11_tells_11
