/-! 51.ctors.lean.txt -/
theorem dX0_init_0 : decode cX0_init 0 = .ok (.aload_n 0, 1) := dk_o42 (by decide +kernel)
theorem dX0_init_1 : decode cX0_init 1 = .ok (.invokespecial 3, 3) := dk_o183 (by decide +kernel)
theorem dX0_init_4 : decode cX0_init 4 = .ok (.aload_n 0, 1) := dk_o42 (by decide +kernel)
theorem dX0_init_5 : decode cX0_init 5 = .ok (.bipush 64, 2) := dk_o16 (by decide +kernel)
theorem dX0_init_7 : decode cX0_init 7 = .ok (.newarray .int, 2) := by decide +kernel
theorem dX0_init_9 : decode cX0_init 9 = .ok (.putfield 9, 3) := dk_o181 (by decide +kernel)
theorem dX0_init_12 : decode cX0_init 12 = .ok (.aload_n 0, 1) := dk_o42 (by decide +kernel)
theorem dX0_init_13 : decode cX0_init 13 = .ok (.bipush 21, 2) := dk_o16 (by decide +kernel)
theorem dX0_init_15 : decode cX0_init 15 = .ok (.anewarray 15, 3) := dk_o189 (by decide +kernel)
theorem dX0_init_18 : decode cX0_init 18 = .ok (.putfield 17, 3) := dk_o181 (by decide +kernel)
theorem dX0_init_21 : decode cX0_init 21 = .ok (.aload_n 0, 1) := dk_o42 (by decide +kernel)
theorem dX0_init_22 : decode cX0_init 22 = .ok (.bipush 11, 2) := dk_o16 (by decide +kernel)
theorem dX0_init_24 : decode cX0_init 24 = .ok (.newarray .int, 2) := by decide +kernel
theorem dX0_init_26 : decode cX0_init 26 = .ok (.putfield 21, 3) := dk_o181 (by decide +kernel)
theorem dX0_init_29 : decode cX0_init 29 = .ok (.aload_n 0, 1) := dk_o42 (by decide +kernel)
theorem dX0_init_30 : decode cX0_init 30 = .ok (.iconst (-1), 1) := dk_o2 (by decide +kernel)
theorem dX0_init_31 : decode cX0_init 31 = .ok (.putfield 24, 3) := dk_o181 (by decide +kernel)
theorem dX0_init_34 : decode cX0_init 34 = .ok (.aload_n 0, 1) := dk_o42 (by decide +kernel)
theorem dX0_init_35 : decode cX0_init 35 = .ok (.iconst (-1), 1) := dk_o2 (by decide +kernel)
theorem dX0_init_36 : decode cX0_init 36 = .ok (.putfield 28, 3) := dk_o181 (by decide +kernel)
theorem dX0_init_39 : decode cX0_init 39 = .ok (.aload_n 0, 1) := dk_o42 (by decide +kernel)
theorem dX0_init_40 : decode cX0_init 40 = .ok (.iconst (-1), 1) := dk_o2 (by decide +kernel)
theorem dX0_init_41 : decode cX0_init 41 = .ok (.putfield 31, 3) := dk_o181 (by decide +kernel)
theorem dX0_init_44 : decode cX0_init 44 = .ok (.aload_n 0, 1) := dk_o42 (by decide +kernel)
theorem dX0_init_45 : decode cX0_init 45 = .ok (.aload_n 1, 1) := dk_o43 (by decide +kernel)
theorem dX0_init_46 : decode cX0_init 46 = .ok (.putfield 34, 3) := dk_o181 (by decide +kernel)
theorem dX0_init_49 : decode cX0_init 49 = .ok (.iconst 0, 1) := dk_o3 (by decide +kernel)
theorem dX0_init_50 : decode cX0_init 50 = .ok (.istore_n 2, 1) := dk_o61 (by decide +kernel)
theorem dX0_init_51 : decode cX0_init 51 = .ok (.iload_n 2, 1) := dk_o28 (by decide +kernel)
theorem dX0_init_52 : decode cX0_init 52 = .ok (.bipush 21, 2) := dk_o16 (by decide +kernel)
theorem dX0_init_54 : decode cX0_init 54 = .ok (.if_icmp .ge 22, 3) := dk_o162 (by decide +kernel)
theorem dX0_init_57 : decode cX0_init 57 = .ok (.aload_n 0, 1) := dk_o42 (by decide +kernel)
theorem dX0_init_58 : decode cX0_init 58 = .ok (.getfield 17, 3) := dk_o180 (by decide +kernel)
theorem dX0_init_61 : decode cX0_init 61 = .ok (.iload_n 2, 1) := dk_o28 (by decide +kernel)
theorem dX0_init_62 : decode cX0_init 62 = .ok (.new 15, 3) := dk_o187 (by decide +kernel)
theorem dX0_init_65 : decode cX0_init 65 = .ok (.dup, 1) := dk_o89 (by decide +kernel)
theorem dX0_init_66 : decode cX0_init 66 = .ok (.invokespecial 38, 3) := dk_o183 (by decide +kernel)
theorem dX0_init_69 : decode cX0_init 69 = .ok (.aastore, 1) := dk_o83 (by decide +kernel)
theorem dX0_init_70 : decode cX0_init 70 = .ok (.iinc 2 1, 3) := dk_o132 (by decide +kernel)
theorem dX0_init_73 : decode cX0_init 73 = .ok (.goto (-22), 3) := dk_o167 (by decide +kernel)
theorem dX0_init_76 : decode cX0_init 76 = .ok (.return_, 1) := dk_o177 (by decide +kernel)
theorem dX1_init_0 : decode cX1_init 0 = .ok (.aload_n 0, 1) := dk_o42 (by decide +kernel)
theorem dX1_init_1 : decode cX1_init 1 = .ok (.invokespecial 3, 3) := dk_o183 (by decide +kernel)
theorem dX1_init_4 : decode cX1_init 4 = .ok (.aload_n 0, 1) := dk_o42 (by decide +kernel)
theorem dX1_init_5 : decode cX1_init 5 = .ok (.new 9, 3) := dk_o187 (by decide +kernel)
theorem dX1_init_8 : decode cX1_init 8 = .ok (.dup, 1) := dk_o89 (by decide +kernel)
theorem dX1_init_9 : decode cX1_init 9 = .ok (.invokespecial 11, 3) := dk_o183 (by decide +kernel)
theorem dX1_init_12 : decode cX1_init 12 = .ok (.putfield 12, 3) := dk_o181 (by decide +kernel)
theorem dX1_init_15 : decode cX1_init 15 = .ok (.aload_n 0, 1) := dk_o42 (by decide +kernel)
theorem dX1_init_16 : decode cX1_init 16 = .ok (.iconst (-1), 1) := dk_o2 (by decide +kernel)
theorem dX1_init_17 : decode cX1_init 17 = .ok (.putfield 18, 3) := dk_o181 (by decide +kernel)
theorem dX1_init_20 : decode cX1_init 20 = .ok (.aload_n 0, 1) := dk_o42 (by decide +kernel)
theorem dX1_init_21 : decode cX1_init 21 = .ok (.iconst (-1), 1) := dk_o2 (by decide +kernel)
theorem dX1_init_22 : decode cX1_init 22 = .ok (.putfield 22, 3) := dk_o181 (by decide +kernel)
theorem dX1_init_25 : decode cX1_init 25 = .ok (.aload_n 0, 1) := dk_o42 (by decide +kernel)
theorem dX1_init_26 : decode cX1_init 26 = .ok (.iconst (-1), 1) := dk_o2 (by decide +kernel)
theorem dX1_init_27 : decode cX1_init 27 = .ok (.putfield 25, 3) := dk_o181 (by decide +kernel)
theorem dX1_init_30 : decode cX1_init 30 = .ok (.aload_n 0, 1) := dk_o42 (by decide +kernel)
theorem dX1_init_31 : decode cX1_init 31 = .ok (.iconst (-1), 1) := dk_o2 (by decide +kernel)
theorem dX1_init_32 : decode cX1_init 32 = .ok (.putfield 28, 3) := dk_o181 (by decide +kernel)
theorem dX1_init_35 : decode cX1_init 35 = .ok (.aload_n 0, 1) := dk_o42 (by decide +kernel)
theorem dX1_init_36 : decode cX1_init 36 = .ok (.iconst (-1), 1) := dk_o2 (by decide +kernel)
theorem dX1_init_37 : decode cX1_init 37 = .ok (.putfield 31, 3) := dk_o181 (by decide +kernel)
theorem dX1_init_40 : decode cX1_init 40 = .ok (.aload_n 0, 1) := dk_o42 (by decide +kernel)
theorem dX1_init_41 : decode cX1_init 41 = .ok (.aload_n 1, 1) := dk_o43 (by decide +kernel)
theorem dX1_init_42 : decode cX1_init 42 = .ok (.putfield 34, 3) := dk_o181 (by decide +kernel)
theorem dX1_init_45 : decode cX1_init 45 = .ok (.return_, 1) := dk_o177 (by decide +kernel)
theorem dX2_init_0 : decode cX2_init 0 = .ok (.aload_n 0, 1) := dk_o42 (by decide +kernel)
theorem dX2_init_1 : decode cX2_init 1 = .ok (.invokespecial 3, 3) := dk_o183 (by decide +kernel)
theorem dX2_init_4 : decode cX2_init 4 = .ok (.aload_n 0, 1) := dk_o42 (by decide +kernel)
theorem dX2_init_5 : decode cX2_init 5 = .ok (.iconst (-1), 1) := dk_o2 (by decide +kernel)
theorem dX2_init_6 : decode cX2_init 6 = .ok (.putfield 9, 3) := dk_o181 (by decide +kernel)
theorem dX2_init_9 : decode cX2_init 9 = .ok (.aload_n 0, 1) := dk_o42 (by decide +kernel)
theorem dX2_init_10 : decode cX2_init 10 = .ok (.bipush 72, 2) := dk_o16 (by decide +kernel)
theorem dX2_init_12 : decode cX2_init 12 = .ok (.newarray .int, 2) := by decide +kernel
theorem dX2_init_14 : decode cX2_init 14 = .ok (.putfield 15, 3) := dk_o181 (by decide +kernel)
theorem dX2_init_17 : decode cX2_init 17 = .ok (.aload_n 0, 1) := dk_o42 (by decide +kernel)
theorem dX2_init_18 : decode cX2_init 18 = .ok (.bipush 6, 2) := dk_o16 (by decide +kernel)
theorem dX2_init_20 : decode cX2_init 20 = .ok (.newarray .int, 2) := by decide +kernel
theorem dX2_init_22 : decode cX2_init 22 = .ok (.putfield 19, 3) := dk_o181 (by decide +kernel)
theorem dX2_init_25 : decode cX2_init 25 = .ok (.aload_n 0, 1) := dk_o42 (by decide +kernel)
theorem dX2_init_26 : decode cX2_init 26 = .ok (.bipush 16, 2) := dk_o16 (by decide +kernel)
theorem dX2_init_28 : decode cX2_init 28 = .ok (.newarray .int, 2) := by decide +kernel
theorem dX2_init_30 : decode cX2_init 30 = .ok (.putfield 22, 3) := dk_o181 (by decide +kernel)
theorem dX2_init_33 : decode cX2_init 33 = .ok (.aload_n 0, 1) := dk_o42 (by decide +kernel)
theorem dX2_init_34 : decode cX2_init 34 = .ok (.bipush 16, 2) := dk_o16 (by decide +kernel)
theorem dX2_init_36 : decode cX2_init 36 = .ok (.newarray .int, 2) := by decide +kernel
theorem dX2_init_38 : decode cX2_init 38 = .ok (.putfield 25, 3) := dk_o181 (by decide +kernel)
theorem dX2_init_41 : decode cX2_init 41 = .ok (.aload_n 0, 1) := dk_o42 (by decide +kernel)
theorem dX2_init_42 : decode cX2_init 42 = .ok (.iconst 5, 1) := dk_o8 (by decide +kernel)
theorem dX2_init_43 : decode cX2_init 43 = .ok (.newarray .int, 2) := by decide +kernel
theorem dX2_init_45 : decode cX2_init 45 = .ok (.putfield 28, 3) := dk_o181 (by decide +kernel)
theorem dX2_init_48 : decode cX2_init 48 = .ok (.aload_n 0, 1) := dk_o42 (by decide +kernel)
theorem dX2_init_49 : decode cX2_init 49 = .ok (.iconst 5, 1) := dk_o8 (by decide +kernel)
theorem dX2_init_50 : decode cX2_init 50 = .ok (.newarray .int, 2) := by decide +kernel
theorem dX2_init_52 : decode cX2_init 52 = .ok (.putfield 31, 3) := dk_o181 (by decide +kernel)
theorem dX2_init_55 : decode cX2_init 55 = .ok (.aload_n 0, 1) := dk_o42 (by decide +kernel)
theorem dX2_init_56 : decode cX2_init 56 = .ok (.iconst 5, 1) := dk_o8 (by decide +kernel)
theorem dX2_init_57 : decode cX2_init 57 = .ok (.newarray .int, 2) := by decide +kernel
theorem dX2_init_59 : decode cX2_init 59 = .ok (.putfield 34, 3) := dk_o181 (by decide +kernel)
theorem dX2_init_62 : decode cX2_init 62 = .ok (.aload_n 0, 1) := dk_o42 (by decide +kernel)
theorem dX2_init_63 : decode cX2_init 63 = .ok (.iconst 5, 1) := dk_o8 (by decide +kernel)
theorem dX2_init_64 : decode cX2_init 64 = .ok (.newarray .int, 2) := by decide +kernel
theorem dX2_init_66 : decode cX2_init 66 = .ok (.putfield 37, 3) := dk_o181 (by decide +kernel)
theorem dX2_init_69 : decode cX2_init 69 = .ok (.aload_n 0, 1) := dk_o42 (by decide +kernel)
theorem dX2_init_70 : decode cX2_init 70 = .ok (.sipush 1600, 3) := dk_o17 (by decide +kernel)
theorem dX2_init_73 : decode cX2_init 73 = .ok (.newarray .int, 2) := by decide +kernel
theorem dX2_init_75 : decode cX2_init 75 = .ok (.putfield 40, 3) := dk_o181 (by decide +kernel)
theorem dX2_init_78 : decode cX2_init 78 = .ok (.aload_n 0, 1) := dk_o42 (by decide +kernel)
theorem dX2_init_79 : decode cX2_init 79 = .ok (.iconst 3, 1) := dk_o6 (by decide +kernel)
theorem dX2_init_80 : decode cX2_init 80 = .ok (.newarray .int, 2) := by decide +kernel
theorem dX2_init_82 : decode cX2_init 82 = .ok (.putfield 43, 3) := dk_o181 (by decide +kernel)
theorem dX2_init_85 : decode cX2_init 85 = .ok (.aload_n 0, 1) := dk_o42 (by decide +kernel)
theorem dX2_init_86 : decode cX2_init 86 = .ok (.iconst 3, 1) := dk_o6 (by decide +kernel)
theorem dX2_init_87 : decode cX2_init 87 = .ok (.newarray .int, 2) := by decide +kernel
theorem dX2_init_89 : decode cX2_init 89 = .ok (.putfield 46, 3) := dk_o181 (by decide +kernel)
theorem dX2_init_92 : decode cX2_init 92 = .ok (.return_, 1) := dk_o177 (by decide +kernel)
theorem dX3_init_0 : decode cX3_init 0 = .ok (.aload_n 0, 1) := dk_o42 (by decide +kernel)
theorem dX3_init_1 : decode cX3_init 1 = .ok (.invokespecial 3, 3) := dk_o183 (by decide +kernel)
theorem dX3_init_4 : decode cX3_init 4 = .ok (.aload_n 0, 1) := dk_o42 (by decide +kernel)
theorem dX3_init_5 : decode cX3_init 5 = .ok (.sipush 160, 3) := dk_o17 (by decide +kernel)
theorem dX3_init_8 : decode cX3_init 8 = .ok (.newarray .int, 2) := by decide +kernel
theorem dX3_init_10 : decode cX3_init 10 = .ok (.putfield 9, 3) := dk_o181 (by decide +kernel)
theorem dX3_init_13 : decode cX3_init 13 = .ok (.aload_n 0, 1) := dk_o42 (by decide +kernel)
theorem dX3_init_14 : decode cX3_init 14 = .ok (.bipush 20, 2) := dk_o16 (by decide +kernel)
theorem dX3_init_16 : decode cX3_init 16 = .ok (.anewarray 15, 3) := dk_o189 (by decide +kernel)
theorem dX3_init_19 : decode cX3_init 19 = .ok (.putfield 17, 3) := dk_o181 (by decide +kernel)
theorem dX3_init_22 : decode cX3_init 22 = .ok (.aload_n 0, 1) := dk_o42 (by decide +kernel)
theorem dX3_init_23 : decode cX3_init 23 = .ok (.bipush 20, 2) := dk_o16 (by decide +kernel)
theorem dX3_init_25 : decode cX3_init 25 = .ok (.sipush 160, 3) := dk_o17 (by decide +kernel)
theorem dX3_init_28 : decode cX3_init 28 = .ok (.multianewarray 21 2, 4) := by decide +kernel
theorem dX3_init_32 : decode cX3_init 32 = .ok (.putfield 23, 3) := dk_o181 (by decide +kernel)
theorem dX3_init_35 : decode cX3_init 35 = .ok (.aload_n 0, 1) := dk_o42 (by decide +kernel)
theorem dX3_init_36 : decode cX3_init 36 = .ok (.bipush 20, 2) := dk_o16 (by decide +kernel)
theorem dX3_init_38 : decode cX3_init 38 = .ok (.newarray .int, 2) := by decide +kernel
theorem dX3_init_40 : decode cX3_init 40 = .ok (.putfield 26, 3) := dk_o181 (by decide +kernel)
theorem dX3_init_43 : decode cX3_init 43 = .ok (.iconst 0, 1) := dk_o3 (by decide +kernel)
theorem dX3_init_44 : decode cX3_init 44 = .ok (.istore_n 1, 1) := dk_o60 (by decide +kernel)
theorem dX3_init_45 : decode cX3_init 45 = .ok (.iload_n 1, 1) := dk_o27 (by decide +kernel)
theorem dX3_init_46 : decode cX3_init 46 = .ok (.bipush 20, 2) := dk_o16 (by decide +kernel)
theorem dX3_init_48 : decode cX3_init 48 = .ok (.if_icmp .ge 22, 3) := dk_o162 (by decide +kernel)
theorem dX3_init_51 : decode cX3_init 51 = .ok (.aload_n 0, 1) := dk_o42 (by decide +kernel)
theorem dX3_init_52 : decode cX3_init 52 = .ok (.getfield 17, 3) := dk_o180 (by decide +kernel)
theorem dX3_init_55 : decode cX3_init 55 = .ok (.iload_n 1, 1) := dk_o27 (by decide +kernel)
theorem dX3_init_56 : decode cX3_init 56 = .ok (.new 15, 3) := dk_o187 (by decide +kernel)
theorem dX3_init_59 : decode cX3_init 59 = .ok (.dup, 1) := dk_o89 (by decide +kernel)
theorem dX3_init_60 : decode cX3_init 60 = .ok (.invokespecial 29, 3) := dk_o183 (by decide +kernel)
theorem dX3_init_63 : decode cX3_init 63 = .ok (.aastore, 1) := dk_o83 (by decide +kernel)
theorem dX3_init_64 : decode cX3_init 64 = .ok (.iinc 1 1, 3) := dk_o132 (by decide +kernel)
theorem dX3_init_67 : decode cX3_init 67 = .ok (.goto (-22), 3) := dk_o167 (by decide +kernel)
theorem dX3_init_70 : decode cX3_init 70 = .ok (.return_, 1) := dk_o177 (by decide +kernel)
theorem dX4_init_0 : decode cX4_init 0 = .ok (.aload_n 0, 1) := dk_o42 (by decide +kernel)
theorem dX4_init_1 : decode cX4_init 1 = .ok (.invokespecial 3, 3) := dk_o183 (by decide +kernel)
theorem dX4_init_4 : decode cX4_init 4 = .ok (.aload_n 0, 1) := dk_o42 (by decide +kernel)
theorem dX4_init_5 : decode cX4_init 5 = .ok (.bipush 124, 2) := dk_o16 (by decide +kernel)
theorem dX4_init_7 : decode cX4_init 7 = .ok (.newarray .int, 2) := by decide +kernel
theorem dX4_init_9 : decode cX4_init 9 = .ok (.putfield 9, 3) := dk_o181 (by decide +kernel)
theorem dX4_init_12 : decode cX4_init 12 = .ok (.aload_n 0, 1) := dk_o42 (by decide +kernel)
theorem dX4_init_13 : decode cX4_init 13 = .ok (.aload_n 1, 1) := dk_o43 (by decide +kernel)
theorem dX4_init_14 : decode cX4_init 14 = .ok (.putfield 15, 3) := dk_o181 (by decide +kernel)
theorem dX4_init_17 : decode cX4_init 17 = .ok (.return_, 1) := dk_o177 (by decide +kernel)
theorem dX5_init_0 : decode cX5_init 0 = .ok (.aload_n 0, 1) := dk_o42 (by decide +kernel)
theorem dX5_init_1 : decode cX5_init 1 = .ok (.invokespecial 3, 3) := dk_o183 (by decide +kernel)
theorem dX5_init_4 : decode cX5_init 4 = .ok (.aload_n 0, 1) := dk_o42 (by decide +kernel)
theorem dX5_init_5 : decode cX5_init 5 = .ok (.bipush 72, 2) := dk_o16 (by decide +kernel)
theorem dX5_init_7 : decode cX5_init 7 = .ok (.newarray .int, 2) := by decide +kernel
theorem dX5_init_9 : decode cX5_init 9 = .ok (.putfield 9, 3) := dk_o181 (by decide +kernel)
theorem dX5_init_12 : decode cX5_init 12 = .ok (.aload_n 0, 1) := dk_o42 (by decide +kernel)
theorem dX5_init_13 : decode cX5_init 13 = .ok (.bipush 6, 2) := dk_o16 (by decide +kernel)
theorem dX5_init_15 : decode cX5_init 15 = .ok (.newarray .int, 2) := by decide +kernel
theorem dX5_init_17 : decode cX5_init 17 = .ok (.putfield 15, 3) := dk_o181 (by decide +kernel)
theorem dX5_init_20 : decode cX5_init 20 = .ok (.aload_n 0, 1) := dk_o42 (by decide +kernel)
theorem dX5_init_21 : decode cX5_init 21 = .ok (.bipush 16, 2) := dk_o16 (by decide +kernel)
theorem dX5_init_23 : decode cX5_init 23 = .ok (.newarray .int, 2) := by decide +kernel
theorem dX5_init_25 : decode cX5_init 25 = .ok (.putfield 18, 3) := dk_o181 (by decide +kernel)
theorem dX5_init_28 : decode cX5_init 28 = .ok (.aload_n 0, 1) := dk_o42 (by decide +kernel)
theorem dX5_init_29 : decode cX5_init 29 = .ok (.bipush 16, 2) := dk_o16 (by decide +kernel)
theorem dX5_init_31 : decode cX5_init 31 = .ok (.newarray .int, 2) := by decide +kernel
theorem dX5_init_33 : decode cX5_init 33 = .ok (.putfield 21, 3) := dk_o181 (by decide +kernel)
theorem dX5_init_36 : decode cX5_init 36 = .ok (.aload_n 0, 1) := dk_o42 (by decide +kernel)
theorem dX5_init_37 : decode cX5_init 37 = .ok (.iconst 5, 1) := dk_o8 (by decide +kernel)
theorem dX5_init_38 : decode cX5_init 38 = .ok (.newarray .int, 2) := by decide +kernel
theorem dX5_init_40 : decode cX5_init 40 = .ok (.putfield 24, 3) := dk_o181 (by decide +kernel)
theorem dX5_init_43 : decode cX5_init 43 = .ok (.aload_n 0, 1) := dk_o42 (by decide +kernel)
theorem dX5_init_44 : decode cX5_init 44 = .ok (.bipush 10, 2) := dk_o16 (by decide +kernel)
theorem dX5_init_46 : decode cX5_init 46 = .ok (.newarray .int, 2) := by decide +kernel
theorem dX5_init_48 : decode cX5_init 48 = .ok (.putfield 27, 3) := dk_o181 (by decide +kernel)
theorem dX5_init_51 : decode cX5_init 51 = .ok (.return_, 1) := dk_o177 (by decide +kernel)
theorem dX6_init_0 : decode cX6_init 0 = .ok (.aload_n 0, 1) := dk_o42 (by decide +kernel)
theorem dX6_init_1 : decode cX6_init 1 = .ok (.invokespecial 3, 3) := dk_o183 (by decide +kernel)
theorem dX6_init_4 : decode cX6_init 4 = .ok (.aload_n 0, 1) := dk_o42 (by decide +kernel)
theorem dX6_init_5 : decode cX6_init 5 = .ok (.iconst (-1), 1) := dk_o2 (by decide +kernel)
theorem dX6_init_6 : decode cX6_init 6 = .ok (.putfield 9, 3) := dk_o181 (by decide +kernel)
theorem dX6_init_9 : decode cX6_init 9 = .ok (.aload_n 0, 1) := dk_o42 (by decide +kernel)
theorem dX6_init_10 : decode cX6_init 10 = .ok (.new 15, 3) := dk_o187 (by decide +kernel)
theorem dX6_init_13 : decode cX6_init 13 = .ok (.dup, 1) := dk_o89 (by decide +kernel)
theorem dX6_init_14 : decode cX6_init 14 = .ok (.invokespecial 17, 3) := dk_o183 (by decide +kernel)
theorem dX6_init_17 : decode cX6_init 17 = .ok (.putfield 18, 3) := dk_o181 (by decide +kernel)
theorem dX6_init_20 : decode cX6_init 20 = .ok (.aload_n 0, 1) := dk_o42 (by decide +kernel)
theorem dX6_init_21 : decode cX6_init 21 = .ok (.aload_n 1, 1) := dk_o43 (by decide +kernel)
theorem dX6_init_22 : decode cX6_init 22 = .ok (.putfield 22, 3) := dk_o181 (by decide +kernel)
theorem dX6_init_25 : decode cX6_init 25 = .ok (.return_, 1) := dk_o177 (by decide +kernel)
theorem dX7_init_0 : decode cX7_init 0 = .ok (.aload_n 0, 1) := dk_o42 (by decide +kernel)
theorem dX7_init_1 : decode cX7_init 1 = .ok (.invokespecial 3, 3) := dk_o183 (by decide +kernel)
theorem dX7_init_4 : decode cX7_init 4 = .ok (.aload_n 0, 1) := dk_o42 (by decide +kernel)
theorem dX7_init_5 : decode cX7_init 5 = .ok (.bipush 64, 2) := dk_o16 (by decide +kernel)
theorem dX7_init_7 : decode cX7_init 7 = .ok (.newarray .int, 2) := by decide +kernel
theorem dX7_init_9 : decode cX7_init 9 = .ok (.putfield 11, 3) := dk_o181 (by decide +kernel)
theorem dX7_init_12 : decode cX7_init 12 = .ok (.return_, 1) := dk_o177 (by decide +kernel)
theorem dX8_init_0 : decode cX8_init 0 = .ok (.aload_n 0, 1) := dk_o42 (by decide +kernel)
theorem dX8_init_1 : decode cX8_init 1 = .ok (.invokespecial 3, 3) := dk_o183 (by decide +kernel)
theorem dX8_init_4 : decode cX8_init 4 = .ok (.aload_n 0, 1) := dk_o42 (by decide +kernel)
theorem dX8_init_5 : decode cX8_init 5 = .ok (.sipush 1600, 3) := dk_o17 (by decide +kernel)
theorem dX8_init_8 : decode cX8_init 8 = .ok (.newarray .int, 2) := by decide +kernel
theorem dX8_init_10 : decode cX8_init 10 = .ok (.putfield 9, 3) := dk_o181 (by decide +kernel)
theorem dX8_init_13 : decode cX8_init 13 = .ok (.return_, 1) := dk_o177 (by decide +kernel)
theorem dX9_init_0 : decode cX9_init 0 = .ok (.aload_n 0, 1) := dk_o42 (by decide +kernel)
theorem dX9_init_1 : decode cX9_init 1 = .ok (.invokespecial 3, 3) := dk_o183 (by decide +kernel)
theorem dX9_init_4 : decode cX9_init 4 = .ok (.aload_n 0, 1) := dk_o42 (by decide +kernel)
theorem dX9_init_5 : decode cX9_init 5 = .ok (.sipush 1601, 3) := dk_o17 (by decide +kernel)
theorem dX9_init_8 : decode cX9_init 8 = .ok (.newarray .int, 2) := by decide +kernel
theorem dX9_init_10 : decode cX9_init 10 = .ok (.putfield 9, 3) := dk_o181 (by decide +kernel)
theorem dX9_init_13 : decode cX9_init 13 = .ok (.aload_n 0, 1) := dk_o42 (by decide +kernel)
theorem dX9_init_14 : decode cX9_init 14 = .ok (.sipush 1601, 3) := dk_o17 (by decide +kernel)
theorem dX9_init_17 : decode cX9_init 17 = .ok (.newarray .int, 2) := by decide +kernel
theorem dX9_init_19 : decode cX9_init 19 = .ok (.putfield 15, 3) := dk_o181 (by decide +kernel)
theorem dX9_init_22 : decode cX9_init 22 = .ok (.aload_n 0, 1) := dk_o42 (by decide +kernel)
theorem dX9_init_23 : decode cX9_init 23 = .ok (.sipush 1601, 3) := dk_o17 (by decide +kernel)
theorem dX9_init_26 : decode cX9_init 26 = .ok (.newarray .int, 2) := by decide +kernel
theorem dX9_init_28 : decode cX9_init 28 = .ok (.putfield 18, 3) := dk_o181 (by decide +kernel)
theorem dX9_init_31 : decode cX9_init 31 = .ok (.return_, 1) := dk_o177 (by decide +kernel)
theorem dX10_init_0 : decode cX10_init 0 = .ok (.aload_n 0, 1) := dk_o42 (by decide +kernel)
theorem dX10_init_1 : decode cX10_init 1 = .ok (.invokespecial 3, 3) := dk_o183 (by decide +kernel)
theorem dX10_init_4 : decode cX10_init 4 = .ok (.aload_n 0, 1) := dk_o42 (by decide +kernel)
theorem dX10_init_5 : decode cX10_init 5 = .ok (.new 9, 3) := dk_o187 (by decide +kernel)
theorem dX10_init_8 : decode cX10_init 8 = .ok (.dup, 1) := dk_o89 (by decide +kernel)
theorem dX10_init_9 : decode cX10_init 9 = .ok (.invokespecial 11, 3) := dk_o183 (by decide +kernel)
theorem dX10_init_12 : decode cX10_init 12 = .ok (.putfield 12, 3) := dk_o181 (by decide +kernel)
theorem dX10_init_15 : decode cX10_init 15 = .ok (.aload_n 0, 1) := dk_o42 (by decide +kernel)
theorem dX10_init_16 : decode cX10_init 16 = .ok (.bipush 72, 2) := dk_o16 (by decide +kernel)
theorem dX10_init_18 : decode cX10_init 18 = .ok (.newarray .int, 2) := by decide +kernel
theorem dX10_init_20 : decode cX10_init 20 = .ok (.putfield 18, 3) := dk_o181 (by decide +kernel)
theorem dX10_init_23 : decode cX10_init 23 = .ok (.aload_n 0, 1) := dk_o42 (by decide +kernel)
theorem dX10_init_24 : decode cX10_init 24 = .ok (.bipush 72, 2) := dk_o16 (by decide +kernel)
theorem dX10_init_26 : decode cX10_init 26 = .ok (.newarray .int, 2) := by decide +kernel
theorem dX10_init_28 : decode cX10_init 28 = .ok (.putfield 22, 3) := dk_o181 (by decide +kernel)
theorem dX10_init_31 : decode cX10_init 31 = .ok (.aload_n 0, 1) := dk_o42 (by decide +kernel)
theorem dX10_init_32 : decode cX10_init 32 = .ok (.bipush 72, 2) := dk_o16 (by decide +kernel)
theorem dX10_init_34 : decode cX10_init 34 = .ok (.newarray .int, 2) := by decide +kernel
theorem dX10_init_36 : decode cX10_init 36 = .ok (.putfield 25, 3) := dk_o181 (by decide +kernel)
theorem dX10_init_39 : decode cX10_init 39 = .ok (.aload_n 0, 1) := dk_o42 (by decide +kernel)
theorem dX10_init_40 : decode cX10_init 40 = .ok (.bipush 72, 2) := dk_o16 (by decide +kernel)
theorem dX10_init_42 : decode cX10_init 42 = .ok (.newarray .int, 2) := by decide +kernel
theorem dX10_init_44 : decode cX10_init 44 = .ok (.putfield 28, 3) := dk_o181 (by decide +kernel)
theorem dX10_init_47 : decode cX10_init 47 = .ok (.aload_n 0, 1) := dk_o42 (by decide +kernel)
theorem dX10_init_48 : decode cX10_init 48 = .ok (.iconst (-1), 1) := dk_o2 (by decide +kernel)
theorem dX10_init_49 : decode cX10_init 49 = .ok (.putfield 31, 3) := dk_o181 (by decide +kernel)
theorem dX10_init_52 : decode cX10_init 52 = .ok (.aload_n 0, 1) := dk_o42 (by decide +kernel)
theorem dX10_init_53 : decode cX10_init 53 = .ok (.iconst (-1), 1) := dk_o2 (by decide +kernel)
theorem dX10_init_54 : decode cX10_init 54 = .ok (.putfield 35, 3) := dk_o181 (by decide +kernel)
theorem dX10_init_57 : decode cX10_init 57 = .ok (.aload_n 0, 1) := dk_o42 (by decide +kernel)
theorem dX10_init_58 : decode cX10_init 58 = .ok (.iconst (-1), 1) := dk_o2 (by decide +kernel)
theorem dX10_init_59 : decode cX10_init 59 = .ok (.putfield 38, 3) := dk_o181 (by decide +kernel)
theorem dX10_init_62 : decode cX10_init 62 = .ok (.aload_n 0, 1) := dk_o42 (by decide +kernel)
theorem dX10_init_63 : decode cX10_init 63 = .ok (.aload_n 1, 1) := dk_o43 (by decide +kernel)
theorem dX10_init_64 : decode cX10_init 64 = .ok (.putfield 41, 3) := dk_o181 (by decide +kernel)
theorem dX10_init_67 : decode cX10_init 67 = .ok (.aload_n 0, 1) := dk_o42 (by decide +kernel)
theorem dX10_init_68 : decode cX10_init 68 = .ok (.aload_n 2, 1) := dk_o44 (by decide +kernel)
theorem dX10_init_69 : decode cX10_init 69 = .ok (.putfield 45, 3) := dk_o181 (by decide +kernel)
theorem dX10_init_72 : decode cX10_init 72 = .ok (.aload_n 0, 1) := dk_o42 (by decide +kernel)
theorem dX10_init_73 : decode cX10_init 73 = .ok (.iconst 1, 1) := dk_o4 (by decide +kernel)
theorem dX10_init_74 : decode cX10_init 74 = .ok (.putfield 49, 3) := dk_o181 (by decide +kernel)
theorem dX10_init_77 : decode cX10_init 77 = .ok (.return_, 1) := dk_o177 (by decide +kernel)
theorem wB_1322 : Cond.methodLink RX8 3 objectInit ∈ dgB := List.mem_filter.mpr ⟨tbl_1 _ (List.mem_of_getElem? (i := 35) (by decide +kernel)), by decide +kernel⟩
theorem wB_1323 : Cond.instanceMethod objectInit ∈ dgB := List.mem_filter.mpr ⟨tbl_1 _ (List.mem_of_getElem? (i := 28) (by decide +kernel)), by decide +kernel⟩
theorem wB_1324 : Cond.code objectInit ⟨#[0xb1]⟩ 1 none ∈ dgB := List.mem_filter.mpr ⟨tbl_1 _ (List.mem_of_getElem? (i := 29) rfl), rfl⟩
theorem wB_1325 : Cond.arrayClass .int ∈ dgB := List.mem_filter.mpr ⟨tbl_1 _ (List.mem_of_getElem? (i := 50) (by decide +kernel)), by decide +kernel⟩
theorem wB_1326 : Cond.methodLink RX5 3 objectInit ∈ dgB := List.mem_filter.mpr ⟨tbl_1 _ (List.mem_of_getElem? (i := 56) (by decide +kernel)), by decide +kernel⟩
theorem wB_1327 : Cond.methodLink RX2 3 objectInit ∈ dgB := List.mem_filter.mpr ⟨tbl_1 _ (List.mem_of_getElem? (i := 174) (by decide +kernel)), by decide +kernel⟩
theorem wB_1328 : Cond.fieldLink RX2 22 "DarkMine$Ground" "planMiners" "[I" ∈ dgB := List.mem_filter.mpr ⟨tbl_1 _ (List.mem_of_getElem? (i := 218) (by decide +kernel)), by decide +kernel⟩
theorem wB_1329 : Cond.fieldLink RX2 25 "DarkMine$Ground" "planPlaces" "[I" ∈ dgB := List.mem_filter.mpr ⟨tbl_1 _ (List.mem_of_getElem? (i := 221) (by decide +kernel)), by decide +kernel⟩
theorem wB_1330 : Cond.fieldLink RX2 31 "DarkMine$Ground" "orderGrades" "[I" ∈ dgB := List.mem_filter.mpr ⟨tbl_1 _ (List.mem_of_getElem? (i := 231) (by decide +kernel)), by decide +kernel⟩
theorem wB_1331 : Cond.fieldLink RX2 34 "DarkMine$Ground" "orderTubs" "[I" ∈ dgB := List.mem_filter.mpr ⟨tbl_1 _ (List.mem_of_getElem? (i := 234) (by decide +kernel)), by decide +kernel⟩
theorem wB_1332 : Cond.fieldLink RX2 37 "DarkMine$Ground" "orderPays" "[I" ∈ dgB := List.mem_filter.mpr ⟨tbl_1 _ (List.mem_of_getElem? (i := 237) (by decide +kernel)), by decide +kernel⟩
theorem wB_1333 : Cond.fieldLink RX2 40 "DarkMine$Ground" "steps" "[I" ∈ dgB := List.mem_filter.mpr ⟨tbl_2 _ (List.mem_of_getElem? (i := 0) (by decide +kernel)), by decide +kernel⟩
theorem wB_1334 : Cond.methodLink RX3 3 objectInit ∈ dgB := List.mem_filter.mpr ⟨tbl_1 _ (List.mem_of_getElem? (i := 111) (by decide +kernel)), by decide +kernel⟩
theorem wB_1335 : Cond.classLink RX3 15 RX5 ∈ dgB := List.mem_filter.mpr ⟨tbl_1 _ (List.mem_of_getElem? (i := 112) (by decide +kernel)), by decide +kernel⟩
theorem wB_1336 : Cond.classLink RX3 21 "[[I" ∈ dgB := List.mem_filter.mpr ⟨tbl_1 _ (List.mem_of_getElem? (i := 114) (by decide +kernel)), by decide +kernel⟩
theorem wB_1337 : Cond.instantiable RX5 8 ∈ dgB := List.mem_filter.mpr ⟨tbl_1 _ (List.mem_of_getElem? (i := 52) (by decide +kernel)), by decide +kernel⟩
theorem wB_1338 : Cond.code yX5_init cX5_init 1 none ∈ dgB := List.mem_filter.mpr ⟨tbl_1 _ (List.mem_of_getElem? (i := 55) rfl), rfl⟩
theorem wB_1339 : Cond.instanceMethod yX5_init ∈ dgB := List.mem_filter.mpr ⟨tbl_1 _ (List.mem_of_getElem? (i := 54) (by decide +kernel)), by decide +kernel⟩
theorem wB_1340 : Cond.methodLink RX4 3 objectInit ∈ dgB := List.mem_filter.mpr ⟨tbl_1 _ (List.mem_of_getElem? (i := 147) (by decide +kernel)), by decide +kernel⟩
theorem wB_1341 : Cond.methodLink RX9 3 objectInit ∈ dgB := List.mem_filter.mpr ⟨tbl_2 _ (List.mem_of_getElem? (i := 59) (by decide +kernel)), by decide +kernel⟩
theorem wB_1342 : Cond.methodLink RX6 3 objectInit ∈ dgB := List.mem_filter.mpr ⟨tbl_2 _ (List.mem_of_getElem? (i := 53) (by decide +kernel)), by decide +kernel⟩
theorem wB_1343 : Cond.classLink RX6 15 RX9 ∈ dgB := List.mem_filter.mpr ⟨tbl_2 _ (List.mem_of_getElem? (i := 54) (by decide +kernel)), by decide +kernel⟩
theorem wB_1344 : Cond.instantiable RX9 5 ∈ dgB := List.mem_filter.mpr ⟨tbl_2 _ (List.mem_of_getElem? (i := 55) (by decide +kernel)), by decide +kernel⟩
theorem wB_1345 : Cond.code yX9_init cX9_init 1 none ∈ dgB := List.mem_filter.mpr ⟨tbl_2 _ (List.mem_of_getElem? (i := 58) rfl), rfl⟩
theorem wB_1346 : Cond.instanceMethod yX9_init ∈ dgB := List.mem_filter.mpr ⟨tbl_2 _ (List.mem_of_getElem? (i := 57) (by decide +kernel)), by decide +kernel⟩
theorem wB_1347 : Cond.methodLink RX7 3 objectInit ∈ dgB := List.mem_filter.mpr ⟨tbl_2 _ (List.mem_of_getElem? (i := 117) (by decide +kernel)), by decide +kernel⟩
theorem wB_1348 : Cond.methodLink RX10 3 objectInit ∈ dgB := List.mem_filter.mpr ⟨tbl_2 _ (List.mem_of_getElem? (i := 111) (by decide +kernel)), by decide +kernel⟩
theorem wB_1349 : Cond.classLink RX10 9 RX7 ∈ dgB := List.mem_filter.mpr ⟨tbl_2 _ (List.mem_of_getElem? (i := 112) (by decide +kernel)), by decide +kernel⟩
theorem wB_1350 : Cond.instantiable RX7 8 ∈ dgB := List.mem_filter.mpr ⟨tbl_2 _ (List.mem_of_getElem? (i := 113) (by decide +kernel)), by decide +kernel⟩
theorem wB_1351 : Cond.code yX7_init cX7_init 1 none ∈ dgB := List.mem_filter.mpr ⟨tbl_2 _ (List.mem_of_getElem? (i := 116) rfl), rfl⟩
theorem wB_1352 : Cond.instanceMethod yX7_init ∈ dgB := List.mem_filter.mpr ⟨tbl_2 _ (List.mem_of_getElem? (i := 115) (by decide +kernel)), by decide +kernel⟩
theorem wB_1353 : Cond.methodLink RX1 3 objectInit ∈ dgB := List.mem_filter.mpr ⟨tbl_2 _ (List.mem_of_getElem? (i := 197) (by decide +kernel)), by decide +kernel⟩
theorem wB_1354 : Cond.classLink RX1 9 RX5 ∈ dgB := List.mem_filter.mpr ⟨tbl_2 _ (List.mem_of_getElem? (i := 198) (by decide +kernel)), by decide +kernel⟩
theorem wB_1355 : Cond.methodLink RX0 3 objectInit ∈ dgB := List.mem_filter.mpr ⟨tbl_2 _ (List.mem_of_getElem? (i := 238) (by decide +kernel)), by decide +kernel⟩
theorem wB_1356 : Cond.classLink RX0 15 RX5 ∈ dgB := List.mem_filter.mpr ⟨tbl_2 _ (List.mem_of_getElem? (i := 239) (by decide +kernel)), by decide +kernel⟩
set_option maxHeartbeats 8000000 in
set_option maxRecDepth 100000 in
theorem c_n_tape (l : Launch) (g : Nat → ClassId) (D : va_G) (o : Nat) (S : dg_S) (rf : dg_R) (h0 : ∀ b, b < 2 → S.1 1 b = defaultValue (tyX8 b)) : Met l yX8_init (bw yX8_init cX8_init 1 none) ({ frames := 1, cells := 1, slots := 1600, locals := 32 } : Room) (dk_Pc g D (dg_w g (shX.take 2) o rf S) (o + 2) [.ref (o + 1)]) (va_Qv (fun S' => dg_Jr alX tFX tAX shX o S' 1 3 ∧ dg_Ag S S' 1 ∧ S'.1 1 1 = .int 0 ∧ True) (dg_B g D (shX.take 3) o rf) (dg_A o (shX.take 2).length (o + 2))) 1 1600 (dg_A o (shX.take 2).length (o + 2)) := by
  refine dg_met (cc := cX8_init) (maxL := 1) (ret := none) (dk_dq rfl) rfl (Nat.le_of_ble_eq_true rfl) ?_
  intro p e s m args below meth c A hAe harg hx hb hr hml hts hown hlocks hin hP K hS hA1 hA ST hsz ls hl
  have hA1 := dg_Aall (hAe.trans (congrArg (fun n => dg_A o n (o + 2)) (dg_tlen (by first | decide +kernel | omega))))
  rw [← hAe]
  have F : CallFix p m c cX8_init 1 s args (bw yX8_init cX8_init 1 none) RX8 := ⟨hx, hb, hml, hown, hts⟩
  have hl : lv_has ls 1 [(0, .ref (o + 1))] := hl
  have hg_0 : dg_Ag S S 1 := dg_Ag.rf
  have hJ_0 : dg_Jr alX tFX tAX shX o S 2 2 := dg_Jr.nil
  refine lv_aload_n hx hb dX8_init_0 rfl (lv_at hl 0 rfl) ?_
  refine W.objInit hx hb hown (hts _ (bw_mem wB_1322)) (hts _ (bw_mem wB_1323)) (hts _ (bw_mem wB_1324)) rfl (by rw [hml]; exact hl.1) rfl dX8_init_1 (Nat.le_of_ble_eq_true rfl) (Nat.le_of_ble_eq_true rfl) ?_
  refine W.eq (g2 := F0 m 4 ls []) rfl ?_
  refine lv_aload_n hx hb dX8_init_4 rfl (lv_at hl 0 rfl) ?_
  refine lv_sipush (v := 1600) hx hb dX8_init_5 (by decide +kernel) ?_
  refine dg_size hP (by omega) (by first | decide +kernel | (have h9 := hk9; omega)) hsz (by omega) (fun hz => ?_)
  refine dg_newi hx hb (hts _ (bw_mem wB_1325)) K hP hS hz sX_2 (by decide +kernel) (by decide +kernel) (dk_dq rfl) (Nat.le_of_ble_eq_true rfl) (Nat.le_of_ble_eq_true rfl) dX8_init_8 (fun S_1 e_1 H hP hS hz => ?_)
  refine W.widen (k := 1) (n := 1600) (by omega) (by omega) ?_
  have hP : va_P D vwCl (dg_w g (shX.take 3) o rf S_1) H := hP
  have hg_1 : dg_Ag S S_1 1 := hg_0.tk (dg_Ag.uf e_1 (by omega))
  have hJ_1 : dg_Jr alX tFX tAX shX o S_1 2 3 := (hJ_0.Ag (dg_Ag.uf e_1 (Nat.le_refl _)) (Nat.le_refl _)).ext (dg_Jr.one (dg_Jc.row sX_2 rfl (dg_uf_at e_1) (by intro t h; have h2 : tAX[2]? = some (1, 0, 255) := (by decide +kernel); rw [h2] at h; cases h; exact fun _ => (dk_dq rfl))))
  refine dg_putF (ci := 8) (v := .ref (o + 2)) (ty := tyX8 0) (C := RX8) (T := TX8) (N := 2) hx hb hts (fun w h => bw_mem (wU_X8 w h)) tyX8 tyX8_ok nmX8 hown K hP hS (hA1 _) (dg_tk sX_1 (by omega)) rfl 0 (dk_dq rfl) (hts _ (bw_mem wB_487)) (fun _ h9 => h9) rfl hin rfl (by decide +kernel) rfl rfl dX8_init_10 (fun S_2 e_2 H locs hP hS => ?_)
  have hg_2 : dg_Ag S S_2 1 := hg_1.tk (dg_Ag.uF e_2 (by omega))
  have hJ_2 : dg_Jr alX tFX tAX shX o S_2 2 3 := hJ_1.uF e_2 (by omega)
  have hJo := (dg_Jr.one (dg_Jc.obj (L := [(3, 1, 0), (1, 0, 1600)]) sX_1 (by decide +kernel) (.cons (dg_V.r1 (dg_uF_at e_2)) (.cons (dg_V.i1 0 (((dg_uF_ne e_2 (by omega)).trans (dg_uf_F e_1 1 1)).trans ((h0 1 (dk_dq rfl)).trans rfl)) (by decide +kernel) (by decide +kernel)) (.nil))) (by intro t h; have h2 : tAX[1]? = some (0, 0, 0) := (by decide +kernel); rw [h2] at h; cases h; rfl))).ext hJ_2
  exact dg_vret hx hb hr hlocks hP hS ⟨hJo, hg_2, (((dg_uF_ne e_2 (by omega)).trans (dg_uf_F e_1 1 1)).trans ((h0 1 (dk_dq rfl)).trans rfl)), trivial⟩ dX8_init_13
set_option maxHeartbeats 8000000 in
set_option maxRecDepth 100000 in
theorem c_n_pit (l : Launch) (g : Nat → ClassId) (D : va_G) (o : Nat) (S : dg_S) (rf : dg_R) (d : Nat) (hk_d : pX d) (h0 : ∀ b, b < 8 → S.1 d b = defaultValue (tyX5 b)) : Met l yX5_init (bw yX5_init cX5_init 1 none) ({ frames := 1, cells := 6, slots := 125, locals := 32 } : Room) (dk_Pc g D (dg_w g (shX.take (d + 1)) o rf S) (o + (d + 1)) [.ref (o + d)]) (va_Qv (fun S' => dg_Jr alX tFX tAX shX o S' d (d + 7) ∧ dg_Ag S S' d ∧ S'.2.1 (d + 1) = (fun _ => 0) ∧ S'.2.1 (d + 6) = (fun _ => 0) ∧ True) (dg_B g D (shX.take (d + 7)) o rf) (dg_A o (shX.take (d + 1)).length (o + (d + 1)))) 6 125 (dg_A o (shX.take (d + 1)).length (o + (d + 1))) := by
  refine dg_met (cc := cX5_init) (maxL := 1) (ret := none) (dk_dq rfl) rfl (Nat.le_of_ble_eq_true rfl) ?_
  intro p e s m args below meth c A hAe harg hx hb hr hml hts hown hlocks hin hP K hS hA1 hA ST hsz ls hl
  have hk9 : d + 7 ≤ shX.length := pX_le _ hk_d
  have hA1 := dg_Aall (hAe.trans (congrArg (fun n => dg_A o n (o + (d + 1))) (dg_tlen (by first | decide +kernel | omega))))
  rw [← hAe]
  have F : CallFix p m c cX5_init 1 s args (bw yX5_init cX5_init 1 none) RX5 := ⟨hx, hb, hml, hown, hts⟩
  have hl : lv_has ls 1 [(0, .ref (o + d))] := hl
  have hg_0 : dg_Ag S S d := dg_Ag.rf
  have hJ_0 : dg_Jr alX tFX tAX shX o S (d + 1) (d + 1) := dg_Jr.nil
  refine lv_aload_n hx hb dX5_init_0 rfl (lv_at hl 0 rfl) ?_
  refine W.objInit hx hb hown (hts _ (bw_mem wB_1326)) (hts _ (bw_mem wB_1323)) (hts _ (bw_mem wB_1324)) rfl (by rw [hml]; exact hl.1) rfl dX5_init_1 (Nat.le_of_ble_eq_true rfl) (Nat.le_of_ble_eq_true rfl) ?_
  refine W.eq (g2 := F0 m 4 ls []) rfl ?_
  refine lv_aload_n hx hb dX5_init_4 rfl (lv_at hl 0 rfl) ?_
  refine lv_bipush (v := 72) hx hb dX5_init_5 (by decide +kernel) ?_
  refine dg_size hP (by omega) (by first | decide +kernel | (have h9 := hk9; omega)) hsz (by omega) (fun hz => ?_)
  refine dg_newi hx hb (hts _ (bw_mem wB_1325)) K hP hS hz (pX_1 d hk_d) (by decide +kernel) (by decide +kernel) (dk_dq rfl) (Nat.le_of_ble_eq_true rfl) (Nat.le_of_ble_eq_true rfl) dX5_init_7 (fun S_1 e_1 H hP hS hz => ?_)
  refine W.widen (k := 1) (n := 72) (by omega) (by omega) ?_
  have hP : va_P D vwCl (dg_w g (shX.take (d + 2)) o rf S_1) H := hP
  have hg_1 : dg_Ag S S_1 d := hg_0.tk (dg_Ag.uf e_1 (by omega))
  have hJ_1 : dg_Jr alX tFX tAX shX o S_1 (d + 1) (d + 2) := (hJ_0.Ag (dg_Ag.uf e_1 (Nat.le_refl _)) (Nat.le_refl _)).ext (dg_Jr.one (dg_Jc.row (pX_1 d hk_d) rfl (dg_uf_at e_1) (by intro t h; have h2 : tAX[4]? = some (2, 0, 255) := (by decide +kernel); rw [h2] at h; cases h; exact fun _ => (dk_dq rfl))))
  refine dg_putF (ci := 5) (v := .ref (o + (d + 1))) (ty := tyX5 2) (C := RX5) (T := TX5) (N := 8) hx hb hts (fun w h => bw_mem (wU_X5 w h)) tyX5 tyX5_ok nmX5 hown K hP hS (hA1 _) (dg_tk (pX_0 d hk_d) (by omega)) rfl 2 (dk_dq rfl) (hts _ (bw_mem wB_488)) (fun _ h9 => h9) rfl hin rfl (by decide +kernel) rfl rfl dX5_init_9 (fun S_2 e_2 H locs hP hS => ?_)
  have hg_2 : dg_Ag S S_2 d := hg_1.tk (dg_Ag.uF e_2 (by omega))
  have hJ_2 : dg_Jr alX tFX tAX shX o S_2 (d + 1) (d + 2) := hJ_1.uF e_2 (by omega)
  refine lv_aload_n hx hb dX5_init_12 rfl (lv_at hl 0 rfl) ?_
  refine lv_bipush (v := 6) hx hb dX5_init_13 (by decide +kernel) ?_
  refine dg_size hP (by omega) (by first | decide +kernel | (have h9 := hk9; omega)) hsz (by omega) (fun hz => ?_)
  refine dg_newi hx hb (hts _ (bw_mem wB_1325)) K hP hS hz (pX_2 d hk_d) (by decide +kernel) (by decide +kernel) (dk_dq rfl) (Nat.le_of_ble_eq_true rfl) (Nat.le_of_ble_eq_true rfl) dX5_init_15 (fun S_3 e_3 H hP hS hz => ?_)
  refine W.widen (k := 2) (n := 78) (by omega) (by omega) ?_
  have hP : va_P D vwCl (dg_w g (shX.take (d + 3)) o rf S_3) H := hP
  have hg_3 : dg_Ag S S_3 d := hg_2.tk (dg_Ag.uf e_3 (by omega))
  have hJ_3 : dg_Jr alX tFX tAX shX o S_3 (d + 1) (d + 3) := (hJ_2.Ag (dg_Ag.uf e_3 (Nat.le_refl _)) (Nat.le_refl _)).ext (dg_Jr.one (dg_Jc.row (pX_2 d hk_d) rfl (dg_uf_at e_3) (by intro t h; have h2 : tAX[5]? = some (0, 0, 0) := (by decide +kernel); rw [h2] at h; cases h; exact fun _ => (dk_dq rfl))))
  refine dg_putF (ci := 5) (v := .ref (o + (d + 2))) (ty := tyX5 3) (C := RX5) (T := TX5) (N := 8) hx hb hts (fun w h => bw_mem (wU_X5 w h)) tyX5 tyX5_ok nmX5 hown K hP hS (hA1 _) (dg_tk (pX_0 d hk_d) (by omega)) rfl 3 (dk_dq rfl) (hts _ (bw_mem wB_519)) (fun _ h9 => h9) rfl hin rfl (by decide +kernel) rfl rfl dX5_init_17 (fun S_4 e_4 H locs hP hS => ?_)
  have hg_4 : dg_Ag S S_4 d := hg_3.tk (dg_Ag.uF e_4 (by omega))
  have hJ_4 : dg_Jr alX tFX tAX shX o S_4 (d + 1) (d + 3) := hJ_3.uF e_4 (by omega)
  refine lv_aload_n hx hb dX5_init_20 rfl (lv_at hl 0 rfl) ?_
  refine lv_bipush (v := 16) hx hb dX5_init_21 (by decide +kernel) ?_
  refine dg_size hP (by omega) (by first | decide +kernel | (have h9 := hk9; omega)) hsz (by omega) (fun hz => ?_)
  refine dg_newi hx hb (hts _ (bw_mem wB_1325)) K hP hS hz (pX_3 d hk_d) (by decide +kernel) (by decide +kernel) (dk_dq rfl) (Nat.le_of_ble_eq_true rfl) (Nat.le_of_ble_eq_true rfl) dX5_init_23 (fun S_5 e_5 H hP hS hz => ?_)
  refine W.widen (k := 3) (n := 94) (by omega) (by omega) ?_
  have hP : va_P D vwCl (dg_w g (shX.take (d + 4)) o rf S_5) H := hP
  have hg_5 : dg_Ag S S_5 d := hg_4.tk (dg_Ag.uf e_5 (by omega))
  have hJ_5 : dg_Jr alX tFX tAX shX o S_5 (d + 1) (d + 4) := (hJ_4.Ag (dg_Ag.uf e_5 (Nat.le_refl _)) (Nat.le_refl _)).ext (dg_Jr.one (dg_Jc.row (pX_3 d hk_d) rfl (dg_uf_at e_5) (by intro t h; have h2 : tAX[6]? = some (1, 0, 5) := (by decide +kernel); rw [h2] at h; cases h; exact fun _ => (dk_dq rfl))))
  as_aux_lemma =>
    refine dg_putF (ci := 5) (v := .ref (o + (d + 3))) (ty := tyX5 4) (C := RX5) (T := TX5) (N := 8) hx hb hts (fun w h => bw_mem (wU_X5 w h)) tyX5 tyX5_ok nmX5 hown K hP hS (hA1 _) (dg_tk (pX_0 d hk_d) (by omega)) rfl 4 (dk_dq rfl) (hts _ (bw_mem wB_511)) (fun _ h9 => h9) rfl hin rfl (by decide +kernel) rfl rfl dX5_init_25 (fun S_6 e_6 H locs hP hS => ?_)
    have hg_6 : dg_Ag S S_6 d := hg_5.tk (dg_Ag.uF e_6 (by omega))
    have hJ_6 : dg_Jr alX tFX tAX shX o S_6 (d + 1) (d + 4) := hJ_5.uF e_6 (by omega)
    refine lv_aload_n hx hb dX5_init_28 rfl (lv_at hl 0 rfl) ?_
    refine lv_bipush (v := 16) hx hb dX5_init_29 (by decide +kernel) ?_
    refine dg_size hP (by omega) (by first | decide +kernel | (have h9 := hk9; omega)) hsz (by omega) (fun hz => ?_)
    refine dg_newi hx hb (hts _ (bw_mem wB_1325)) K hP hS hz (pX_4 d hk_d) (by decide +kernel) (by decide +kernel) (dk_dq rfl) (Nat.le_of_ble_eq_true rfl) (Nat.le_of_ble_eq_true rfl) dX5_init_31 (fun S_7 e_7 H hP hS hz => ?_)
    refine W.widen (k := 4) (n := 110) (by omega) (by omega) ?_
    have hP : va_P D vwCl (dg_w g (shX.take (d + 5)) o rf S_7) H := hP
    have hg_7 : dg_Ag S S_7 d := hg_6.tk (dg_Ag.uf e_7 (by omega))
    have hJ_7 : dg_Jr alX tFX tAX shX o S_7 (d + 1) (d + 5) := (hJ_6.Ag (dg_Ag.uf e_7 (Nat.le_refl _)) (Nat.le_refl _)).ext (dg_Jr.one (dg_Jc.row (pX_4 d hk_d) rfl (dg_uf_at e_7) (by intro t h; have h2 : tAX[7]? = some (1, 0, 63) := (by decide +kernel); rw [h2] at h; cases h; exact fun _ => (dk_dq rfl))))
    refine dg_putF (ci := 5) (v := .ref (o + (d + 4))) (ty := tyX5 5) (C := RX5) (T := TX5) (N := 8) hx hb hts (fun w h => bw_mem (wU_X5 w h)) tyX5 tyX5_ok nmX5 hown K hP hS (hA1 _) (dg_tk (pX_0 d hk_d) (by omega)) rfl 5 (dk_dq rfl) (hts _ (bw_mem wB_512)) (fun _ h9 => h9) rfl hin rfl (by decide +kernel) rfl rfl dX5_init_33 (fun S_8 e_8 H locs hP hS => ?_)
    have hg_8 : dg_Ag S S_8 d := hg_7.tk (dg_Ag.uF e_8 (by omega))
    have hJ_8 : dg_Jr alX tFX tAX shX o S_8 (d + 1) (d + 5) := hJ_7.uF e_8 (by omega)
    refine lv_aload_n hx hb dX5_init_36 rfl (lv_at hl 0 rfl) ?_
    refine lv_iconst (v := 5) hx hb dX5_init_37 (by decide +kernel) ?_
    refine dg_size hP (by omega) (by first | decide +kernel | (have h9 := hk9; omega)) hsz (by omega) (fun hz => ?_)
    refine dg_newi hx hb (hts _ (bw_mem wB_1325)) K hP hS hz (pX_5 d hk_d) (by decide +kernel) (by decide +kernel) (dk_dq rfl) (Nat.le_of_ble_eq_true rfl) (Nat.le_of_ble_eq_true rfl) dX5_init_38 (fun S_9 e_9 H hP hS hz => ?_)
    refine W.widen (k := 5) (n := 115) (by omega) (by omega) ?_
    have hP : va_P D vwCl (dg_w g (shX.take (d + 6)) o rf S_9) H := hP
    have hg_9 : dg_Ag S S_9 d := hg_8.tk (dg_Ag.uf e_9 (by omega))
    have hJ_9 : dg_Jr alX tFX tAX shX o S_9 (d + 1) (d + 6) := (hJ_8.Ag (dg_Ag.uf e_9 (Nat.le_refl _)) (Nat.le_refl _)).ext (dg_Jr.one (dg_Jc.row (pX_5 d hk_d) rfl (dg_uf_at e_9) (by intro t h; have h2 : tAX[8]? = some (0, 0, 0) := (by decide +kernel); rw [h2] at h; cases h; exact fun _ => (dk_dq rfl))))
    refine dg_putF (ci := 5) (v := .ref (o + (d + 5))) (ty := tyX5 6) (C := RX5) (T := TX5) (N := 8) hx hb hts (fun w h => bw_mem (wU_X5 w h)) tyX5 tyX5_ok nmX5 hown K hP hS (hA1 _) (dg_tk (pX_0 d hk_d) (by omega)) rfl 6 (dk_dq rfl) (hts _ (bw_mem wB_520)) (fun _ h9 => h9) rfl hin rfl (by decide +kernel) rfl rfl dX5_init_40 (fun S_10 e_10 H locs hP hS => ?_)
    have hg_10 : dg_Ag S S_10 d := hg_9.tk (dg_Ag.uF e_10 (by omega))
    have hJ_10 : dg_Jr alX tFX tAX shX o S_10 (d + 1) (d + 6) := hJ_9.uF e_10 (by omega)
    refine lv_aload_n hx hb dX5_init_43 rfl (lv_at hl 0 rfl) ?_
    refine lv_bipush (v := 10) hx hb dX5_init_44 (by decide +kernel) ?_
    refine dg_size hP (by omega) (by first | decide +kernel | (have h9 := hk9; omega)) hsz (by omega) (fun hz => ?_)
    refine dg_newi hx hb (hts _ (bw_mem wB_1325)) K hP hS hz (pX_6 d hk_d) (by decide +kernel) (by decide +kernel) (dk_dq rfl) (Nat.le_of_ble_eq_true rfl) (Nat.le_of_ble_eq_true rfl) dX5_init_46 (fun S_11 e_11 H hP hS hz => ?_)
    refine W.widen (k := 6) (n := 125) (by omega) (by omega) ?_
    have hP : va_P D vwCl (dg_w g (shX.take (d + 7)) o rf S_11) H := hP
    have hg_11 : dg_Ag S S_11 d := hg_10.tk (dg_Ag.uf e_11 (by omega))
    have hJ_11 : dg_Jr alX tFX tAX shX o S_11 (d + 1) (d + 7) := (hJ_10.Ag (dg_Ag.uf e_11 (Nat.le_refl _)) (Nat.le_refl _)).ext (dg_Jr.one (dg_Jc.row (pX_6 d hk_d) rfl (dg_uf_at e_11) (by intro t h; have h2 : tAX[9]? = some (0, 0, 0) := (by decide +kernel); rw [h2] at h; cases h; exact fun _ => (dk_dq rfl))))
    refine dg_putF (ci := 5) (v := .ref (o + (d + 6))) (ty := tyX5 7) (C := RX5) (T := TX5) (N := 8) hx hb hts (fun w h => bw_mem (wU_X5 w h)) tyX5 tyX5_ok nmX5 hown K hP hS (hA1 _) (dg_tk (pX_0 d hk_d) (by omega)) rfl 7 (dk_dq rfl) (hts _ (bw_mem wB_502)) (fun _ h9 => h9) rfl hin rfl (by decide +kernel) rfl rfl dX5_init_48 (fun S_12 e_12 H locs hP hS => ?_)
    have hg_12 : dg_Ag S S_12 d := hg_11.tk (dg_Ag.uF e_12 (by omega))
    have hJ_12 : dg_Jr alX tFX tAX shX o S_12 (d + 1) (d + 7) := hJ_11.uF e_12 (by omega)
    have hJo := (dg_Jr.one (dg_Jc.obj (L := [(1, 0, 65535), (1, (-2147483648), 2147483647), (3, 1, 0), (3, 2, 0), (3, 3, 0), (3, 4, 0), (3, 5, 0), (3, 6, 0)]) (pX_0 d hk_d) (by decide +kernel) (.cons (dg_V.i1 0 (((((((((((((dg_uF_ne e_12 (by omega)).trans (dg_uf_F e_11 d 0)).trans (dg_uF_ne e_10 (by omega))).trans (dg_uf_F e_9 d 0)).trans (dg_uF_ne e_8 (by omega))).trans (dg_uf_F e_7 d 0)).trans (dg_uF_ne e_6 (by omega))).trans (dg_uf_F e_5 d 0)).trans (dg_uF_ne e_4 (by omega))).trans (dg_uf_F e_3 d 0)).trans (dg_uF_ne e_2 (by omega))).trans (dg_uf_F e_1 d 0)).trans ((h0 0 (dk_dq rfl)).trans rfl)) (by decide +kernel) (by decide +kernel)) (.cons (dg_V.i1 0 (((((((((((((dg_uF_ne e_12 (by omega)).trans (dg_uf_F e_11 d 1)).trans (dg_uF_ne e_10 (by omega))).trans (dg_uf_F e_9 d 1)).trans (dg_uF_ne e_8 (by omega))).trans (dg_uf_F e_7 d 1)).trans (dg_uF_ne e_6 (by omega))).trans (dg_uf_F e_5 d 1)).trans (dg_uF_ne e_4 (by omega))).trans (dg_uf_F e_3 d 1)).trans (dg_uF_ne e_2 (by omega))).trans (dg_uf_F e_1 d 1)).trans ((h0 1 (dk_dq rfl)).trans rfl)) (by decide +kernel) (by decide +kernel)) (.cons (dg_V.r1 (((((((((((dg_uF_ne e_12 (by omega)).trans (dg_uf_F e_11 d 2)).trans (dg_uF_ne e_10 (by omega))).trans (dg_uf_F e_9 d 2)).trans (dg_uF_ne e_8 (by omega))).trans (dg_uf_F e_7 d 2)).trans (dg_uF_ne e_6 (by omega))).trans (dg_uf_F e_5 d 2)).trans (dg_uF_ne e_4 (by omega))).trans (dg_uf_F e_3 d 2)).trans (dg_uF_at e_2))) (.cons (dg_V.r1 (((((((((dg_uF_ne e_12 (by omega)).trans (dg_uf_F e_11 d 3)).trans (dg_uF_ne e_10 (by omega))).trans (dg_uf_F e_9 d 3)).trans (dg_uF_ne e_8 (by omega))).trans (dg_uf_F e_7 d 3)).trans (dg_uF_ne e_6 (by omega))).trans (dg_uf_F e_5 d 3)).trans (dg_uF_at e_4))) (.cons (dg_V.r1 (((((((dg_uF_ne e_12 (by omega)).trans (dg_uf_F e_11 d 4)).trans (dg_uF_ne e_10 (by omega))).trans (dg_uf_F e_9 d 4)).trans (dg_uF_ne e_8 (by omega))).trans (dg_uf_F e_7 d 4)).trans (dg_uF_at e_6))) (.cons (dg_V.r1 (((((dg_uF_ne e_12 (by omega)).trans (dg_uf_F e_11 d 5)).trans (dg_uF_ne e_10 (by omega))).trans (dg_uf_F e_9 d 5)).trans (dg_uF_at e_8))) (.cons (dg_V.r1 (((dg_uF_ne e_12 (by omega)).trans (dg_uf_F e_11 d 6)).trans (dg_uF_at e_10))) (.cons (dg_V.r1 (dg_uF_at e_12)) (.nil))))))))) (by intro t h; have h2 : tAX[3]? = some (0, 0, 0) := (by decide +kernel); rw [h2] at h; cases h; rfl))).ext hJ_12
    exact dg_vret hx hb hr hlocks hP hS ⟨hJo, hg_12, ((((((((((((dg_uF_f e_12 (d + 1)).trans (dg_uf_ne e_11 (by omega))).trans (dg_uF_f e_10 (d + 1))).trans (dg_uf_ne e_9 (by omega))).trans (dg_uF_f e_8 (d + 1))).trans (dg_uf_ne e_7 (by omega))).trans (dg_uF_f e_6 (d + 1))).trans (dg_uf_ne e_5 (by omega))).trans (dg_uF_f e_4 (d + 1))).trans (dg_uf_ne e_3 (by omega))).trans (dg_uF_f e_2 (d + 1))).trans (dg_uf_at e_1)), ((dg_uF_f e_12 (d + 6)).trans (dg_uf_at e_11)), trivial⟩ dX5_init_51
set_option maxHeartbeats 8000000 in
set_option maxRecDepth 100000 in
theorem c_n_ground (l : Launch) (g : Nat → ClassId) (D : va_G) (o : Nat) (S : dg_S) (rf : dg_R) (d : Nat) (hk_d : rX d) (h0 : ∀ b, b < 19 → S.1 d b = defaultValue (tyX2 b)) : Met l yX2_init (bw yX2_init cX2_init 1 none) ({ frames := 1, cells := 11, slots := 1736, locals := 32 } : Room) (dk_Pc g D (dg_w g (shX.take (d + 1)) o rf S) (o + (d + 1)) [.ref (o + d)]) (va_Qv (fun S' => dg_Jr alX tFX tAX shX o S' d (d + 12) ∧ dg_Ag S S' d ∧ S'.1 d 0 = .int 0 ∧ S'.1 d 1 = .int 0 ∧ S'.1 d 2 = .int (-1) ∧ S'.1 d 6 = .int 0 ∧ S'.1 d 8 = .int 0 ∧ S'.1 d 11 = .int 0 ∧ S'.2.1 (d + 10) = (fun _ => 0) ∧ S'.2.1 (d + 11) = (fun _ => 0) ∧ True) (dg_B g D (shX.take (d + 12)) o rf) (dg_A o (shX.take (d + 1)).length (o + (d + 1)))) 11 1736 (dg_A o (shX.take (d + 1)).length (o + (d + 1))) := by
  refine dg_met (cc := cX2_init) (maxL := 1) (ret := none) (dk_dq rfl) rfl (Nat.le_of_ble_eq_true rfl) ?_
  intro p e s m args below meth c A hAe harg hx hb hr hml hts hown hlocks hin hP K hS hA1 hA ST hsz ls hl
  have hk9 : d + 12 ≤ shX.length := rX_le _ hk_d
  have hA1 := dg_Aall (hAe.trans (congrArg (fun n => dg_A o n (o + (d + 1))) (dg_tlen (by first | decide +kernel | omega))))
  rw [← hAe]
  have F : CallFix p m c cX2_init 1 s args (bw yX2_init cX2_init 1 none) RX2 := ⟨hx, hb, hml, hown, hts⟩
  have hl : lv_has ls 1 [(0, .ref (o + d))] := hl
  have hg_0 : dg_Ag S S d := dg_Ag.rf
  have hJ_0 : dg_Jr alX tFX tAX shX o S (d + 1) (d + 1) := dg_Jr.nil
  refine lv_aload_n hx hb dX2_init_0 rfl (lv_at hl 0 rfl) ?_
  refine W.objInit hx hb hown (hts _ (bw_mem wB_1327)) (hts _ (bw_mem wB_1323)) (hts _ (bw_mem wB_1324)) rfl (by rw [hml]; exact hl.1) rfl dX2_init_1 (Nat.le_of_ble_eq_true rfl) (Nat.le_of_ble_eq_true rfl) ?_
  refine W.eq (g2 := F0 m 4 ls []) rfl ?_
  refine lv_aload_n hx hb dX2_init_4 rfl (lv_at hl 0 rfl) ?_
  refine lv_iconst (v := (-1)) hx hb dX2_init_5 (by decide +kernel) ?_
  refine dg_put (ci := 2) (v := .int (-1)) (ty := tyX2 2) (C := RX2) (T := TX2) (N := 19) hx hb hts (fun w h => bw_mem (wU_X2 w h)) tyX2 tyX2_ok nmX2 hown K hP hS (hA1 _) (dg_tk (rX_0 d hk_d) (by omega)) rfl 2 (dk_dq rfl) (hts _ (bw_mem wB_257)) (fun _ h9 => h9) rfl (by decide +kernel) rfl rfl dX2_init_6 (fun S_1 e_1 H locs hP hS => ?_)
  have hg_1 : dg_Ag S S_1 d := hg_0.tk (dg_Ag.uF e_1 (by omega))
  have hJ_1 : dg_Jr alX tFX tAX shX o S_1 (d + 1) (d + 1) := hJ_0.uF e_1 (by omega)
  refine lv_aload_n hx hb dX2_init_9 rfl (lv_at hl 0 rfl) ?_
  refine lv_bipush (v := 72) hx hb dX2_init_10 (by decide +kernel) ?_
  refine dg_size hP (by omega) (by first | decide +kernel | (have h9 := hk9; omega)) hsz (by omega) (fun hz => ?_)
  refine dg_newi hx hb (hts _ (bw_mem wB_1325)) K hP hS hz (rX_1 d hk_d) (by decide +kernel) (by decide +kernel) (dk_dq rfl) (Nat.le_of_ble_eq_true rfl) (Nat.le_of_ble_eq_true rfl) dX2_init_12 (fun S_2 e_2 H hP hS hz => ?_)
  refine W.widen (k := 1) (n := 72) (by omega) (by omega) ?_
  have hP : va_P D vwCl (dg_w g (shX.take (d + 2)) o rf S_2) H := hP
  have hg_2 : dg_Ag S S_2 d := hg_1.tk (dg_Ag.uf e_2 (by omega))
  have hJ_2 : dg_Jr alX tFX tAX shX o S_2 (d + 1) (d + 2) := (hJ_1.Ag (dg_Ag.uf e_2 (Nat.le_refl _)) (Nat.le_refl _)).ext (dg_Jr.one (dg_Jc.row (rX_1 d hk_d) rfl (dg_uf_at e_2) (by intro t h; have h2 : tAX[20]? = some (1, 0, 9) := (by decide +kernel); rw [h2] at h; cases h; exact fun _ => (dk_dq rfl))))
  refine dg_putF (ci := 2) (v := .ref (o + (d + 1))) (ty := tyX2 5) (C := RX2) (T := TX2) (N := 19) hx hb hts (fun w h => bw_mem (wU_X2 w h)) tyX2 tyX2_ok nmX2 hown K hP hS (hA1 _) (dg_tk (rX_0 d hk_d) (by omega)) rfl 5 (dk_dq rfl) (hts _ (bw_mem wB_260)) (fun _ h9 => h9) rfl hin rfl (by decide +kernel) rfl rfl dX2_init_14 (fun S_3 e_3 H locs hP hS => ?_)
  have hg_3 : dg_Ag S S_3 d := hg_2.tk (dg_Ag.uF e_3 (by omega))
  have hJ_3 : dg_Jr alX tFX tAX shX o S_3 (d + 1) (d + 2) := hJ_2.uF e_3 (by omega)
  refine lv_aload_n hx hb dX2_init_17 rfl (lv_at hl 0 rfl) ?_
  refine lv_bipush (v := 6) hx hb dX2_init_18 (by decide +kernel) ?_
  refine dg_size hP (by omega) (by first | decide +kernel | (have h9 := hk9; omega)) hsz (by omega) (fun hz => ?_)
  refine dg_newi hx hb (hts _ (bw_mem wB_1325)) K hP hS hz (rX_2 d hk_d) (by decide +kernel) (by decide +kernel) (dk_dq rfl) (Nat.le_of_ble_eq_true rfl) (Nat.le_of_ble_eq_true rfl) dX2_init_20 (fun S_4 e_4 H hP hS hz => ?_)
  refine W.widen (k := 2) (n := 78) (by omega) (by omega) ?_
  have hP : va_P D vwCl (dg_w g (shX.take (d + 3)) o rf S_4) H := hP
  have hg_4 : dg_Ag S S_4 d := hg_3.tk (dg_Ag.uf e_4 (by omega))
  have hJ_4 : dg_Jr alX tFX tAX shX o S_4 (d + 1) (d + 3) := (hJ_3.Ag (dg_Ag.uf e_4 (Nat.le_refl _)) (Nat.le_refl _)).ext (dg_Jr.one (dg_Jc.row (rX_2 d hk_d) rfl (dg_uf_at e_4) (by intro t h; have h2 : tAX[21]? = some (0, 0, 0) := (by decide +kernel); rw [h2] at h; cases h; exact fun _ => (dk_dq rfl))))
  refine dg_putF (ci := 2) (v := .ref (o + (d + 2))) (ty := tyX2 7) (C := RX2) (T := TX2) (N := 19) hx hb hts (fun w h => bw_mem (wU_X2 w h)) tyX2 tyX2_ok nmX2 hown K hP hS (hA1 _) (dg_tk (rX_0 d hk_d) (by omega)) rfl 7 (dk_dq rfl) (hts _ (bw_mem wB_3)) (fun _ h9 => h9) rfl hin rfl (by decide +kernel) rfl rfl dX2_init_22 (fun S_5 e_5 H locs hP hS => ?_)
  have hg_5 : dg_Ag S S_5 d := hg_4.tk (dg_Ag.uF e_5 (by omega))
  have hJ_5 : dg_Jr alX tFX tAX shX o S_5 (d + 1) (d + 3) := hJ_4.uF e_5 (by omega)
  refine lv_aload_n hx hb dX2_init_25 rfl (lv_at hl 0 rfl) ?_
  as_aux_lemma =>
    refine lv_bipush (v := 16) hx hb dX2_init_26 (by decide +kernel) ?_
    refine dg_size hP (by omega) (by first | decide +kernel | (have h9 := hk9; omega)) hsz (by omega) (fun hz => ?_)
    refine dg_newi hx hb (hts _ (bw_mem wB_1325)) K hP hS hz (rX_3 d hk_d) (by decide +kernel) (by decide +kernel) (dk_dq rfl) (Nat.le_of_ble_eq_true rfl) (Nat.le_of_ble_eq_true rfl) dX2_init_28 (fun S_6 e_6 H hP hS hz => ?_)
    refine W.widen (k := 3) (n := 94) (by omega) (by omega) ?_
    have hP : va_P D vwCl (dg_w g (shX.take (d + 4)) o rf S_6) H := hP
    have hg_6 : dg_Ag S S_6 d := hg_5.tk (dg_Ag.uf e_6 (by omega))
    have hJ_6 : dg_Jr alX tFX tAX shX o S_6 (d + 1) (d + 4) := (hJ_5.Ag (dg_Ag.uf e_6 (Nat.le_refl _)) (Nat.le_refl _)).ext (dg_Jr.one (dg_Jc.row (rX_3 d hk_d) rfl (dg_uf_at e_6) (by intro t h; have h2 : tAX[22]? = some (1, 0, 5) := (by decide +kernel); rw [h2] at h; cases h; exact fun _ => (dk_dq rfl))))
    refine dg_putF (ci := 2) (v := .ref (o + (d + 3))) (ty := tyX2 9) (C := RX2) (T := TX2) (N := 19) hx hb hts (fun w h => bw_mem (wU_X2 w h)) tyX2 tyX2_ok nmX2 hown K hP hS (hA1 _) (dg_tk (rX_0 d hk_d) (by omega)) rfl 9 (dk_dq rfl) (hts _ (bw_mem wB_1328)) (fun _ h9 => h9) rfl hin rfl (by decide +kernel) rfl rfl dX2_init_30 (fun S_7 e_7 H locs hP hS => ?_)
    have hg_7 : dg_Ag S S_7 d := hg_6.tk (dg_Ag.uF e_7 (by omega))
    have hJ_7 : dg_Jr alX tFX tAX shX o S_7 (d + 1) (d + 4) := hJ_6.uF e_7 (by omega)
    refine lv_aload_n hx hb dX2_init_33 rfl (lv_at hl 0 rfl) ?_
    refine lv_bipush (v := 16) hx hb dX2_init_34 (by decide +kernel) ?_
    refine dg_size hP (by omega) (by first | decide +kernel | (have h9 := hk9; omega)) hsz (by omega) (fun hz => ?_)
    refine dg_newi hx hb (hts _ (bw_mem wB_1325)) K hP hS hz (rX_4 d hk_d) (by decide +kernel) (by decide +kernel) (dk_dq rfl) (Nat.le_of_ble_eq_true rfl) (Nat.le_of_ble_eq_true rfl) dX2_init_36 (fun S_8 e_8 H hP hS hz => ?_)
    refine W.widen (k := 4) (n := 110) (by omega) (by omega) ?_
    have hP : va_P D vwCl (dg_w g (shX.take (d + 5)) o rf S_8) H := hP
    have hg_8 : dg_Ag S S_8 d := hg_7.tk (dg_Ag.uf e_8 (by omega))
    have hJ_8 : dg_Jr alX tFX tAX shX o S_8 (d + 1) (d + 5) := (hJ_7.Ag (dg_Ag.uf e_8 (Nat.le_refl _)) (Nat.le_refl _)).ext (dg_Jr.one (dg_Jc.row (rX_4 d hk_d) rfl (dg_uf_at e_8) (by intro t h; have h2 : tAX[23]? = some (1, 0, 63) := (by decide +kernel); rw [h2] at h; cases h; exact fun _ => (dk_dq rfl))))
    refine dg_putF (ci := 2) (v := .ref (o + (d + 4))) (ty := tyX2 10) (C := RX2) (T := TX2) (N := 19) hx hb hts (fun w h => bw_mem (wU_X2 w h)) tyX2 tyX2_ok nmX2 hown K hP hS (hA1 _) (dg_tk (rX_0 d hk_d) (by omega)) rfl 10 (dk_dq rfl) (hts _ (bw_mem wB_1329)) (fun _ h9 => h9) rfl hin rfl (by decide +kernel) rfl rfl dX2_init_38 (fun S_9 e_9 H locs hP hS => ?_)
    have hg_9 : dg_Ag S S_9 d := hg_8.tk (dg_Ag.uF e_9 (by omega))
    have hJ_9 : dg_Jr alX tFX tAX shX o S_9 (d + 1) (d + 5) := hJ_8.uF e_9 (by omega)
    refine lv_aload_n hx hb dX2_init_41 rfl (lv_at hl 0 rfl) ?_
    refine lv_iconst (v := 5) hx hb dX2_init_42 (by decide +kernel) ?_
    refine dg_size hP (by omega) (by first | decide +kernel | (have h9 := hk9; omega)) hsz (by omega) (fun hz => ?_)
    refine dg_newi hx hb (hts _ (bw_mem wB_1325)) K hP hS hz (rX_5 d hk_d) (by decide +kernel) (by decide +kernel) (dk_dq rfl) (Nat.le_of_ble_eq_true rfl) (Nat.le_of_ble_eq_true rfl) dX2_init_43 (fun S_10 e_10 H hP hS hz => ?_)
    refine W.widen (k := 5) (n := 115) (by omega) (by omega) ?_
    have hP : va_P D vwCl (dg_w g (shX.take (d + 6)) o rf S_10) H := hP
    have hg_10 : dg_Ag S S_10 d := hg_9.tk (dg_Ag.uf e_10 (by omega))
    have hJ_10 : dg_Jr alX tFX tAX shX o S_10 (d + 1) (d + 6) := (hJ_9.Ag (dg_Ag.uf e_10 (Nat.le_refl _)) (Nat.le_refl _)).ext (dg_Jr.one (dg_Jc.row (rX_5 d hk_d) rfl (dg_uf_at e_10) (by intro t h; have h2 : tAX[24]? = some (0, 0, 0) := (by decide +kernel); rw [h2] at h; cases h; exact fun _ => (dk_dq rfl))))
    refine dg_putF (ci := 2) (v := .ref (o + (d + 5))) (ty := tyX2 12) (C := RX2) (T := TX2) (N := 19) hx hb hts (fun w h => bw_mem (wU_X2 w h)) tyX2 tyX2_ok nmX2 hown K hP hS (hA1 _) (dg_tk (rX_0 d hk_d) (by omega)) rfl 12 (dk_dq rfl) (hts _ (bw_mem wB_10)) (fun _ h9 => h9) rfl hin rfl (by decide +kernel) rfl rfl dX2_init_45 (fun S_11 e_11 H locs hP hS => ?_)
    have hg_11 : dg_Ag S S_11 d := hg_10.tk (dg_Ag.uF e_11 (by omega))
    have hJ_11 : dg_Jr alX tFX tAX shX o S_11 (d + 1) (d + 6) := hJ_10.uF e_11 (by omega)
    refine lv_aload_n hx hb dX2_init_48 rfl (lv_at hl 0 rfl) ?_
    refine lv_iconst (v := 5) hx hb dX2_init_49 (by decide +kernel) ?_
    refine dg_size hP (by omega) (by first | decide +kernel | (have h9 := hk9; omega)) hsz (by omega) (fun hz => ?_)
    refine dg_newi hx hb (hts _ (bw_mem wB_1325)) K hP hS hz (rX_6 d hk_d) (by decide +kernel) (by decide +kernel) (dk_dq rfl) (Nat.le_of_ble_eq_true rfl) (Nat.le_of_ble_eq_true rfl) dX2_init_50 (fun S_12 e_12 H hP hS hz => ?_)
    refine W.widen (k := 6) (n := 120) (by omega) (by omega) ?_
    have hP : va_P D vwCl (dg_w g (shX.take (d + 7)) o rf S_12) H := hP
    have hg_12 : dg_Ag S S_12 d := hg_11.tk (dg_Ag.uf e_12 (by omega))
    have hJ_12 : dg_Jr alX tFX tAX shX o S_12 (d + 1) (d + 7) := (hJ_11.Ag (dg_Ag.uf e_12 (Nat.le_refl _)) (Nat.le_refl _)).ext (dg_Jr.one (dg_Jc.row (rX_6 d hk_d) rfl (dg_uf_at e_12) (by intro t h; have h2 : tAX[25]? = some (1, 0, 9) := (by decide +kernel); rw [h2] at h; cases h; exact fun _ => (dk_dq rfl))))
    as_aux_lemma =>
      refine dg_putF (ci := 2) (v := .ref (o + (d + 6))) (ty := tyX2 13) (C := RX2) (T := TX2) (N := 19) hx hb hts (fun w h => bw_mem (wU_X2 w h)) tyX2 tyX2_ok nmX2 hown K hP hS (hA1 _) (dg_tk (rX_0 d hk_d) (by omega)) rfl 13 (dk_dq rfl) (hts _ (bw_mem wB_1330)) (fun _ h9 => h9) rfl hin rfl (by decide +kernel) rfl rfl dX2_init_52 (fun S_13 e_13 H locs hP hS => ?_)
      have hg_13 : dg_Ag S S_13 d := hg_12.tk (dg_Ag.uF e_13 (by omega))
      have hJ_13 : dg_Jr alX tFX tAX shX o S_13 (d + 1) (d + 7) := hJ_12.uF e_13 (by omega)
      refine lv_aload_n hx hb dX2_init_55 rfl (lv_at hl 0 rfl) ?_
      refine lv_iconst (v := 5) hx hb dX2_init_56 (by decide +kernel) ?_
      refine dg_size hP (by omega) (by first | decide +kernel | (have h9 := hk9; omega)) hsz (by omega) (fun hz => ?_)
      refine dg_newi hx hb (hts _ (bw_mem wB_1325)) K hP hS hz (rX_7 d hk_d) (by decide +kernel) (by decide +kernel) (dk_dq rfl) (Nat.le_of_ble_eq_true rfl) (Nat.le_of_ble_eq_true rfl) dX2_init_57 (fun S_14 e_14 H hP hS hz => ?_)
      refine W.widen (k := 7) (n := 125) (by omega) (by omega) ?_
      have hP : va_P D vwCl (dg_w g (shX.take (d + 8)) o rf S_14) H := hP
      have hg_14 : dg_Ag S S_14 d := hg_13.tk (dg_Ag.uf e_14 (by omega))
      have hJ_14 : dg_Jr alX tFX tAX shX o S_14 (d + 1) (d + 8) := (hJ_13.Ag (dg_Ag.uf e_14 (Nat.le_refl _)) (Nat.le_refl _)).ext (dg_Jr.one (dg_Jc.row (rX_7 d hk_d) rfl (dg_uf_at e_14) (by intro t h; have h2 : tAX[26]? = some (0, 0, 0) := (by decide +kernel); rw [h2] at h; cases h; exact fun _ => (dk_dq rfl))))
      refine dg_putF (ci := 2) (v := .ref (o + (d + 7))) (ty := tyX2 14) (C := RX2) (T := TX2) (N := 19) hx hb hts (fun w h => bw_mem (wU_X2 w h)) tyX2 tyX2_ok nmX2 hown K hP hS (hA1 _) (dg_tk (rX_0 d hk_d) (by omega)) rfl 14 (dk_dq rfl) (hts _ (bw_mem wB_1331)) (fun _ h9 => h9) rfl hin rfl (by decide +kernel) rfl rfl dX2_init_59 (fun S_15 e_15 H locs hP hS => ?_)
      have hg_15 : dg_Ag S S_15 d := hg_14.tk (dg_Ag.uF e_15 (by omega))
      have hJ_15 : dg_Jr alX tFX tAX shX o S_15 (d + 1) (d + 8) := hJ_14.uF e_15 (by omega)
      refine lv_aload_n hx hb dX2_init_62 rfl (lv_at hl 0 rfl) ?_
      refine lv_iconst (v := 5) hx hb dX2_init_63 (by decide +kernel) ?_
      refine dg_size hP (by omega) (by first | decide +kernel | (have h9 := hk9; omega)) hsz (by omega) (fun hz => ?_)
      refine dg_newi hx hb (hts _ (bw_mem wB_1325)) K hP hS hz (rX_8 d hk_d) (by decide +kernel) (by decide +kernel) (dk_dq rfl) (Nat.le_of_ble_eq_true rfl) (Nat.le_of_ble_eq_true rfl) dX2_init_64 (fun S_16 e_16 H hP hS hz => ?_)
      refine W.widen (k := 8) (n := 130) (by omega) (by omega) ?_
      have hP : va_P D vwCl (dg_w g (shX.take (d + 9)) o rf S_16) H := hP
      have hg_16 : dg_Ag S S_16 d := hg_15.tk (dg_Ag.uf e_16 (by omega))
      have hJ_16 : dg_Jr alX tFX tAX shX o S_16 (d + 1) (d + 9) := (hJ_15.Ag (dg_Ag.uf e_16 (Nat.le_refl _)) (Nat.le_refl _)).ext (dg_Jr.one (dg_Jc.row (rX_8 d hk_d) rfl (dg_uf_at e_16) (by intro t h; have h2 : tAX[27]? = some (0, 0, 0) := (by decide +kernel); rw [h2] at h; cases h; exact fun _ => (dk_dq rfl))))
      refine dg_putF (ci := 2) (v := .ref (o + (d + 8))) (ty := tyX2 15) (C := RX2) (T := TX2) (N := 19) hx hb hts (fun w h => bw_mem (wU_X2 w h)) tyX2 tyX2_ok nmX2 hown K hP hS (hA1 _) (dg_tk (rX_0 d hk_d) (by omega)) rfl 15 (dk_dq rfl) (hts _ (bw_mem wB_1332)) (fun _ h9 => h9) rfl hin rfl (by decide +kernel) rfl rfl dX2_init_66 (fun S_17 e_17 H locs hP hS => ?_)
      have hg_17 : dg_Ag S S_17 d := hg_16.tk (dg_Ag.uF e_17 (by omega))
      have hJ_17 : dg_Jr alX tFX tAX shX o S_17 (d + 1) (d + 9) := hJ_16.uF e_17 (by omega)
      refine lv_aload_n hx hb dX2_init_69 rfl (lv_at hl 0 rfl) ?_
      refine lv_sipush (v := 1600) hx hb dX2_init_70 (by decide +kernel) ?_
      refine dg_size hP (by omega) (by first | decide +kernel | (have h9 := hk9; omega)) hsz (by omega) (fun hz => ?_)
      refine dg_newi hx hb (hts _ (bw_mem wB_1325)) K hP hS hz (rX_9 d hk_d) (by decide +kernel) (by decide +kernel) (dk_dq rfl) (Nat.le_of_ble_eq_true rfl) (Nat.le_of_ble_eq_true rfl) dX2_init_73 (fun S_18 e_18 H hP hS hz => ?_)
      refine W.widen (k := 9) (n := 1730) (by omega) (by omega) ?_
      have hP : va_P D vwCl (dg_w g (shX.take (d + 10)) o rf S_18) H := hP
      have hg_18 : dg_Ag S S_18 d := hg_17.tk (dg_Ag.uf e_18 (by omega))
      have hJ_18 : dg_Jr alX tFX tAX shX o S_18 (d + 1) (d + 10) := (hJ_17.Ag (dg_Ag.uf e_18 (Nat.le_refl _)) (Nat.le_refl _)).ext (dg_Jr.one (dg_Jc.row (rX_9 d hk_d) rfl (dg_uf_at e_18) (by intro t h; have h2 : tAX[28]? = some (0, 0, 0) := (by decide +kernel); rw [h2] at h; cases h; exact fun _ => (dk_dq rfl))))
      refine dg_putF (ci := 2) (v := .ref (o + (d + 9))) (ty := tyX2 16) (C := RX2) (T := TX2) (N := 19) hx hb hts (fun w h => bw_mem (wU_X2 w h)) tyX2 tyX2_ok nmX2 hown K hP hS (hA1 _) (dg_tk (rX_0 d hk_d) (by omega)) rfl 16 (dk_dq rfl) (hts _ (bw_mem wB_1333)) (fun _ h9 => h9) rfl hin rfl (by decide +kernel) rfl rfl dX2_init_75 (fun S_19 e_19 H locs hP hS => ?_)
      have hg_19 : dg_Ag S S_19 d := hg_18.tk (dg_Ag.uF e_19 (by omega))
      have hJ_19 : dg_Jr alX tFX tAX shX o S_19 (d + 1) (d + 10) := hJ_18.uF e_19 (by omega)
      refine lv_aload_n hx hb dX2_init_78 rfl (lv_at hl 0 rfl) ?_
      refine lv_iconst (v := 3) hx hb dX2_init_79 (by decide +kernel) ?_
      refine dg_size hP (by omega) (by first | decide +kernel | (have h9 := hk9; omega)) hsz (by omega) (fun hz => ?_)
      refine dg_newi hx hb (hts _ (bw_mem wB_1325)) K hP hS hz (rX_10 d hk_d) (by decide +kernel) (by decide +kernel) (dk_dq rfl) (Nat.le_of_ble_eq_true rfl) (Nat.le_of_ble_eq_true rfl) dX2_init_80 (fun S_20 e_20 H hP hS hz => ?_)
      as_aux_lemma =>
        refine W.widen (k := 10) (n := 1733) (by omega) (by omega) ?_
        have hP : va_P D vwCl (dg_w g (shX.take (d + 11)) o rf S_20) H := hP
        have hg_20 : dg_Ag S S_20 d := hg_19.tk (dg_Ag.uf e_20 (by omega))
        have hJ_20 : dg_Jr alX tFX tAX shX o S_20 (d + 1) (d + 11) := (hJ_19.Ag (dg_Ag.uf e_20 (Nat.le_refl _)) (Nat.le_refl _)).ext (dg_Jr.one (dg_Jc.row (rX_10 d hk_d) rfl (dg_uf_at e_20) (by intro t h; have h2 : tAX[29]? = some (1, 0, 1600) := (by decide +kernel); rw [h2] at h; cases h; exact fun _ => (dk_dq rfl))))
        refine dg_putF (ci := 2) (v := .ref (o + (d + 10))) (ty := tyX2 17) (C := RX2) (T := TX2) (N := 19) hx hb hts (fun w h => bw_mem (wU_X2 w h)) tyX2 tyX2_ok nmX2 hown K hP hS (hA1 _) (dg_tk (rX_0 d hk_d) (by omega)) rfl 17 (dk_dq rfl) (hts _ (bw_mem wB_12)) (fun _ h9 => h9) rfl hin rfl (by decide +kernel) rfl rfl dX2_init_82 (fun S_21 e_21 H locs hP hS => ?_)
        have hg_21 : dg_Ag S S_21 d := hg_20.tk (dg_Ag.uF e_21 (by omega))
        have hJ_21 : dg_Jr alX tFX tAX shX o S_21 (d + 1) (d + 11) := hJ_20.uF e_21 (by omega)
        refine lv_aload_n hx hb dX2_init_85 rfl (lv_at hl 0 rfl) ?_
        refine lv_iconst (v := 3) hx hb dX2_init_86 (by decide +kernel) ?_
        refine dg_size hP (by omega) (by first | decide +kernel | (have h9 := hk9; omega)) hsz (by omega) (fun hz => ?_)
        refine dg_newi hx hb (hts _ (bw_mem wB_1325)) K hP hS hz (rX_11 d hk_d) (by decide +kernel) (by decide +kernel) (dk_dq rfl) (Nat.le_of_ble_eq_true rfl) (Nat.le_of_ble_eq_true rfl) dX2_init_87 (fun S_22 e_22 H hP hS hz => ?_)
        refine W.widen (k := 11) (n := 1736) (by omega) (by omega) ?_
        have hP : va_P D vwCl (dg_w g (shX.take (d + 12)) o rf S_22) H := hP
        have hg_22 : dg_Ag S S_22 d := hg_21.tk (dg_Ag.uf e_22 (by omega))
        have hJ_22 : dg_Jr alX tFX tAX shX o S_22 (d + 1) (d + 12) := (hJ_21.Ag (dg_Ag.uf e_22 (Nat.le_refl _)) (Nat.le_refl _)).ext (dg_Jr.one (dg_Jc.row (rX_11 d hk_d) rfl (dg_uf_at e_22) (by intro t h; have h2 : tAX[30]? = some (1, 0, 1600) := (by decide +kernel); rw [h2] at h; cases h; exact fun _ => (dk_dq rfl))))
        refine dg_putF (ci := 2) (v := .ref (o + (d + 11))) (ty := tyX2 18) (C := RX2) (T := TX2) (N := 19) hx hb hts (fun w h => bw_mem (wU_X2 w h)) tyX2 tyX2_ok nmX2 hown K hP hS (hA1 _) (dg_tk (rX_0 d hk_d) (by omega)) rfl 18 (dk_dq rfl) (hts _ (bw_mem wB_11)) (fun _ h9 => h9) rfl hin rfl (by decide +kernel) rfl rfl dX2_init_89 (fun S_23 e_23 H locs hP hS => ?_)
        have hg_23 : dg_Ag S S_23 d := hg_22.tk (dg_Ag.uF e_23 (by omega))
        have hJ_23 : dg_Jr alX tFX tAX shX o S_23 (d + 1) (d + 12) := hJ_22.uF e_23 (by omega)
        have hJo := (dg_Jr.one (dg_Jc.obj (L := [(1, 0, 7), (1, 0, 7), (1, (-1), 63), (1, (-2147483648), 2147483647), (1, (-2147483648), 2147483647), (3, 1, 0), (1, 0, 6), (3, 2, 0), (1, 0, 16), (3, 3, 0), (3, 4, 0), (1, 0, 5), (3, 5, 0), (3, 6, 0), (3, 7, 0), (3, 8, 0), (3, 9, 0), (3, 10, 0), (3, 11, 0)]) (rX_0 d hk_d) (by decide +kernel) (.cons (dg_V.i1 0 ((((((((((((((((((((((((dg_uF_ne e_23 (by omega)).trans (dg_uf_F e_22 d 0)).trans (dg_uF_ne e_21 (by omega))).trans (dg_uf_F e_20 d 0)).trans (dg_uF_ne e_19 (by omega))).trans (dg_uf_F e_18 d 0)).trans (dg_uF_ne e_17 (by omega))).trans (dg_uf_F e_16 d 0)).trans (dg_uF_ne e_15 (by omega))).trans (dg_uf_F e_14 d 0)).trans (dg_uF_ne e_13 (by omega))).trans (dg_uf_F e_12 d 0)).trans (dg_uF_ne e_11 (by omega))).trans (dg_uf_F e_10 d 0)).trans (dg_uF_ne e_9 (by omega))).trans (dg_uf_F e_8 d 0)).trans (dg_uF_ne e_7 (by omega))).trans (dg_uf_F e_6 d 0)).trans (dg_uF_ne e_5 (by omega))).trans (dg_uf_F e_4 d 0)).trans (dg_uF_ne e_3 (by omega))).trans (dg_uf_F e_2 d 0)).trans (dg_uF_ne e_1 (by omega))).trans ((h0 0 (dk_dq rfl)).trans rfl)) (by decide +kernel) (by decide +kernel)) (.cons (dg_V.i1 0 ((((((((((((((((((((((((dg_uF_ne e_23 (by omega)).trans (dg_uf_F e_22 d 1)).trans (dg_uF_ne e_21 (by omega))).trans (dg_uf_F e_20 d 1)).trans (dg_uF_ne e_19 (by omega))).trans (dg_uf_F e_18 d 1)).trans (dg_uF_ne e_17 (by omega))).trans (dg_uf_F e_16 d 1)).trans (dg_uF_ne e_15 (by omega))).trans (dg_uf_F e_14 d 1)).trans (dg_uF_ne e_13 (by omega))).trans (dg_uf_F e_12 d 1)).trans (dg_uF_ne e_11 (by omega))).trans (dg_uf_F e_10 d 1)).trans (dg_uF_ne e_9 (by omega))).trans (dg_uf_F e_8 d 1)).trans (dg_uF_ne e_7 (by omega))).trans (dg_uf_F e_6 d 1)).trans (dg_uF_ne e_5 (by omega))).trans (dg_uf_F e_4 d 1)).trans (dg_uF_ne e_3 (by omega))).trans (dg_uf_F e_2 d 1)).trans (dg_uF_ne e_1 (by omega))).trans ((h0 1 (dk_dq rfl)).trans rfl)) (by decide +kernel) (by decide +kernel)) (.cons (dg_V.i1 (-1) (((((((((((((((((((((((dg_uF_ne e_23 (by omega)).trans (dg_uf_F e_22 d 2)).trans (dg_uF_ne e_21 (by omega))).trans (dg_uf_F e_20 d 2)).trans (dg_uF_ne e_19 (by omega))).trans (dg_uf_F e_18 d 2)).trans (dg_uF_ne e_17 (by omega))).trans (dg_uf_F e_16 d 2)).trans (dg_uF_ne e_15 (by omega))).trans (dg_uf_F e_14 d 2)).trans (dg_uF_ne e_13 (by omega))).trans (dg_uf_F e_12 d 2)).trans (dg_uF_ne e_11 (by omega))).trans (dg_uf_F e_10 d 2)).trans (dg_uF_ne e_9 (by omega))).trans (dg_uf_F e_8 d 2)).trans (dg_uF_ne e_7 (by omega))).trans (dg_uf_F e_6 d 2)).trans (dg_uF_ne e_5 (by omega))).trans (dg_uf_F e_4 d 2)).trans (dg_uF_ne e_3 (by omega))).trans (dg_uf_F e_2 d 2)).trans (dg_uF_at e_1)) (by decide +kernel) (by decide +kernel)) (.cons (dg_V.i1 0 ((((((((((((((((((((((((dg_uF_ne e_23 (by omega)).trans (dg_uf_F e_22 d 3)).trans (dg_uF_ne e_21 (by omega))).trans (dg_uf_F e_20 d 3)).trans (dg_uF_ne e_19 (by omega))).trans (dg_uf_F e_18 d 3)).trans (dg_uF_ne e_17 (by omega))).trans (dg_uf_F e_16 d 3)).trans (dg_uF_ne e_15 (by omega))).trans (dg_uf_F e_14 d 3)).trans (dg_uF_ne e_13 (by omega))).trans (dg_uf_F e_12 d 3)).trans (dg_uF_ne e_11 (by omega))).trans (dg_uf_F e_10 d 3)).trans (dg_uF_ne e_9 (by omega))).trans (dg_uf_F e_8 d 3)).trans (dg_uF_ne e_7 (by omega))).trans (dg_uf_F e_6 d 3)).trans (dg_uF_ne e_5 (by omega))).trans (dg_uf_F e_4 d 3)).trans (dg_uF_ne e_3 (by omega))).trans (dg_uf_F e_2 d 3)).trans (dg_uF_ne e_1 (by omega))).trans ((h0 3 (dk_dq rfl)).trans rfl)) (by decide +kernel) (by decide +kernel)) (.cons (dg_V.i1 0 ((((((((((((((((((((((((dg_uF_ne e_23 (by omega)).trans (dg_uf_F e_22 d 4)).trans (dg_uF_ne e_21 (by omega))).trans (dg_uf_F e_20 d 4)).trans (dg_uF_ne e_19 (by omega))).trans (dg_uf_F e_18 d 4)).trans (dg_uF_ne e_17 (by omega))).trans (dg_uf_F e_16 d 4)).trans (dg_uF_ne e_15 (by omega))).trans (dg_uf_F e_14 d 4)).trans (dg_uF_ne e_13 (by omega))).trans (dg_uf_F e_12 d 4)).trans (dg_uF_ne e_11 (by omega))).trans (dg_uf_F e_10 d 4)).trans (dg_uF_ne e_9 (by omega))).trans (dg_uf_F e_8 d 4)).trans (dg_uF_ne e_7 (by omega))).trans (dg_uf_F e_6 d 4)).trans (dg_uF_ne e_5 (by omega))).trans (dg_uf_F e_4 d 4)).trans (dg_uF_ne e_3 (by omega))).trans (dg_uf_F e_2 d 4)).trans (dg_uF_ne e_1 (by omega))).trans ((h0 4 (dk_dq rfl)).trans rfl)) (by decide +kernel) (by decide +kernel)) (.cons (dg_V.r1 (((((((((((((((((((((dg_uF_ne e_23 (by omega)).trans (dg_uf_F e_22 d 5)).trans (dg_uF_ne e_21 (by omega))).trans (dg_uf_F e_20 d 5)).trans (dg_uF_ne e_19 (by omega))).trans (dg_uf_F e_18 d 5)).trans (dg_uF_ne e_17 (by omega))).trans (dg_uf_F e_16 d 5)).trans (dg_uF_ne e_15 (by omega))).trans (dg_uf_F e_14 d 5)).trans (dg_uF_ne e_13 (by omega))).trans (dg_uf_F e_12 d 5)).trans (dg_uF_ne e_11 (by omega))).trans (dg_uf_F e_10 d 5)).trans (dg_uF_ne e_9 (by omega))).trans (dg_uf_F e_8 d 5)).trans (dg_uF_ne e_7 (by omega))).trans (dg_uf_F e_6 d 5)).trans (dg_uF_ne e_5 (by omega))).trans (dg_uf_F e_4 d 5)).trans (dg_uF_at e_3))) (.cons (dg_V.i1 0 ((((((((((((((((((((((((dg_uF_ne e_23 (by omega)).trans (dg_uf_F e_22 d 6)).trans (dg_uF_ne e_21 (by omega))).trans (dg_uf_F e_20 d 6)).trans (dg_uF_ne e_19 (by omega))).trans (dg_uf_F e_18 d 6)).trans (dg_uF_ne e_17 (by omega))).trans (dg_uf_F e_16 d 6)).trans (dg_uF_ne e_15 (by omega))).trans (dg_uf_F e_14 d 6)).trans (dg_uF_ne e_13 (by omega))).trans (dg_uf_F e_12 d 6)).trans (dg_uF_ne e_11 (by omega))).trans (dg_uf_F e_10 d 6)).trans (dg_uF_ne e_9 (by omega))).trans (dg_uf_F e_8 d 6)).trans (dg_uF_ne e_7 (by omega))).trans (dg_uf_F e_6 d 6)).trans (dg_uF_ne e_5 (by omega))).trans (dg_uf_F e_4 d 6)).trans (dg_uF_ne e_3 (by omega))).trans (dg_uf_F e_2 d 6)).trans (dg_uF_ne e_1 (by omega))).trans ((h0 6 (dk_dq rfl)).trans rfl)) (by decide +kernel) (by decide +kernel)) (.cons (dg_V.r1 (((((((((((((((((((dg_uF_ne e_23 (by omega)).trans (dg_uf_F e_22 d 7)).trans (dg_uF_ne e_21 (by omega))).trans (dg_uf_F e_20 d 7)).trans (dg_uF_ne e_19 (by omega))).trans (dg_uf_F e_18 d 7)).trans (dg_uF_ne e_17 (by omega))).trans (dg_uf_F e_16 d 7)).trans (dg_uF_ne e_15 (by omega))).trans (dg_uf_F e_14 d 7)).trans (dg_uF_ne e_13 (by omega))).trans (dg_uf_F e_12 d 7)).trans (dg_uF_ne e_11 (by omega))).trans (dg_uf_F e_10 d 7)).trans (dg_uF_ne e_9 (by omega))).trans (dg_uf_F e_8 d 7)).trans (dg_uF_ne e_7 (by omega))).trans (dg_uf_F e_6 d 7)).trans (dg_uF_at e_5))) (.cons (dg_V.i1 0 ((((((((((((((((((((((((dg_uF_ne e_23 (by omega)).trans (dg_uf_F e_22 d 8)).trans (dg_uF_ne e_21 (by omega))).trans (dg_uf_F e_20 d 8)).trans (dg_uF_ne e_19 (by omega))).trans (dg_uf_F e_18 d 8)).trans (dg_uF_ne e_17 (by omega))).trans (dg_uf_F e_16 d 8)).trans (dg_uF_ne e_15 (by omega))).trans (dg_uf_F e_14 d 8)).trans (dg_uF_ne e_13 (by omega))).trans (dg_uf_F e_12 d 8)).trans (dg_uF_ne e_11 (by omega))).trans (dg_uf_F e_10 d 8)).trans (dg_uF_ne e_9 (by omega))).trans (dg_uf_F e_8 d 8)).trans (dg_uF_ne e_7 (by omega))).trans (dg_uf_F e_6 d 8)).trans (dg_uF_ne e_5 (by omega))).trans (dg_uf_F e_4 d 8)).trans (dg_uF_ne e_3 (by omega))).trans (dg_uf_F e_2 d 8)).trans (dg_uF_ne e_1 (by omega))).trans ((h0 8 (dk_dq rfl)).trans rfl)) (by decide +kernel) (by decide +kernel)) (.cons (dg_V.r1 (((((((((((((((((dg_uF_ne e_23 (by omega)).trans (dg_uf_F e_22 d 9)).trans (dg_uF_ne e_21 (by omega))).trans (dg_uf_F e_20 d 9)).trans (dg_uF_ne e_19 (by omega))).trans (dg_uf_F e_18 d 9)).trans (dg_uF_ne e_17 (by omega))).trans (dg_uf_F e_16 d 9)).trans (dg_uF_ne e_15 (by omega))).trans (dg_uf_F e_14 d 9)).trans (dg_uF_ne e_13 (by omega))).trans (dg_uf_F e_12 d 9)).trans (dg_uF_ne e_11 (by omega))).trans (dg_uf_F e_10 d 9)).trans (dg_uF_ne e_9 (by omega))).trans (dg_uf_F e_8 d 9)).trans (dg_uF_at e_7))) (.cons (dg_V.r1 (((((((((((((((dg_uF_ne e_23 (by omega)).trans (dg_uf_F e_22 d 10)).trans (dg_uF_ne e_21 (by omega))).trans (dg_uf_F e_20 d 10)).trans (dg_uF_ne e_19 (by omega))).trans (dg_uf_F e_18 d 10)).trans (dg_uF_ne e_17 (by omega))).trans (dg_uf_F e_16 d 10)).trans (dg_uF_ne e_15 (by omega))).trans (dg_uf_F e_14 d 10)).trans (dg_uF_ne e_13 (by omega))).trans (dg_uf_F e_12 d 10)).trans (dg_uF_ne e_11 (by omega))).trans (dg_uf_F e_10 d 10)).trans (dg_uF_at e_9))) (.cons (dg_V.i1 0 ((((((((((((((((((((((((dg_uF_ne e_23 (by omega)).trans (dg_uf_F e_22 d 11)).trans (dg_uF_ne e_21 (by omega))).trans (dg_uf_F e_20 d 11)).trans (dg_uF_ne e_19 (by omega))).trans (dg_uf_F e_18 d 11)).trans (dg_uF_ne e_17 (by omega))).trans (dg_uf_F e_16 d 11)).trans (dg_uF_ne e_15 (by omega))).trans (dg_uf_F e_14 d 11)).trans (dg_uF_ne e_13 (by omega))).trans (dg_uf_F e_12 d 11)).trans (dg_uF_ne e_11 (by omega))).trans (dg_uf_F e_10 d 11)).trans (dg_uF_ne e_9 (by omega))).trans (dg_uf_F e_8 d 11)).trans (dg_uF_ne e_7 (by omega))).trans (dg_uf_F e_6 d 11)).trans (dg_uF_ne e_5 (by omega))).trans (dg_uf_F e_4 d 11)).trans (dg_uF_ne e_3 (by omega))).trans (dg_uf_F e_2 d 11)).trans (dg_uF_ne e_1 (by omega))).trans ((h0 11 (dk_dq rfl)).trans rfl)) (by decide +kernel) (by decide +kernel)) (.cons (dg_V.r1 (((((((((((((dg_uF_ne e_23 (by omega)).trans (dg_uf_F e_22 d 12)).trans (dg_uF_ne e_21 (by omega))).trans (dg_uf_F e_20 d 12)).trans (dg_uF_ne e_19 (by omega))).trans (dg_uf_F e_18 d 12)).trans (dg_uF_ne e_17 (by omega))).trans (dg_uf_F e_16 d 12)).trans (dg_uF_ne e_15 (by omega))).trans (dg_uf_F e_14 d 12)).trans (dg_uF_ne e_13 (by omega))).trans (dg_uf_F e_12 d 12)).trans (dg_uF_at e_11))) (.cons (dg_V.r1 (((((((((((dg_uF_ne e_23 (by omega)).trans (dg_uf_F e_22 d 13)).trans (dg_uF_ne e_21 (by omega))).trans (dg_uf_F e_20 d 13)).trans (dg_uF_ne e_19 (by omega))).trans (dg_uf_F e_18 d 13)).trans (dg_uF_ne e_17 (by omega))).trans (dg_uf_F e_16 d 13)).trans (dg_uF_ne e_15 (by omega))).trans (dg_uf_F e_14 d 13)).trans (dg_uF_at e_13))) (.cons (dg_V.r1 (((((((((dg_uF_ne e_23 (by omega)).trans (dg_uf_F e_22 d 14)).trans (dg_uF_ne e_21 (by omega))).trans (dg_uf_F e_20 d 14)).trans (dg_uF_ne e_19 (by omega))).trans (dg_uf_F e_18 d 14)).trans (dg_uF_ne e_17 (by omega))).trans (dg_uf_F e_16 d 14)).trans (dg_uF_at e_15))) (.cons (dg_V.r1 (((((((dg_uF_ne e_23 (by omega)).trans (dg_uf_F e_22 d 15)).trans (dg_uF_ne e_21 (by omega))).trans (dg_uf_F e_20 d 15)).trans (dg_uF_ne e_19 (by omega))).trans (dg_uf_F e_18 d 15)).trans (dg_uF_at e_17))) (.cons (dg_V.r1 (((((dg_uF_ne e_23 (by omega)).trans (dg_uf_F e_22 d 16)).trans (dg_uF_ne e_21 (by omega))).trans (dg_uf_F e_20 d 16)).trans (dg_uF_at e_19))) (.cons (dg_V.r1 (((dg_uF_ne e_23 (by omega)).trans (dg_uf_F e_22 d 17)).trans (dg_uF_at e_21))) (.cons (dg_V.r1 (dg_uF_at e_23)) (.nil)))))))))))))))))))) (by intro t h; have h2 : tAX[19]? = some (0, 0, 0) := (by decide +kernel); rw [h2] at h; cases h; rfl))).ext hJ_23
        exact dg_vret hx hb hr hlocks hP hS ⟨hJo, hg_23, ((((((((((((((((((((((((dg_uF_ne e_23 (by omega)).trans (dg_uf_F e_22 d 0)).trans (dg_uF_ne e_21 (by omega))).trans (dg_uf_F e_20 d 0)).trans (dg_uF_ne e_19 (by omega))).trans (dg_uf_F e_18 d 0)).trans (dg_uF_ne e_17 (by omega))).trans (dg_uf_F e_16 d 0)).trans (dg_uF_ne e_15 (by omega))).trans (dg_uf_F e_14 d 0)).trans (dg_uF_ne e_13 (by omega))).trans (dg_uf_F e_12 d 0)).trans (dg_uF_ne e_11 (by omega))).trans (dg_uf_F e_10 d 0)).trans (dg_uF_ne e_9 (by omega))).trans (dg_uf_F e_8 d 0)).trans (dg_uF_ne e_7 (by omega))).trans (dg_uf_F e_6 d 0)).trans (dg_uF_ne e_5 (by omega))).trans (dg_uf_F e_4 d 0)).trans (dg_uF_ne e_3 (by omega))).trans (dg_uf_F e_2 d 0)).trans (dg_uF_ne e_1 (by omega))).trans ((h0 0 (dk_dq rfl)).trans rfl)), ((((((((((((((((((((((((dg_uF_ne e_23 (by omega)).trans (dg_uf_F e_22 d 1)).trans (dg_uF_ne e_21 (by omega))).trans (dg_uf_F e_20 d 1)).trans (dg_uF_ne e_19 (by omega))).trans (dg_uf_F e_18 d 1)).trans (dg_uF_ne e_17 (by omega))).trans (dg_uf_F e_16 d 1)).trans (dg_uF_ne e_15 (by omega))).trans (dg_uf_F e_14 d 1)).trans (dg_uF_ne e_13 (by omega))).trans (dg_uf_F e_12 d 1)).trans (dg_uF_ne e_11 (by omega))).trans (dg_uf_F e_10 d 1)).trans (dg_uF_ne e_9 (by omega))).trans (dg_uf_F e_8 d 1)).trans (dg_uF_ne e_7 (by omega))).trans (dg_uf_F e_6 d 1)).trans (dg_uF_ne e_5 (by omega))).trans (dg_uf_F e_4 d 1)).trans (dg_uF_ne e_3 (by omega))).trans (dg_uf_F e_2 d 1)).trans (dg_uF_ne e_1 (by omega))).trans ((h0 1 (dk_dq rfl)).trans rfl)), (((((((((((((((((((((((dg_uF_ne e_23 (by omega)).trans (dg_uf_F e_22 d 2)).trans (dg_uF_ne e_21 (by omega))).trans (dg_uf_F e_20 d 2)).trans (dg_uF_ne e_19 (by omega))).trans (dg_uf_F e_18 d 2)).trans (dg_uF_ne e_17 (by omega))).trans (dg_uf_F e_16 d 2)).trans (dg_uF_ne e_15 (by omega))).trans (dg_uf_F e_14 d 2)).trans (dg_uF_ne e_13 (by omega))).trans (dg_uf_F e_12 d 2)).trans (dg_uF_ne e_11 (by omega))).trans (dg_uf_F e_10 d 2)).trans (dg_uF_ne e_9 (by omega))).trans (dg_uf_F e_8 d 2)).trans (dg_uF_ne e_7 (by omega))).trans (dg_uf_F e_6 d 2)).trans (dg_uF_ne e_5 (by omega))).trans (dg_uf_F e_4 d 2)).trans (dg_uF_ne e_3 (by omega))).trans (dg_uf_F e_2 d 2)).trans (dg_uF_at e_1)), ((((((((((((((((((((((((dg_uF_ne e_23 (by omega)).trans (dg_uf_F e_22 d 6)).trans (dg_uF_ne e_21 (by omega))).trans (dg_uf_F e_20 d 6)).trans (dg_uF_ne e_19 (by omega))).trans (dg_uf_F e_18 d 6)).trans (dg_uF_ne e_17 (by omega))).trans (dg_uf_F e_16 d 6)).trans (dg_uF_ne e_15 (by omega))).trans (dg_uf_F e_14 d 6)).trans (dg_uF_ne e_13 (by omega))).trans (dg_uf_F e_12 d 6)).trans (dg_uF_ne e_11 (by omega))).trans (dg_uf_F e_10 d 6)).trans (dg_uF_ne e_9 (by omega))).trans (dg_uf_F e_8 d 6)).trans (dg_uF_ne e_7 (by omega))).trans (dg_uf_F e_6 d 6)).trans (dg_uF_ne e_5 (by omega))).trans (dg_uf_F e_4 d 6)).trans (dg_uF_ne e_3 (by omega))).trans (dg_uf_F e_2 d 6)).trans (dg_uF_ne e_1 (by omega))).trans ((h0 6 (dk_dq rfl)).trans rfl)), ((((((((((((((((((((((((dg_uF_ne e_23 (by omega)).trans (dg_uf_F e_22 d 8)).trans (dg_uF_ne e_21 (by omega))).trans (dg_uf_F e_20 d 8)).trans (dg_uF_ne e_19 (by omega))).trans (dg_uf_F e_18 d 8)).trans (dg_uF_ne e_17 (by omega))).trans (dg_uf_F e_16 d 8)).trans (dg_uF_ne e_15 (by omega))).trans (dg_uf_F e_14 d 8)).trans (dg_uF_ne e_13 (by omega))).trans (dg_uf_F e_12 d 8)).trans (dg_uF_ne e_11 (by omega))).trans (dg_uf_F e_10 d 8)).trans (dg_uF_ne e_9 (by omega))).trans (dg_uf_F e_8 d 8)).trans (dg_uF_ne e_7 (by omega))).trans (dg_uf_F e_6 d 8)).trans (dg_uF_ne e_5 (by omega))).trans (dg_uf_F e_4 d 8)).trans (dg_uF_ne e_3 (by omega))).trans (dg_uf_F e_2 d 8)).trans (dg_uF_ne e_1 (by omega))).trans ((h0 8 (dk_dq rfl)).trans rfl)), ((((((((((((((((((((((((dg_uF_ne e_23 (by omega)).trans (dg_uf_F e_22 d 11)).trans (dg_uF_ne e_21 (by omega))).trans (dg_uf_F e_20 d 11)).trans (dg_uF_ne e_19 (by omega))).trans (dg_uf_F e_18 d 11)).trans (dg_uF_ne e_17 (by omega))).trans (dg_uf_F e_16 d 11)).trans (dg_uF_ne e_15 (by omega))).trans (dg_uf_F e_14 d 11)).trans (dg_uF_ne e_13 (by omega))).trans (dg_uf_F e_12 d 11)).trans (dg_uF_ne e_11 (by omega))).trans (dg_uf_F e_10 d 11)).trans (dg_uF_ne e_9 (by omega))).trans (dg_uf_F e_8 d 11)).trans (dg_uF_ne e_7 (by omega))).trans (dg_uf_F e_6 d 11)).trans (dg_uF_ne e_5 (by omega))).trans (dg_uf_F e_4 d 11)).trans (dg_uF_ne e_3 (by omega))).trans (dg_uf_F e_2 d 11)).trans (dg_uF_ne e_1 (by omega))).trans ((h0 11 (dk_dq rfl)).trans rfl)), ((((dg_uF_f e_23 (d + 10)).trans (dg_uf_ne e_22 (by omega))).trans (dg_uF_f e_21 (d + 10))).trans (dg_uf_at e_20)), ((dg_uF_f e_23 (d + 11)).trans (dg_uf_at e_22)), trivial⟩ dX2_init_92
set_option maxHeartbeats 8000000 in
set_option maxRecDepth 100000 in
theorem c_n_hist (l : Launch) (g : Nat → ClassId) (D : va_G) (o : Nat) (S : dg_S) (h0 : ∀ b, b < 7 → S.1 17 b = defaultValue (tyX3 b)) : Met l yX3_init (bw yX3_init cX3_init 2 none) ({ frames := 2, cells := 164, slots := 6080, locals := 52 } : Room) (dk_Pc g D (dg_w g (shX.take 18) o dg_rf0 S) (o + 18) [.ref (o + 17)]) (va_Qv (fun S' => dg_Jr alX tFX tAX shX o S' 17 182 ∧ dg_Ag S S' 17 ∧ S'.1 17 1 = .int 0 ∧ S'.1 17 2 = .int 0 ∧ True) (dg_B g D (shX.take 182) o (dg_rfH 20)) (dg_A o (shX.take 18).length (o + 18))) 164 6080 (dg_A o (shX.take 18).length (o + 18)) := by
  refine dg_met (cc := cX3_init) (maxL := 2) (ret := none) (dk_dq rfl) rfl (Nat.le_of_ble_eq_true rfl) ?_
  intro p e s m args below meth c A hAe harg hx hb hr hml hts hown hlocks hin hP K hS hA1 hA ST hsz ls hl
  have hA1 := dg_Aall (hAe.trans (congrArg (fun n => dg_A o n (o + 18)) (dg_tlen (by first | decide +kernel | omega))))
  rw [← hAe]
  have F : CallFix p m c cX3_init 2 s args (bw yX3_init cX3_init 2 none) RX3 := ⟨hx, hb, hml, hown, hts⟩
  have hl : lv_has ls 2 [(0, .ref (o + 17))] := hl
  have hg_0 : dg_Ag S S 17 := dg_Ag.rf
  have hJ_0 : dg_Jr alX tFX tAX shX o S 18 18 := dg_Jr.nil
  refine lv_aload_n hx hb dX3_init_0 rfl (lv_at hl 0 rfl) ?_
  refine W.objInit hx hb hown (hts _ (bw_mem wB_1334)) (hts _ (bw_mem wB_1323)) (hts _ (bw_mem wB_1324)) rfl (by rw [hml]; exact hl.1) rfl dX3_init_1 (Nat.le_of_ble_eq_true rfl) (Nat.le_of_ble_eq_true rfl) ?_
  refine W.eq (g2 := F0 m 4 ls []) rfl ?_
  refine lv_aload_n hx hb dX3_init_4 rfl (lv_at hl 0 rfl) ?_
  refine lv_sipush (v := 160) hx hb dX3_init_5 (by decide +kernel) ?_
  refine dg_size hP (by omega) (by first | decide +kernel | (have h9 := hk9; omega)) hsz (by omega) (fun hz => ?_)
  refine dg_newi hx hb (hts _ (bw_mem wB_1325)) K hP hS hz sX_18 (by decide +kernel) (by decide +kernel) (dk_dq rfl) (Nat.le_of_ble_eq_true rfl) (Nat.le_of_ble_eq_true rfl) dX3_init_8 (fun S_1 e_1 H hP hS hz => ?_)
  refine W.widen (k := 1) (n := 160) (by omega) (by omega) ?_
  have hP : va_P D vwCl (dg_w g (shX.take 19) o dg_rf0 S_1) H := hP
  have hg_1 : dg_Ag S S_1 17 := hg_0.tk (dg_Ag.uf e_1 (by omega))
  have hJ_1 : dg_Jr alX tFX tAX shX o S_1 18 19 := (hJ_0.Ag (dg_Ag.uf e_1 (Nat.le_refl _)) (Nat.le_refl _)).ext (dg_Jr.one (dg_Jc.row sX_18 rfl (dg_uf_at e_1) (by intro t h; have h2 : tAX[11]? = some (0, 0, 0) := (by decide +kernel); rw [h2] at h; cases h; exact fun _ => (dk_dq rfl))))
  refine dg_putF (ci := 3) (v := .ref (o + 18)) (ty := tyX3 0) (C := RX3) (T := TX3) (N := 7) hx hb hts (fun w h => bw_mem (wU_X3 w h)) tyX3 tyX3_ok nmX3 hown K hP hS (hA1 _) (dg_tk sX_17 (by omega)) rfl 0 (dk_dq rfl) (hts _ (bw_mem wB_656)) (fun _ h9 => h9) rfl hin rfl (by decide +kernel) rfl rfl dX3_init_10 (fun S_2 e_2 H locs hP hS => ?_)
  have hg_2 : dg_Ag S S_2 17 := hg_1.tk (dg_Ag.uF e_2 (by omega))
  have hJ_2 : dg_Jr alX tFX tAX shX o S_2 18 19 := hJ_1.uF e_2 (by omega)
  refine lv_aload_n hx hb dX3_init_13 rfl (lv_at hl 0 rfl) ?_
  refine lv_bipush (v := 20) hx hb dX3_init_14 (by decide +kernel) ?_
  refine dg_size hP (by omega) (by first | decide +kernel | (have h9 := hk9; omega)) hsz (by omega) (fun hz => ?_)
  refine dg_newq hx hb hown (hts _ (bw_mem wB_1335)) K hP hS hz sX_19 (by intro j; first | rfl | simp [dg_rfH]) (by decide +kernel) (by decide +kernel) (dk_dq rfl) (Nat.le_of_ble_eq_true rfl) (Nat.le_of_ble_eq_true rfl) dX3_init_16 (fun H hP hS hz => ?_)
  refine W.widen (k := 2) (n := 180) (by omega) (by omega) ?_
  have hP : va_P D vwCl (dg_w g (shX.take 20) o dg_rf0 S_2) H := hP
  have hJ_2 : dg_Jr alX tFX tAX shX o S_2 18 20 := hJ_2.ext (dg_Jr.one (dg_Jc.rowx sX_19 rfl (by intro t h; have h2 : tAX[12]? = some (0, 0, 0) := (by decide +kernel); rw [h2] at h; cases h; rfl)))
  refine dg_putF (ci := 3) (v := .ref (o + 19)) (ty := tyX3 4) (C := RX3) (T := TX3) (N := 7) hx hb hts (fun w h => bw_mem (wU_X3 w h)) tyX3 tyX3_ok nmX3 hown K hP hS (hA1 _) (dg_tk sX_17 (by omega)) rfl 4 (dk_dq rfl) (hts _ (bw_mem wB_658)) (fun _ h9 => h9) rfl hin rfl (by decide +kernel) rfl rfl dX3_init_19 (fun S_3 e_3 H locs hP hS => ?_)
  have hg_3 : dg_Ag S S_3 17 := hg_2.tk (dg_Ag.uF e_3 (by omega))
  have hJ_3 : dg_Jr alX tFX tAX shX o S_3 18 20 := hJ_2.uF e_3 (by omega)
  refine lv_aload_n hx hb dX3_init_22 rfl (lv_at hl 0 rfl) ?_
  refine lv_bipush (v := 20) hx hb dX3_init_23 (by decide +kernel) ?_
  refine lv_sipush (v := 160) hx hb dX3_init_25 (by decide +kernel) ?_
  refine dg_size hP (by omega) (by first | decide +kernel | (have h9 := hk9; omega)) hsz (by omega) (fun hz => ?_)
  refine dg_mna hx hb hown (hts _ (bw_mem wB_1336)) (hts _ (bw_mem wB_1325)) K hP hS hz sX_20 (by decide +kernel) (by decide +kernel) (Nat.le_of_ble_eq_true rfl) (Nat.le_of_ble_eq_true rfl) dX3_init_28 (fun S_4 g_4 hJn H hP hS hz => ?_)
  refine W.widen (k := 23) (n := 3400) (by omega) (by omega) ?_
  have hP : va_P D vwCl (dg_w g (shX.take 41) o (dg_rfH 0) S_4) H := hP
  have hg_4 : dg_Ag S S_4 17 := hg_3.tk (fun i hi => g_4 i (by omega))
  have hJ_4 : dg_Jr alX tFX tAX shX o S_4 18 41 := (hJ_3.Ag g_4 (Nat.le_refl _)).ext hJn
  as_aux_lemma =>
    refine dg_putF (ci := 3) (v := .ref (o + 20)) (ty := tyX3 5) (C := RX3) (T := TX3) (N := 7) hx hb hts (fun w h => bw_mem (wU_X3 w h)) tyX3 tyX3_ok nmX3 hown K hP hS (hA1 _) (dg_tk sX_17 (by omega)) rfl 5 (dk_dq rfl) (hts _ (bw_mem wB_664)) (fun _ h9 => h9) rfl hin rfl (by decide +kernel) rfl rfl dX3_init_32 (fun S_5 e_5 H locs hP hS => ?_)
    have hg_5 : dg_Ag S S_5 17 := hg_4.tk (dg_Ag.uF e_5 (by omega))
    have hJ_5 : dg_Jr alX tFX tAX shX o S_5 18 41 := hJ_4.uF e_5 (by omega)
    refine lv_aload_n hx hb dX3_init_35 rfl (lv_at hl 0 rfl) ?_
    refine lv_bipush (v := 20) hx hb dX3_init_36 (by decide +kernel) ?_
    refine dg_size hP (by omega) (by first | decide +kernel | (have h9 := hk9; omega)) hsz (by omega) (fun hz => ?_)
    refine dg_newi hx hb (hts _ (bw_mem wB_1325)) K hP hS hz sX_41 (by decide +kernel) (by decide +kernel) (dk_dq rfl) (Nat.le_of_ble_eq_true rfl) (Nat.le_of_ble_eq_true rfl) dX3_init_38 (fun S_6 e_6 H hP hS hz => ?_)
    refine W.widen (k := 24) (n := 3420) (by omega) (by omega) ?_
    have hP : va_P D vwCl (dg_w g (shX.take 42) o (dg_rfH 0) S_6) H := hP
    have hg_6 : dg_Ag S S_6 17 := hg_5.tk (dg_Ag.uf e_6 (by omega))
    have hJ_6 : dg_Jr alX tFX tAX shX o S_6 18 42 := (hJ_5.Ag (dg_Ag.uf e_6 (Nat.le_refl _)) (Nat.le_refl _)).ext (dg_Jr.one (dg_Jc.row sX_41 rfl (dg_uf_at e_6) (by intro t h; have h2 : tAX[15]? = some (1, 0, 40) := (by decide +kernel); rw [h2] at h; cases h; exact fun _ => (dk_dq rfl))))
    refine dg_putF (ci := 3) (v := .ref (o + 41)) (ty := tyX3 6) (C := RX3) (T := TX3) (N := 7) hx hb hts (fun w h => bw_mem (wU_X3 w h)) tyX3 tyX3_ok nmX3 hown K hP hS (hA1 _) (dg_tk sX_17 (by omega)) rfl 6 (dk_dq rfl) (hts _ (bw_mem wB_665)) (fun _ h9 => h9) rfl hin rfl (by decide +kernel) rfl rfl dX3_init_40 (fun S_7 e_7 H locs hP hS => ?_)
    have hg_7 : dg_Ag S S_7 17 := hg_6.tk (dg_Ag.uF e_7 (by omega))
    have hJ_7 : dg_Jr alX tFX tAX shX o S_7 18 42 := hJ_6.uF e_7 (by omega)
    refine lv_iconst (v := 0) hx hb dX3_init_43 (by decide +kernel) ?_
    refine lv_istore_n (lv' := [(1, .int 0), (0, .ref (o + 17))]) hx hb dX3_init_44 rfl hl (dk_dq rfl) rfl (fun ls hl => ?_)
    have loop : ∀ (n i : Nat), i + n = 20 → ∀ (S_8 : dg_S) (H : Heap) (locs : List Loc), va_P D vwCl (dg_w g (shX.take (42 + 7 * i)) o (dg_rfH i) S_8) H → va_S A s.heap H locs → dg_Jr alX tFX tAX shX o S_8 18 (42 + 7 * i) → dg_Ag S_7 S_8 42 → ∀ ls : Array Slot, lv_has ls 2 [(1, .int (nI i)), (0, .ref (o + 17))] → W p l e ({ frames := 2, cells := 164, slots := 6080, locals := 52 } : Room) s m args below meth c H locs (24 + 7 * i) (3420 + 133 * i) (MQ below (va_Qv (fun S' => dg_Jr alX tFX tAX shX o S' 17 182 ∧ dg_Ag S S' 17 ∧ S'.1 17 1 = .int 0 ∧ S'.1 17 2 = .int 0 ∧ True) (dg_B g D (shX.take 182) o (dg_rfH 20)) A) args s 164 6080 A) (F0 m 45 ls []) := by
      as_aux_lemma =>
        intro n
        induction n with
        | zero =>
          intro i hi S_8 H locs hP hS hJ_8 g_8 ls hl
          obtain rfl : i = 20 := by omega
          have hg_8 : dg_Ag S S_8 17 := hg_7.tk (fun i9 hi9 => g_8 i9 (by omega))
          refine lv_iload_n hx hb dX3_init_45 rfl (lv_at hl 0 rfl) ?_
          refine lv_bipush (v := 20) hx hb dX3_init_46 (by decide +kernel) ?_
          refine lv_icmp_ge (tgt := 70) hx hb dX3_init_48 (dk_dq rfl) (fun _ => ?_) (fun c => absurd (by decide +kernel) c)
          refine W.widen (k := 164) (n := 6080) (by omega) (by omega) ?_
          have hP : va_P D vwCl (dg_w g (shX.take 182) o (dg_rfH 20) S_8) H := hP
          have hJ_8 : dg_Jr alX tFX tAX shX o S_8 18 182 := hJ_8
          have hJo := (dg_Jr.one (dg_Jc.obj (L := [(3, 1, 0), (1, 0, 40), (1, 0, 20), (1, 0, 19), (3, 2, 0), (3, 3, 0), (3, 24, 0)]) sX_17 (by decide +kernel) (.cons (dg_V.r1 ((((((((g_8 17 (by omega)).1 0).trans (dg_uF_ne e_7 (by omega))).trans (dg_uf_F e_6 17 0)).trans (dg_uF_ne e_5 (by omega))).trans ((g_4 17 (by omega)).1 0)).trans (dg_uF_ne e_3 (by omega))).trans (dg_uF_at e_2))) (.cons (dg_V.i1 0 ((((((((((g_8 17 (by omega)).1 1).trans (dg_uF_ne e_7 (by omega))).trans (dg_uf_F e_6 17 1)).trans (dg_uF_ne e_5 (by omega))).trans ((g_4 17 (by omega)).1 1)).trans (dg_uF_ne e_3 (by omega))).trans (dg_uF_ne e_2 (by omega))).trans (dg_uf_F e_1 17 1)).trans ((h0 1 (dk_dq rfl)).trans rfl)) (by decide +kernel) (by decide +kernel)) (.cons (dg_V.i1 0 ((((((((((g_8 17 (by omega)).1 2).trans (dg_uF_ne e_7 (by omega))).trans (dg_uf_F e_6 17 2)).trans (dg_uF_ne e_5 (by omega))).trans ((g_4 17 (by omega)).1 2)).trans (dg_uF_ne e_3 (by omega))).trans (dg_uF_ne e_2 (by omega))).trans (dg_uf_F e_1 17 2)).trans ((h0 2 (dk_dq rfl)).trans rfl)) (by decide +kernel) (by decide +kernel)) (.cons (dg_V.i1 0 ((((((((((g_8 17 (by omega)).1 3).trans (dg_uF_ne e_7 (by omega))).trans (dg_uf_F e_6 17 3)).trans (dg_uF_ne e_5 (by omega))).trans ((g_4 17 (by omega)).1 3)).trans (dg_uF_ne e_3 (by omega))).trans (dg_uF_ne e_2 (by omega))).trans (dg_uf_F e_1 17 3)).trans ((h0 3 (dk_dq rfl)).trans rfl)) (by decide +kernel) (by decide +kernel)) (.cons (dg_V.r1 (((((((g_8 17 (by omega)).1 4).trans (dg_uF_ne e_7 (by omega))).trans (dg_uf_F e_6 17 4)).trans (dg_uF_ne e_5 (by omega))).trans ((g_4 17 (by omega)).1 4)).trans (dg_uF_at e_3))) (.cons (dg_V.r1 (((((g_8 17 (by omega)).1 5).trans (dg_uF_ne e_7 (by omega))).trans (dg_uf_F e_6 17 5)).trans (dg_uF_at e_5))) (.cons (dg_V.r1 (((g_8 17 (by omega)).1 6).trans (dg_uF_at e_7))) (.nil)))))))) (by intro t h; have h2 : tAX[10]? = some (0, 0, 0) := (by decide +kernel); rw [h2] at h; cases h; rfl))).ext hJ_8
          exact dg_vret hx hb hr hlocks hP hS ⟨hJo, hg_8, ((((((((((g_8 17 (by omega)).1 1).trans (dg_uF_ne e_7 (by omega))).trans (dg_uf_F e_6 17 1)).trans (dg_uF_ne e_5 (by omega))).trans ((g_4 17 (by omega)).1 1)).trans (dg_uF_ne e_3 (by omega))).trans (dg_uF_ne e_2 (by omega))).trans (dg_uf_F e_1 17 1)).trans ((h0 1 (dk_dq rfl)).trans rfl)), ((((((((((g_8 17 (by omega)).1 2).trans (dg_uF_ne e_7 (by omega))).trans (dg_uf_F e_6 17 2)).trans (dg_uF_ne e_5 (by omega))).trans ((g_4 17 (by omega)).1 2)).trans (dg_uF_ne e_3 (by omega))).trans (dg_uF_ne e_2 (by omega))).trans (dg_uf_F e_1 17 2)).trans ((h0 2 (dk_dq rfl)).trans rfl)), trivial⟩ dX3_init_70
        | succ n ih =>
          as_aux_lemma =>
            intro i hi S_8 H locs hP hS hJ_8 g_8 ls hl
            have hg_8 : dg_Ag S S_8 17 := hg_7.tk (fun i9 hi9 => g_8 i9 (by omega))
            obtain ⟨d, hd⟩ : ∃ d, d = 42 + 7 * i := ⟨_, rfl⟩
            have hkd : pX d := by rw [hd]; exact pX_h9 i (by omega)
            have hk9 := pX_le d hkd
            rw [← hd] at hP hJ_8
            refine lv_iload_n hx hb dX3_init_45 rfl (lv_at hl 0 rfl) ?_
            refine lv_bipush (v := 20) hx hb dX3_init_46 (by decide +kernel) ?_
            refine lv_icmp_ge (tgt := 70) hx hb dX3_init_48 (dk_dq rfl) (fun c => absurd c (nI_ge (a := i) (b := 20) (by omega) (by omega))) (fun _ => ?_)
            refine lv_aload_n hx hb dX3_init_51 rfl (lv_at hl 1 rfl) ?_
            refine dg_get (C := RX3) (T := TX3) (N := 7) hx hb hts (fun w h => bw_mem (wU_X3 w h)) hown K hP (dg_tk sX_17 (by omega)) rfl 4 (dk_dq rfl) (hts _ (bw_mem wB_658)) (fun _ h9 => h9) (v := .ref (o + 19)) (((((((g_8 17 (by omega)).1 4).trans (dg_uF_ne e_7 (by omega))).trans (dg_uf_F e_6 17 4)).trans (dg_uF_ne e_5 (by omega))).trans ((g_4 17 (by omega)).1 4)).trans (dg_uF_at e_3)) dX3_init_52 ?_
            refine lv_iload_n hx hb dX3_init_55 rfl (lv_at hl 0 rfl) ?_
            refine dg_size hP (by omega) (by first | decide +kernel | (have h9 := hk9; omega)) hsz (by omega) (fun hz => ?_)
            refine dg_newo (ci := 5) (C := RX5) (T := TX5) (N := 8) (f := fun j => defaultValue (tyX5 j)) hx hb hts (fun w h => bw_mem (wU_X5 w h)) tyX5 tyX5_ok hown (hts _ (bw_mem wB_1335)) (hts _ (bw_mem wB_1337)) (hts _ (bw_mem wB_493)) K hP hS hz (pX_0 d hkd) rfl (fun _ _ => rfl) (by show _ ≤ 164; omega) (by show _ ≤ 6080; omega) dX3_init_56 (fun S_9 e_9 H hP hS hz => ?_)
            refine W.widen (k := 24 + 7 * i + 1) (n := 3420 + 133 * i + 8) (by omega) (by omega) ?_
            have hP : va_P D vwCl (dg_w g (shX.take (d + 1)) o (dg_rfH i) S_9) H := hP
            have hg_9 : dg_Ag S S_9 17 := hg_8.tk (dg_Ag.uN e_9 (by omega))
            have hJ_9 : dg_Jr alX tFX tAX shX o S_9 18 d := hJ_8.Ag (dg_Ag.uN e_9 (Nat.le_refl _)) (Nat.le_refl _)
            refine lv_dup hx hb dX3_init_59 rfl ?_
            have hz9 : H.size = (o + (d + 1)) := hz
            refine dg_gcallv hz9 hS (hA1 _) hA (va_runIN (As := []) (rest := [.ref (o + d), .int ((nI i)), .ref (o + 19)]) F (c_n_pit l g D o S_9 (dg_rfH i) d hkd (fun b hb9 => dg_uN_at e_9 b)) ⟨va_cnB 0 hts (bw_in wB_1338) rfl rfl rfl (K.2.1 _ (List.mem_of_getElem? (i := 2) rfl)) (hts _ (bw_mem wB_493)) (by decide +kernel) ⟨Nat.le_of_ble_eq_true rfl, Nat.le_of_ble_eq_true rfl⟩, rfl, (hts _ (bw_mem wB_1339))⟩ (by rw [← hz9]; exact dg_preS K ST hP hS (hA1 _) hA) rfl rfl hl.1 rfl (lv_room (Nat.le_of_ble_eq_true rfl)) dX3_init_60 ⟨(by show _ ≤ 164; omega), (by show _ ≤ 6080; omega)⟩) (fun S_10 hw_10 H locs hP hS => ?_)
            obtain ⟨c_10, g_10, kr_10_0, kr_10_1, -⟩ := hw_10
            refine W.widen (k := 24 + 7 * i + 7) (n := 3420 + 133 * i + 133) (by omega) (by omega) ?_
            have hP : va_P D vwCl (dg_w g (shX.take (d + 7)) o (dg_rfH i) S_10) H := hP
            have hg_10 : dg_Ag S S_10 17 := hg_9.tk (fun i hi => g_10 i (by omega))
            have hJ_10 : dg_Jr alX tFX tAX shX o S_10 18 (d + 7) := (hJ_9.Ag g_10 (Nat.le_refl _)).ext c_10
            refine dg_astq (rf' := dg_rfH (i + 1)) (j := d) hx hb K hP hS (hA1 _) (dg_tk sX_19 (by omega)) (dg_tk (pX_0 d hkd) (by omega)) (x := nI i) (vp_in_nI (by omega) (by omega)) (dg_rfH_ne i) (dg_rfH_s (by omega) hd) ⟨_, rfl, rfl⟩ dX3_init_63 (fun H locs hP hS => ?_)
            refine lv_iinc (v := (nI (i + 1))) (lv' := [(1, .int (nI (i + 1))), (0, .ref (o + 17))]) hx hb dX3_init_64 hl (k := 0) rfl (dk_addc (b := 1) rfl) (dk_dq rfl) rfl (fun ls hl => ?_)
            refine lv_goto (tgt := 45) hx hb dX3_init_67 (dk_dq rfl) ?_
            have e7 : d + 7 = 42 + 7 * (i + 1) := by omega
            have hP : va_P D vwCl (dg_w g (shX.take (d + 7)) o (dg_rfH (i + 1)) S_10) H := hP
            have hJ_10 : dg_Jr alX tFX tAX shX o S_10 18 (d + 7) := hJ_10
            rw [e7] at hP hJ_10
            refine W.widen (k := 24 + 7 * (i + 1)) (n := 3420 + 133 * (i + 1)) (by omega) (by omega) ?_
            exact ih (i + 1) (by omega) S_10 H locs hP hS hJ_10 ((g_8.tk (dg_Ag.uN e_9 (by omega))).tk (fun j hj => g_10 j (by omega))) ls hl
    exact loop 20 0 rfl S_7 H locs (by exact hP) hS (by exact hJ_7) dg_Ag.rf ls hl
set_option maxHeartbeats 8000000 in
set_option maxRecDepth 100000 in
theorem c_n_image (l : Launch) (g : Nat → ClassId) (D : va_G) (o : Nat) (S : dg_S) (rf : dg_R) (h0 : ∀ b, b < 6 → S.1 182 b = defaultValue (tyX4 b)) : Met l yX4_init (bw yX4_init cX4_init 2 none) ({ frames := 1, cells := 1, slots := 124, locals := 32 } : Room) (dk_Pc g D (dg_w g (shX.take 183) o rf S) (o + 183) [.ref (o + 182), .ref (o + 1)]) (va_Qv (fun S' => dg_Jr alX tFX tAX shX o S' 182 184 ∧ dg_Ag S S' 182 ∧ S'.1 182 1 = .int 0 ∧ True) (dg_B g D (shX.take 184) o rf) (dg_A o (shX.take 183).length (o + 183))) 1 124 (dg_A o (shX.take 183).length (o + 183)) := by
  refine dg_met (cc := cX4_init) (maxL := 2) (ret := none) (dk_dq rfl) rfl (Nat.le_of_ble_eq_true rfl) ?_
  intro p e s m args below meth c A hAe harg hx hb hr hml hts hown hlocks hin hP K hS hA1 hA ST hsz ls hl
  have hA1 := dg_Aall (hAe.trans (congrArg (fun n => dg_A o n (o + 183)) (dg_tlen (by first | decide +kernel | omega))))
  rw [← hAe]
  have F : CallFix p m c cX4_init 2 s args (bw yX4_init cX4_init 2 none) RX4 := ⟨hx, hb, hml, hown, hts⟩
  have hl : lv_has ls 2 [(0, .ref (o + 182)), (1, .ref (o + 1))] := hl
  have hg_0 : dg_Ag S S 182 := dg_Ag.rf
  have hJ_0 : dg_Jr alX tFX tAX shX o S 183 183 := dg_Jr.nil
  refine lv_aload_n hx hb dX4_init_0 rfl (lv_at hl 0 rfl) ?_
  refine W.objInit hx hb hown (hts _ (bw_mem wB_1340)) (hts _ (bw_mem wB_1323)) (hts _ (bw_mem wB_1324)) rfl (by rw [hml]; exact hl.1) rfl dX4_init_1 (Nat.le_of_ble_eq_true rfl) (Nat.le_of_ble_eq_true rfl) ?_
  refine W.eq (g2 := F0 m 4 ls []) rfl ?_
  refine lv_aload_n hx hb dX4_init_4 rfl (lv_at hl 0 rfl) ?_
  refine lv_bipush (v := 124) hx hb dX4_init_5 (by decide +kernel) ?_
  refine dg_size hP (by omega) (by first | decide +kernel | (have h9 := hk9; omega)) hsz (by omega) (fun hz => ?_)
  refine dg_newi hx hb (hts _ (bw_mem wB_1325)) K hP hS hz sX_183 (by decide +kernel) (by decide +kernel) (dk_dq rfl) (Nat.le_of_ble_eq_true rfl) (Nat.le_of_ble_eq_true rfl) dX4_init_7 (fun S_1 e_1 H hP hS hz => ?_)
  refine W.widen (k := 1) (n := 124) (by omega) (by omega) ?_
  have hP : va_P D vwCl (dg_w g (shX.take 184) o rf S_1) H := hP
  have hg_1 : dg_Ag S S_1 182 := hg_0.tk (dg_Ag.uf e_1 (by omega))
  have hJ_1 : dg_Jr alX tFX tAX shX o S_1 183 184 := (hJ_0.Ag (dg_Ag.uf e_1 (Nat.le_refl _)) (Nat.le_refl _)).ext (dg_Jr.one (dg_Jc.row sX_183 rfl (dg_uf_at e_1) (by intro t h; have h2 : tAX[17]? = some (0, 0, 0) := (by decide +kernel); rw [h2] at h; cases h; exact fun _ => (dk_dq rfl))))
  refine dg_putF (ci := 4) (v := .ref (o + 183)) (ty := tyX4 0) (C := RX4) (T := TX4) (N := 6) hx hb hts (fun w h => bw_mem (wU_X4 w h)) tyX4 tyX4_ok nmX4 hown K hP hS (hA1 _) (dg_tk sX_182 (by omega)) rfl 0 (dk_dq rfl) (hts _ (bw_mem wB_778)) (fun _ h9 => h9) rfl hin rfl (by decide +kernel) rfl rfl dX4_init_9 (fun S_2 e_2 H locs hP hS => ?_)
  have hg_2 : dg_Ag S S_2 182 := hg_1.tk (dg_Ag.uF e_2 (by omega))
  have hJ_2 : dg_Jr alX tFX tAX shX o S_2 183 184 := hJ_1.uF e_2 (by omega)
  refine lv_aload_n hx hb dX4_init_12 rfl (lv_at hl 0 rfl) ?_
  refine lv_aload_n hx hb dX4_init_13 rfl (lv_at hl 1 rfl) ?_
  refine dg_putF (ci := 4) (v := .ref (o + 1)) (ty := tyX4 2) (C := RX4) (T := TX4) (N := 6) hx hb hts (fun w h => bw_mem (wU_X4 w h)) tyX4 tyX4_ok nmX4 hown K hP hS (hA1 _) (dg_tk sX_182 (by omega)) rfl 2 (dk_dq rfl) (hts _ (bw_mem wB_805)) (fun _ h9 => h9) rfl hin rfl (by decide +kernel) rfl rfl dX4_init_14 (fun S_3 e_3 H locs hP hS => ?_)
  have hg_3 : dg_Ag S S_3 182 := hg_2.tk (dg_Ag.uF e_3 (by omega))
  have hJ_3 : dg_Jr alX tFX tAX shX o S_3 183 184 := hJ_2.uF e_3 (by omega)
  have hJo := (dg_Jr.one (dg_Jc.obj (L := [(3, 1, 0), (1, 0, 124), (4, 1, 0), (1, (-2147483648), 2147483647), (1, 0, 1600), (1, 0, 1)]) sX_182 (by decide +kernel) (.cons (dg_V.r1 ((dg_uF_ne e_3 (by omega)).trans (dg_uF_at e_2))) (.cons (dg_V.i1 0 ((((dg_uF_ne e_3 (by omega)).trans (dg_uF_ne e_2 (by omega))).trans (dg_uf_F e_1 182 1)).trans ((h0 1 (dk_dq rfl)).trans rfl)) (by decide +kernel) (by decide +kernel)) (.cons (dg_V.a1 (dg_uF_at e_3)) (.cons (dg_V.i1 0 ((((dg_uF_ne e_3 (by omega)).trans (dg_uF_ne e_2 (by omega))).trans (dg_uf_F e_1 182 3)).trans ((h0 3 (dk_dq rfl)).trans rfl)) (by decide +kernel) (by decide +kernel)) (.cons (dg_V.i1 0 ((((dg_uF_ne e_3 (by omega)).trans (dg_uF_ne e_2 (by omega))).trans (dg_uf_F e_1 182 4)).trans ((h0 4 (dk_dq rfl)).trans rfl)) (by decide +kernel) (by decide +kernel)) (.cons (dg_V.i1 0 ((((dg_uF_ne e_3 (by omega)).trans (dg_uF_ne e_2 (by omega))).trans (dg_uf_F e_1 182 5)).trans ((h0 5 (dk_dq rfl)).trans rfl)) (by decide +kernel) (by decide +kernel)) (.nil))))))) (by intro t h; have h2 : tAX[16]? = some (0, 0, 0) := (by decide +kernel); rw [h2] at h; cases h; rfl))).ext hJ_3
  exact dg_vret hx hb hr hlocks hP hS ⟨hJo, hg_3, ((((dg_uF_ne e_3 (by omega)).trans (dg_uF_ne e_2 (by omega))).trans (dg_uf_F e_1 182 1)).trans ((h0 1 (dk_dq rfl)).trans rfl)), trivial⟩ dX4_init_17
set_option maxHeartbeats 8000000 in
set_option maxRecDepth 100000 in
theorem c_n_words (l : Launch) (g : Nat → ClassId) (D : va_G) (o : Nat) (S : dg_S) (rf : dg_R) (h0 : ∀ b, b < 5 → S.1 210 b = defaultValue (tyX9 b)) : Met l yX9_init (bw yX9_init cX9_init 1 none) ({ frames := 1, cells := 3, slots := 4803, locals := 32 } : Room) (dk_Pc g D (dg_w g (shX.take 211) o rf S) (o + 211) [.ref (o + 210)]) (va_Qv (fun S' => dg_Jr alX tFX tAX shX o S' 210 214 ∧ dg_Ag S S' 210 ∧ True) (dg_B g D (shX.take 214) o rf) (dg_A o (shX.take 211).length (o + 211))) 3 4803 (dg_A o (shX.take 211).length (o + 211)) := by
  refine dg_met (cc := cX9_init) (maxL := 1) (ret := none) (dk_dq rfl) rfl (Nat.le_of_ble_eq_true rfl) ?_
  intro p e s m args below meth c A hAe harg hx hb hr hml hts hown hlocks hin hP K hS hA1 hA ST hsz ls hl
  have hA1 := dg_Aall (hAe.trans (congrArg (fun n => dg_A o n (o + 211)) (dg_tlen (by first | decide +kernel | omega))))
  rw [← hAe]
  have F : CallFix p m c cX9_init 1 s args (bw yX9_init cX9_init 1 none) RX9 := ⟨hx, hb, hml, hown, hts⟩
  have hl : lv_has ls 1 [(0, .ref (o + 210))] := hl
  have hg_0 : dg_Ag S S 210 := dg_Ag.rf
  have hJ_0 : dg_Jr alX tFX tAX shX o S 211 211 := dg_Jr.nil
  refine lv_aload_n hx hb dX9_init_0 rfl (lv_at hl 0 rfl) ?_
  refine W.objInit hx hb hown (hts _ (bw_mem wB_1341)) (hts _ (bw_mem wB_1323)) (hts _ (bw_mem wB_1324)) rfl (by rw [hml]; exact hl.1) rfl dX9_init_1 (Nat.le_of_ble_eq_true rfl) (Nat.le_of_ble_eq_true rfl) ?_
  refine W.eq (g2 := F0 m 4 ls []) rfl ?_
  refine lv_aload_n hx hb dX9_init_4 rfl (lv_at hl 0 rfl) ?_
  refine lv_sipush (v := 1601) hx hb dX9_init_5 (by decide +kernel) ?_
  refine dg_size hP (by omega) (by first | decide +kernel | (have h9 := hk9; omega)) hsz (by omega) (fun hz => ?_)
  refine dg_newi hx hb (hts _ (bw_mem wB_1325)) K hP hS hz sX_211 (by decide +kernel) (by decide +kernel) (dk_dq rfl) (Nat.le_of_ble_eq_true rfl) (Nat.le_of_ble_eq_true rfl) dX9_init_8 (fun S_1 e_1 H hP hS hz => ?_)
  refine W.widen (k := 1) (n := 1601) (by omega) (by omega) ?_
  have hP : va_P D vwCl (dg_w g (shX.take 212) o rf S_1) H := hP
  have hg_1 : dg_Ag S S_1 210 := hg_0.tk (dg_Ag.uf e_1 (by omega))
  have hJ_1 : dg_Jr alX tFX tAX shX o S_1 211 212 := (hJ_0.Ag (dg_Ag.uf e_1 (Nat.le_refl _)) (Nat.le_refl _)).ext (dg_Jr.one (dg_Jc.row sX_211 rfl (dg_uf_at e_1) (by intro t h; have h2 : tAX[33]? = some (0, 0, 0) := (by decide +kernel); rw [h2] at h; cases h; exact fun _ => (dk_dq rfl))))
  refine dg_putF (ci := 9) (v := .ref (o + 211)) (ty := tyX9 0) (C := RX9) (T := TX9) (N := 5) hx hb hts (fun w h => bw_mem (wU_X9 w h)) tyX9 tyX9_ok nmX9 hown K hP hS (hA1 _) (dg_tk sX_210 (by omega)) rfl 0 (dk_dq rfl) (hts _ (bw_mem wB_180)) (fun _ h9 => h9) rfl hin rfl (by decide +kernel) rfl rfl dX9_init_10 (fun S_2 e_2 H locs hP hS => ?_)
  have hg_2 : dg_Ag S S_2 210 := hg_1.tk (dg_Ag.uF e_2 (by omega))
  have hJ_2 : dg_Jr alX tFX tAX shX o S_2 211 212 := hJ_1.uF e_2 (by omega)
  refine lv_aload_n hx hb dX9_init_13 rfl (lv_at hl 0 rfl) ?_
  refine lv_sipush (v := 1601) hx hb dX9_init_14 (by decide +kernel) ?_
  refine dg_size hP (by omega) (by first | decide +kernel | (have h9 := hk9; omega)) hsz (by omega) (fun hz => ?_)
  refine dg_newi hx hb (hts _ (bw_mem wB_1325)) K hP hS hz sX_212 (by decide +kernel) (by decide +kernel) (dk_dq rfl) (Nat.le_of_ble_eq_true rfl) (Nat.le_of_ble_eq_true rfl) dX9_init_17 (fun S_3 e_3 H hP hS hz => ?_)
  refine W.widen (k := 2) (n := 3202) (by omega) (by omega) ?_
  have hP : va_P D vwCl (dg_w g (shX.take 213) o rf S_3) H := hP
  have hg_3 : dg_Ag S S_3 210 := hg_2.tk (dg_Ag.uf e_3 (by omega))
  have hJ_3 : dg_Jr alX tFX tAX shX o S_3 211 213 := (hJ_2.Ag (dg_Ag.uf e_3 (Nat.le_refl _)) (Nat.le_refl _)).ext (dg_Jr.one (dg_Jc.row sX_212 rfl (dg_uf_at e_3) (by intro t h; have h2 : tAX[34]? = some (0, 0, 0) := (by decide +kernel); rw [h2] at h; cases h; exact fun _ => (dk_dq rfl))))
  refine dg_putF (ci := 9) (v := .ref (o + 212)) (ty := tyX9 1) (C := RX9) (T := TX9) (N := 5) hx hb hts (fun w h => bw_mem (wU_X9 w h)) tyX9 tyX9_ok nmX9 hown K hP hS (hA1 _) (dg_tk sX_210 (by omega)) rfl 1 (dk_dq rfl) (hts _ (bw_mem wB_181)) (fun _ h9 => h9) rfl hin rfl (by decide +kernel) rfl rfl dX9_init_19 (fun S_4 e_4 H locs hP hS => ?_)
  have hg_4 : dg_Ag S S_4 210 := hg_3.tk (dg_Ag.uF e_4 (by omega))
  have hJ_4 : dg_Jr alX tFX tAX shX o S_4 211 213 := hJ_3.uF e_4 (by omega)
  refine lv_aload_n hx hb dX9_init_22 rfl (lv_at hl 0 rfl) ?_
  refine lv_sipush (v := 1601) hx hb dX9_init_23 (by decide +kernel) ?_
  refine dg_size hP (by omega) (by first | decide +kernel | (have h9 := hk9; omega)) hsz (by omega) (fun hz => ?_)
  refine dg_newi hx hb (hts _ (bw_mem wB_1325)) K hP hS hz sX_213 (by decide +kernel) (by decide +kernel) (dk_dq rfl) (Nat.le_of_ble_eq_true rfl) (Nat.le_of_ble_eq_true rfl) dX9_init_26 (fun S_5 e_5 H hP hS hz => ?_)
  refine W.widen (k := 3) (n := 4803) (by omega) (by omega) ?_
  have hP : va_P D vwCl (dg_w g (shX.take 214) o rf S_5) H := hP
  have hg_5 : dg_Ag S S_5 210 := hg_4.tk (dg_Ag.uf e_5 (by omega))
  have hJ_5 : dg_Jr alX tFX tAX shX o S_5 211 214 := (hJ_4.Ag (dg_Ag.uf e_5 (Nat.le_refl _)) (Nat.le_refl _)).ext (dg_Jr.one (dg_Jc.row sX_213 rfl (dg_uf_at e_5) (by intro t h; have h2 : tAX[35]? = some (0, 0, 0) := (by decide +kernel); rw [h2] at h; cases h; exact fun _ => (dk_dq rfl))))
  refine dg_putF (ci := 9) (v := .ref (o + 213)) (ty := tyX9 2) (C := RX9) (T := TX9) (N := 5) hx hb hts (fun w h => bw_mem (wU_X9 w h)) tyX9 tyX9_ok nmX9 hown K hP hS (hA1 _) (dg_tk sX_210 (by omega)) rfl 2 (dk_dq rfl) (hts _ (bw_mem wB_182)) (fun _ h9 => h9) rfl hin rfl (by decide +kernel) rfl rfl dX9_init_28 (fun S_6 e_6 H locs hP hS => ?_)
  have hg_6 : dg_Ag S S_6 210 := hg_5.tk (dg_Ag.uF e_6 (by omega))
  have hJ_6 : dg_Jr alX tFX tAX shX o S_6 211 214 := hJ_5.uF e_6 (by omega)
  have hJo := (dg_Jr.one (dg_Jc.obj (L := [(3, 1, 0), (3, 2, 0), (3, 3, 0), (1, 0, 1601), (1, (-2147483648), 2147483647)]) sX_210 (by decide +kernel) (.cons (dg_V.r1 (((((dg_uF_ne e_6 (by omega)).trans (dg_uf_F e_5 210 0)).trans (dg_uF_ne e_4 (by omega))).trans (dg_uf_F e_3 210 0)).trans (dg_uF_at e_2))) (.cons (dg_V.r1 (((dg_uF_ne e_6 (by omega)).trans (dg_uf_F e_5 210 1)).trans (dg_uF_at e_4))) (.cons (dg_V.r1 (dg_uF_at e_6)) (.cons (dg_V.i1 0 (((((((dg_uF_ne e_6 (by omega)).trans (dg_uf_F e_5 210 3)).trans (dg_uF_ne e_4 (by omega))).trans (dg_uf_F e_3 210 3)).trans (dg_uF_ne e_2 (by omega))).trans (dg_uf_F e_1 210 3)).trans ((h0 3 (dk_dq rfl)).trans rfl)) (by decide +kernel) (by decide +kernel)) (.cons (dg_V.i1 0 (((((((dg_uF_ne e_6 (by omega)).trans (dg_uf_F e_5 210 4)).trans (dg_uF_ne e_4 (by omega))).trans (dg_uf_F e_3 210 4)).trans (dg_uF_ne e_2 (by omega))).trans (dg_uf_F e_1 210 4)).trans ((h0 4 (dk_dq rfl)).trans rfl)) (by decide +kernel) (by decide +kernel)) (.nil)))))) (by intro t h; have h2 : tAX[32]? = some (0, 0, 0) := (by decide +kernel); rw [h2] at h; cases h; rfl))).ext hJ_6
  exact dg_vret hx hb hr hlocks hP hS ⟨hJo, hg_6, trivial⟩ dX9_init_31
set_option maxHeartbeats 8000000 in
set_option maxRecDepth 100000 in
theorem c_n_reader (l : Launch) (g : Nat → ClassId) (D : va_G) (o : Nat) (S : dg_S) (rf : dg_R) (gr : Nat) (hk_gr : rX gr) (h0 : ∀ b, b < 8 → S.1 209 b = defaultValue (tyX6 b)) : Met l yX6_init (bw yX6_init cX6_init 2 none) ({ frames := 2, cells := 4, slots := 4808, locals := 52 } : Room) (dk_Pc g D (dg_w g (shX.take 210) o rf S) (o + 210) [.ref (o + 209), .ref (o + gr)]) (va_Qv (fun S' => dg_Jr alX tFX tAX shX o S' 209 214 ∧ dg_Ag S S' 209 ∧ True) (dg_B g D (shX.take 214) o rf) (dg_A o (shX.take 210).length (o + 210))) 4 4808 (dg_A o (shX.take 210).length (o + 210)) := by
  refine dg_met (cc := cX6_init) (maxL := 2) (ret := none) (dk_dq rfl) rfl (Nat.le_of_ble_eq_true rfl) ?_
  intro p e s m args below meth c A hAe harg hx hb hr hml hts hown hlocks hin hP K hS hA1 hA ST hsz ls hl
  have hA1 := dg_Aall (hAe.trans (congrArg (fun n => dg_A o n (o + 210)) (dg_tlen (by first | decide +kernel | omega))))
  rw [← hAe]
  have F : CallFix p m c cX6_init 2 s args (bw yX6_init cX6_init 2 none) RX6 := ⟨hx, hb, hml, hown, hts⟩
  have hl : lv_has ls 2 [(0, .ref (o + 209)), (1, .ref (o + gr))] := hl
  have hg_0 : dg_Ag S S 209 := dg_Ag.rf
  have hJ_0 : dg_Jr alX tFX tAX shX o S 210 210 := dg_Jr.nil
  refine lv_aload_n hx hb dX6_init_0 rfl (lv_at hl 0 rfl) ?_
  refine W.objInit hx hb hown (hts _ (bw_mem wB_1342)) (hts _ (bw_mem wB_1323)) (hts _ (bw_mem wB_1324)) rfl (by rw [hml]; exact hl.1) rfl dX6_init_1 (Nat.le_of_ble_eq_true rfl) (Nat.le_of_ble_eq_true rfl) ?_
  refine W.eq (g2 := F0 m 4 ls []) rfl ?_
  refine lv_aload_n hx hb dX6_init_4 rfl (lv_at hl 0 rfl) ?_
  refine lv_iconst (v := (-1)) hx hb dX6_init_5 (by decide +kernel) ?_
  refine dg_put (ci := 6) (v := .int (-1)) (ty := tyX6 1) (C := RX6) (T := TX6) (N := 8) hx hb hts (fun w h => bw_mem (wU_X6 w h)) tyX6 tyX6_ok nmX6 hown K hP hS (hA1 _) (dg_tk sX_209 (by omega)) rfl 1 (dk_dq rfl) (hts _ (bw_mem wB_19)) (fun _ h9 => h9) rfl (by decide +kernel) rfl rfl dX6_init_6 (fun S_1 e_1 H locs hP hS => ?_)
  have hg_1 : dg_Ag S S_1 209 := hg_0.tk (dg_Ag.uF e_1 (by omega))
  have hJ_1 : dg_Jr alX tFX tAX shX o S_1 210 210 := hJ_0.uF e_1 (by omega)
  refine lv_aload_n hx hb dX6_init_9 rfl (lv_at hl 0 rfl) ?_
  refine dg_size hP (by omega) (by first | decide +kernel | (have h9 := hk9; omega)) hsz (by omega) (fun hz => ?_)
  refine dg_newo (ci := 9) (C := RX9) (T := TX9) (N := 5) (f := fun j => defaultValue (tyX9 j)) hx hb hts (fun w h => bw_mem (wU_X9 w h)) tyX9 tyX9_ok hown (hts _ (bw_mem wB_1343)) (hts _ (bw_mem wB_1344)) (hts _ (bw_mem wB_188)) K hP hS hz sX_210 rfl (fun _ _ => rfl) (Nat.le_of_ble_eq_true rfl) (Nat.le_of_ble_eq_true rfl) dX6_init_10 (fun S_2 e_2 H hP hS hz => ?_)
  refine W.widen (k := 1) (n := 5) (by omega) (by omega) ?_
  have hP : va_P D vwCl (dg_w g (shX.take 211) o rf S_2) H := hP
  have hg_2 : dg_Ag S S_2 209 := hg_1.tk (dg_Ag.uN e_2 (by omega))
  have hJ_2 : dg_Jr alX tFX tAX shX o S_2 210 210 := hJ_1.Ag (dg_Ag.uN e_2 (Nat.le_refl _)) (Nat.le_refl _)
  refine lv_dup hx hb dX6_init_13 rfl ?_
  have hz9 : H.size = (o + 211) := hz
  refine dg_gcallv hz9 hS (hA1 _) hA (va_runIN (As := []) (rest := [.ref (o + 210), .ref (o + 209)]) F (c_n_words l g D o S_2 rf  (fun b hb9 => dg_uN_at e_2 b)) ⟨va_cnB 0 hts (bw_in wB_1345) rfl rfl rfl (K.2.1 _ (List.mem_of_getElem? (i := 4) rfl)) (hts _ (bw_mem wB_188)) (by decide +kernel) ⟨Nat.le_of_ble_eq_true rfl, Nat.le_of_ble_eq_true rfl⟩, rfl, (hts _ (bw_mem wB_1346))⟩ (by rw [← hz9]; exact dg_preS K ST hP hS (hA1 _) hA) rfl rfl hl.1 rfl (lv_room (Nat.le_of_ble_eq_true rfl)) dX6_init_14 ⟨(Nat.le_of_ble_eq_true rfl), (Nat.le_of_ble_eq_true rfl)⟩) (fun S_3 hw_3 H locs hP hS => ?_)
  obtain ⟨c_3, g_3, -⟩ := hw_3
  refine W.widen (k := 4) (n := 4808) (by omega) (by omega) ?_
  have hP : va_P D vwCl (dg_w g (shX.take 214) o rf S_3) H := hP
  have hg_3 : dg_Ag S S_3 209 := hg_2.tk (fun i hi => g_3 i (by omega))
  have hJ_3 : dg_Jr alX tFX tAX shX o S_3 210 214 := (hJ_2.Ag g_3 (Nat.le_refl _)).ext c_3
  refine dg_putF (ci := 6) (v := .ref (o + 210)) (ty := tyX6 2) (C := RX6) (T := TX6) (N := 8) hx hb hts (fun w h => bw_mem (wU_X6 w h)) tyX6 tyX6_ok nmX6 hown K hP hS (hA1 _) (dg_tk sX_209 (by omega)) rfl 2 (dk_dq rfl) (hts _ (bw_mem wB_13)) (fun _ h9 => h9) rfl hin rfl (by decide +kernel) rfl rfl dX6_init_17 (fun S_4 e_4 H locs hP hS => ?_)
  have hg_4 : dg_Ag S S_4 209 := hg_3.tk (dg_Ag.uF e_4 (by omega))
  have hJ_4 : dg_Jr alX tFX tAX shX o S_4 210 214 := hJ_3.uF e_4 (by omega)
  refine lv_aload_n hx hb dX6_init_20 rfl (lv_at hl 0 rfl) ?_
  refine lv_aload_n hx hb dX6_init_21 rfl (lv_at hl 1 rfl) ?_
  refine dg_put (ci := 6) (v := .ref (o + gr)) (ty := tyX6 3) (C := RX6) (T := TX6) (N := 8) hx hb hts (fun w h => bw_mem (wU_X6 w h)) tyX6 tyX6_ok nmX6 hown K hP hS (hA1 _) (dg_tk sX_209 (by omega)) rfl 3 (dk_dq rfl) (hts _ (bw_mem wB_38)) (fun _ h9 => h9) rfl (by decide +kernel) rfl rfl dX6_init_22 (fun S_5 e_5 H locs hP hS => ?_)
  have hg_5 : dg_Ag S S_5 209 := hg_4.tk (dg_Ag.uF e_5 (by omega))
  have hJ_5 : dg_Jr alX tFX tAX shX o S_5 210 214 := hJ_4.uF e_5 (by omega)
  have hJo := (dg_Jr.one (dg_Jc.obj (L := [(1, (-2147483648), 2147483647), (1, (-2147483648), 2147483647), (3, 1, 0), (5, 0, 0), (1, 0, 1600), (1, (-2147483648), 2147483647), (1, 0, 2), (1, 0, 1600)]) sX_209 (by decide +kernel) (.cons (dg_V.i1 0 ((((((dg_uF_ne e_5 (by omega)).trans (dg_uF_ne e_4 (by omega))).trans ((g_3 209 (by omega)).1 0)).trans (dg_uN_ne e_2 (by omega) 0)).trans (dg_uF_ne e_1 (by omega))).trans ((h0 0 (dk_dq rfl)).trans rfl)) (by decide +kernel) (by decide +kernel)) (.cons (dg_V.i1 (-1) (((((dg_uF_ne e_5 (by omega)).trans (dg_uF_ne e_4 (by omega))).trans ((g_3 209 (by omega)).1 1)).trans (dg_uN_ne e_2 (by omega) 1)).trans (dg_uF_at e_1)) (by decide +kernel) (by decide +kernel)) (.cons (dg_V.r1 ((dg_uF_ne e_5 (by omega)).trans (dg_uF_at e_4))) (.cons (dg_V.o1 gr hk_gr (dg_uF_at e_5)) (.cons (dg_V.i1 0 ((((((dg_uF_ne e_5 (by omega)).trans (dg_uF_ne e_4 (by omega))).trans ((g_3 209 (by omega)).1 4)).trans (dg_uN_ne e_2 (by omega) 4)).trans (dg_uF_ne e_1 (by omega))).trans ((h0 4 (dk_dq rfl)).trans rfl)) (by decide +kernel) (by decide +kernel)) (.cons (dg_V.i1 0 ((((((dg_uF_ne e_5 (by omega)).trans (dg_uF_ne e_4 (by omega))).trans ((g_3 209 (by omega)).1 5)).trans (dg_uN_ne e_2 (by omega) 5)).trans (dg_uF_ne e_1 (by omega))).trans ((h0 5 (dk_dq rfl)).trans rfl)) (by decide +kernel) (by decide +kernel)) (.cons (dg_V.i1 0 ((((((dg_uF_ne e_5 (by omega)).trans (dg_uF_ne e_4 (by omega))).trans ((g_3 209 (by omega)).1 6)).trans (dg_uN_ne e_2 (by omega) 6)).trans (dg_uF_ne e_1 (by omega))).trans ((h0 6 (dk_dq rfl)).trans rfl)) (by decide +kernel) (by decide +kernel)) (.cons (dg_V.i1 0 ((((((dg_uF_ne e_5 (by omega)).trans (dg_uF_ne e_4 (by omega))).trans ((g_3 209 (by omega)).1 7)).trans (dg_uN_ne e_2 (by omega) 7)).trans (dg_uF_ne e_1 (by omega))).trans ((h0 7 (dk_dq rfl)).trans rfl)) (by decide +kernel) (by decide +kernel)) (.nil))))))))) (by intro t h; have h2 : tAX[31]? = some (0, 0, 0) := (by decide +kernel); rw [h2] at h; cases h; rfl))).ext hJ_5
  exact dg_vret hx hb hr hlocks hP hS ⟨hJo, hg_5, trivial⟩ dX6_init_25
set_option maxHeartbeats 8000000 in
set_option maxRecDepth 100000 in
theorem c_n_rules (l : Launch) (g : Nat → ClassId) (D : va_G) (o : Nat) (S : dg_S) (rf : dg_R) (h0 : ∀ b, b < 8 → S.1 215 b = defaultValue (tyX7 b)) : Met l yX7_init (bw yX7_init cX7_init 1 none) ({ frames := 1, cells := 1, slots := 64, locals := 32 } : Room) (dk_Pc g D (dg_w g (shX.take 216) o rf S) (o + 216) [.ref (o + 215)]) (va_Qv (fun S' => dg_Jr alX tFX tAX shX o S' 215 217 ∧ dg_Ag S S' 215 ∧ True) (dg_B g D (shX.take 217) o rf) (dg_A o (shX.take 216).length (o + 216))) 1 64 (dg_A o (shX.take 216).length (o + 216)) := by
  refine dg_met (cc := cX7_init) (maxL := 1) (ret := none) (dk_dq rfl) rfl (Nat.le_of_ble_eq_true rfl) ?_
  intro p e s m args below meth c A hAe harg hx hb hr hml hts hown hlocks hin hP K hS hA1 hA ST hsz ls hl
  have hA1 := dg_Aall (hAe.trans (congrArg (fun n => dg_A o n (o + 216)) (dg_tlen (by first | decide +kernel | omega))))
  rw [← hAe]
  have F : CallFix p m c cX7_init 1 s args (bw yX7_init cX7_init 1 none) RX7 := ⟨hx, hb, hml, hown, hts⟩
  have hl : lv_has ls 1 [(0, .ref (o + 215))] := hl
  have hg_0 : dg_Ag S S 215 := dg_Ag.rf
  have hJ_0 : dg_Jr alX tFX tAX shX o S 216 216 := dg_Jr.nil
  refine lv_aload_n hx hb dX7_init_0 rfl (lv_at hl 0 rfl) ?_
  refine W.objInit hx hb hown (hts _ (bw_mem wB_1347)) (hts _ (bw_mem wB_1323)) (hts _ (bw_mem wB_1324)) rfl (by rw [hml]; exact hl.1) rfl dX7_init_1 (Nat.le_of_ble_eq_true rfl) (Nat.le_of_ble_eq_true rfl) ?_
  refine W.eq (g2 := F0 m 4 ls []) rfl ?_
  refine lv_aload_n hx hb dX7_init_4 rfl (lv_at hl 0 rfl) ?_
  refine lv_bipush (v := 64) hx hb dX7_init_5 (by decide +kernel) ?_
  refine dg_size hP (by omega) (by first | decide +kernel | (have h9 := hk9; omega)) hsz (by omega) (fun hz => ?_)
  refine dg_newi hx hb (hts _ (bw_mem wB_1325)) K hP hS hz sX_216 (by decide +kernel) (by decide +kernel) (dk_dq rfl) (Nat.le_of_ble_eq_true rfl) (Nat.le_of_ble_eq_true rfl) dX7_init_7 (fun S_1 e_1 H hP hS hz => ?_)
  refine W.widen (k := 1) (n := 64) (by omega) (by omega) ?_
  have hP : va_P D vwCl (dg_w g (shX.take 217) o rf S_1) H := hP
  have hg_1 : dg_Ag S S_1 215 := hg_0.tk (dg_Ag.uf e_1 (by omega))
  have hJ_1 : dg_Jr alX tFX tAX shX o S_1 216 217 := (hJ_0.Ag (dg_Ag.uf e_1 (Nat.le_refl _)) (Nat.le_refl _)).ext (dg_Jr.one (dg_Jc.row sX_216 rfl (dg_uf_at e_1) (by intro t h; have h2 : tAX[38]? = some (0, 0, 0) := (by decide +kernel); rw [h2] at h; cases h; exact fun _ => (dk_dq rfl))))
  refine dg_putF (ci := 7) (v := .ref (o + 216)) (ty := tyX7 6) (C := RX7) (T := TX7) (N := 8) hx hb hts (fun w h => bw_mem (wU_X7 w h)) tyX7 tyX7_ok nmX7 hown K hP hS (hA1 _) (dg_tk sX_215 (by omega)) rfl 6 (dk_dq rfl) (hts _ (bw_mem wB_533)) (fun _ h9 => h9) rfl hin rfl (by decide +kernel) rfl rfl dX7_init_9 (fun S_2 e_2 H locs hP hS => ?_)
  have hg_2 : dg_Ag S S_2 215 := hg_1.tk (dg_Ag.uF e_2 (by omega))
  have hJ_2 : dg_Jr alX tFX tAX shX o S_2 216 217 := hJ_1.uF e_2 (by omega)
  have hJo := (dg_Jr.one (dg_Jc.obj (L := [(1, (-2147483648), 2147483647), (1, (-2147483648), 2147483647), (1, (-2147483648), 2147483647), (1, (-2147483648), 2147483647), (1, (-2147483648), 2147483647), (1, (-2147483648), 2147483647), (3, 1, 0), (1, 0, 64)]) sX_215 (by decide +kernel) (.cons (dg_V.i1 0 (((dg_uF_ne e_2 (by omega)).trans (dg_uf_F e_1 215 0)).trans ((h0 0 (dk_dq rfl)).trans rfl)) (by decide +kernel) (by decide +kernel)) (.cons (dg_V.i1 0 (((dg_uF_ne e_2 (by omega)).trans (dg_uf_F e_1 215 1)).trans ((h0 1 (dk_dq rfl)).trans rfl)) (by decide +kernel) (by decide +kernel)) (.cons (dg_V.i1 0 (((dg_uF_ne e_2 (by omega)).trans (dg_uf_F e_1 215 2)).trans ((h0 2 (dk_dq rfl)).trans rfl)) (by decide +kernel) (by decide +kernel)) (.cons (dg_V.i1 0 (((dg_uF_ne e_2 (by omega)).trans (dg_uf_F e_1 215 3)).trans ((h0 3 (dk_dq rfl)).trans rfl)) (by decide +kernel) (by decide +kernel)) (.cons (dg_V.i1 0 (((dg_uF_ne e_2 (by omega)).trans (dg_uf_F e_1 215 4)).trans ((h0 4 (dk_dq rfl)).trans rfl)) (by decide +kernel) (by decide +kernel)) (.cons (dg_V.i1 0 (((dg_uF_ne e_2 (by omega)).trans (dg_uf_F e_1 215 5)).trans ((h0 5 (dk_dq rfl)).trans rfl)) (by decide +kernel) (by decide +kernel)) (.cons (dg_V.r1 (dg_uF_at e_2)) (.cons (dg_V.i1 0 (((dg_uF_ne e_2 (by omega)).trans (dg_uf_F e_1 215 7)).trans ((h0 7 (dk_dq rfl)).trans rfl)) (by decide +kernel) (by decide +kernel)) (.nil))))))))) (by intro t h; have h2 : tAX[37]? = some (0, 0, 0) := (by decide +kernel); rw [h2] at h; cases h; rfl))).ext hJ_2
  exact dg_vret hx hb hr hlocks hP hS ⟨hJo, hg_2, trivial⟩ dX7_init_12
set_option maxHeartbeats 8000000 in
set_option maxRecDepth 100000 in
theorem c_n_works (l : Launch) (g : Nat → ClassId) (D : va_G) (o : Nat) (S : dg_S) (rf : dg_R) (gr : Nat) (hk_gr : rX gr) (pt : Nat) (hk_pt : pX pt) (h0 : ∀ b, b < 13 → S.1 214 b = defaultValue (tyX10 b)) : Met l yX10_init (bw yX10_init cX10_init 3 none) ({ frames := 2, cells := 6, slots := 360, locals := 52 } : Room) (dk_Pc g D (dg_w g (shX.take 215) o rf S) (o + 215) [.ref (o + 214), .ref (o + gr), .ref (o + pt)]) (va_Qv (fun S' => dg_Jr alX tFX tAX shX o S' 214 221 ∧ dg_Ag S S' 214 ∧ S'.1 214 4 = .int 0 ∧ S'.1 214 7 = .ref (o + pt) ∧ True) (dg_B g D (shX.take 221) o rf) (dg_A o (shX.take 215).length (o + 215))) 6 360 (dg_A o (shX.take 215).length (o + 215)) := by
  refine dg_met (cc := cX10_init) (maxL := 3) (ret := none) (dk_dq rfl) rfl (Nat.le_of_ble_eq_true rfl) ?_
  intro p e s m args below meth c A hAe harg hx hb hr hml hts hown hlocks hin hP K hS hA1 hA ST hsz ls hl
  have hA1 := dg_Aall (hAe.trans (congrArg (fun n => dg_A o n (o + 215)) (dg_tlen (by first | decide +kernel | omega))))
  rw [← hAe]
  have F : CallFix p m c cX10_init 3 s args (bw yX10_init cX10_init 3 none) RX10 := ⟨hx, hb, hml, hown, hts⟩
  have hl : lv_has ls 3 [(0, .ref (o + 214)), (1, .ref (o + gr)), (2, .ref (o + pt))] := hl
  have hg_0 : dg_Ag S S 214 := dg_Ag.rf
  have hJ_0 : dg_Jr alX tFX tAX shX o S 215 215 := dg_Jr.nil
  refine lv_aload_n hx hb dX10_init_0 rfl (lv_at hl 0 rfl) ?_
  refine W.objInit hx hb hown (hts _ (bw_mem wB_1348)) (hts _ (bw_mem wB_1323)) (hts _ (bw_mem wB_1324)) rfl (by rw [hml]; exact hl.1) rfl dX10_init_1 (Nat.le_of_ble_eq_true rfl) (Nat.le_of_ble_eq_true rfl) ?_
  refine W.eq (g2 := F0 m 4 ls []) rfl ?_
  refine lv_aload_n hx hb dX10_init_4 rfl (lv_at hl 0 rfl) ?_
  refine dg_size hP (by omega) (by first | decide +kernel | (have h9 := hk9; omega)) hsz (by omega) (fun hz => ?_)
  refine dg_newo (ci := 7) (C := RX7) (T := TX7) (N := 8) (f := fun j => defaultValue (tyX7 j)) hx hb hts (fun w h => bw_mem (wU_X7 w h)) tyX7 tyX7_ok hown (hts _ (bw_mem wB_1349)) (hts _ (bw_mem wB_1350)) (hts _ (bw_mem wB_553)) K hP hS hz sX_215 rfl (fun _ _ => rfl) (Nat.le_of_ble_eq_true rfl) (Nat.le_of_ble_eq_true rfl) dX10_init_5 (fun S_1 e_1 H hP hS hz => ?_)
  refine W.widen (k := 1) (n := 8) (by omega) (by omega) ?_
  have hP : va_P D vwCl (dg_w g (shX.take 216) o rf S_1) H := hP
  have hg_1 : dg_Ag S S_1 214 := hg_0.tk (dg_Ag.uN e_1 (by omega))
  have hJ_1 : dg_Jr alX tFX tAX shX o S_1 215 215 := hJ_0.Ag (dg_Ag.uN e_1 (Nat.le_refl _)) (Nat.le_refl _)
  refine lv_dup hx hb dX10_init_8 rfl ?_
  have hz9 : H.size = (o + 216) := hz
  refine dg_gcallv hz9 hS (hA1 _) hA (va_runIN (As := []) (rest := [.ref (o + 215), .ref (o + 214)]) F (c_n_rules l g D o S_1 rf  (fun b hb9 => dg_uN_at e_1 b)) ⟨va_cnB 0 hts (bw_in wB_1351) rfl rfl rfl (K.2.1 _ (List.mem_of_getElem? (i := 5) rfl)) (hts _ (bw_mem wB_553)) (by decide +kernel) ⟨Nat.le_of_ble_eq_true rfl, Nat.le_of_ble_eq_true rfl⟩, rfl, (hts _ (bw_mem wB_1352))⟩ (by rw [← hz9]; exact dg_preS K ST hP hS (hA1 _) hA) rfl rfl hl.1 rfl (lv_room (Nat.le_of_ble_eq_true rfl)) dX10_init_9 ⟨(Nat.le_of_ble_eq_true rfl), (Nat.le_of_ble_eq_true rfl)⟩) (fun S_2 hw_2 H locs hP hS => ?_)
  obtain ⟨c_2, g_2, -⟩ := hw_2
  refine W.widen (k := 2) (n := 72) (by omega) (by omega) ?_
  have hP : va_P D vwCl (dg_w g (shX.take 217) o rf S_2) H := hP
  have hg_2 : dg_Ag S S_2 214 := hg_1.tk (fun i hi => g_2 i (by omega))
  have hJ_2 : dg_Jr alX tFX tAX shX o S_2 215 217 := (hJ_1.Ag g_2 (Nat.le_refl _)).ext c_2
  refine dg_putF (ci := 10) (v := .ref (o + 215)) (ty := tyX10 0) (C := RX10) (T := TX10) (N := 13) hx hb hts (fun w h => bw_mem (wU_X10 w h)) tyX10 tyX10_ok nmX10 hown K hP hS (hA1 _) (dg_tk sX_214 (by omega)) rfl 0 (dk_dq rfl) (hts _ (bw_mem wB_607)) (fun _ h9 => h9) rfl hin rfl (by decide +kernel) rfl rfl dX10_init_12 (fun S_3 e_3 H locs hP hS => ?_)
  have hg_3 : dg_Ag S S_3 214 := hg_2.tk (dg_Ag.uF e_3 (by omega))
  have hJ_3 : dg_Jr alX tFX tAX shX o S_3 215 217 := hJ_2.uF e_3 (by omega)
  refine lv_aload_n hx hb dX10_init_15 rfl (lv_at hl 0 rfl) ?_
  refine lv_bipush (v := 72) hx hb dX10_init_16 (by decide +kernel) ?_
  refine dg_size hP (by omega) (by first | decide +kernel | (have h9 := hk9; omega)) hsz (by omega) (fun hz => ?_)
  refine dg_newi hx hb (hts _ (bw_mem wB_1325)) K hP hS hz sX_217 (by decide +kernel) (by decide +kernel) (dk_dq rfl) (Nat.le_of_ble_eq_true rfl) (Nat.le_of_ble_eq_true rfl) dX10_init_18 (fun S_4 e_4 H hP hS hz => ?_)
  refine W.widen (k := 3) (n := 144) (by omega) (by omega) ?_
  have hP : va_P D vwCl (dg_w g (shX.take 218) o rf S_4) H := hP
  have hg_4 : dg_Ag S S_4 214 := hg_3.tk (dg_Ag.uf e_4 (by omega))
  have hJ_4 : dg_Jr alX tFX tAX shX o S_4 215 218 := (hJ_3.Ag (dg_Ag.uf e_4 (Nat.le_refl _)) (Nat.le_refl _)).ext (dg_Jr.one (dg_Jc.row sX_217 rfl (dg_uf_at e_4) (by intro t h; have h2 : tAX[39]? = some (0, 0, 0) := (by decide +kernel); rw [h2] at h; cases h; exact fun _ => (dk_dq rfl))))
  refine dg_putF (ci := 10) (v := .ref (o + 217)) (ty := tyX10 1) (C := RX10) (T := TX10) (N := 13) hx hb hts (fun w h => bw_mem (wU_X10 w h)) tyX10 tyX10_ok nmX10 hown K hP hS (hA1 _) (dg_tk sX_214 (by omega)) rfl 1 (dk_dq rfl) (hts _ (bw_mem wB_577)) (fun _ h9 => h9) rfl hin rfl (by decide +kernel) rfl rfl dX10_init_20 (fun S_5 e_5 H locs hP hS => ?_)
  have hg_5 : dg_Ag S S_5 214 := hg_4.tk (dg_Ag.uF e_5 (by omega))
  have hJ_5 : dg_Jr alX tFX tAX shX o S_5 215 218 := hJ_4.uF e_5 (by omega)
  as_aux_lemma =>
    refine lv_aload_n hx hb dX10_init_23 rfl (lv_at hl 0 rfl) ?_
    refine lv_bipush (v := 72) hx hb dX10_init_24 (by decide +kernel) ?_
    refine dg_size hP (by omega) (by first | decide +kernel | (have h9 := hk9; omega)) hsz (by omega) (fun hz => ?_)
    refine dg_newi hx hb (hts _ (bw_mem wB_1325)) K hP hS hz sX_218 (by decide +kernel) (by decide +kernel) (dk_dq rfl) (Nat.le_of_ble_eq_true rfl) (Nat.le_of_ble_eq_true rfl) dX10_init_26 (fun S_6 e_6 H hP hS hz => ?_)
    refine W.widen (k := 4) (n := 216) (by omega) (by omega) ?_
    have hP : va_P D vwCl (dg_w g (shX.take 219) o rf S_6) H := hP
    have hg_6 : dg_Ag S S_6 214 := hg_5.tk (dg_Ag.uf e_6 (by omega))
    have hJ_6 : dg_Jr alX tFX tAX shX o S_6 215 219 := (hJ_5.Ag (dg_Ag.uf e_6 (Nat.le_refl _)) (Nat.le_refl _)).ext (dg_Jr.one (dg_Jc.row sX_218 rfl (dg_uf_at e_6) (by intro t h; have h2 : tAX[40]? = some (0, 0, 0) := (by decide +kernel); rw [h2] at h; cases h; exact fun _ => (dk_dq rfl))))
    refine dg_putF (ci := 10) (v := .ref (o + 218)) (ty := tyX10 2) (C := RX10) (T := TX10) (N := 13) hx hb hts (fun w h => bw_mem (wU_X10 w h)) tyX10 tyX10_ok nmX10 hown K hP hS (hA1 _) (dg_tk sX_214 (by omega)) rfl 2 (dk_dq rfl) (hts _ (bw_mem wB_576)) (fun _ h9 => h9) rfl hin rfl (by decide +kernel) rfl rfl dX10_init_28 (fun S_7 e_7 H locs hP hS => ?_)
    have hg_7 : dg_Ag S S_7 214 := hg_6.tk (dg_Ag.uF e_7 (by omega))
    have hJ_7 : dg_Jr alX tFX tAX shX o S_7 215 219 := hJ_6.uF e_7 (by omega)
    refine lv_aload_n hx hb dX10_init_31 rfl (lv_at hl 0 rfl) ?_
    refine lv_bipush (v := 72) hx hb dX10_init_32 (by decide +kernel) ?_
    refine dg_size hP (by omega) (by first | decide +kernel | (have h9 := hk9; omega)) hsz (by omega) (fun hz => ?_)
    refine dg_newi hx hb (hts _ (bw_mem wB_1325)) K hP hS hz sX_219 (by decide +kernel) (by decide +kernel) (dk_dq rfl) (Nat.le_of_ble_eq_true rfl) (Nat.le_of_ble_eq_true rfl) dX10_init_34 (fun S_8 e_8 H hP hS hz => ?_)
    refine W.widen (k := 5) (n := 288) (by omega) (by omega) ?_
    have hP : va_P D vwCl (dg_w g (shX.take 220) o rf S_8) H := hP
    have hg_8 : dg_Ag S S_8 214 := hg_7.tk (dg_Ag.uf e_8 (by omega))
    have hJ_8 : dg_Jr alX tFX tAX shX o S_8 215 220 := (hJ_7.Ag (dg_Ag.uf e_8 (Nat.le_refl _)) (Nat.le_refl _)).ext (dg_Jr.one (dg_Jc.row sX_219 rfl (dg_uf_at e_8) (by intro t h; have h2 : tAX[41]? = some (1, 0, 63) := (by decide +kernel); rw [h2] at h; cases h; exact fun _ => (dk_dq rfl))))
    refine dg_putF (ci := 10) (v := .ref (o + 219)) (ty := tyX10 3) (C := RX10) (T := TX10) (N := 13) hx hb hts (fun w h => bw_mem (wU_X10 w h)) tyX10 tyX10_ok nmX10 hown K hP hS (hA1 _) (dg_tk sX_214 (by omega)) rfl 3 (dk_dq rfl) (hts _ (bw_mem wB_580)) (fun _ h9 => h9) rfl hin rfl (by decide +kernel) rfl rfl dX10_init_36 (fun S_9 e_9 H locs hP hS => ?_)
    have hg_9 : dg_Ag S S_9 214 := hg_8.tk (dg_Ag.uF e_9 (by omega))
    have hJ_9 : dg_Jr alX tFX tAX shX o S_9 215 220 := hJ_8.uF e_9 (by omega)
    refine lv_aload_n hx hb dX10_init_39 rfl (lv_at hl 0 rfl) ?_
    refine lv_bipush (v := 72) hx hb dX10_init_40 (by decide +kernel) ?_
    refine dg_size hP (by omega) (by first | decide +kernel | (have h9 := hk9; omega)) hsz (by omega) (fun hz => ?_)
    refine dg_newi hx hb (hts _ (bw_mem wB_1325)) K hP hS hz sX_220 (by decide +kernel) (by decide +kernel) (dk_dq rfl) (Nat.le_of_ble_eq_true rfl) (Nat.le_of_ble_eq_true rfl) dX10_init_42 (fun S_10 e_10 H hP hS hz => ?_)
    refine W.widen (k := 6) (n := 360) (by omega) (by omega) ?_
    have hP : va_P D vwCl (dg_w g (shX.take 221) o rf S_10) H := hP
    have hg_10 : dg_Ag S S_10 214 := hg_9.tk (dg_Ag.uf e_10 (by omega))
    have hJ_10 : dg_Jr alX tFX tAX shX o S_10 215 221 := (hJ_9.Ag (dg_Ag.uf e_10 (Nat.le_refl _)) (Nat.le_refl _)).ext (dg_Jr.one (dg_Jc.row sX_220 rfl (dg_uf_at e_10) (by intro t h; have h2 : tAX[42]? = some (1, 0, 63) := (by decide +kernel); rw [h2] at h; cases h; exact fun _ => (dk_dq rfl))))
    refine dg_putF (ci := 10) (v := .ref (o + 220)) (ty := tyX10 5) (C := RX10) (T := TX10) (N := 13) hx hb hts (fun w h => bw_mem (wU_X10 w h)) tyX10 tyX10_ok nmX10 hown K hP hS (hA1 _) (dg_tk sX_214 (by omega)) rfl 5 (dk_dq rfl) (hts _ (bw_mem wB_583)) (fun _ h9 => h9) rfl hin rfl (by decide +kernel) rfl rfl dX10_init_44 (fun S_11 e_11 H locs hP hS => ?_)
    have hg_11 : dg_Ag S S_11 214 := hg_10.tk (dg_Ag.uF e_11 (by omega))
    have hJ_11 : dg_Jr alX tFX tAX shX o S_11 215 221 := hJ_10.uF e_11 (by omega)
    refine lv_aload_n hx hb dX10_init_47 rfl (lv_at hl 0 rfl) ?_
    refine lv_iconst (v := (-1)) hx hb dX10_init_48 (by decide +kernel) ?_
    refine dg_put (ci := 10) (v := .int (-1)) (ty := tyX10 10) (C := RX10) (T := TX10) (N := 13) hx hb hts (fun w h => bw_mem (wU_X10 w h)) tyX10 tyX10_ok nmX10 hown K hP hS (hA1 _) (dg_tk sX_214 (by omega)) rfl 10 (dk_dq rfl) (hts _ (bw_mem wB_634)) (fun _ h9 => h9) rfl (by decide +kernel) rfl rfl dX10_init_49 (fun S_12 e_12 H locs hP hS => ?_)
    have hg_12 : dg_Ag S S_12 214 := hg_11.tk (dg_Ag.uF e_12 (by omega))
    have hJ_12 : dg_Jr alX tFX tAX shX o S_12 215 221 := hJ_11.uF e_12 (by omega)
    refine lv_aload_n hx hb dX10_init_52 rfl (lv_at hl 0 rfl) ?_
    refine lv_iconst (v := (-1)) hx hb dX10_init_53 (by decide +kernel) ?_
    as_aux_lemma =>
      refine dg_put (ci := 10) (v := .int (-1)) (ty := tyX10 11) (C := RX10) (T := TX10) (N := 13) hx hb hts (fun w h => bw_mem (wU_X10 w h)) tyX10 tyX10_ok nmX10 hown K hP hS (hA1 _) (dg_tk sX_214 (by omega)) rfl 11 (dk_dq rfl) (hts _ (bw_mem wB_635)) (fun _ h9 => h9) rfl (by decide +kernel) rfl rfl dX10_init_54 (fun S_13 e_13 H locs hP hS => ?_)
      have hg_13 : dg_Ag S S_13 214 := hg_12.tk (dg_Ag.uF e_13 (by omega))
      have hJ_13 : dg_Jr alX tFX tAX shX o S_13 215 221 := hJ_12.uF e_13 (by omega)
      refine lv_aload_n hx hb dX10_init_57 rfl (lv_at hl 0 rfl) ?_
      refine lv_iconst (v := (-1)) hx hb dX10_init_58 (by decide +kernel) ?_
      refine dg_put (ci := 10) (v := .int (-1)) (ty := tyX10 12) (C := RX10) (T := TX10) (N := 13) hx hb hts (fun w h => bw_mem (wU_X10 w h)) tyX10 tyX10_ok nmX10 hown K hP hS (hA1 _) (dg_tk sX_214 (by omega)) rfl 12 (dk_dq rfl) (hts _ (bw_mem wB_640)) (fun _ h9 => h9) rfl (by decide +kernel) rfl rfl dX10_init_59 (fun S_14 e_14 H locs hP hS => ?_)
      have hg_14 : dg_Ag S S_14 214 := hg_13.tk (dg_Ag.uF e_14 (by omega))
      have hJ_14 : dg_Jr alX tFX tAX shX o S_14 215 221 := hJ_13.uF e_14 (by omega)
      refine lv_aload_n hx hb dX10_init_62 rfl (lv_at hl 0 rfl) ?_
      refine lv_aload_n hx hb dX10_init_63 rfl (lv_at hl 1 rfl) ?_
      refine dg_put (ci := 10) (v := .ref (o + gr)) (ty := tyX10 6) (C := RX10) (T := TX10) (N := 13) hx hb hts (fun w h => bw_mem (wU_X10 w h)) tyX10 tyX10_ok nmX10 hown K hP hS (hA1 _) (dg_tk sX_214 (by omega)) rfl 6 (dk_dq rfl) (hts _ (bw_mem wB_586)) (fun _ h9 => h9) rfl (by decide +kernel) rfl rfl dX10_init_64 (fun S_15 e_15 H locs hP hS => ?_)
      have hg_15 : dg_Ag S S_15 214 := hg_14.tk (dg_Ag.uF e_15 (by omega))
      have hJ_15 : dg_Jr alX tFX tAX shX o S_15 215 221 := hJ_14.uF e_15 (by omega)
      refine lv_aload_n hx hb dX10_init_67 rfl (lv_at hl 0 rfl) ?_
      refine lv_aload_n hx hb dX10_init_68 rfl (lv_at hl 2 rfl) ?_
      refine dg_put (ci := 10) (v := .ref (o + pt)) (ty := tyX10 7) (C := RX10) (T := TX10) (N := 13) hx hb hts (fun w h => bw_mem (wU_X10 w h)) tyX10 tyX10_ok nmX10 hown K hP hS (hA1 _) (dg_tk sX_214 (by omega)) rfl 7 (dk_dq rfl) (hts _ (bw_mem wB_578)) (fun _ h9 => h9) rfl (by decide +kernel) rfl rfl dX10_init_69 (fun S_16 e_16 H locs hP hS => ?_)
      have hg_16 : dg_Ag S S_16 214 := hg_15.tk (dg_Ag.uF e_16 (by omega))
      have hJ_16 : dg_Jr alX tFX tAX shX o S_16 215 221 := hJ_15.uF e_16 (by omega)
      refine lv_aload_n hx hb dX10_init_72 rfl (lv_at hl 0 rfl) ?_
      refine lv_iconst (v := 1) hx hb dX10_init_73 (by decide +kernel) ?_
      refine dg_put (ci := 10) (v := .int 1) (ty := tyX10 9) (C := RX10) (T := TX10) (N := 13) hx hb hts (fun w h => bw_mem (wU_X10 w h)) tyX10 tyX10_ok nmX10 hown K hP hS (hA1 _) (dg_tk sX_214 (by omega)) rfl 9 (dk_dq rfl) (hts _ (bw_mem wB_584)) (fun _ h9 => h9) rfl (by decide +kernel) (by decide +kernel) (by decide +kernel) dX10_init_74 (fun S_17 e_17 H locs hP hS => ?_)
      have hg_17 : dg_Ag S S_17 214 := hg_16.tk (dg_Ag.uF e_17 (by omega))
      have hJ_17 : dg_Jr alX tFX tAX shX o S_17 215 221 := hJ_16.uF e_17 (by omega)
      have hJo := (dg_Jr.one (dg_Jc.obj (L := [(3, 1, 0), (3, 3, 0), (3, 4, 0), (3, 5, 0), (1, 0, 72), (3, 6, 0), (5, 0, 0), (5, 1, 0), (1, (-2147483648), 2147483647), (1, 0, 1), (1, (-2147483648), 2147483647), (1, (-2147483648), 2147483647), (1, (-2147483648), 2147483647)]) sX_214 (by decide +kernel) (.cons (dg_V.r1 (((((((((((((((dg_uF_ne e_17 (by omega)).trans (dg_uF_ne e_16 (by omega))).trans (dg_uF_ne e_15 (by omega))).trans (dg_uF_ne e_14 (by omega))).trans (dg_uF_ne e_13 (by omega))).trans (dg_uF_ne e_12 (by omega))).trans (dg_uF_ne e_11 (by omega))).trans (dg_uf_F e_10 214 0)).trans (dg_uF_ne e_9 (by omega))).trans (dg_uf_F e_8 214 0)).trans (dg_uF_ne e_7 (by omega))).trans (dg_uf_F e_6 214 0)).trans (dg_uF_ne e_5 (by omega))).trans (dg_uf_F e_4 214 0)).trans (dg_uF_at e_3))) (.cons (dg_V.r1 (((((((((((((dg_uF_ne e_17 (by omega)).trans (dg_uF_ne e_16 (by omega))).trans (dg_uF_ne e_15 (by omega))).trans (dg_uF_ne e_14 (by omega))).trans (dg_uF_ne e_13 (by omega))).trans (dg_uF_ne e_12 (by omega))).trans (dg_uF_ne e_11 (by omega))).trans (dg_uf_F e_10 214 1)).trans (dg_uF_ne e_9 (by omega))).trans (dg_uf_F e_8 214 1)).trans (dg_uF_ne e_7 (by omega))).trans (dg_uf_F e_6 214 1)).trans (dg_uF_at e_5))) (.cons (dg_V.r1 (((((((((((dg_uF_ne e_17 (by omega)).trans (dg_uF_ne e_16 (by omega))).trans (dg_uF_ne e_15 (by omega))).trans (dg_uF_ne e_14 (by omega))).trans (dg_uF_ne e_13 (by omega))).trans (dg_uF_ne e_12 (by omega))).trans (dg_uF_ne e_11 (by omega))).trans (dg_uf_F e_10 214 2)).trans (dg_uF_ne e_9 (by omega))).trans (dg_uf_F e_8 214 2)).trans (dg_uF_at e_7))) (.cons (dg_V.r1 (((((((((dg_uF_ne e_17 (by omega)).trans (dg_uF_ne e_16 (by omega))).trans (dg_uF_ne e_15 (by omega))).trans (dg_uF_ne e_14 (by omega))).trans (dg_uF_ne e_13 (by omega))).trans (dg_uF_ne e_12 (by omega))).trans (dg_uF_ne e_11 (by omega))).trans (dg_uf_F e_10 214 3)).trans (dg_uF_at e_9))) (.cons (dg_V.i1 0 ((((((((((((((((((dg_uF_ne e_17 (by omega)).trans (dg_uF_ne e_16 (by omega))).trans (dg_uF_ne e_15 (by omega))).trans (dg_uF_ne e_14 (by omega))).trans (dg_uF_ne e_13 (by omega))).trans (dg_uF_ne e_12 (by omega))).trans (dg_uF_ne e_11 (by omega))).trans (dg_uf_F e_10 214 4)).trans (dg_uF_ne e_9 (by omega))).trans (dg_uf_F e_8 214 4)).trans (dg_uF_ne e_7 (by omega))).trans (dg_uf_F e_6 214 4)).trans (dg_uF_ne e_5 (by omega))).trans (dg_uf_F e_4 214 4)).trans (dg_uF_ne e_3 (by omega))).trans ((g_2 214 (by omega)).1 4)).trans (dg_uN_ne e_1 (by omega) 4)).trans ((h0 4 (dk_dq rfl)).trans rfl)) (by decide +kernel) (by decide +kernel)) (.cons (dg_V.r1 (((((((dg_uF_ne e_17 (by omega)).trans (dg_uF_ne e_16 (by omega))).trans (dg_uF_ne e_15 (by omega))).trans (dg_uF_ne e_14 (by omega))).trans (dg_uF_ne e_13 (by omega))).trans (dg_uF_ne e_12 (by omega))).trans (dg_uF_at e_11))) (.cons (dg_V.o1 gr hk_gr (((dg_uF_ne e_17 (by omega)).trans (dg_uF_ne e_16 (by omega))).trans (dg_uF_at e_15))) (.cons (dg_V.o1 pt hk_pt ((dg_uF_ne e_17 (by omega)).trans (dg_uF_at e_16))) (.cons (dg_V.i1 0 ((((((((((((((((((dg_uF_ne e_17 (by omega)).trans (dg_uF_ne e_16 (by omega))).trans (dg_uF_ne e_15 (by omega))).trans (dg_uF_ne e_14 (by omega))).trans (dg_uF_ne e_13 (by omega))).trans (dg_uF_ne e_12 (by omega))).trans (dg_uF_ne e_11 (by omega))).trans (dg_uf_F e_10 214 8)).trans (dg_uF_ne e_9 (by omega))).trans (dg_uf_F e_8 214 8)).trans (dg_uF_ne e_7 (by omega))).trans (dg_uf_F e_6 214 8)).trans (dg_uF_ne e_5 (by omega))).trans (dg_uf_F e_4 214 8)).trans (dg_uF_ne e_3 (by omega))).trans ((g_2 214 (by omega)).1 8)).trans (dg_uN_ne e_1 (by omega) 8)).trans ((h0 8 (dk_dq rfl)).trans rfl)) (by decide +kernel) (by decide +kernel)) (.cons (dg_V.i1 1 (dg_uF_at e_17) (by decide +kernel) (by decide +kernel)) (.cons (dg_V.i1 (-1) ((((((dg_uF_ne e_17 (by omega)).trans (dg_uF_ne e_16 (by omega))).trans (dg_uF_ne e_15 (by omega))).trans (dg_uF_ne e_14 (by omega))).trans (dg_uF_ne e_13 (by omega))).trans (dg_uF_at e_12)) (by decide +kernel) (by decide +kernel)) (.cons (dg_V.i1 (-1) (((((dg_uF_ne e_17 (by omega)).trans (dg_uF_ne e_16 (by omega))).trans (dg_uF_ne e_15 (by omega))).trans (dg_uF_ne e_14 (by omega))).trans (dg_uF_at e_13)) (by decide +kernel) (by decide +kernel)) (.cons (dg_V.i1 (-1) ((((dg_uF_ne e_17 (by omega)).trans (dg_uF_ne e_16 (by omega))).trans (dg_uF_ne e_15 (by omega))).trans (dg_uF_at e_14)) (by decide +kernel) (by decide +kernel)) (.nil)))))))))))))) (by intro t h; have h2 : tAX[36]? = some (0, 0, 0) := (by decide +kernel); rw [h2] at h; cases h; rfl))).ext hJ_17
      exact dg_vret hx hb hr hlocks hP hS ⟨hJo, hg_17, ((((((((((((((((((dg_uF_ne e_17 (by omega)).trans (dg_uF_ne e_16 (by omega))).trans (dg_uF_ne e_15 (by omega))).trans (dg_uF_ne e_14 (by omega))).trans (dg_uF_ne e_13 (by omega))).trans (dg_uF_ne e_12 (by omega))).trans (dg_uF_ne e_11 (by omega))).trans (dg_uf_F e_10 214 4)).trans (dg_uF_ne e_9 (by omega))).trans (dg_uf_F e_8 214 4)).trans (dg_uF_ne e_7 (by omega))).trans (dg_uf_F e_6 214 4)).trans (dg_uF_ne e_5 (by omega))).trans (dg_uf_F e_4 214 4)).trans (dg_uF_ne e_3 (by omega))).trans ((g_2 214 (by omega)).1 4)).trans (dg_uN_ne e_1 (by omega) 4)).trans ((h0 4 (dk_dq rfl)).trans rfl)), ((dg_uF_ne e_17 (by omega)).trans (dg_uF_at e_16)), trivial⟩ dX10_init_77
set_option maxHeartbeats 8000000 in
set_option maxRecDepth 100000 in
theorem c_n_fore (l : Launch) (g : Nat → ClassId) (D : va_G) (o : Nat) (S : dg_S) (rf : dg_R) (h0 : ∀ b, b < 9 → S.1 221 b = defaultValue (tyX1 b)) : Met l yX1_init (bw yX1_init cX1_init 2 none) ({ frames := 2, cells := 7, slots := 133, locals := 52 } : Room) (dk_Pc g D (dg_w g (shX.take 222) o rf S) (o + 222) [.ref (o + 221), .ref (o + 214)]) (va_Qv (fun S' => dg_Jr alX tFX tAX shX o S' 221 229 ∧ dg_Ag S S' 221 ∧ True) (dg_B g D (shX.take 229) o rf) (dg_A o (shX.take 222).length (o + 222))) 7 133 (dg_A o (shX.take 222).length (o + 222)) := by
  refine dg_met (cc := cX1_init) (maxL := 2) (ret := none) (dk_dq rfl) rfl (Nat.le_of_ble_eq_true rfl) ?_
  intro p e s m args below meth c A hAe harg hx hb hr hml hts hown hlocks hin hP K hS hA1 hA ST hsz ls hl
  have hA1 := dg_Aall (hAe.trans (congrArg (fun n => dg_A o n (o + 222)) (dg_tlen (by first | decide +kernel | omega))))
  rw [← hAe]
  have F : CallFix p m c cX1_init 2 s args (bw yX1_init cX1_init 2 none) RX1 := ⟨hx, hb, hml, hown, hts⟩
  have hl : lv_has ls 2 [(0, .ref (o + 221)), (1, .ref (o + 214))] := hl
  have hg_0 : dg_Ag S S 221 := dg_Ag.rf
  have hJ_0 : dg_Jr alX tFX tAX shX o S 222 222 := dg_Jr.nil
  refine lv_aload_n hx hb dX1_init_0 rfl (lv_at hl 0 rfl) ?_
  refine W.objInit hx hb hown (hts _ (bw_mem wB_1353)) (hts _ (bw_mem wB_1323)) (hts _ (bw_mem wB_1324)) rfl (by rw [hml]; exact hl.1) rfl dX1_init_1 (Nat.le_of_ble_eq_true rfl) (Nat.le_of_ble_eq_true rfl) ?_
  refine W.eq (g2 := F0 m 4 ls []) rfl ?_
  refine lv_aload_n hx hb dX1_init_4 rfl (lv_at hl 0 rfl) ?_
  refine dg_size hP (by omega) (by first | decide +kernel | (have h9 := hk9; omega)) hsz (by omega) (fun hz => ?_)
  refine dg_newo (ci := 5) (C := RX5) (T := TX5) (N := 8) (f := fun j => defaultValue (tyX5 j)) hx hb hts (fun w h => bw_mem (wU_X5 w h)) tyX5 tyX5_ok hown (hts _ (bw_mem wB_1354)) (hts _ (bw_mem wB_1337)) (hts _ (bw_mem wB_493)) K hP hS hz (pX_0 222 (dk_dq rfl)) rfl (fun _ _ => rfl) (Nat.le_of_ble_eq_true rfl) (Nat.le_of_ble_eq_true rfl) dX1_init_5 (fun S_1 e_1 H hP hS hz => ?_)
  refine W.widen (k := 1) (n := 8) (by omega) (by omega) ?_
  have hP : va_P D vwCl (dg_w g (shX.take 223) o rf S_1) H := hP
  have hg_1 : dg_Ag S S_1 221 := hg_0.tk (dg_Ag.uN e_1 (by omega))
  have hJ_1 : dg_Jr alX tFX tAX shX o S_1 222 222 := hJ_0.Ag (dg_Ag.uN e_1 (Nat.le_refl _)) (Nat.le_refl _)
  refine lv_dup hx hb dX1_init_8 rfl ?_
  have hz9 : H.size = (o + 223) := hz
  refine dg_gcallv hz9 hS (hA1 _) hA (va_runIN (As := []) (rest := [.ref (o + 222), .ref (o + 221)]) F (c_n_pit l g D o S_1 rf 222 (by unfold pX; decide) (fun b hb9 => dg_uN_at e_1 b)) ⟨va_cnB 0 hts (bw_in wB_1338) rfl rfl rfl (K.2.1 _ (List.mem_of_getElem? (i := 6) rfl)) (hts _ (bw_mem wB_493)) (by decide +kernel) ⟨Nat.le_of_ble_eq_true rfl, Nat.le_of_ble_eq_true rfl⟩, rfl, (hts _ (bw_mem wB_1339))⟩ (by rw [← hz9]; exact dg_preS K ST hP hS (hA1 _) hA) rfl rfl hl.1 rfl (lv_room (Nat.le_of_ble_eq_true rfl)) dX1_init_9 ⟨(Nat.le_of_ble_eq_true rfl), (Nat.le_of_ble_eq_true rfl)⟩) (fun S_2 hw_2 H locs hP hS => ?_)
  obtain ⟨c_2, g_2, kr_2_0, kr_2_1, -⟩ := hw_2
  refine W.widen (k := 7) (n := 133) (by omega) (by omega) ?_
  have hP : va_P D vwCl (dg_w g (shX.take 229) o rf S_2) H := hP
  have hg_2 : dg_Ag S S_2 221 := hg_1.tk (fun i hi => g_2 i (by omega))
  have hJ_2 : dg_Jr alX tFX tAX shX o S_2 222 229 := (hJ_1.Ag g_2 (Nat.le_refl _)).ext c_2
  refine dg_putF (ci := 1) (v := .ref (o + 222)) (ty := tyX1 1) (C := RX1) (T := TX1) (N := 9) hx hb hts (fun w h => bw_mem (wU_X1 w h)) tyX1 tyX1_ok nmX1 hown K hP hS (hA1 _) (dg_tk sX_221 (by omega)) rfl 1 (dk_dq rfl) (hts _ (bw_mem wB_669)) (fun _ h9 => h9) rfl hin rfl (by decide +kernel) rfl rfl dX1_init_12 (fun S_3 e_3 H locs hP hS => ?_)
  have hg_3 : dg_Ag S S_3 221 := hg_2.tk (dg_Ag.uF e_3 (by omega))
  have hJ_3 : dg_Jr alX tFX tAX shX o S_3 222 229 := hJ_2.uF e_3 (by omega)
  refine lv_aload_n hx hb dX1_init_15 rfl (lv_at hl 0 rfl) ?_
  refine lv_iconst (v := (-1)) hx hb dX1_init_16 (by decide +kernel) ?_
  refine dg_put (ci := 1) (v := .int (-1)) (ty := tyX1 4) (C := RX1) (T := TX1) (N := 9) hx hb hts (fun w h => bw_mem (wU_X1 w h)) tyX1 tyX1_ok nmX1 hown K hP hS (hA1 _) (dg_tk sX_221 (by omega)) rfl 4 (dk_dq rfl) (hts _ (bw_mem wB_687)) (fun _ h9 => h9) rfl (by decide +kernel) rfl rfl dX1_init_17 (fun S_4 e_4 H locs hP hS => ?_)
  have hg_4 : dg_Ag S S_4 221 := hg_3.tk (dg_Ag.uF e_4 (by omega))
  have hJ_4 : dg_Jr alX tFX tAX shX o S_4 222 229 := hJ_3.uF e_4 (by omega)
  refine lv_aload_n hx hb dX1_init_20 rfl (lv_at hl 0 rfl) ?_
  refine lv_iconst (v := (-1)) hx hb dX1_init_21 (by decide +kernel) ?_
  refine dg_put (ci := 1) (v := .int (-1)) (ty := tyX1 5) (C := RX1) (T := TX1) (N := 9) hx hb hts (fun w h => bw_mem (wU_X1 w h)) tyX1 tyX1_ok nmX1 hown K hP hS (hA1 _) (dg_tk sX_221 (by omega)) rfl 5 (dk_dq rfl) (hts _ (bw_mem wB_686)) (fun _ h9 => h9) rfl (by decide +kernel) rfl rfl dX1_init_22 (fun S_5 e_5 H locs hP hS => ?_)
  have hg_5 : dg_Ag S S_5 221 := hg_4.tk (dg_Ag.uF e_5 (by omega))
  have hJ_5 : dg_Jr alX tFX tAX shX o S_5 222 229 := hJ_4.uF e_5 (by omega)
  refine lv_aload_n hx hb dX1_init_25 rfl (lv_at hl 0 rfl) ?_
  as_aux_lemma =>
    refine lv_iconst (v := (-1)) hx hb dX1_init_26 (by decide +kernel) ?_
    refine dg_put (ci := 1) (v := .int (-1)) (ty := tyX1 6) (C := RX1) (T := TX1) (N := 9) hx hb hts (fun w h => bw_mem (wU_X1 w h)) tyX1 tyX1_ok nmX1 hown K hP hS (hA1 _) (dg_tk sX_221 (by omega)) rfl 6 (dk_dq rfl) (hts _ (bw_mem wB_699)) (fun _ h9 => h9) rfl (by decide +kernel) rfl rfl dX1_init_27 (fun S_6 e_6 H locs hP hS => ?_)
    have hg_6 : dg_Ag S S_6 221 := hg_5.tk (dg_Ag.uF e_6 (by omega))
    have hJ_6 : dg_Jr alX tFX tAX shX o S_6 222 229 := hJ_5.uF e_6 (by omega)
    refine lv_aload_n hx hb dX1_init_30 rfl (lv_at hl 0 rfl) ?_
    refine lv_iconst (v := (-1)) hx hb dX1_init_31 (by decide +kernel) ?_
    refine dg_put (ci := 1) (v := .int (-1)) (ty := tyX1 7) (C := RX1) (T := TX1) (N := 9) hx hb hts (fun w h => bw_mem (wU_X1 w h)) tyX1 tyX1_ok nmX1 hown K hP hS (hA1 _) (dg_tk sX_221 (by omega)) rfl 7 (dk_dq rfl) (hts _ (bw_mem wB_700)) (fun _ h9 => h9) rfl (by decide +kernel) rfl rfl dX1_init_32 (fun S_7 e_7 H locs hP hS => ?_)
    have hg_7 : dg_Ag S S_7 221 := hg_6.tk (dg_Ag.uF e_7 (by omega))
    have hJ_7 : dg_Jr alX tFX tAX shX o S_7 222 229 := hJ_6.uF e_7 (by omega)
    refine lv_aload_n hx hb dX1_init_35 rfl (lv_at hl 0 rfl) ?_
    refine lv_iconst (v := (-1)) hx hb dX1_init_36 (by decide +kernel) ?_
    refine dg_put (ci := 1) (v := .int (-1)) (ty := tyX1 8) (C := RX1) (T := TX1) (N := 9) hx hb hts (fun w h => bw_mem (wU_X1 w h)) tyX1 tyX1_ok nmX1 hown K hP hS (hA1 _) (dg_tk sX_221 (by omega)) rfl 8 (dk_dq rfl) (hts _ (bw_mem wB_705)) (fun _ h9 => h9) rfl (by decide +kernel) rfl rfl dX1_init_37 (fun S_8 e_8 H locs hP hS => ?_)
    have hg_8 : dg_Ag S S_8 221 := hg_7.tk (dg_Ag.uF e_8 (by omega))
    have hJ_8 : dg_Jr alX tFX tAX shX o S_8 222 229 := hJ_7.uF e_8 (by omega)
    refine lv_aload_n hx hb dX1_init_40 rfl (lv_at hl 0 rfl) ?_
    refine lv_aload_n hx hb dX1_init_41 rfl (lv_at hl 1 rfl) ?_
    refine dg_putF (ci := 1) (v := .ref (o + 214)) (ty := tyX1 0) (C := RX1) (T := TX1) (N := 9) hx hb hts (fun w h => bw_mem (wU_X1 w h)) tyX1 tyX1_ok nmX1 hown K hP hS (hA1 _) (dg_tk sX_221 (by omega)) rfl 0 (dk_dq rfl) (hts _ (bw_mem wB_672)) (fun _ h9 => h9) rfl hin rfl (by decide +kernel) rfl rfl dX1_init_42 (fun S_9 e_9 H locs hP hS => ?_)
    have hg_9 : dg_Ag S S_9 221 := hg_8.tk (dg_Ag.uF e_9 (by omega))
    have hJ_9 : dg_Jr alX tFX tAX shX o S_9 222 229 := hJ_8.uF e_9 (by omega)
    have hJo := (dg_Jr.one (dg_Jc.obj (L := [(4, 214, 0), (3, 1, 0), (1, (-2147483648), 2147483647), (1, (-2147483648), 2147483647), (1, (-2147483648), 2147483647), (1, (-2147483648), 2147483647), (1, (-2147483648), 2147483647), (1, (-2147483648), 2147483647), (1, (-2147483648), 2147483647)]) sX_221 (by decide +kernel) (.cons (dg_V.a1 (dg_uF_at e_9)) (.cons (dg_V.r1 (((((((dg_uF_ne e_9 (by omega)).trans (dg_uF_ne e_8 (by omega))).trans (dg_uF_ne e_7 (by omega))).trans (dg_uF_ne e_6 (by omega))).trans (dg_uF_ne e_5 (by omega))).trans (dg_uF_ne e_4 (by omega))).trans (dg_uF_at e_3))) (.cons (dg_V.i1 0 ((((((((((dg_uF_ne e_9 (by omega)).trans (dg_uF_ne e_8 (by omega))).trans (dg_uF_ne e_7 (by omega))).trans (dg_uF_ne e_6 (by omega))).trans (dg_uF_ne e_5 (by omega))).trans (dg_uF_ne e_4 (by omega))).trans (dg_uF_ne e_3 (by omega))).trans ((g_2 221 (by omega)).1 2)).trans (dg_uN_ne e_1 (by omega) 2)).trans ((h0 2 (dk_dq rfl)).trans rfl)) (by decide +kernel) (by decide +kernel)) (.cons (dg_V.i1 0 ((((((((((dg_uF_ne e_9 (by omega)).trans (dg_uF_ne e_8 (by omega))).trans (dg_uF_ne e_7 (by omega))).trans (dg_uF_ne e_6 (by omega))).trans (dg_uF_ne e_5 (by omega))).trans (dg_uF_ne e_4 (by omega))).trans (dg_uF_ne e_3 (by omega))).trans ((g_2 221 (by omega)).1 3)).trans (dg_uN_ne e_1 (by omega) 3)).trans ((h0 3 (dk_dq rfl)).trans rfl)) (by decide +kernel) (by decide +kernel)) (.cons (dg_V.i1 (-1) ((((((dg_uF_ne e_9 (by omega)).trans (dg_uF_ne e_8 (by omega))).trans (dg_uF_ne e_7 (by omega))).trans (dg_uF_ne e_6 (by omega))).trans (dg_uF_ne e_5 (by omega))).trans (dg_uF_at e_4)) (by decide +kernel) (by decide +kernel)) (.cons (dg_V.i1 (-1) (((((dg_uF_ne e_9 (by omega)).trans (dg_uF_ne e_8 (by omega))).trans (dg_uF_ne e_7 (by omega))).trans (dg_uF_ne e_6 (by omega))).trans (dg_uF_at e_5)) (by decide +kernel) (by decide +kernel)) (.cons (dg_V.i1 (-1) ((((dg_uF_ne e_9 (by omega)).trans (dg_uF_ne e_8 (by omega))).trans (dg_uF_ne e_7 (by omega))).trans (dg_uF_at e_6)) (by decide +kernel) (by decide +kernel)) (.cons (dg_V.i1 (-1) (((dg_uF_ne e_9 (by omega)).trans (dg_uF_ne e_8 (by omega))).trans (dg_uF_at e_7)) (by decide +kernel) (by decide +kernel)) (.cons (dg_V.i1 (-1) ((dg_uF_ne e_9 (by omega)).trans (dg_uF_at e_8)) (by decide +kernel) (by decide +kernel)) (.nil)))))))))) (by intro t h; have h2 : tAX[43]? = some (0, 0, 0) := (by decide +kernel); rw [h2] at h; cases h; rfl))).ext hJ_9
    exact dg_vret hx hb hr hlocks hP hS ⟨hJo, hg_9, trivial⟩ dX1_init_45
set_option maxHeartbeats 8000000 in
set_option maxRecDepth 100000 in
theorem c_n_feel (l : Launch) (g : Nat → ClassId) (D : va_G) (o : Nat) (S : dg_S) (h0 : ∀ b, b < 9 → S.1 229 b = defaultValue (tyX0 b)) : Met l yX0_init (bw yX0_init cX0_init 3 none) ({ frames := 2, cells := 150, slots := 2889, locals := 52 } : Room) (dk_Pc g D (dg_w g (shX.take 230) o (dg_rfH 20) S) (o + 230) [.ref (o + 229), .ref (o + 214)]) (va_Qv (fun S' => dg_Jr alX tFX tAX shX o S' 229 380 ∧ dg_Ag S S' 229 ∧ S'.1 229 5 = .int 0 ∧ True) (dg_B g D (shX.take 380) o (dg_rfF 21)) (dg_A o (shX.take 230).length (o + 230))) 150 2889 (dg_A o (shX.take 230).length (o + 230)) := by
  refine dg_met (cc := cX0_init) (maxL := 3) (ret := none) (dk_dq rfl) rfl (Nat.le_of_ble_eq_true rfl) ?_
  intro p e s m args below meth c A hAe harg hx hb hr hml hts hown hlocks hin hP K hS hA1 hA ST hsz ls hl
  have hA1 := dg_Aall (hAe.trans (congrArg (fun n => dg_A o n (o + 230)) (dg_tlen (by first | decide +kernel | omega))))
  rw [← hAe]
  have F : CallFix p m c cX0_init 3 s args (bw yX0_init cX0_init 3 none) RX0 := ⟨hx, hb, hml, hown, hts⟩
  have hl : lv_has ls 3 [(0, .ref (o + 229)), (1, .ref (o + 214))] := hl
  have hg_0 : dg_Ag S S 229 := dg_Ag.rf
  have hJ_0 : dg_Jr alX tFX tAX shX o S 230 230 := dg_Jr.nil
  refine lv_aload_n hx hb dX0_init_0 rfl (lv_at hl 0 rfl) ?_
  refine W.objInit hx hb hown (hts _ (bw_mem wB_1355)) (hts _ (bw_mem wB_1323)) (hts _ (bw_mem wB_1324)) rfl (by rw [hml]; exact hl.1) rfl dX0_init_1 (Nat.le_of_ble_eq_true rfl) (Nat.le_of_ble_eq_true rfl) ?_
  refine W.eq (g2 := F0 m 4 ls []) rfl ?_
  refine lv_aload_n hx hb dX0_init_4 rfl (lv_at hl 0 rfl) ?_
  refine lv_bipush (v := 64) hx hb dX0_init_5 (by decide +kernel) ?_
  refine dg_size hP (by omega) (by first | decide +kernel | (have h9 := hk9; omega)) hsz (by omega) (fun hz => ?_)
  refine dg_newi hx hb (hts _ (bw_mem wB_1325)) K hP hS hz sX_230 (by decide +kernel) (by decide +kernel) (dk_dq rfl) (Nat.le_of_ble_eq_true rfl) (Nat.le_of_ble_eq_true rfl) dX0_init_7 (fun S_1 e_1 H hP hS hz => ?_)
  refine W.widen (k := 1) (n := 64) (by omega) (by omega) ?_
  have hP : va_P D vwCl (dg_w g (shX.take 231) o (dg_rfH 20) S_1) H := hP
  have hg_1 : dg_Ag S S_1 229 := hg_0.tk (dg_Ag.uf e_1 (by omega))
  have hJ_1 : dg_Jr alX tFX tAX shX o S_1 230 231 := (hJ_0.Ag (dg_Ag.uf e_1 (Nat.le_refl _)) (Nat.le_refl _)).ext (dg_Jr.one (dg_Jc.row sX_230 rfl (dg_uf_at e_1) (by intro t h; have h2 : tAX[45]? = some (1, 0, 255) := (by decide +kernel); rw [h2] at h; cases h; exact fun _ => (dk_dq rfl))))
  refine dg_putF (ci := 0) (v := .ref (o + 230)) (ty := tyX0 1) (C := RX0) (T := TX0) (N := 9) hx hb hts (fun w h => bw_mem (wU_X0 w h)) tyX0 tyX0_ok nmX0 hown K hP hS (hA1 _) (dg_tk sX_229 (by omega)) rfl 1 (dk_dq rfl) (hts _ (bw_mem wB_731)) (fun _ h9 => h9) rfl hin rfl (by decide +kernel) rfl rfl dX0_init_9 (fun S_2 e_2 H locs hP hS => ?_)
  have hg_2 : dg_Ag S S_2 229 := hg_1.tk (dg_Ag.uF e_2 (by omega))
  have hJ_2 : dg_Jr alX tFX tAX shX o S_2 230 231 := hJ_1.uF e_2 (by omega)
  refine lv_aload_n hx hb dX0_init_12 rfl (lv_at hl 0 rfl) ?_
  refine lv_bipush (v := 21) hx hb dX0_init_13 (by decide +kernel) ?_
  refine dg_size hP (by omega) (by first | decide +kernel | (have h9 := hk9; omega)) hsz (by omega) (fun hz => ?_)
  refine dg_newq hx hb hown (hts _ (bw_mem wB_1356)) K hP hS hz sX_231 (by intro j; first | rfl | simp [dg_rfH]) (by decide +kernel) (by decide +kernel) (dk_dq rfl) (Nat.le_of_ble_eq_true rfl) (Nat.le_of_ble_eq_true rfl) dX0_init_15 (fun H hP hS hz => ?_)
  refine W.widen (k := 2) (n := 85) (by omega) (by omega) ?_
  have hP : va_P D vwCl (dg_w g (shX.take 232) o (dg_rfH 20) S_2) H := hP
  have hJ_2 : dg_Jr alX tFX tAX shX o S_2 230 232 := hJ_2.ext (dg_Jr.one (dg_Jc.rowx sX_231 rfl (by intro t h; have h2 : tAX[46]? = some (0, 0, 0) := (by decide +kernel); rw [h2] at h; cases h; rfl)))
  refine dg_putF (ci := 0) (v := .ref (o + 231)) (ty := tyX0 2) (C := RX0) (T := TX0) (N := 9) hx hb hts (fun w h => bw_mem (wU_X0 w h)) tyX0 tyX0_ok nmX0 hown K hP hS (hA1 _) (dg_tk sX_229 (by omega)) rfl 2 (dk_dq rfl) (hts _ (bw_mem wB_742)) (fun _ h9 => h9) rfl hin rfl (by decide +kernel) rfl rfl dX0_init_18 (fun S_3 e_3 H locs hP hS => ?_)
  have hg_3 : dg_Ag S S_3 229 := hg_2.tk (dg_Ag.uF e_3 (by omega))
  have hJ_3 : dg_Jr alX tFX tAX shX o S_3 230 232 := hJ_2.uF e_3 (by omega)
  refine lv_aload_n hx hb dX0_init_21 rfl (lv_at hl 0 rfl) ?_
  refine lv_bipush (v := 11) hx hb dX0_init_22 (by decide +kernel) ?_
  refine dg_size hP (by omega) (by first | decide +kernel | (have h9 := hk9; omega)) hsz (by omega) (fun hz => ?_)
  refine dg_newi hx hb (hts _ (bw_mem wB_1325)) K hP hS hz sX_232 (by decide +kernel) (by decide +kernel) (dk_dq rfl) (Nat.le_of_ble_eq_true rfl) (Nat.le_of_ble_eq_true rfl) dX0_init_24 (fun S_4 e_4 H hP hS hz => ?_)
  refine W.widen (k := 3) (n := 96) (by omega) (by omega) ?_
  have hP : va_P D vwCl (dg_w g (shX.take 233) o (dg_rfH 20) S_4) H := hP
  have hg_4 : dg_Ag S S_4 229 := hg_3.tk (dg_Ag.uf e_4 (by omega))
  have hJ_4 : dg_Jr alX tFX tAX shX o S_4 230 233 := (hJ_3.Ag (dg_Ag.uf e_4 (Nat.le_refl _)) (Nat.le_refl _)).ext (dg_Jr.one (dg_Jc.row sX_232 rfl (dg_uf_at e_4) (by intro t h; have h2 : tAX[47]? = some (0, 0, 0) := (by decide +kernel); rw [h2] at h; cases h; exact fun _ => (dk_dq rfl))))
  as_aux_lemma =>
    refine dg_putF (ci := 0) (v := .ref (o + 232)) (ty := tyX0 3) (C := RX0) (T := TX0) (N := 9) hx hb hts (fun w h => bw_mem (wU_X0 w h)) tyX0 tyX0_ok nmX0 hown K hP hS (hA1 _) (dg_tk sX_229 (by omega)) rfl 3 (dk_dq rfl) (hts _ (bw_mem wB_757)) (fun _ h9 => h9) rfl hin rfl (by decide +kernel) rfl rfl dX0_init_26 (fun S_5 e_5 H locs hP hS => ?_)
    have hg_5 : dg_Ag S S_5 229 := hg_4.tk (dg_Ag.uF e_5 (by omega))
    have hJ_5 : dg_Jr alX tFX tAX shX o S_5 230 233 := hJ_4.uF e_5 (by omega)
    refine lv_aload_n hx hb dX0_init_29 rfl (lv_at hl 0 rfl) ?_
    refine lv_iconst (v := (-1)) hx hb dX0_init_30 (by decide +kernel) ?_
    refine dg_put (ci := 0) (v := .int (-1)) (ty := tyX0 6) (C := RX0) (T := TX0) (N := 9) hx hb hts (fun w h => bw_mem (wU_X0 w h)) tyX0 tyX0_ok nmX0 hown K hP hS (hA1 _) (dg_tk sX_229 (by omega)) rfl 6 (dk_dq rfl) (hts _ (bw_mem wB_766)) (fun _ h9 => h9) rfl (by decide +kernel) rfl rfl dX0_init_31 (fun S_6 e_6 H locs hP hS => ?_)
    have hg_6 : dg_Ag S S_6 229 := hg_5.tk (dg_Ag.uF e_6 (by omega))
    have hJ_6 : dg_Jr alX tFX tAX shX o S_6 230 233 := hJ_5.uF e_6 (by omega)
    refine lv_aload_n hx hb dX0_init_34 rfl (lv_at hl 0 rfl) ?_
    refine lv_iconst (v := (-1)) hx hb dX0_init_35 (by decide +kernel) ?_
    refine dg_put (ci := 0) (v := .int (-1)) (ty := tyX0 7) (C := RX0) (T := TX0) (N := 9) hx hb hts (fun w h => bw_mem (wU_X0 w h)) tyX0 tyX0_ok nmX0 hown K hP hS (hA1 _) (dg_tk sX_229 (by omega)) rfl 7 (dk_dq rfl) (hts _ (bw_mem wB_767)) (fun _ h9 => h9) rfl (by decide +kernel) rfl rfl dX0_init_36 (fun S_7 e_7 H locs hP hS => ?_)
    have hg_7 : dg_Ag S S_7 229 := hg_6.tk (dg_Ag.uF e_7 (by omega))
    have hJ_7 : dg_Jr alX tFX tAX shX o S_7 230 233 := hJ_6.uF e_7 (by omega)
    refine lv_aload_n hx hb dX0_init_39 rfl (lv_at hl 0 rfl) ?_
    refine lv_iconst (v := (-1)) hx hb dX0_init_40 (by decide +kernel) ?_
    refine dg_put (ci := 0) (v := .int (-1)) (ty := tyX0 8) (C := RX0) (T := TX0) (N := 9) hx hb hts (fun w h => bw_mem (wU_X0 w h)) tyX0 tyX0_ok nmX0 hown K hP hS (hA1 _) (dg_tk sX_229 (by omega)) rfl 8 (dk_dq rfl) (hts _ (bw_mem wB_765)) (fun _ h9 => h9) rfl (by decide +kernel) rfl rfl dX0_init_41 (fun S_8 e_8 H locs hP hS => ?_)
    have hg_8 : dg_Ag S S_8 229 := hg_7.tk (dg_Ag.uF e_8 (by omega))
    have hJ_8 : dg_Jr alX tFX tAX shX o S_8 230 233 := hJ_7.uF e_8 (by omega)
    refine lv_aload_n hx hb dX0_init_44 rfl (lv_at hl 0 rfl) ?_
    refine lv_aload_n hx hb dX0_init_45 rfl (lv_at hl 1 rfl) ?_
    refine dg_putF (ci := 0) (v := .ref (o + 214)) (ty := tyX0 0) (C := RX0) (T := TX0) (N := 9) hx hb hts (fun w h => bw_mem (wU_X0 w h)) tyX0 tyX0_ok nmX0 hown K hP hS (hA1 _) (dg_tk sX_229 (by omega)) rfl 0 (dk_dq rfl) (hts _ (bw_mem wB_744)) (fun _ h9 => h9) rfl hin rfl (by decide +kernel) rfl rfl dX0_init_46 (fun S_9 e_9 H locs hP hS => ?_)
    have hg_9 : dg_Ag S S_9 229 := hg_8.tk (dg_Ag.uF e_9 (by omega))
    have hJ_9 : dg_Jr alX tFX tAX shX o S_9 230 233 := hJ_8.uF e_9 (by omega)
    refine lv_iconst (v := 0) hx hb dX0_init_49 (by decide +kernel) ?_
    refine lv_istore_n (lv' := [(2, .int 0), (0, .ref (o + 229)), (1, .ref (o + 214))]) hx hb dX0_init_50 rfl hl (dk_dq rfl) rfl (fun ls hl => ?_)
    have hP : va_P D vwCl (dg_w g (shX.take 233) o (dg_rfF 0) S_9) H := by rw [dg_rfF0]; exact hP
    have loop : ∀ (n i : Nat), i + n = 21 → ∀ (S_10 : dg_S) (H : Heap) (locs : List Loc), va_P D vwCl (dg_w g (shX.take (233 + 7 * i)) o (dg_rfF i) S_10) H → va_S A s.heap H locs → dg_Jr alX tFX tAX shX o S_10 230 (233 + 7 * i) → dg_Ag S_9 S_10 233 → ∀ ls : Array Slot, lv_has ls 3 [(2, .int (nI i)), (0, .ref (o + 229)), (1, .ref (o + 214))] → W p l e ({ frames := 2, cells := 150, slots := 2889, locals := 52 } : Room) s m args below meth c H locs (3 + 7 * i) (96 + 133 * i) (MQ below (va_Qv (fun S' => dg_Jr alX tFX tAX shX o S' 229 380 ∧ dg_Ag S S' 229 ∧ S'.1 229 5 = .int 0 ∧ True) (dg_B g D (shX.take 380) o (dg_rfF 21)) A) args s 150 2889 A) (F0 m 51 ls []) := by
      as_aux_lemma =>
        intro n
        induction n with
        | zero =>
          intro i hi S_10 H locs hP hS hJ_10 g_10 ls hl
          obtain rfl : i = 21 := by omega
          have hg_10 : dg_Ag S S_10 229 := hg_9.tk (fun i9 hi9 => g_10 i9 (by omega))
          refine lv_iload_n hx hb dX0_init_51 rfl (lv_at hl 0 rfl) ?_
          refine lv_bipush (v := 21) hx hb dX0_init_52 (by decide +kernel) ?_
          refine lv_icmp_ge (tgt := 76) hx hb dX0_init_54 (dk_dq rfl) (fun _ => ?_) (fun c => absurd (by decide +kernel) c)
          refine W.widen (k := 150) (n := 2889) (by omega) (by omega) ?_
          have hP : va_P D vwCl (dg_w g (shX.take 380) o (dg_rfF 21) S_10) H := hP
          have hJ_10 : dg_Jr alX tFX tAX shX o S_10 230 380 := hJ_10
          have hJo := (dg_Jr.one (dg_Jc.obj (L := [(4, 214, 0), (3, 1, 0), (3, 2, 0), (3, 3, 0), (1, 0, 1), (1, 0, 16), (1, (-2147483648), 2147483647), (1, (-2147483648), 2147483647), (1, (-2147483648), 2147483647)]) sX_229 (by decide +kernel) (.cons (dg_V.a1 (((g_10 229 (by omega)).1 0).trans (dg_uF_at e_9))) (.cons (dg_V.r1 ((((((((((g_10 229 (by omega)).1 1).trans (dg_uF_ne e_9 (by omega))).trans (dg_uF_ne e_8 (by omega))).trans (dg_uF_ne e_7 (by omega))).trans (dg_uF_ne e_6 (by omega))).trans (dg_uF_ne e_5 (by omega))).trans (dg_uf_F e_4 229 1)).trans (dg_uF_ne e_3 (by omega))).trans (dg_uF_at e_2))) (.cons (dg_V.r1 (((((((((g_10 229 (by omega)).1 2).trans (dg_uF_ne e_9 (by omega))).trans (dg_uF_ne e_8 (by omega))).trans (dg_uF_ne e_7 (by omega))).trans (dg_uF_ne e_6 (by omega))).trans (dg_uF_ne e_5 (by omega))).trans (dg_uf_F e_4 229 2)).trans (dg_uF_at e_3))) (.cons (dg_V.r1 (((((((g_10 229 (by omega)).1 3).trans (dg_uF_ne e_9 (by omega))).trans (dg_uF_ne e_8 (by omega))).trans (dg_uF_ne e_7 (by omega))).trans (dg_uF_ne e_6 (by omega))).trans (dg_uF_at e_5))) (.cons (dg_V.i1 0 ((((((((((((g_10 229 (by omega)).1 4).trans (dg_uF_ne e_9 (by omega))).trans (dg_uF_ne e_8 (by omega))).trans (dg_uF_ne e_7 (by omega))).trans (dg_uF_ne e_6 (by omega))).trans (dg_uF_ne e_5 (by omega))).trans (dg_uf_F e_4 229 4)).trans (dg_uF_ne e_3 (by omega))).trans (dg_uF_ne e_2 (by omega))).trans (dg_uf_F e_1 229 4)).trans ((h0 4 (dk_dq rfl)).trans rfl)) (by decide +kernel) (by decide +kernel)) (.cons (dg_V.i1 0 ((((((((((((g_10 229 (by omega)).1 5).trans (dg_uF_ne e_9 (by omega))).trans (dg_uF_ne e_8 (by omega))).trans (dg_uF_ne e_7 (by omega))).trans (dg_uF_ne e_6 (by omega))).trans (dg_uF_ne e_5 (by omega))).trans (dg_uf_F e_4 229 5)).trans (dg_uF_ne e_3 (by omega))).trans (dg_uF_ne e_2 (by omega))).trans (dg_uf_F e_1 229 5)).trans ((h0 5 (dk_dq rfl)).trans rfl)) (by decide +kernel) (by decide +kernel)) (.cons (dg_V.i1 (-1) ((((((g_10 229 (by omega)).1 6).trans (dg_uF_ne e_9 (by omega))).trans (dg_uF_ne e_8 (by omega))).trans (dg_uF_ne e_7 (by omega))).trans (dg_uF_at e_6)) (by decide +kernel) (by decide +kernel)) (.cons (dg_V.i1 (-1) (((((g_10 229 (by omega)).1 7).trans (dg_uF_ne e_9 (by omega))).trans (dg_uF_ne e_8 (by omega))).trans (dg_uF_at e_7)) (by decide +kernel) (by decide +kernel)) (.cons (dg_V.i1 (-1) ((((g_10 229 (by omega)).1 8).trans (dg_uF_ne e_9 (by omega))).trans (dg_uF_at e_8)) (by decide +kernel) (by decide +kernel)) (.nil)))))))))) (by intro t h; have h2 : tAX[44]? = some (0, 0, 0) := (by decide +kernel); rw [h2] at h; cases h; rfl))).ext hJ_10
          exact dg_vret hx hb hr hlocks hP hS ⟨hJo, hg_10, ((((((((((((g_10 229 (by omega)).1 5).trans (dg_uF_ne e_9 (by omega))).trans (dg_uF_ne e_8 (by omega))).trans (dg_uF_ne e_7 (by omega))).trans (dg_uF_ne e_6 (by omega))).trans (dg_uF_ne e_5 (by omega))).trans (dg_uf_F e_4 229 5)).trans (dg_uF_ne e_3 (by omega))).trans (dg_uF_ne e_2 (by omega))).trans (dg_uf_F e_1 229 5)).trans ((h0 5 (dk_dq rfl)).trans rfl)), trivial⟩ dX0_init_76
        | succ n ih =>
          as_aux_lemma =>
            intro i hi S_10 H locs hP hS hJ_10 g_10 ls hl
            have hg_10 : dg_Ag S S_10 229 := hg_9.tk (fun i9 hi9 => g_10 i9 (by omega))
            obtain ⟨d, hd⟩ : ∃ d, d = 233 + 7 * i := ⟨_, rfl⟩
            have hkd : pX d := by rw [hd]; exact pX_f9 i (by omega)
            have hk9 := pX_le d hkd
            rw [← hd] at hP hJ_10
            refine lv_iload_n hx hb dX0_init_51 rfl (lv_at hl 0 rfl) ?_
            refine lv_bipush (v := 21) hx hb dX0_init_52 (by decide +kernel) ?_
            refine lv_icmp_ge (tgt := 76) hx hb dX0_init_54 (dk_dq rfl) (fun c => absurd c (nI_ge (a := i) (b := 21) (by omega) (by omega))) (fun _ => ?_)
            refine lv_aload_n hx hb dX0_init_57 rfl (lv_at hl 1 rfl) ?_
            refine dg_get (C := RX0) (T := TX0) (N := 9) hx hb hts (fun w h => bw_mem (wU_X0 w h)) hown K hP (dg_tk sX_229 (by omega)) rfl 2 (dk_dq rfl) (hts _ (bw_mem wB_742)) (fun _ h9 => h9) (v := .ref (o + 231)) (((((((((g_10 229 (by omega)).1 2).trans (dg_uF_ne e_9 (by omega))).trans (dg_uF_ne e_8 (by omega))).trans (dg_uF_ne e_7 (by omega))).trans (dg_uF_ne e_6 (by omega))).trans (dg_uF_ne e_5 (by omega))).trans (dg_uf_F e_4 229 2)).trans (dg_uF_at e_3)) dX0_init_58 ?_
            refine lv_iload_n hx hb dX0_init_61 rfl (lv_at hl 0 rfl) ?_
            refine dg_size hP (by omega) (by first | decide +kernel | (have h9 := hk9; omega)) hsz (by omega) (fun hz => ?_)
            refine dg_newo (ci := 5) (C := RX5) (T := TX5) (N := 8) (f := fun j => defaultValue (tyX5 j)) hx hb hts (fun w h => bw_mem (wU_X5 w h)) tyX5 tyX5_ok hown (hts _ (bw_mem wB_1356)) (hts _ (bw_mem wB_1337)) (hts _ (bw_mem wB_493)) K hP hS hz (pX_0 d hkd) rfl (fun _ _ => rfl) (by show _ ≤ 150; omega) (by show _ ≤ 2889; omega) dX0_init_62 (fun S_11 e_11 H hP hS hz => ?_)
            refine W.widen (k := 3 + 7 * i + 1) (n := 96 + 133 * i + 8) (by omega) (by omega) ?_
            have hP : va_P D vwCl (dg_w g (shX.take (d + 1)) o (dg_rfF i) S_11) H := hP
            have hg_11 : dg_Ag S S_11 229 := hg_10.tk (dg_Ag.uN e_11 (by omega))
            have hJ_11 : dg_Jr alX tFX tAX shX o S_11 230 d := hJ_10.Ag (dg_Ag.uN e_11 (Nat.le_refl _)) (Nat.le_refl _)
            refine lv_dup hx hb dX0_init_65 rfl ?_
            have hz9 : H.size = (o + (d + 1)) := hz
            refine dg_gcallv hz9 hS (hA1 _) hA (va_runIN (As := []) (rest := [.ref (o + d), .int ((nI i)), .ref (o + 231)]) F (c_n_pit l g D o S_11 (dg_rfF i) d hkd (fun b hb9 => dg_uN_at e_11 b)) ⟨va_cnB 0 hts (bw_in wB_1338) rfl rfl rfl (K.2.1 _ (List.mem_of_getElem? (i := 7) rfl)) (hts _ (bw_mem wB_493)) (by decide +kernel) ⟨Nat.le_of_ble_eq_true rfl, Nat.le_of_ble_eq_true rfl⟩, rfl, (hts _ (bw_mem wB_1339))⟩ (by rw [← hz9]; exact dg_preS K ST hP hS (hA1 _) hA) rfl rfl hl.1 rfl (lv_room (Nat.le_of_ble_eq_true rfl)) dX0_init_66 ⟨(by show _ ≤ 150; omega), (by show _ ≤ 2889; omega)⟩) (fun S_12 hw_12 H locs hP hS => ?_)
            obtain ⟨c_12, g_12, kr_12_0, kr_12_1, -⟩ := hw_12
            refine W.widen (k := 3 + 7 * i + 7) (n := 96 + 133 * i + 133) (by omega) (by omega) ?_
            have hP : va_P D vwCl (dg_w g (shX.take (d + 7)) o (dg_rfF i) S_12) H := hP
            have hg_12 : dg_Ag S S_12 229 := hg_11.tk (fun i hi => g_12 i (by omega))
            have hJ_12 : dg_Jr alX tFX tAX shX o S_12 230 (d + 7) := (hJ_11.Ag g_12 (Nat.le_refl _)).ext c_12
            refine dg_astq (rf' := dg_rfF (i + 1)) (j := d) hx hb K hP hS (hA1 _) (dg_tk sX_231 (by omega)) (dg_tk (pX_0 d hkd) (by omega)) (x := nI i) (vp_in_nI (by omega) (by omega)) (dg_rfF_ne i) (dg_rfF_s (by omega) hd) ⟨_, rfl, rfl⟩ dX0_init_69 (fun H locs hP hS => ?_)
            refine lv_iinc (v := (nI (i + 1))) (lv' := [(2, .int (nI (i + 1))), (0, .ref (o + 229)), (1, .ref (o + 214))]) hx hb dX0_init_70 hl (k := 0) rfl (dk_addc (b := 1) rfl) (dk_dq rfl) rfl (fun ls hl => ?_)
            refine lv_goto (tgt := 51) hx hb dX0_init_73 (dk_dq rfl) ?_
            have e7 : d + 7 = 233 + 7 * (i + 1) := by omega
            have hP : va_P D vwCl (dg_w g (shX.take (d + 7)) o (dg_rfF (i + 1)) S_12) H := hP
            have hJ_12 : dg_Jr alX tFX tAX shX o S_12 230 (d + 7) := hJ_12
            rw [e7] at hP hJ_12
            refine W.widen (k := 3 + 7 * (i + 1)) (n := 96 + 133 * (i + 1)) (by omega) (by omega) ?_
            exact ih (i + 1) (by omega) S_12 H locs hP hS hJ_12 ((g_10.tk (dg_Ag.uN e_11 (by omega))).tk (fun j hj => g_12 j (by omega))) ls hl
    exact loop 21 0 rfl S_9 H locs (by exact hP) hS (by exact hJ_9) dg_Ag.rf ls hl
