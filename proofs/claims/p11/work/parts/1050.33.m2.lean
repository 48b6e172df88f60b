/-! 33.m2.lean.txt -/
theorem dX12_slot_0 : decode cX12_slot 0 = .ok (.iconst 2, 1) := dk_o5 (by decide +kernel)
theorem dX12_slot_1 : decode cX12_slot 1 = .ok (.aload_n 0, 1) := dk_o42 (by decide +kernel)
theorem dX12_slot_2 : decode cX12_slot 2 = .ok (.getfield 195, 3) := dk_o180 (by decide +kernel)
theorem dX12_slot_5 : decode cX12_slot 5 = .ok (.iload_n 1, 1) := dk_o27 (by decide +kernel)
theorem dX12_slot_6 : decode cX12_slot 6 = .ok (.iadd, 1) := dk_o96 (by decide +kernel)
theorem dX12_slot_7 : decode cX12_slot 7 = .ok (.bipush 20, 2) := dk_o16 (by decide +kernel)
theorem dX12_slot_9 : decode cX12_slot 9 = .ok (.irem, 1) := dk_o112 (by decide +kernel)
theorem dX12_slot_10 : decode cX12_slot 10 = .ok (.iadd, 1) := dk_o96 (by decide +kernel)
theorem dX12_slot_11 : decode cX12_slot 11 = .ok (.ireturn, 1) := dk_o172 (by decide +kernel)
theorem dX12_isTold_0 : decode cX12_isTold 0 = .ok (.aload_n 0, 1) := dk_o42 (by decide +kernel)
theorem dX12_isTold_1 : decode cX12_isTold 1 = .ok (.getfield 96, 3) := dk_o180 (by decide +kernel)
theorem dX12_isTold_4 : decode cX12_isTold 4 = .ok (.iconst 3, 1) := dk_o6 (by decide +kernel)
theorem dX12_isTold_5 : decode cX12_isTold 5 = .ok (.aload_n 0, 1) := dk_o42 (by decide +kernel)
theorem dX12_isTold_6 : decode cX12_isTold 6 = .ok (.getfield 51, 3) := dk_o180 (by decide +kernel)
theorem dX12_isTold_9 : decode cX12_isTold 9 = .ok (.imul, 1) := dk_o104 (by decide +kernel)
theorem dX12_isTold_10 : decode cX12_isTold 10 = .ok (.iload_n 1, 1) := dk_o27 (by decide +kernel)
theorem dX12_isTold_11 : decode cX12_isTold 11 = .ok (.iadd, 1) := dk_o96 (by decide +kernel)
theorem dX12_isTold_12 : decode cX12_isTold 12 = .ok (.iaload, 1) := dk_o46 (by decide +kernel)
theorem dX12_isTold_13 : decode cX12_isTold 13 = .ok (.iconst (-1), 1) := dk_o2 (by decide +kernel)
theorem dX12_isTold_14 : decode cX12_isTold 14 = .ok (.if_icmp .eq 7, 3) := dk_o159 (by decide +kernel)
theorem dX12_isTold_17 : decode cX12_isTold 17 = .ok (.iconst 1, 1) := dk_o4 (by decide +kernel)
theorem dX12_isTold_18 : decode cX12_isTold 18 = .ok (.goto 4, 3) := dk_o167 (by decide +kernel)
theorem dX12_isTold_21 : decode cX12_isTold 21 = .ok (.iconst 0, 1) := dk_o3 (by decide +kernel)
theorem dX12_isTold_22 : decode cX12_isTold 22 = .ok (.ireturn, 1) := dk_o172 (by decide +kernel)
theorem dX12_isCell_0 : decode cX12_isCell 0 = .ok (.aload_n 0, 1) := dk_o42 (by decide +kernel)
theorem dX12_isCell_1 : decode cX12_isCell 1 = .ok (.getfield 156, 3) := dk_o180 (by decide +kernel)
theorem dX12_isCell_4 : decode cX12_isCell 4 = .ok (.ifCond .eq 45, 3) := dk_o153 (by decide +kernel)
theorem dX12_isCell_7 : decode cX12_isCell 7 = .ok (.iload_n 1, 1) := dk_o27 (by decide +kernel)
theorem dX12_isCell_8 : decode cX12_isCell 8 = .ok (.iconst 0, 1) := dk_o3 (by decide +kernel)
theorem dX12_isCell_9 : decode cX12_isCell 9 = .ok (.aload_n 0, 1) := dk_o42 (by decide +kernel)
theorem dX12_isCell_10 : decode cX12_isCell 10 = .ok (.getfield 54, 3) := dk_o180 (by decide +kernel)
theorem dX12_isCell_13 : decode cX12_isCell 13 = .ok (.aload_n 0, 1) := dk_o42 (by decide +kernel)
theorem dX12_isCell_14 : decode cX12_isCell 14 = .ok (.getfield 51, 3) := dk_o180 (by decide +kernel)
theorem dX12_isCell_17 : decode cX12_isCell 17 = .ok (.iaload, 1) := dk_o46 (by decide +kernel)
theorem dX12_isCell_18 : decode cX12_isCell 18 = .ok (.iconst 1, 1) := dk_o4 (by decide +kernel)
theorem dX12_isCell_19 : decode cX12_isCell 19 = .ok (.isub, 1) := dk_o100 (by decide +kernel)
theorem dX12_isCell_20 : decode cX12_isCell 20 = .ok (.invokestatic 333, 3) := dk_o184 (by decide +kernel)
theorem dX12_isCell_23 : decode cX12_isCell 23 = .ok (.ifCond .eq 26, 3) := dk_o153 (by decide +kernel)
theorem dX12_isCell_26 : decode cX12_isCell 26 = .ok (.iload_n 2, 1) := dk_o28 (by decide +kernel)
theorem dX12_isCell_27 : decode cX12_isCell 27 = .ok (.iconst 0, 1) := dk_o3 (by decide +kernel)
theorem dX12_isCell_28 : decode cX12_isCell 28 = .ok (.aload_n 0, 1) := dk_o42 (by decide +kernel)
theorem dX12_isCell_29 : decode cX12_isCell 29 = .ok (.getfield 57, 3) := dk_o180 (by decide +kernel)
theorem dX12_isCell_32 : decode cX12_isCell 32 = .ok (.aload_n 0, 1) := dk_o42 (by decide +kernel)
theorem dX12_isCell_33 : decode cX12_isCell 33 = .ok (.getfield 51, 3) := dk_o180 (by decide +kernel)
theorem dX12_isCell_36 : decode cX12_isCell 36 = .ok (.iaload, 1) := dk_o46 (by decide +kernel)
theorem dX12_isCell_37 : decode cX12_isCell 37 = .ok (.iconst 1, 1) := dk_o4 (by decide +kernel)
theorem dX12_isCell_38 : decode cX12_isCell 38 = .ok (.isub, 1) := dk_o100 (by decide +kernel)
theorem dX12_isCell_39 : decode cX12_isCell 39 = .ok (.invokestatic 333, 3) := dk_o184 (by decide +kernel)
theorem dX12_isCell_42 : decode cX12_isCell 42 = .ok (.ifCond .eq 7, 3) := dk_o153 (by decide +kernel)
theorem dX12_isCell_45 : decode cX12_isCell 45 = .ok (.iconst 1, 1) := dk_o4 (by decide +kernel)
theorem dX12_isCell_46 : decode cX12_isCell 46 = .ok (.goto 4, 3) := dk_o167 (by decide +kernel)
theorem dX12_isCell_49 : decode cX12_isCell 49 = .ok (.iconst 0, 1) := dk_o3 (by decide +kernel)
theorem dX12_isCell_50 : decode cX12_isCell 50 = .ok (.ireturn, 1) := dk_o172 (by decide +kernel)
theorem dX12_isCellOf_0 : decode cX12_isCellOf 0 = .ok (.iload_n 1, 1) := dk_o27 (by decide +kernel)
theorem dX12_isCellOf_1 : decode cX12_isCellOf 1 = .ok (.ifCond .lt 22, 3) := dk_o155 (by decide +kernel)
theorem dX12_isCellOf_4 : decode cX12_isCellOf 4 = .ok (.aload_n 0, 1) := dk_o42 (by decide +kernel)
theorem dX12_isCellOf_5 : decode cX12_isCellOf 5 = .ok (.iload_n 1, 1) := dk_o27 (by decide +kernel)
theorem dX12_isCellOf_6 : decode cX12_isCellOf 6 = .ok (.bipush 8, 2) := dk_o16 (by decide +kernel)
theorem dX12_isCellOf_8 : decode cX12_isCellOf 8 = .ok (.irem, 1) := dk_o112 (by decide +kernel)
theorem dX12_isCellOf_9 : decode cX12_isCellOf 9 = .ok (.iload_n 1, 1) := dk_o27 (by decide +kernel)
theorem dX12_isCellOf_10 : decode cX12_isCellOf 10 = .ok (.bipush 8, 2) := dk_o16 (by decide +kernel)
theorem dX12_isCellOf_12 : decode cX12_isCellOf 12 = .ok (.idiv, 1) := dk_o108 (by decide +kernel)
theorem dX12_isCellOf_13 : decode cX12_isCellOf 13 = .ok (.invokevirtual 452, 3) := dk_o182 (by decide +kernel)
theorem dX12_isCellOf_16 : decode cX12_isCellOf 16 = .ok (.ifCond .eq 7, 3) := dk_o153 (by decide +kernel)
theorem dX12_isCellOf_19 : decode cX12_isCellOf 19 = .ok (.iconst 1, 1) := dk_o4 (by decide +kernel)
theorem dX12_isCellOf_20 : decode cX12_isCellOf 20 = .ok (.goto 4, 3) := dk_o167 (by decide +kernel)
theorem dX12_isCellOf_23 : decode cX12_isCellOf 23 = .ok (.iconst 0, 1) := dk_o3 (by decide +kernel)
theorem dX12_isCellOf_24 : decode cX12_isCellOf 24 = .ok (.ireturn, 1) := dk_o172 (by decide +kernel)
theorem dX12_besideOf_0 : decode cX12_besideOf 0 = .ok (.iload_n 1, 1) := dk_o27 (by decide +kernel)
theorem dX12_besideOf_1 : decode cX12_besideOf 1 = .ok (.bipush 8, 2) := dk_o16 (by decide +kernel)
theorem dX12_besideOf_3 : decode cX12_besideOf 3 = .ok (.irem, 1) := dk_o112 (by decide +kernel)
theorem dX12_besideOf_4 : decode cX12_besideOf 4 = .ok (.iload_n 2, 1) := dk_o28 (by decide +kernel)
theorem dX12_besideOf_5 : decode cX12_besideOf 5 = .ok (.iconst 1, 1) := dk_o4 (by decide +kernel)
theorem dX12_besideOf_6 : decode cX12_besideOf 6 = .ok (.if_icmp .ne 7, 3) := dk_o160 (by decide +kernel)
theorem dX12_besideOf_9 : decode cX12_besideOf 9 = .ok (.iconst 1, 1) := dk_o4 (by decide +kernel)
theorem dX12_besideOf_10 : decode cX12_besideOf 10 = .ok (.goto 13, 3) := dk_o167 (by decide +kernel)
theorem dX12_besideOf_13 : decode cX12_besideOf 13 = .ok (.iload_n 2, 1) := dk_o28 (by decide +kernel)
theorem dX12_besideOf_14 : decode cX12_besideOf 14 = .ok (.iconst 3, 1) := dk_o6 (by decide +kernel)
theorem dX12_besideOf_15 : decode cX12_besideOf 15 = .ok (.if_icmp .ne 7, 3) := dk_o160 (by decide +kernel)
theorem dX12_besideOf_18 : decode cX12_besideOf 18 = .ok (.iconst (-1), 1) := dk_o2 (by decide +kernel)
theorem dX12_besideOf_19 : decode cX12_besideOf 19 = .ok (.goto 4, 3) := dk_o167 (by decide +kernel)
theorem dX12_besideOf_22 : decode cX12_besideOf 22 = .ok (.iconst 0, 1) := dk_o3 (by decide +kernel)
theorem dX12_besideOf_23 : decode cX12_besideOf 23 = .ok (.iadd, 1) := dk_o96 (by decide +kernel)
theorem dX12_besideOf_24 : decode cX12_besideOf 24 = .ok (.istore_n 3, 1) := dk_o62 (by decide +kernel)
theorem dX12_besideOf_25 : decode cX12_besideOf 25 = .ok (.iload_n 1, 1) := dk_o27 (by decide +kernel)
theorem dX12_besideOf_26 : decode cX12_besideOf 26 = .ok (.bipush 8, 2) := dk_o16 (by decide +kernel)
theorem dX12_besideOf_28 : decode cX12_besideOf 28 = .ok (.idiv, 1) := dk_o108 (by decide +kernel)
theorem dX12_besideOf_29 : decode cX12_besideOf 29 = .ok (.iload_n 2, 1) := dk_o28 (by decide +kernel)
theorem dX12_besideOf_30 : decode cX12_besideOf 30 = .ok (.iconst 2, 1) := dk_o5 (by decide +kernel)
theorem dX12_besideOf_31 : decode cX12_besideOf 31 = .ok (.if_icmp .ne 7, 3) := dk_o160 (by decide +kernel)
theorem dX12_besideOf_34 : decode cX12_besideOf 34 = .ok (.iconst 1, 1) := dk_o4 (by decide +kernel)
theorem dX12_besideOf_35 : decode cX12_besideOf 35 = .ok (.goto 12, 3) := dk_o167 (by decide +kernel)
theorem dX12_besideOf_38 : decode cX12_besideOf 38 = .ok (.iload_n 2, 1) := dk_o28 (by decide +kernel)
theorem dX12_besideOf_39 : decode cX12_besideOf 39 = .ok (.ifCond .ne 7, 3) := dk_o154 (by decide +kernel)
theorem dX12_besideOf_42 : decode cX12_besideOf 42 = .ok (.iconst (-1), 1) := dk_o2 (by decide +kernel)
theorem dX12_besideOf_43 : decode cX12_besideOf 43 = .ok (.goto 4, 3) := dk_o167 (by decide +kernel)
theorem dX12_besideOf_46 : decode cX12_besideOf 46 = .ok (.iconst 0, 1) := dk_o3 (by decide +kernel)
theorem dX12_besideOf_47 : decode cX12_besideOf 47 = .ok (.iadd, 1) := dk_o96 (by decide +kernel)
theorem dX12_besideOf_48 : decode cX12_besideOf 48 = .ok (.istore 4, 2) := dk_o54 (by decide +kernel)
theorem dX12_besideOf_50 : decode cX12_besideOf 50 = .ok (.aload_n 0, 1) := dk_o42 (by decide +kernel)
theorem dX12_besideOf_51 : decode cX12_besideOf 51 = .ok (.iload_n 3, 1) := dk_o29 (by decide +kernel)
theorem dX12_besideOf_52 : decode cX12_besideOf 52 = .ok (.iload 4, 2) := dk_o21 (by decide +kernel)
theorem dX12_besideOf_54 : decode cX12_besideOf 54 = .ok (.invokevirtual 452, 3) := dk_o182 (by decide +kernel)
theorem dX12_besideOf_57 : decode cX12_besideOf 57 = .ok (.ifCond .eq 13, 3) := dk_o153 (by decide +kernel)
theorem dX12_besideOf_60 : decode cX12_besideOf 60 = .ok (.bipush 8, 2) := dk_o16 (by decide +kernel)
theorem dX12_besideOf_62 : decode cX12_besideOf 62 = .ok (.iload 4, 2) := dk_o21 (by decide +kernel)
theorem dX12_besideOf_64 : decode cX12_besideOf 64 = .ok (.imul, 1) := dk_o104 (by decide +kernel)
theorem dX12_besideOf_65 : decode cX12_besideOf 65 = .ok (.iload_n 3, 1) := dk_o29 (by decide +kernel)
theorem dX12_besideOf_66 : decode cX12_besideOf 66 = .ok (.iadd, 1) := dk_o96 (by decide +kernel)
theorem dX12_besideOf_67 : decode cX12_besideOf 67 = .ok (.goto 4, 3) := dk_o167 (by decide +kernel)
theorem dX12_besideOf_70 : decode cX12_besideOf 70 = .ok (.iconst (-1), 1) := dk_o2 (by decide +kernel)
theorem dX12_besideOf_71 : decode cX12_besideOf 71 = .ok (.ireturn, 1) := dk_o172 (by decide +kernel)
theorem dX12_isOpen_0 : decode cX12_isOpen 0 = .ok (.aload_n 0, 1) := dk_o42 (by decide +kernel)
theorem dX12_isOpen_1 : decode cX12_isOpen 1 = .ok (.getfield 168, 3) := dk_o180 (by decide +kernel)
theorem dX12_isOpen_4 : decode cX12_isOpen 4 = .ok (.bipush 64, 2) := dk_o16 (by decide +kernel)
theorem dX12_isOpen_6 : decode cX12_isOpen 6 = .ok (.iload_n 1, 1) := dk_o27 (by decide +kernel)
theorem dX12_isOpen_7 : decode cX12_isOpen 7 = .ok (.imul, 1) := dk_o104 (by decide +kernel)
theorem dX12_isOpen_8 : decode cX12_isOpen 8 = .ok (.iload_n 2, 1) := dk_o28 (by decide +kernel)
theorem dX12_isOpen_9 : decode cX12_isOpen 9 = .ok (.iadd, 1) := dk_o96 (by decide +kernel)
theorem dX12_isOpen_10 : decode cX12_isOpen 10 = .ok (.iaload, 1) := dk_o46 (by decide +kernel)
theorem dX12_isOpen_11 : decode cX12_isOpen 11 = .ok (.iconst (-1), 1) := dk_o2 (by decide +kernel)
theorem dX12_isOpen_12 : decode cX12_isOpen 12 = .ok (.if_icmp .ne 7, 3) := dk_o160 (by decide +kernel)
theorem dX12_isOpen_15 : decode cX12_isOpen 15 = .ok (.iconst 1, 1) := dk_o4 (by decide +kernel)
theorem dX12_isOpen_16 : decode cX12_isOpen 16 = .ok (.goto 4, 3) := dk_o167 (by decide +kernel)
theorem dX12_isOpen_19 : decode cX12_isOpen 19 = .ok (.iconst 0, 1) := dk_o3 (by decide +kernel)
theorem dX12_isOpen_20 : decode cX12_isOpen 20 = .ok (.ireturn, 1) := dk_o172 (by decide +kernel)
theorem dX12_isLit_0 : decode cX12_isLit 0 = .ok (.aload_n 0, 1) := dk_o42 (by decide +kernel)
theorem dX12_isLit_1 : decode cX12_isLit 1 = .ok (.iload_n 1, 1) := dk_o27 (by decide +kernel)
theorem dX12_isLit_2 : decode cX12_isLit 2 = .ok (.iload_n 2, 1) := dk_o28 (by decide +kernel)
theorem dX12_isLit_3 : decode cX12_isLit 3 = .ok (.invokevirtual 460, 3) := dk_o182 (by decide +kernel)
theorem dX12_isLit_6 : decode cX12_isLit 6 = .ok (.ifCond .eq 34, 3) := dk_o153 (by decide +kernel)
theorem dX12_isLit_9 : decode cX12_isLit 9 = .ok (.aload_n 0, 1) := dk_o42 (by decide +kernel)
theorem dX12_isLit_10 : decode cX12_isLit 10 = .ok (.getfield 213, 3) := dk_o180 (by decide +kernel)
theorem dX12_isLit_13 : decode cX12_isLit 13 = .ok (.iload_n 2, 1) := dk_o28 (by decide +kernel)
theorem dX12_isLit_14 : decode cX12_isLit 14 = .ok (.iaload, 1) := dk_o46 (by decide +kernel)
theorem dX12_isLit_15 : decode cX12_isLit 15 = .ok (.aload_n 0, 1) := dk_o42 (by decide +kernel)
theorem dX12_isLit_16 : decode cX12_isLit 16 = .ok (.getfield 204, 3) := dk_o180 (by decide +kernel)
theorem dX12_isLit_19 : decode cX12_isLit 19 = .ok (.if_icmp .gt 21, 3) := dk_o163 (by decide +kernel)
theorem dX12_isLit_22 : decode cX12_isLit 22 = .ok (.aload_n 0, 1) := dk_o42 (by decide +kernel)
theorem dX12_isLit_23 : decode cX12_isLit 23 = .ok (.getfield 171, 3) := dk_o180 (by decide +kernel)
theorem dX12_isLit_26 : decode cX12_isLit 26 = .ok (.bipush 64, 2) := dk_o16 (by decide +kernel)
theorem dX12_isLit_28 : decode cX12_isLit 28 = .ok (.iload_n 1, 1) := dk_o27 (by decide +kernel)
theorem dX12_isLit_29 : decode cX12_isLit 29 = .ok (.imul, 1) := dk_o104 (by decide +kernel)
theorem dX12_isLit_30 : decode cX12_isLit 30 = .ok (.iload_n 2, 1) := dk_o28 (by decide +kernel)
theorem dX12_isLit_31 : decode cX12_isLit 31 = .ok (.iadd, 1) := dk_o96 (by decide +kernel)
theorem dX12_isLit_32 : decode cX12_isLit 32 = .ok (.iaload, 1) := dk_o46 (by decide +kernel)
theorem dX12_isLit_33 : decode cX12_isLit 33 = .ok (.ifCond .ne 7, 3) := dk_o154 (by decide +kernel)
theorem dX12_isLit_36 : decode cX12_isLit 36 = .ok (.iconst 1, 1) := dk_o4 (by decide +kernel)
theorem dX12_isLit_37 : decode cX12_isLit 37 = .ok (.goto 4, 3) := dk_o167 (by decide +kernel)
theorem dX12_isLit_40 : decode cX12_isLit 40 = .ok (.iconst 0, 1) := dk_o3 (by decide +kernel)
theorem dX12_isLit_41 : decode cX12_isLit 41 = .ok (.ireturn, 1) := dk_o172 (by decide +kernel)
theorem dX12_openBeside_0 : decode cX12_openBeside 0 = .ok (.iconst 0, 1) := dk_o3 (by decide +kernel)
theorem dX12_openBeside_1 : decode cX12_openBeside 1 = .ok (.istore_n 3, 1) := dk_o62 (by decide +kernel)
theorem dX12_openBeside_2 : decode cX12_openBeside 2 = .ok (.iconst 0, 1) := dk_o3 (by decide +kernel)
theorem dX12_openBeside_3 : decode cX12_openBeside 3 = .ok (.istore 4, 2) := dk_o54 (by decide +kernel)
theorem dX12_openBeside_5 : decode cX12_openBeside 5 = .ok (.iload 4, 2) := dk_o21 (by decide +kernel)
theorem dX12_openBeside_7 : decode cX12_openBeside 7 = .ok (.iconst 4, 1) := dk_o7 (by decide +kernel)
theorem dX12_openBeside_8 : decode cX12_openBeside 8 = .ok (.if_icmp .ge 43, 3) := dk_o162 (by decide +kernel)
theorem dX12_openBeside_11 : decode cX12_openBeside 11 = .ok (.iload_n 3, 1) := dk_o29 (by decide +kernel)
theorem dX12_openBeside_12 : decode cX12_openBeside 12 = .ok (.aload_n 0, 1) := dk_o42 (by decide +kernel)
theorem dX12_openBeside_13 : decode cX12_openBeside 13 = .ok (.iload_n 2, 1) := dk_o28 (by decide +kernel)
theorem dX12_openBeside_14 : decode cX12_openBeside 14 = .ok (.iload 4, 2) := dk_o21 (by decide +kernel)
theorem dX12_openBeside_16 : decode cX12_openBeside 16 = .ok (.invokevirtual 457, 3) := dk_o182 (by decide +kernel)
theorem dX12_openBeside_19 : decode cX12_openBeside 19 = .ok (.iconst (-1), 1) := dk_o2 (by decide +kernel)
theorem dX12_openBeside_20 : decode cX12_openBeside 20 = .ok (.if_icmp .eq 22, 3) := dk_o159 (by decide +kernel)
theorem dX12_openBeside_23 : decode cX12_openBeside 23 = .ok (.aload_n 0, 1) := dk_o42 (by decide +kernel)
theorem dX12_openBeside_24 : decode cX12_openBeside 24 = .ok (.iload_n 1, 1) := dk_o27 (by decide +kernel)
theorem dX12_openBeside_25 : decode cX12_openBeside 25 = .ok (.aload_n 0, 1) := dk_o42 (by decide +kernel)
theorem dX12_openBeside_26 : decode cX12_openBeside 26 = .ok (.iload_n 2, 1) := dk_o28 (by decide +kernel)
theorem dX12_openBeside_27 : decode cX12_openBeside 27 = .ok (.iload 4, 2) := dk_o21 (by decide +kernel)
theorem dX12_openBeside_29 : decode cX12_openBeside 29 = .ok (.invokevirtual 457, 3) := dk_o182 (by decide +kernel)
theorem dX12_openBeside_32 : decode cX12_openBeside 32 = .ok (.invokevirtual 460, 3) := dk_o182 (by decide +kernel)
theorem dX12_openBeside_35 : decode cX12_openBeside 35 = .ok (.ifCond .eq 7, 3) := dk_o153 (by decide +kernel)
theorem dX12_openBeside_38 : decode cX12_openBeside 38 = .ok (.iconst 1, 1) := dk_o4 (by decide +kernel)
theorem dX12_openBeside_39 : decode cX12_openBeside 39 = .ok (.goto 4, 3) := dk_o167 (by decide +kernel)
theorem dX12_openBeside_42 : decode cX12_openBeside 42 = .ok (.iconst 0, 1) := dk_o3 (by decide +kernel)
theorem dX12_openBeside_43 : decode cX12_openBeside 43 = .ok (.iadd, 1) := dk_o96 (by decide +kernel)
theorem dX12_openBeside_44 : decode cX12_openBeside 44 = .ok (.istore_n 3, 1) := dk_o62 (by decide +kernel)
theorem dX12_openBeside_45 : decode cX12_openBeside 45 = .ok (.iinc 4 1, 3) := dk_o132 (by decide +kernel)
theorem dX12_openBeside_48 : decode cX12_openBeside 48 = .ok (.goto (-43), 3) := dk_o167 (by decide +kernel)
theorem dX12_openBeside_51 : decode cX12_openBeside 51 = .ok (.iload_n 3, 1) := dk_o29 (by decide +kernel)
theorem dX12_openBeside_52 : decode cX12_openBeside 52 = .ok (.ireturn, 1) := dk_o172 (by decide +kernel)
theorem dX12_litBeside_0 : decode cX12_litBeside 0 = .ok (.ldc_w 456, 3) := dk_o19 (by decide +kernel)
theorem dX12_litBeside_3 : decode cX12_litBeside 3 = .ok (.istore_n 3, 1) := dk_o62 (by decide +kernel)
theorem dX12_litBeside_4 : decode cX12_litBeside 4 = .ok (.iconst 0, 1) := dk_o3 (by decide +kernel)
theorem dX12_litBeside_5 : decode cX12_litBeside 5 = .ok (.istore 4, 2) := dk_o54 (by decide +kernel)
theorem dX12_litBeside_7 : decode cX12_litBeside 7 = .ok (.iload 4, 2) := dk_o21 (by decide +kernel)
theorem dX12_litBeside_9 : decode cX12_litBeside 9 = .ok (.iconst 4, 1) := dk_o7 (by decide +kernel)
theorem dX12_litBeside_10 : decode cX12_litBeside 10 = .ok (.if_icmp .ge 53, 3) := dk_o162 (by decide +kernel)
theorem dX12_litBeside_13 : decode cX12_litBeside 13 = .ok (.aload_n 0, 1) := dk_o42 (by decide +kernel)
theorem dX12_litBeside_14 : decode cX12_litBeside 14 = .ok (.iload_n 2, 1) := dk_o28 (by decide +kernel)
theorem dX12_litBeside_15 : decode cX12_litBeside 15 = .ok (.iload 4, 2) := dk_o21 (by decide +kernel)
theorem dX12_litBeside_17 : decode cX12_litBeside 17 = .ok (.invokevirtual 457, 3) := dk_o182 (by decide +kernel)
theorem dX12_litBeside_20 : decode cX12_litBeside 20 = .ok (.istore 5, 2) := dk_o54 (by decide +kernel)
theorem dX12_litBeside_22 : decode cX12_litBeside 22 = .ok (.iload 5, 2) := dk_o21 (by decide +kernel)
theorem dX12_litBeside_24 : decode cX12_litBeside 24 = .ok (.iconst (-1), 1) := dk_o2 (by decide +kernel)
theorem dX12_litBeside_25 : decode cX12_litBeside 25 = .ok (.if_icmp .eq 32, 3) := dk_o159 (by decide +kernel)
theorem dX12_litBeside_28 : decode cX12_litBeside 28 = .ok (.aload_n 0, 1) := dk_o42 (by decide +kernel)
theorem dX12_litBeside_29 : decode cX12_litBeside 29 = .ok (.iload_n 1, 1) := dk_o27 (by decide +kernel)
theorem dX12_litBeside_30 : decode cX12_litBeside 30 = .ok (.iload 5, 2) := dk_o21 (by decide +kernel)
theorem dX12_litBeside_32 : decode cX12_litBeside 32 = .ok (.invokevirtual 463, 3) := dk_o182 (by decide +kernel)
theorem dX12_litBeside_35 : decode cX12_litBeside 35 = .ok (.ifCond .eq 22, 3) := dk_o153 (by decide +kernel)
theorem dX12_litBeside_38 : decode cX12_litBeside 38 = .ok (.aload_n 0, 1) := dk_o42 (by decide +kernel)
theorem dX12_litBeside_39 : decode cX12_litBeside 39 = .ok (.getfield 213, 3) := dk_o180 (by decide +kernel)
theorem dX12_litBeside_42 : decode cX12_litBeside 42 = .ok (.iload 5, 2) := dk_o21 (by decide +kernel)
theorem dX12_litBeside_44 : decode cX12_litBeside 44 = .ok (.iaload, 1) := dk_o46 (by decide +kernel)
theorem dX12_litBeside_45 : decode cX12_litBeside 45 = .ok (.iload_n 3, 1) := dk_o29 (by decide +kernel)
theorem dX12_litBeside_46 : decode cX12_litBeside 46 = .ok (.if_icmp .ge 11, 3) := dk_o162 (by decide +kernel)
theorem dX12_litBeside_49 : decode cX12_litBeside 49 = .ok (.aload_n 0, 1) := dk_o42 (by decide +kernel)
theorem dX12_litBeside_50 : decode cX12_litBeside 50 = .ok (.getfield 213, 3) := dk_o180 (by decide +kernel)
theorem dX12_litBeside_53 : decode cX12_litBeside 53 = .ok (.iload 5, 2) := dk_o21 (by decide +kernel)
theorem dX12_litBeside_55 : decode cX12_litBeside 55 = .ok (.iaload, 1) := dk_o46 (by decide +kernel)
theorem dX12_litBeside_56 : decode cX12_litBeside 56 = .ok (.istore_n 3, 1) := dk_o62 (by decide +kernel)
theorem dX12_litBeside_57 : decode cX12_litBeside 57 = .ok (.iinc 4 1, 3) := dk_o132 (by decide +kernel)
theorem dX12_litBeside_60 : decode cX12_litBeside 60 = .ok (.goto (-53), 3) := dk_o167 (by decide +kernel)
theorem dX12_litBeside_63 : decode cX12_litBeside 63 = .ok (.iload_n 3, 1) := dk_o29 (by decide +kernel)
theorem dX12_litBeside_64 : decode cX12_litBeside 64 = .ok (.ireturn, 1) := dk_o172 (by decide +kernel)
theorem dX12_lays_0 : decode cX12_lays 0 = .ok (.aload_n 0, 1) := dk_o42 (by decide +kernel)
theorem dX12_lays_1 : decode cX12_lays 1 = .ok (.getfield 210, 3) := dk_o180 (by decide +kernel)
theorem dX12_lays_4 : decode cX12_lays 4 = .ok (.iconst 1, 1) := dk_o4 (by decide +kernel)
theorem dX12_lays_5 : decode cX12_lays 5 = .ok (.aload_n 0, 1) := dk_o42 (by decide +kernel)
theorem dX12_lays_6 : decode cX12_lays 6 = .ok (.getfield 168, 3) := dk_o180 (by decide +kernel)
theorem dX12_lays_9 : decode cX12_lays 9 = .ok (.bipush 64, 2) := dk_o16 (by decide +kernel)
theorem dX12_lays_11 : decode cX12_lays 11 = .ok (.iload_n 1, 1) := dk_o27 (by decide +kernel)
theorem dX12_lays_12 : decode cX12_lays 12 = .ok (.imul, 1) := dk_o104 (by decide +kernel)
theorem dX12_lays_13 : decode cX12_lays 13 = .ok (.iload_n 2, 1) := dk_o28 (by decide +kernel)
theorem dX12_lays_14 : decode cX12_lays 14 = .ok (.iadd, 1) := dk_o96 (by decide +kernel)
theorem dX12_lays_15 : decode cX12_lays 15 = .ok (.iaload, 1) := dk_o46 (by decide +kernel)
theorem dX12_lays_16 : decode cX12_lays 16 = .ok (.iastore, 1) := dk_o79 (by decide +kernel)
theorem dX12_lays_17 : decode cX12_lays 17 = .ok (.aload_n 0, 1) := dk_o42 (by decide +kernel)
theorem dX12_lays_18 : decode cX12_lays 18 = .ok (.getfield 210, 3) := dk_o180 (by decide +kernel)
theorem dX12_lays_21 : decode cX12_lays 21 = .ok (.iconst 2, 1) := dk_o5 (by decide +kernel)
theorem dX12_lays_22 : decode cX12_lays 22 = .ok (.iload_n 2, 1) := dk_o28 (by decide +kernel)
theorem dX12_lays_23 : decode cX12_lays 23 = .ok (.bipush 8, 2) := dk_o16 (by decide +kernel)
theorem dX12_lays_25 : decode cX12_lays 25 = .ok (.idiv, 1) := dk_o108 (by decide +kernel)
theorem dX12_lays_26 : decode cX12_lays 26 = .ok (.iastore, 1) := dk_o79 (by decide +kernel)
theorem dX12_lays_27 : decode cX12_lays 27 = .ok (.aload_n 0, 1) := dk_o42 (by decide +kernel)
theorem dX12_lays_28 : decode cX12_lays 28 = .ok (.getfield 210, 3) := dk_o180 (by decide +kernel)
theorem dX12_lays_31 : decode cX12_lays 31 = .ok (.iconst 3, 1) := dk_o6 (by decide +kernel)
theorem dX12_lays_32 : decode cX12_lays 32 = .ok (.aload_n 0, 1) := dk_o42 (by decide +kernel)
theorem dX12_lays_33 : decode cX12_lays 33 = .ok (.getfield 162, 3) := dk_o180 (by decide +kernel)
theorem dX12_lays_36 : decode cX12_lays 36 = .ok (.iload_n 1, 1) := dk_o27 (by decide +kernel)
theorem dX12_lays_37 : decode cX12_lays 37 = .ok (.iaload, 1) := dk_o46 (by decide +kernel)
theorem dX12_lays_38 : decode cX12_lays 38 = .ok (.iastore, 1) := dk_o79 (by decide +kernel)
theorem dX12_lays_39 : decode cX12_lays 39 = .ok (.aload_n 0, 1) := dk_o42 (by decide +kernel)
theorem dX12_lays_40 : decode cX12_lays 40 = .ok (.getfield 210, 3) := dk_o180 (by decide +kernel)
theorem dX12_lays_43 : decode cX12_lays 43 = .ok (.iconst 4, 1) := dk_o7 (by decide +kernel)
theorem dX12_lays_44 : decode cX12_lays 44 = .ok (.aload_n 0, 1) := dk_o42 (by decide +kernel)
theorem dX12_lays_45 : decode cX12_lays 45 = .ok (.iload_n 1, 1) := dk_o27 (by decide +kernel)
theorem dX12_lays_46 : decode cX12_lays 46 = .ok (.iload_n 2, 1) := dk_o28 (by decide +kernel)
theorem dX12_lays_47 : decode cX12_lays 47 = .ok (.invokevirtual 466, 3) := dk_o182 (by decide +kernel)
theorem dX12_lays_50 : decode cX12_lays 50 = .ok (.iastore, 1) := dk_o79 (by decide +kernel)
theorem dX12_lays_51 : decode cX12_lays 51 = .ok (.aload_n 0, 1) := dk_o42 (by decide +kernel)
theorem dX12_lays_52 : decode cX12_lays 52 = .ok (.getfield 210, 3) := dk_o180 (by decide +kernel)
theorem dX12_lays_55 : decode cX12_lays 55 = .ok (.iconst 5, 1) := dk_o8 (by decide +kernel)
theorem dX12_lays_56 : decode cX12_lays 56 = .ok (.aload_n 0, 1) := dk_o42 (by decide +kernel)
theorem dX12_lays_57 : decode cX12_lays 57 = .ok (.iload_n 1, 1) := dk_o27 (by decide +kernel)
theorem dX12_lays_58 : decode cX12_lays 58 = .ok (.iload_n 2, 1) := dk_o28 (by decide +kernel)
theorem dX12_lays_59 : decode cX12_lays 59 = .ok (.invokevirtual 469, 3) := dk_o182 (by decide +kernel)
theorem dX12_lays_62 : decode cX12_lays 62 = .ok (.iastore, 1) := dk_o79 (by decide +kernel)
theorem dX12_lays_63 : decode cX12_lays 63 = .ok (.aload_n 0, 1) := dk_o42 (by decide +kernel)
theorem dX12_lays_64 : decode cX12_lays 64 = .ok (.getfield 210, 3) := dk_o180 (by decide +kernel)
theorem dX12_lays_67 : decode cX12_lays 67 = .ok (.bipush 6, 2) := dk_o16 (by decide +kernel)
theorem dX12_lays_69 : decode cX12_lays 69 = .ok (.aload_n 0, 1) := dk_o42 (by decide +kernel)
theorem dX12_lays_70 : decode cX12_lays 70 = .ok (.iload_n 1, 1) := dk_o27 (by decide +kernel)
theorem dX12_lays_71 : decode cX12_lays 71 = .ok (.iload_n 2, 1) := dk_o28 (by decide +kernel)
theorem dX12_lays_72 : decode cX12_lays 72 = .ok (.invokevirtual 466, 3) := dk_o182 (by decide +kernel)
theorem dX12_lays_75 : decode cX12_lays 75 = .ok (.ldc_w 456, 3) := dk_o19 (by decide +kernel)
theorem dX12_lays_78 : decode cX12_lays 78 = .ok (.if_icmp .ge 7, 3) := dk_o162 (by decide +kernel)
theorem dX12_lays_81 : decode cX12_lays 81 = .ok (.iconst 1, 1) := dk_o4 (by decide +kernel)
theorem dX12_lays_82 : decode cX12_lays 82 = .ok (.goto 4, 3) := dk_o167 (by decide +kernel)
theorem dX12_lays_85 : decode cX12_lays 85 = .ok (.iconst 0, 1) := dk_o3 (by decide +kernel)
theorem dX12_lays_86 : decode cX12_lays 86 = .ok (.iastore, 1) := dk_o79 (by decide +kernel)
theorem dX12_lays_87 : decode cX12_lays 87 = .ok (.return_, 1) := dk_o177 (by decide +kernel)
theorem dX12_canDig_0 : decode cX12_canDig 0 = .ok (.aload_n 0, 1) := dk_o42 (by decide +kernel)
theorem dX12_canDig_1 : decode cX12_canDig 1 = .ok (.iload_n 1, 1) := dk_o27 (by decide +kernel)
theorem dX12_canDig_2 : decode cX12_canDig 2 = .ok (.iload_n 2, 1) := dk_o28 (by decide +kernel)
theorem dX12_canDig_3 : decode cX12_canDig 3 = .ok (.invokevirtual 460, 3) := dk_o182 (by decide +kernel)
theorem dX12_canDig_6 : decode cX12_canDig 6 = .ok (.ifCond .ne 16, 3) := dk_o154 (by decide +kernel)
theorem dX12_canDig_9 : decode cX12_canDig 9 = .ok (.aload_n 0, 1) := dk_o42 (by decide +kernel)
theorem dX12_canDig_10 : decode cX12_canDig 10 = .ok (.iload_n 1, 1) := dk_o27 (by decide +kernel)
theorem dX12_canDig_11 : decode cX12_canDig 11 = .ok (.iload_n 2, 1) := dk_o28 (by decide +kernel)
theorem dX12_canDig_12 : decode cX12_canDig 12 = .ok (.invokevirtual 469, 3) := dk_o182 (by decide +kernel)
theorem dX12_canDig_15 : decode cX12_canDig 15 = .ok (.ifCond .le 7, 3) := dk_o158 (by decide +kernel)
theorem dX12_canDig_18 : decode cX12_canDig 18 = .ok (.iconst 1, 1) := dk_o4 (by decide +kernel)
theorem dX12_canDig_19 : decode cX12_canDig 19 = .ok (.goto 4, 3) := dk_o167 (by decide +kernel)
theorem dX12_canDig_22 : decode cX12_canDig 22 = .ok (.iconst 0, 1) := dk_o3 (by decide +kernel)
theorem dX12_canDig_23 : decode cX12_canDig 23 = .ok (.ireturn, 1) := dk_o172 (by decide +kernel)
theorem dX12_writesDown_0 : decode cX12_writesDown 0 = .ok (.aload_n 0, 1) := dk_o42 (by decide +kernel)
theorem dX12_writesDown_1 : decode cX12_writesDown 1 = .ok (.getfield 189, 3) := dk_o180 (by decide +kernel)
theorem dX12_writesDown_4 : decode cX12_writesDown 4 = .ok (.iload_n 1, 1) := dk_o27 (by decide +kernel)
theorem dX12_writesDown_5 : decode cX12_writesDown 5 = .ok (.iaload, 1) := dk_o46 (by decide +kernel)
theorem dX12_writesDown_6 : decode cX12_writesDown 6 = .ok (.bipush 40, 2) := dk_o16 (by decide +kernel)
theorem dX12_writesDown_8 : decode cX12_writesDown 8 = .ok (.if_icmp .ne 58, 3) := dk_o160 (by decide +kernel)
theorem dX12_writesDown_11 : decode cX12_writesDown 11 = .ok (.sipush 160, 3) := dk_o17 (by decide +kernel)
theorem dX12_writesDown_14 : decode cX12_writesDown 14 = .ok (.iload_n 1, 1) := dk_o27 (by decide +kernel)
theorem dX12_writesDown_15 : decode cX12_writesDown 15 = .ok (.imul, 1) := dk_o104 (by decide +kernel)
theorem dX12_writesDown_16 : decode cX12_writesDown 16 = .ok (.istore 5, 2) := dk_o54 (by decide +kernel)
theorem dX12_writesDown_18 : decode cX12_writesDown 18 = .ok (.iload 5, 2) := dk_o21 (by decide +kernel)
theorem dX12_writesDown_20 : decode cX12_writesDown 20 = .ok (.sipush 160, 3) := dk_o17 (by decide +kernel)
theorem dX12_writesDown_23 : decode cX12_writesDown 23 = .ok (.iload_n 1, 1) := dk_o27 (by decide +kernel)
theorem dX12_writesDown_24 : decode cX12_writesDown 24 = .ok (.imul, 1) := dk_o104 (by decide +kernel)
theorem dX12_writesDown_25 : decode cX12_writesDown 25 = .ok (.sipush 160, 3) := dk_o17 (by decide +kernel)
theorem dX12_writesDown_28 : decode cX12_writesDown 28 = .ok (.iadd, 1) := dk_o96 (by decide +kernel)
theorem dX12_writesDown_29 : decode cX12_writesDown 29 = .ok (.iconst 4, 1) := dk_o7 (by decide +kernel)
theorem dX12_writesDown_30 : decode cX12_writesDown 30 = .ok (.isub, 1) := dk_o100 (by decide +kernel)
theorem dX12_writesDown_31 : decode cX12_writesDown 31 = .ok (.if_icmp .ge 25, 3) := dk_o162 (by decide +kernel)
theorem dX12_writesDown_34 : decode cX12_writesDown 34 = .ok (.aload_n 0, 1) := dk_o42 (by decide +kernel)
theorem dX12_writesDown_35 : decode cX12_writesDown 35 = .ok (.getfield 192, 3) := dk_o180 (by decide +kernel)
theorem dX12_writesDown_38 : decode cX12_writesDown 38 = .ok (.iload 5, 2) := dk_o21 (by decide +kernel)
theorem dX12_writesDown_40 : decode cX12_writesDown 40 = .ok (.aload_n 0, 1) := dk_o42 (by decide +kernel)
theorem dX12_writesDown_41 : decode cX12_writesDown 41 = .ok (.getfield 192, 3) := dk_o180 (by decide +kernel)
theorem dX12_writesDown_44 : decode cX12_writesDown 44 = .ok (.iload 5, 2) := dk_o21 (by decide +kernel)
theorem dX12_writesDown_46 : decode cX12_writesDown 46 = .ok (.iconst 4, 1) := dk_o7 (by decide +kernel)
theorem dX12_writesDown_47 : decode cX12_writesDown 47 = .ok (.iadd, 1) := dk_o96 (by decide +kernel)
theorem dX12_writesDown_48 : decode cX12_writesDown 48 = .ok (.iaload, 1) := dk_o46 (by decide +kernel)
theorem dX12_writesDown_49 : decode cX12_writesDown 49 = .ok (.iastore, 1) := dk_o79 (by decide +kernel)
theorem dX12_writesDown_50 : decode cX12_writesDown 50 = .ok (.iinc 5 1, 3) := dk_o132 (by decide +kernel)
theorem dX12_writesDown_53 : decode cX12_writesDown 53 = .ok (.goto (-35), 3) := dk_o167 (by decide +kernel)
theorem dX12_writesDown_56 : decode cX12_writesDown 56 = .ok (.aload_n 0, 1) := dk_o42 (by decide +kernel)
theorem dX12_writesDown_57 : decode cX12_writesDown 57 = .ok (.getfield 189, 3) := dk_o180 (by decide +kernel)
theorem dX12_writesDown_60 : decode cX12_writesDown 60 = .ok (.iload_n 1, 1) := dk_o27 (by decide +kernel)
theorem dX12_writesDown_61 : decode cX12_writesDown 61 = .ok (.dup2, 1) := dk_o92 (by decide +kernel)
theorem dX12_writesDown_62 : decode cX12_writesDown 62 = .ok (.iaload, 1) := dk_o46 (by decide +kernel)
theorem dX12_writesDown_63 : decode cX12_writesDown 63 = .ok (.iconst 1, 1) := dk_o4 (by decide +kernel)
theorem dX12_writesDown_64 : decode cX12_writesDown 64 = .ok (.isub, 1) := dk_o100 (by decide +kernel)
theorem dX12_writesDown_65 : decode cX12_writesDown 65 = .ok (.iastore, 1) := dk_o79 (by decide +kernel)
theorem dX12_writesDown_66 : decode cX12_writesDown 66 = .ok (.iconst 4, 1) := dk_o7 (by decide +kernel)
theorem dX12_writesDown_67 : decode cX12_writesDown 67 = .ok (.bipush 40, 2) := dk_o16 (by decide +kernel)
theorem dX12_writesDown_69 : decode cX12_writesDown 69 = .ok (.iload_n 1, 1) := dk_o27 (by decide +kernel)
theorem dX12_writesDown_70 : decode cX12_writesDown 70 = .ok (.imul, 1) := dk_o104 (by decide +kernel)
theorem dX12_writesDown_71 : decode cX12_writesDown 71 = .ok (.aload_n 0, 1) := dk_o42 (by decide +kernel)
theorem dX12_writesDown_72 : decode cX12_writesDown 72 = .ok (.getfield 189, 3) := dk_o180 (by decide +kernel)
theorem dX12_writesDown_75 : decode cX12_writesDown 75 = .ok (.iload_n 1, 1) := dk_o27 (by decide +kernel)
theorem dX12_writesDown_76 : decode cX12_writesDown 76 = .ok (.iaload, 1) := dk_o46 (by decide +kernel)
theorem dX12_writesDown_77 : decode cX12_writesDown 77 = .ok (.iadd, 1) := dk_o96 (by decide +kernel)
theorem dX12_writesDown_78 : decode cX12_writesDown 78 = .ok (.imul, 1) := dk_o104 (by decide +kernel)
theorem dX12_writesDown_79 : decode cX12_writesDown 79 = .ok (.istore 5, 2) := dk_o54 (by decide +kernel)
theorem dX12_writesDown_81 : decode cX12_writesDown 81 = .ok (.aload_n 0, 1) := dk_o42 (by decide +kernel)
theorem dX12_writesDown_82 : decode cX12_writesDown 82 = .ok (.getfield 192, 3) := dk_o180 (by decide +kernel)
theorem dX12_writesDown_85 : decode cX12_writesDown 85 = .ok (.iload 5, 2) := dk_o21 (by decide +kernel)
theorem dX12_writesDown_87 : decode cX12_writesDown 87 = .ok (.aload_n 0, 1) := dk_o42 (by decide +kernel)
theorem dX12_writesDown_88 : decode cX12_writesDown 88 = .ok (.getfield 162, 3) := dk_o180 (by decide +kernel)
theorem dX12_writesDown_91 : decode cX12_writesDown 91 = .ok (.iload_n 1, 1) := dk_o27 (by decide +kernel)
theorem dX12_writesDown_92 : decode cX12_writesDown 92 = .ok (.iaload, 1) := dk_o46 (by decide +kernel)
theorem dX12_writesDown_93 : decode cX12_writesDown 93 = .ok (.iastore, 1) := dk_o79 (by decide +kernel)
theorem dX12_writesDown_94 : decode cX12_writesDown 94 = .ok (.aload_n 0, 1) := dk_o42 (by decide +kernel)
theorem dX12_writesDown_95 : decode cX12_writesDown 95 = .ok (.getfield 192, 3) := dk_o180 (by decide +kernel)
theorem dX12_writesDown_98 : decode cX12_writesDown 98 = .ok (.iload 5, 2) := dk_o21 (by decide +kernel)
theorem dX12_writesDown_100 : decode cX12_writesDown 100 = .ok (.iconst 1, 1) := dk_o4 (by decide +kernel)
theorem dX12_writesDown_101 : decode cX12_writesDown 101 = .ok (.iadd, 1) := dk_o96 (by decide +kernel)
theorem dX12_writesDown_102 : decode cX12_writesDown 102 = .ok (.iload_n 2, 1) := dk_o28 (by decide +kernel)
theorem dX12_writesDown_103 : decode cX12_writesDown 103 = .ok (.iastore, 1) := dk_o79 (by decide +kernel)
theorem dX12_writesDown_104 : decode cX12_writesDown 104 = .ok (.aload_n 0, 1) := dk_o42 (by decide +kernel)
theorem dX12_writesDown_105 : decode cX12_writesDown 105 = .ok (.getfield 192, 3) := dk_o180 (by decide +kernel)
theorem dX12_writesDown_108 : decode cX12_writesDown 108 = .ok (.iload 5, 2) := dk_o21 (by decide +kernel)
theorem dX12_writesDown_110 : decode cX12_writesDown 110 = .ok (.iconst 2, 1) := dk_o5 (by decide +kernel)
theorem dX12_writesDown_111 : decode cX12_writesDown 111 = .ok (.iadd, 1) := dk_o96 (by decide +kernel)
theorem dX12_writesDown_112 : decode cX12_writesDown 112 = .ok (.iload_n 3, 1) := dk_o29 (by decide +kernel)
theorem dX12_writesDown_113 : decode cX12_writesDown 113 = .ok (.iastore, 1) := dk_o79 (by decide +kernel)
theorem dX12_writesDown_114 : decode cX12_writesDown 114 = .ok (.aload_n 0, 1) := dk_o42 (by decide +kernel)
theorem dX12_writesDown_115 : decode cX12_writesDown 115 = .ok (.getfield 192, 3) := dk_o180 (by decide +kernel)
theorem dX12_writesDown_118 : decode cX12_writesDown 118 = .ok (.iload 5, 2) := dk_o21 (by decide +kernel)
theorem dX12_writesDown_120 : decode cX12_writesDown 120 = .ok (.iconst 3, 1) := dk_o6 (by decide +kernel)
theorem dX12_writesDown_121 : decode cX12_writesDown 121 = .ok (.iadd, 1) := dk_o96 (by decide +kernel)
theorem dX12_writesDown_122 : decode cX12_writesDown 122 = .ok (.iload 4, 2) := dk_o21 (by decide +kernel)
theorem dX12_writesDown_124 : decode cX12_writesDown 124 = .ok (.iastore, 1) := dk_o79 (by decide +kernel)
theorem dX12_writesDown_125 : decode cX12_writesDown 125 = .ok (.aload_n 0, 1) := dk_o42 (by decide +kernel)
theorem dX12_writesDown_126 : decode cX12_writesDown 126 = .ok (.getfield 189, 3) := dk_o180 (by decide +kernel)
theorem dX12_writesDown_129 : decode cX12_writesDown 129 = .ok (.iload_n 1, 1) := dk_o27 (by decide +kernel)
theorem dX12_writesDown_130 : decode cX12_writesDown 130 = .ok (.dup2, 1) := dk_o92 (by decide +kernel)
theorem dX12_writesDown_131 : decode cX12_writesDown 131 = .ok (.iaload, 1) := dk_o46 (by decide +kernel)
theorem dX12_writesDown_132 : decode cX12_writesDown 132 = .ok (.iconst 1, 1) := dk_o4 (by decide +kernel)
theorem dX12_writesDown_133 : decode cX12_writesDown 133 = .ok (.iadd, 1) := dk_o96 (by decide +kernel)
theorem dX12_writesDown_134 : decode cX12_writesDown 134 = .ok (.iastore, 1) := dk_o79 (by decide +kernel)
theorem dX12_writesDown_135 : decode cX12_writesDown 135 = .ok (.return_, 1) := dk_o177 (by decide +kernel)
theorem dX12_isMiner_0 : decode cX12_isMiner 0 = .ok (.iload_n 1, 1) := dk_o27 (by decide +kernel)
theorem dX12_isMiner_1 : decode cX12_isMiner 1 = .ok (.ifCond .lt 20, 3) := dk_o155 (by decide +kernel)
theorem dX12_isMiner_4 : decode cX12_isMiner 4 = .ok (.iload_n 1, 1) := dk_o27 (by decide +kernel)
theorem dX12_isMiner_5 : decode cX12_isMiner 5 = .ok (.aload_n 0, 1) := dk_o42 (by decide +kernel)
theorem dX12_isMiner_6 : decode cX12_isMiner 6 = .ok (.getfield 72, 3) := dk_o180 (by decide +kernel)
theorem dX12_isMiner_9 : decode cX12_isMiner 9 = .ok (.aload_n 0, 1) := dk_o42 (by decide +kernel)
theorem dX12_isMiner_10 : decode cX12_isMiner 10 = .ok (.getfield 51, 3) := dk_o180 (by decide +kernel)
theorem dX12_isMiner_13 : decode cX12_isMiner 13 = .ok (.iaload, 1) := dk_o46 (by decide +kernel)
theorem dX12_isMiner_14 : decode cX12_isMiner 14 = .ok (.if_icmp .ge 7, 3) := dk_o162 (by decide +kernel)
theorem dX12_isMiner_17 : decode cX12_isMiner 17 = .ok (.iconst 1, 1) := dk_o4 (by decide +kernel)
theorem dX12_isMiner_18 : decode cX12_isMiner 18 = .ok (.goto 4, 3) := dk_o167 (by decide +kernel)
theorem dX12_isMiner_21 : decode cX12_isMiner 21 = .ok (.iconst 0, 1) := dk_o3 (by decide +kernel)
theorem dX12_isMiner_22 : decode cX12_isMiner 22 = .ok (.ireturn, 1) := dk_o172 (by decide +kernel)
theorem dX12_isOrder_0 : decode cX12_isOrder 0 = .ok (.iload_n 1, 1) := dk_o27 (by decide +kernel)
theorem dX12_isOrder_1 : decode cX12_isOrder 1 = .ok (.ifCond .lt 20, 3) := dk_o155 (by decide +kernel)
theorem dX12_isOrder_4 : decode cX12_isOrder 4 = .ok (.iload_n 1, 1) := dk_o27 (by decide +kernel)
theorem dX12_isOrder_5 : decode cX12_isOrder 5 = .ok (.aload_n 0, 1) := dk_o42 (by decide +kernel)
theorem dX12_isOrder_6 : decode cX12_isOrder 6 = .ok (.getfield 84, 3) := dk_o180 (by decide +kernel)
theorem dX12_isOrder_9 : decode cX12_isOrder 9 = .ok (.aload_n 0, 1) := dk_o42 (by decide +kernel)
theorem dX12_isOrder_10 : decode cX12_isOrder 10 = .ok (.getfield 51, 3) := dk_o180 (by decide +kernel)
theorem dX12_isOrder_13 : decode cX12_isOrder 13 = .ok (.iaload, 1) := dk_o46 (by decide +kernel)
theorem dX12_isOrder_14 : decode cX12_isOrder 14 = .ok (.if_icmp .ge 7, 3) := dk_o162 (by decide +kernel)
theorem dX12_isOrder_17 : decode cX12_isOrder 17 = .ok (.iconst 1, 1) := dk_o4 (by decide +kernel)
theorem dX12_isOrder_18 : decode cX12_isOrder 18 = .ok (.goto 4, 3) := dk_o167 (by decide +kernel)
theorem dX12_isOrder_21 : decode cX12_isOrder 21 = .ok (.iconst 0, 1) := dk_o3 (by decide +kernel)
theorem dX12_isOrder_22 : decode cX12_isOrder 22 = .ok (.ireturn, 1) := dk_o172 (by decide +kernel)
theorem dX12_tubGrades_0 : decode cX12_tubGrades 0 = .ok (.iconst 0, 1) := dk_o3 (by decide +kernel)
theorem dX12_tubGrades_1 : decode cX12_tubGrades 1 = .ok (.istore_n 2, 1) := dk_o61 (by decide +kernel)
theorem dX12_tubGrades_2 : decode cX12_tubGrades 2 = .ok (.iconst 0, 1) := dk_o3 (by decide +kernel)
theorem dX12_tubGrades_3 : decode cX12_tubGrades 3 = .ok (.istore_n 3, 1) := dk_o62 (by decide +kernel)
theorem dX12_tubGrades_4 : decode cX12_tubGrades 4 = .ok (.iload_n 3, 1) := dk_o29 (by decide +kernel)
theorem dX12_tubGrades_5 : decode cX12_tubGrades 5 = .ok (.bipush 10, 2) := dk_o16 (by decide +kernel)
theorem dX12_tubGrades_7 : decode cX12_tubGrades 7 = .ok (.if_icmp .ge 25, 3) := dk_o162 (by decide +kernel)
theorem dX12_tubGrades_10 : decode cX12_tubGrades 10 = .ok (.iload_n 2, 1) := dk_o28 (by decide +kernel)
theorem dX12_tubGrades_11 : decode cX12_tubGrades 11 = .ok (.iload_n 3, 1) := dk_o29 (by decide +kernel)
theorem dX12_tubGrades_12 : decode cX12_tubGrades 12 = .ok (.aload_n 0, 1) := dk_o42 (by decide +kernel)
theorem dX12_tubGrades_13 : decode cX12_tubGrades 13 = .ok (.getfield 186, 3) := dk_o180 (by decide +kernel)
theorem dX12_tubGrades_16 : decode cX12_tubGrades 16 = .ok (.bipush 10, 2) := dk_o16 (by decide +kernel)
theorem dX12_tubGrades_18 : decode cX12_tubGrades 18 = .ok (.iload_n 1, 1) := dk_o27 (by decide +kernel)
theorem dX12_tubGrades_19 : decode cX12_tubGrades 19 = .ok (.imul, 1) := dk_o104 (by decide +kernel)
theorem dX12_tubGrades_20 : decode cX12_tubGrades 20 = .ok (.iload_n 3, 1) := dk_o29 (by decide +kernel)
theorem dX12_tubGrades_21 : decode cX12_tubGrades 21 = .ok (.iadd, 1) := dk_o96 (by decide +kernel)
theorem dX12_tubGrades_22 : decode cX12_tubGrades 22 = .ok (.iaload, 1) := dk_o46 (by decide +kernel)
theorem dX12_tubGrades_23 : decode cX12_tubGrades 23 = .ok (.imul, 1) := dk_o104 (by decide +kernel)
theorem dX12_tubGrades_24 : decode cX12_tubGrades 24 = .ok (.iadd, 1) := dk_o96 (by decide +kernel)
theorem dX12_tubGrades_25 : decode cX12_tubGrades 25 = .ok (.istore_n 2, 1) := dk_o61 (by decide +kernel)
theorem dX12_tubGrades_26 : decode cX12_tubGrades 26 = .ok (.iinc 3 1, 3) := dk_o132 (by decide +kernel)
theorem dX12_tubGrades_29 : decode cX12_tubGrades 29 = .ok (.goto (-25), 3) := dk_o167 (by decide +kernel)
theorem dX12_tubGrades_32 : decode cX12_tubGrades 32 = .ok (.iload_n 2, 1) := dk_o28 (by decide +kernel)
theorem dX12_tubGrades_33 : decode cX12_tubGrades 33 = .ok (.ireturn, 1) := dk_o172 (by decide +kernel)
theorem dX12_worthOf_0 : decode cX12_worthOf 0 = .ok (.aload_n 0, 1) := dk_o42 (by decide +kernel)
theorem dX12_worthOf_1 : decode cX12_worthOf 1 = .ok (.iload_n 1, 1) := dk_o27 (by decide +kernel)
theorem dX12_worthOf_2 : decode cX12_worthOf 2 = .ok (.invokevirtual 512, 3) := dk_o182 (by decide +kernel)
theorem dX12_worthOf_5 : decode cX12_worthOf 5 = .ok (.istore_n 2, 1) := dk_o61 (by decide +kernel)
theorem dX12_worthOf_6 : decode cX12_worthOf 6 = .ok (.iconst 0, 1) := dk_o3 (by decide +kernel)
theorem dX12_worthOf_7 : decode cX12_worthOf 7 = .ok (.istore_n 3, 1) := dk_o62 (by decide +kernel)
theorem dX12_worthOf_8 : decode cX12_worthOf 8 = .ok (.iload_n 3, 1) := dk_o29 (by decide +kernel)
theorem dX12_worthOf_9 : decode cX12_worthOf 9 = .ok (.bipush 64, 2) := dk_o16 (by decide +kernel)
theorem dX12_worthOf_11 : decode cX12_worthOf 11 = .ok (.if_icmp .ge 44, 3) := dk_o162 (by decide +kernel)
theorem dX12_worthOf_14 : decode cX12_worthOf 14 = .ok (.iload_n 2, 1) := dk_o28 (by decide +kernel)
theorem dX12_worthOf_15 : decode cX12_worthOf 15 = .ok (.aload_n 0, 1) := dk_o42 (by decide +kernel)
theorem dX12_worthOf_16 : decode cX12_worthOf 16 = .ok (.iload_n 3, 1) := dk_o29 (by decide +kernel)
theorem dX12_worthOf_17 : decode cX12_worthOf 17 = .ok (.invokevirtual 503, 3) := dk_o182 (by decide +kernel)
theorem dX12_worthOf_20 : decode cX12_worthOf 20 = .ok (.ifCond .eq 26, 3) := dk_o153 (by decide +kernel)
theorem dX12_worthOf_23 : decode cX12_worthOf 23 = .ok (.aload_n 0, 1) := dk_o42 (by decide +kernel)
theorem dX12_worthOf_24 : decode cX12_worthOf 24 = .ok (.iload_n 1, 1) := dk_o27 (by decide +kernel)
theorem dX12_worthOf_25 : decode cX12_worthOf 25 = .ok (.iload_n 3, 1) := dk_o29 (by decide +kernel)
theorem dX12_worthOf_26 : decode cX12_worthOf 26 = .ok (.invokevirtual 460, 3) := dk_o182 (by decide +kernel)
theorem dX12_worthOf_29 : decode cX12_worthOf 29 = .ok (.ifCond .ne 17, 3) := dk_o154 (by decide +kernel)
theorem dX12_worthOf_32 : decode cX12_worthOf 32 = .ok (.aload_n 0, 1) := dk_o42 (by decide +kernel)
theorem dX12_worthOf_33 : decode cX12_worthOf 33 = .ok (.getfield 168, 3) := dk_o180 (by decide +kernel)
theorem dX12_worthOf_36 : decode cX12_worthOf 36 = .ok (.bipush 64, 2) := dk_o16 (by decide +kernel)
theorem dX12_worthOf_38 : decode cX12_worthOf 38 = .ok (.iload_n 1, 1) := dk_o27 (by decide +kernel)
theorem dX12_worthOf_39 : decode cX12_worthOf 39 = .ok (.imul, 1) := dk_o104 (by decide +kernel)
theorem dX12_worthOf_40 : decode cX12_worthOf 40 = .ok (.iload_n 3, 1) := dk_o29 (by decide +kernel)
theorem dX12_worthOf_41 : decode cX12_worthOf 41 = .ok (.iadd, 1) := dk_o96 (by decide +kernel)
theorem dX12_worthOf_42 : decode cX12_worthOf 42 = .ok (.iaload, 1) := dk_o46 (by decide +kernel)
theorem dX12_worthOf_43 : decode cX12_worthOf 43 = .ok (.goto 4, 3) := dk_o167 (by decide +kernel)
theorem dX12_worthOf_46 : decode cX12_worthOf 46 = .ok (.iconst 0, 1) := dk_o3 (by decide +kernel)
theorem dX12_worthOf_47 : decode cX12_worthOf 47 = .ok (.iadd, 1) := dk_o96 (by decide +kernel)
theorem dX12_worthOf_48 : decode cX12_worthOf 48 = .ok (.istore_n 2, 1) := dk_o61 (by decide +kernel)
theorem dX12_worthOf_49 : decode cX12_worthOf 49 = .ok (.iinc 3 1, 3) := dk_o132 (by decide +kernel)
theorem dX12_worthOf_52 : decode cX12_worthOf 52 = .ok (.goto (-44), 3) := dk_o167 (by decide +kernel)
theorem dX12_worthOf_55 : decode cX12_worthOf 55 = .ok (.iload_n 2, 1) := dk_o28 (by decide +kernel)
theorem dX12_worthOf_56 : decode cX12_worthOf 56 = .ok (.ireturn, 1) := dk_o172 (by decide +kernel)
theorem dX12_tubsFrom_0 : decode cX12_tubsFrom 0 = .ok (.iconst 0, 1) := dk_o3 (by decide +kernel)
theorem dX12_tubsFrom_1 : decode cX12_tubsFrom 1 = .ok (.istore_n 3, 1) := dk_o62 (by decide +kernel)
theorem dX12_tubsFrom_2 : decode cX12_tubsFrom 2 = .ok (.iload_n 2, 1) := dk_o28 (by decide +kernel)
theorem dX12_tubsFrom_3 : decode cX12_tubsFrom 3 = .ok (.istore 4, 2) := dk_o54 (by decide +kernel)
theorem dX12_tubsFrom_5 : decode cX12_tubsFrom 5 = .ok (.iload 4, 2) := dk_o21 (by decide +kernel)
theorem dX12_tubsFrom_7 : decode cX12_tubsFrom 7 = .ok (.bipush 10, 2) := dk_o16 (by decide +kernel)
theorem dX12_tubsFrom_9 : decode cX12_tubsFrom 9 = .ok (.if_icmp .ge 24, 3) := dk_o162 (by decide +kernel)
theorem dX12_tubsFrom_12 : decode cX12_tubsFrom 12 = .ok (.iload_n 3, 1) := dk_o29 (by decide +kernel)
theorem dX12_tubsFrom_13 : decode cX12_tubsFrom 13 = .ok (.aload_n 0, 1) := dk_o42 (by decide +kernel)
theorem dX12_tubsFrom_14 : decode cX12_tubsFrom 14 = .ok (.getfield 186, 3) := dk_o180 (by decide +kernel)
theorem dX12_tubsFrom_17 : decode cX12_tubsFrom 17 = .ok (.bipush 10, 2) := dk_o16 (by decide +kernel)
theorem dX12_tubsFrom_19 : decode cX12_tubsFrom 19 = .ok (.iload_n 1, 1) := dk_o27 (by decide +kernel)
theorem dX12_tubsFrom_20 : decode cX12_tubsFrom 20 = .ok (.imul, 1) := dk_o104 (by decide +kernel)
theorem dX12_tubsFrom_21 : decode cX12_tubsFrom 21 = .ok (.iload 4, 2) := dk_o21 (by decide +kernel)
theorem dX12_tubsFrom_23 : decode cX12_tubsFrom 23 = .ok (.iadd, 1) := dk_o96 (by decide +kernel)
theorem dX12_tubsFrom_24 : decode cX12_tubsFrom 24 = .ok (.iaload, 1) := dk_o46 (by decide +kernel)
theorem dX12_tubsFrom_25 : decode cX12_tubsFrom 25 = .ok (.iadd, 1) := dk_o96 (by decide +kernel)
theorem dX12_tubsFrom_26 : decode cX12_tubsFrom 26 = .ok (.istore_n 3, 1) := dk_o62 (by decide +kernel)
theorem dX12_tubsFrom_27 : decode cX12_tubsFrom 27 = .ok (.iinc 4 1, 3) := dk_o132 (by decide +kernel)
theorem dX12_tubsFrom_30 : decode cX12_tubsFrom 30 = .ok (.goto (-25), 3) := dk_o167 (by decide +kernel)
theorem dX12_tubsFrom_33 : decode cX12_tubsFrom 33 = .ok (.iload_n 3, 1) := dk_o29 (by decide +kernel)
theorem dX12_tubsFrom_34 : decode cX12_tubsFrom 34 = .ok (.ireturn, 1) := dk_o172 (by decide +kernel)
theorem dX12_isAhead_0 : decode cX12_isAhead 0 = .ok (.aload_n 0, 1) := dk_o42 (by decide +kernel)
theorem dX12_isAhead_1 : decode cX12_isAhead 1 = .ok (.getfield 156, 3) := dk_o180 (by decide +kernel)
theorem dX12_isAhead_4 : decode cX12_isAhead 4 = .ok (.ifCond .eq 30, 3) := dk_o153 (by decide +kernel)
theorem dX12_isAhead_7 : decode cX12_isAhead 7 = .ok (.iload_n 1, 1) := dk_o27 (by decide +kernel)
theorem dX12_isAhead_8 : decode cX12_isAhead 8 = .ok (.iload_n 2, 1) := dk_o28 (by decide +kernel)
theorem dX12_isAhead_9 : decode cX12_isAhead 9 = .ok (.iload_n 3, 1) := dk_o29 (by decide +kernel)
theorem dX12_isAhead_10 : decode cX12_isAhead 10 = .ok (.invokestatic 333, 3) := dk_o184 (by decide +kernel)
theorem dX12_isAhead_13 : decode cX12_isAhead 13 = .ok (.ifCond .eq 21, 3) := dk_o153 (by decide +kernel)
theorem dX12_isAhead_16 : decode cX12_isAhead 16 = .ok (.aload_n 0, 1) := dk_o42 (by decide +kernel)
theorem dX12_isAhead_17 : decode cX12_isAhead 17 = .ok (.getfield 162, 3) := dk_o180 (by decide +kernel)
theorem dX12_isAhead_20 : decode cX12_isAhead 20 = .ok (.iconst 0, 1) := dk_o3 (by decide +kernel)
theorem dX12_isAhead_21 : decode cX12_isAhead 21 = .ok (.iaload, 1) := dk_o46 (by decide +kernel)
theorem dX12_isAhead_22 : decode cX12_isAhead 22 = .ok (.sipush 999, 3) := dk_o17 (by decide +kernel)
theorem dX12_isAhead_25 : decode cX12_isAhead 25 = .ok (.iload_n 1, 1) := dk_o27 (by decide +kernel)
theorem dX12_isAhead_26 : decode cX12_isAhead 26 = .ok (.isub, 1) := dk_o100 (by decide +kernel)
theorem dX12_isAhead_27 : decode cX12_isAhead 27 = .ok (.if_icmp .gt 7, 3) := dk_o163 (by decide +kernel)
theorem dX12_isAhead_30 : decode cX12_isAhead 30 = .ok (.iconst 1, 1) := dk_o4 (by decide +kernel)
theorem dX12_isAhead_31 : decode cX12_isAhead 31 = .ok (.goto 4, 3) := dk_o167 (by decide +kernel)
theorem dX12_isAhead_34 : decode cX12_isAhead 34 = .ok (.iconst 0, 1) := dk_o3 (by decide +kernel)
theorem dX12_isAhead_35 : decode cX12_isAhead 35 = .ok (.ireturn, 1) := dk_o172 (by decide +kernel)
theorem dX12_canHang_0 : decode cX12_canHang 0 = .ok (.aload_n 0, 1) := dk_o42 (by decide +kernel)
theorem dX12_canHang_1 : decode cX12_canHang 1 = .ok (.iload_n 1, 1) := dk_o27 (by decide +kernel)
theorem dX12_canHang_2 : decode cX12_canHang 2 = .ok (.invokevirtual 503, 3) := dk_o182 (by decide +kernel)
theorem dX12_canHang_5 : decode cX12_canHang 5 = .ok (.ifCond .eq 29, 3) := dk_o153 (by decide +kernel)
theorem dX12_canHang_8 : decode cX12_canHang 8 = .ok (.aload_n 0, 1) := dk_o42 (by decide +kernel)
theorem dX12_canHang_9 : decode cX12_canHang 9 = .ok (.iconst 0, 1) := dk_o3 (by decide +kernel)
theorem dX12_canHang_10 : decode cX12_canHang 10 = .ok (.iload_n 1, 1) := dk_o27 (by decide +kernel)
theorem dX12_canHang_11 : decode cX12_canHang 11 = .ok (.invokevirtual 460, 3) := dk_o182 (by decide +kernel)
theorem dX12_canHang_14 : decode cX12_canHang 14 = .ok (.ifCond .eq 20, 3) := dk_o153 (by decide +kernel)
theorem dX12_canHang_17 : decode cX12_canHang 17 = .ok (.iload_n 1, 1) := dk_o27 (by decide +kernel)
theorem dX12_canHang_18 : decode cX12_canHang 18 = .ok (.aload_n 0, 1) := dk_o42 (by decide +kernel)
theorem dX12_canHang_19 : decode cX12_canHang 19 = .ok (.getfield 60, 3) := dk_o180 (by decide +kernel)
theorem dX12_canHang_22 : decode cX12_canHang 22 = .ok (.aload_n 0, 1) := dk_o42 (by decide +kernel)
theorem dX12_canHang_23 : decode cX12_canHang 23 = .ok (.getfield 51, 3) := dk_o180 (by decide +kernel)
theorem dX12_canHang_26 : decode cX12_canHang 26 = .ok (.iaload, 1) := dk_o46 (by decide +kernel)
theorem dX12_canHang_27 : decode cX12_canHang 27 = .ok (.if_icmp .eq 7, 3) := dk_o159 (by decide +kernel)
theorem dX12_canHang_30 : decode cX12_canHang 30 = .ok (.iconst 1, 1) := dk_o4 (by decide +kernel)
theorem dX12_canHang_31 : decode cX12_canHang 31 = .ok (.goto 4, 3) := dk_o167 (by decide +kernel)
theorem dX12_canHang_34 : decode cX12_canHang 34 = .ok (.iconst 0, 1) := dk_o3 (by decide +kernel)
theorem dX12_canHang_35 : decode cX12_canHang 35 = .ok (.ireturn, 1) := dk_o172 (by decide +kernel)
theorem dX12_isSolidBy_0 : decode cX12_isSolidBy 0 = .ok (.aload_n 0, 1) := dk_o42 (by decide +kernel)
theorem dX12_isSolidBy_1 : decode cX12_isSolidBy 1 = .ok (.iload_n 1, 1) := dk_o27 (by decide +kernel)
theorem dX12_isSolidBy_2 : decode cX12_isSolidBy 2 = .ok (.iload_n 2, 1) := dk_o28 (by decide +kernel)
theorem dX12_isSolidBy_3 : decode cX12_isSolidBy 3 = .ok (.invokevirtual 460, 3) := dk_o182 (by decide +kernel)
theorem dX12_isSolidBy_6 : decode cX12_isSolidBy 6 = .ok (.ifCond .eq 16, 3) := dk_o153 (by decide +kernel)
theorem dX12_isSolidBy_9 : decode cX12_isSolidBy 9 = .ok (.iload_n 2, 1) := dk_o28 (by decide +kernel)
theorem dX12_isSolidBy_10 : decode cX12_isSolidBy 10 = .ok (.aload_n 0, 1) := dk_o42 (by decide +kernel)
theorem dX12_isSolidBy_11 : decode cX12_isSolidBy 11 = .ok (.getfield 60, 3) := dk_o180 (by decide +kernel)
theorem dX12_isSolidBy_14 : decode cX12_isSolidBy 14 = .ok (.aload_n 0, 1) := dk_o42 (by decide +kernel)
theorem dX12_isSolidBy_15 : decode cX12_isSolidBy 15 = .ok (.getfield 51, 3) := dk_o180 (by decide +kernel)
theorem dX12_isSolidBy_18 : decode cX12_isSolidBy 18 = .ok (.iaload, 1) := dk_o46 (by decide +kernel)
theorem dX12_isSolidBy_19 : decode cX12_isSolidBy 19 = .ok (.if_icmp .ne 5, 3) := dk_o160 (by decide +kernel)
theorem dX12_isSolidBy_22 : decode cX12_isSolidBy 22 = .ok (.iconst 0, 1) := dk_o3 (by decide +kernel)
theorem dX12_isSolidBy_23 : decode cX12_isSolidBy 23 = .ok (.ireturn, 1) := dk_o172 (by decide +kernel)
theorem dX12_isSolidBy_24 : decode cX12_isSolidBy 24 = .ok (.aload_n 0, 1) := dk_o42 (by decide +kernel)
theorem dX12_isSolidBy_25 : decode cX12_isSolidBy 25 = .ok (.getfield 168, 3) := dk_o180 (by decide +kernel)
theorem dX12_isSolidBy_28 : decode cX12_isSolidBy 28 = .ok (.bipush 64, 2) := dk_o16 (by decide +kernel)
theorem dX12_isSolidBy_30 : decode cX12_isSolidBy 30 = .ok (.iload_n 1, 1) := dk_o27 (by decide +kernel)
theorem dX12_isSolidBy_31 : decode cX12_isSolidBy 31 = .ok (.imul, 1) := dk_o104 (by decide +kernel)
theorem dX12_isSolidBy_32 : decode cX12_isSolidBy 32 = .ok (.iload_n 2, 1) := dk_o28 (by decide +kernel)
theorem dX12_isSolidBy_33 : decode cX12_isSolidBy 33 = .ok (.iadd, 1) := dk_o96 (by decide +kernel)
theorem dX12_isSolidBy_34 : decode cX12_isSolidBy 34 = .ok (.iconst 0, 1) := dk_o3 (by decide +kernel)
theorem dX12_isSolidBy_35 : decode cX12_isSolidBy 35 = .ok (.iastore, 1) := dk_o79 (by decide +kernel)
theorem dX12_isSolidBy_36 : decode cX12_isSolidBy 36 = .ok (.aload_n 0, 1) := dk_o42 (by decide +kernel)
theorem dX12_isSolidBy_37 : decode cX12_isSolidBy 37 = .ok (.getfield 171, 3) := dk_o180 (by decide +kernel)
theorem dX12_isSolidBy_40 : decode cX12_isSolidBy 40 = .ok (.bipush 64, 2) := dk_o16 (by decide +kernel)
theorem dX12_isSolidBy_42 : decode cX12_isSolidBy 42 = .ok (.iload_n 1, 1) := dk_o27 (by decide +kernel)
theorem dX12_isSolidBy_43 : decode cX12_isSolidBy 43 = .ok (.imul, 1) := dk_o104 (by decide +kernel)
theorem dX12_isSolidBy_44 : decode cX12_isSolidBy 44 = .ok (.iload_n 2, 1) := dk_o28 (by decide +kernel)
theorem dX12_isSolidBy_45 : decode cX12_isSolidBy 45 = .ok (.iadd, 1) := dk_o96 (by decide +kernel)
theorem dX12_isSolidBy_46 : decode cX12_isSolidBy 46 = .ok (.iconst 0, 1) := dk_o3 (by decide +kernel)
theorem dX12_isSolidBy_47 : decode cX12_isSolidBy 47 = .ok (.iastore, 1) := dk_o79 (by decide +kernel)
theorem dX12_isSolidBy_48 : decode cX12_isSolidBy 48 = .ok (.iconst 1, 1) := dk_o4 (by decide +kernel)
theorem dX12_isSolidBy_49 : decode cX12_isSolidBy 49 = .ok (.ireturn, 1) := dk_o172 (by decide +kernel)
theorem wB_1084 : Cond.fieldLink RX12 156 "DarkMineModel" "isSeam" "Z" ∈ dgB := List.mem_filter.mpr ⟨tbl_6 _ (List.mem_of_getElem? (i := 210) (by decide +kernel)), by decide +kernel⟩
theorem wB_1085 : Cond.fieldLink RX12 51 "DarkMineModel" "bank" "I" ∈ dgB := List.mem_filter.mpr ⟨tbl_6 _ (List.mem_of_getElem? (i := 176) (by decide +kernel)), by decide +kernel⟩
theorem wB_1086 : Cond.code yX12_isCell cX12_isCell 3 (some .boolean) ∈ dgB := List.mem_filter.mpr ⟨tbl_8 _ (List.mem_of_getElem? (i := 138) rfl), rfl⟩
theorem wB_1087 : Cond.methodLink RX12 452 yX12_isCell ∈ dgB := List.mem_filter.mpr ⟨tbl_8 _ (List.mem_of_getElem? (i := 135) (by decide +kernel)), by decide +kernel⟩
theorem wB_1088 : Cond.instanceMethod yX12_isCell ∈ dgB := List.mem_filter.mpr ⟨tbl_8 _ (List.mem_of_getElem? (i := 137) (by decide +kernel)), by decide +kernel⟩
theorem wB_1089 : Cond.selects RX12 yX12_isCell yX12_isCell ∈ dgB := List.mem_filter.mpr ⟨List.mem_of_getElem? (i := 118) (by decide +kernel), by decide +kernel⟩
theorem wB_1090 : Cond.fieldLink RX12 168 "DarkMineModel" "gradeOf" "[I" ∈ dgB := List.mem_filter.mpr ⟨tbl_6 _ (List.mem_of_getElem? (i := 214) (by decide +kernel)), by decide +kernel⟩
theorem wB_1091 : Cond.code yX12_isOpen cX12_isOpen 3 (some .boolean) ∈ dgB := List.mem_filter.mpr ⟨tbl_8 _ (List.mem_of_getElem? (i := 142) rfl), rfl⟩
theorem wB_1092 : Cond.methodLink RX12 460 yX12_isOpen ∈ dgB := List.mem_filter.mpr ⟨tbl_8 _ (List.mem_of_getElem? (i := 139) (by decide +kernel)), by decide +kernel⟩
theorem wB_1093 : Cond.instanceMethod yX12_isOpen ∈ dgB := List.mem_filter.mpr ⟨tbl_8 _ (List.mem_of_getElem? (i := 141) (by decide +kernel)), by decide +kernel⟩
theorem wB_1094 : Cond.selects RX12 yX12_isOpen yX12_isOpen ∈ dgB := List.mem_filter.mpr ⟨List.mem_of_getElem? (i := 119) (by decide +kernel), by decide +kernel⟩
theorem wB_1095 : Cond.fieldLink RX12 213 "DarkMineModel" "farOf" "[I" ∈ dgB := List.mem_filter.mpr ⟨tbl_6 _ (List.mem_of_getElem? (i := 229) (by decide +kernel)), by decide +kernel⟩
theorem wB_1096 : Cond.fieldLink RX12 204 "DarkMineModel" "reachNow" "I" ∈ dgB := List.mem_filter.mpr ⟨tbl_6 _ (List.mem_of_getElem? (i := 226) (by decide +kernel)), by decide +kernel⟩
theorem wB_1097 : Cond.fieldLink RX12 171 "DarkMineModel" "curtainIn" "[I" ∈ dgB := List.mem_filter.mpr ⟨tbl_6 _ (List.mem_of_getElem? (i := 215) (by decide +kernel)), by decide +kernel⟩
theorem wB_1098 : Cond.code yX12_besideOf cX12_besideOf 5 (some .int) ∈ dgB := List.mem_filter.mpr ⟨tbl_8 _ (List.mem_of_getElem? (i := 151) rfl), rfl⟩
theorem wB_1099 : Cond.methodLink RX12 457 yX12_besideOf ∈ dgB := List.mem_filter.mpr ⟨tbl_8 _ (List.mem_of_getElem? (i := 148) (by decide +kernel)), by decide +kernel⟩
theorem wB_1100 : Cond.instanceMethod yX12_besideOf ∈ dgB := List.mem_filter.mpr ⟨tbl_8 _ (List.mem_of_getElem? (i := 150) (by decide +kernel)), by decide +kernel⟩
theorem wB_1101 : Cond.selects RX12 yX12_besideOf yX12_besideOf ∈ dgB := List.mem_filter.mpr ⟨List.mem_of_getElem? (i := 121) (by decide +kernel), by decide +kernel⟩
theorem wB_1102 : Cond.constant RX12 456 (100000000) ∈ dgB := List.mem_filter.mpr ⟨tbl_8 _ (List.mem_of_getElem? (i := 147) (by decide +kernel)), by decide +kernel⟩
theorem wB_1103 : Cond.code yX12_isLit cX12_isLit 3 (some .boolean) ∈ dgB := List.mem_filter.mpr ⟨tbl_8 _ (List.mem_of_getElem? (i := 155) rfl), rfl⟩
theorem wB_1104 : Cond.methodLink RX12 463 yX12_isLit ∈ dgB := List.mem_filter.mpr ⟨tbl_8 _ (List.mem_of_getElem? (i := 152) (by decide +kernel)), by decide +kernel⟩
theorem wB_1105 : Cond.instanceMethod yX12_isLit ∈ dgB := List.mem_filter.mpr ⟨tbl_8 _ (List.mem_of_getElem? (i := 154) (by decide +kernel)), by decide +kernel⟩
theorem wB_1106 : Cond.selects RX12 yX12_isLit yX12_isLit ∈ dgB := List.mem_filter.mpr ⟨List.mem_of_getElem? (i := 122) (by decide +kernel), by decide +kernel⟩
theorem wB_1107 : Cond.fieldLink RX12 210 "DarkMineModel" "asked" "[I" ∈ dgB := List.mem_filter.mpr ⟨tbl_6 _ (List.mem_of_getElem? (i := 228) (by decide +kernel)), by decide +kernel⟩
theorem wB_1108 : Cond.fieldLink RX12 162 "DarkMineModel" "shiftOf" "[I" ∈ dgB := List.mem_filter.mpr ⟨tbl_6 _ (List.mem_of_getElem? (i := 212) (by decide +kernel)), by decide +kernel⟩
theorem wB_1109 : Cond.code yX12_litBeside cX12_litBeside 6 (some .int) ∈ dgB := List.mem_filter.mpr ⟨tbl_8 _ (List.mem_of_getElem? (i := 207) rfl), rfl⟩
theorem wB_1110 : Cond.methodLink RX12 466 yX12_litBeside ∈ dgB := List.mem_filter.mpr ⟨tbl_8 _ (List.mem_of_getElem? (i := 204) (by decide +kernel)), by decide +kernel⟩
theorem wB_1111 : Cond.instanceMethod yX12_litBeside ∈ dgB := List.mem_filter.mpr ⟨tbl_8 _ (List.mem_of_getElem? (i := 206) (by decide +kernel)), by decide +kernel⟩
theorem wB_1112 : Cond.selects RX12 yX12_litBeside yX12_litBeside ∈ dgB := List.mem_filter.mpr ⟨List.mem_of_getElem? (i := 132) (by decide +kernel), by decide +kernel⟩
theorem wB_1113 : Cond.code yX12_openBeside cX12_openBeside 5 (some .int) ∈ dgB := List.mem_filter.mpr ⟨tbl_8 _ (List.mem_of_getElem? (i := 191) rfl), rfl⟩
theorem wB_1114 : Cond.methodLink RX12 469 yX12_openBeside ∈ dgB := List.mem_filter.mpr ⟨tbl_8 _ (List.mem_of_getElem? (i := 188) (by decide +kernel)), by decide +kernel⟩
theorem wB_1115 : Cond.instanceMethod yX12_openBeside ∈ dgB := List.mem_filter.mpr ⟨tbl_8 _ (List.mem_of_getElem? (i := 190) (by decide +kernel)), by decide +kernel⟩
theorem wB_1116 : Cond.selects RX12 yX12_openBeside yX12_openBeside ∈ dgB := List.mem_filter.mpr ⟨List.mem_of_getElem? (i := 128) (by decide +kernel), by decide +kernel⟩
theorem wB_1117 : Cond.fieldLink RX12 186 "DarkMineModel" "tubsOf" "[I" ∈ dgB := List.mem_filter.mpr ⟨tbl_6 _ (List.mem_of_getElem? (i := 220) (by decide +kernel)), by decide +kernel⟩
theorem wB_1118 : Cond.code yX12_tubGrades cX12_tubGrades 4 (some .int) ∈ dgB := List.mem_filter.mpr ⟨tbl_8 _ (List.mem_of_getElem? (i := 166) rfl), rfl⟩
theorem wB_1119 : Cond.methodLink RX12 512 yX12_tubGrades ∈ dgB := List.mem_filter.mpr ⟨tbl_8 _ (List.mem_of_getElem? (i := 163) (by decide +kernel)), by decide +kernel⟩
theorem wB_1120 : Cond.instanceMethod yX12_tubGrades ∈ dgB := List.mem_filter.mpr ⟨tbl_8 _ (List.mem_of_getElem? (i := 165) (by decide +kernel)), by decide +kernel⟩
theorem wB_1121 : Cond.selects RX12 yX12_tubGrades yX12_tubGrades ∈ dgB := List.mem_filter.mpr ⟨List.mem_of_getElem? (i := 124) (by decide +kernel), by decide +kernel⟩
theorem wB_1122 : Cond.code yX12_isCellOf cX12_isCellOf 2 (some .boolean) ∈ dgB := List.mem_filter.mpr ⟨tbl_8 _ (List.mem_of_getElem? (i := 134) rfl), rfl⟩
theorem wB_1123 : Cond.methodLink RX12 503 yX12_isCellOf ∈ dgB := List.mem_filter.mpr ⟨tbl_8 _ (List.mem_of_getElem? (i := 131) (by decide +kernel)), by decide +kernel⟩
theorem wB_1124 : Cond.instanceMethod yX12_isCellOf ∈ dgB := List.mem_filter.mpr ⟨tbl_8 _ (List.mem_of_getElem? (i := 133) (by decide +kernel)), by decide +kernel⟩
theorem wB_1125 : Cond.selects RX12 yX12_isCellOf yX12_isCellOf ∈ dgB := List.mem_filter.mpr ⟨List.mem_of_getElem? (i := 117) (by decide +kernel), by decide +kernel⟩
theorem wB_1126 : Cond.fieldLink RX12 195 "DarkMineModel" "undoFirst" "I" ∈ dgB := List.mem_filter.mpr ⟨tbl_6 _ (List.mem_of_getElem? (i := 223) (by decide +kernel)), by decide +kernel⟩
theorem wB_1127 : Cond.fieldLink RX12 189 "DarkMineModel" "keptMany" "[I" ∈ dgB := List.mem_filter.mpr ⟨tbl_6 _ (List.mem_of_getElem? (i := 221) (by decide +kernel)), by decide +kernel⟩
theorem wB_1128 : Cond.fieldLink RX12 192 "DarkMineModel" "keptRow" "[I" ∈ dgB := List.mem_filter.mpr ⟨tbl_6 _ (List.mem_of_getElem? (i := 222) (by decide +kernel)), by decide +kernel⟩
noncomputable def F_m_isCell (o : Nat) (S : dg_S) (a1 : Int32) (a2 : Int32) : Int32 := let bk : Int32 := zI S 0 13; let sm : Int32 := zI S 0 47; let cb : Int32 := S.2.1 2 (bk : Int32).toNatClampNeg; let rb : Int32 := S.2.1 3 (bk : Int32).toNatClampNeg; (if sm = (0 : Int32) then (0 : Int32) else let x_7 : Int32 := cb - (1 : Int32); let x_8 : Int32 := F_m_is o S a1 (0 : Int32) x_7; (if x_8 = (0 : Int32) then (0 : Int32) else let x_17 : Int32 := rb - (1 : Int32); let x_18 : Int32 := F_m_is o S a2 (0 : Int32) x_17; (if x_18 = (0 : Int32) then (0 : Int32) else (1 : Int32))))
theorem F_m_isCell_p0 {o : Nat} {S : dg_S} {a1 : Int32} {a2 : Int32} {sm : Int32} (h0 : sm = zI S 0 47) (h1 : sm = (0 : Int32)) : F_m_isCell o S a1 a2 = (0 : Int32) := by
  replace h0 := Eq.symm h0
  subst h0
  exact (Eq.trans (if_pos h1) rfl)
theorem F_m_isCell_p1 {o : Nat} {S : dg_S} {a1 : Int32} {a2 : Int32} {bk : Int32} {sm : Int32} {cb : Int32} {x_7 : Int32} {x_8 : Int32} (h0 : bk = zI S 0 13) (h1 : sm = zI S 0 47) (h2 : cb = S.2.1 2 (bk : Int32).toNatClampNeg) (h3 : ¬ (sm = (0 : Int32))) (h4 : x_7 = cb - (1 : Int32)) (h5 : x_8 = F_m_is o S a1 (0 : Int32) x_7) (h6 : x_8 = (0 : Int32)) : F_m_isCell o S a1 a2 = (0 : Int32) := by
  replace h0 := Eq.symm h0
  subst h0
  replace h1 := Eq.symm h1
  subst h1
  replace h2 := Eq.symm h2
  subst h2
  replace h4 := Eq.symm h4
  subst h4
  replace h5 := Eq.symm h5
  subst h5
  exact (Eq.trans (if_neg h3) (Eq.trans (if_pos h6) rfl))
theorem F_m_isCell_p2 {o : Nat} {S : dg_S} {a1 : Int32} {a2 : Int32} {bk : Int32} {sm : Int32} {cb : Int32} {rb : Int32} {x_7 : Int32} {x_8 : Int32} {x_17 : Int32} {x_18 : Int32} (h0 : bk = zI S 0 13) (h1 : sm = zI S 0 47) (h2 : cb = S.2.1 2 (bk : Int32).toNatClampNeg) (h3 : rb = S.2.1 3 (bk : Int32).toNatClampNeg) (h4 : ¬ (sm = (0 : Int32))) (h5 : x_7 = cb - (1 : Int32)) (h6 : x_8 = F_m_is o S a1 (0 : Int32) x_7) (h7 : ¬ (x_8 = (0 : Int32))) (h8 : x_17 = rb - (1 : Int32)) (h9 : x_18 = F_m_is o S a2 (0 : Int32) x_17) (h10 : x_18 = (0 : Int32)) : F_m_isCell o S a1 a2 = (0 : Int32) := by
  replace h0 := Eq.symm h0
  subst h0
  replace h1 := Eq.symm h1
  subst h1
  replace h2 := Eq.symm h2
  subst h2
  replace h3 := Eq.symm h3
  subst h3
  replace h5 := Eq.symm h5
  subst h5
  replace h6 := Eq.symm h6
  subst h6
  replace h8 := Eq.symm h8
  subst h8
  replace h9 := Eq.symm h9
  subst h9
  exact (Eq.trans (if_neg h4) (Eq.trans (if_neg h7) (Eq.trans (if_pos h10) rfl)))
theorem F_m_isCell_p3 {o : Nat} {S : dg_S} {a1 : Int32} {a2 : Int32} {bk : Int32} {sm : Int32} {cb : Int32} {rb : Int32} {x_7 : Int32} {x_8 : Int32} {x_17 : Int32} {x_18 : Int32} (h0 : bk = zI S 0 13) (h1 : sm = zI S 0 47) (h2 : cb = S.2.1 2 (bk : Int32).toNatClampNeg) (h3 : rb = S.2.1 3 (bk : Int32).toNatClampNeg) (h4 : ¬ (sm = (0 : Int32))) (h5 : x_7 = cb - (1 : Int32)) (h6 : x_8 = F_m_is o S a1 (0 : Int32) x_7) (h7 : ¬ (x_8 = (0 : Int32))) (h8 : x_17 = rb - (1 : Int32)) (h9 : x_18 = F_m_is o S a2 (0 : Int32) x_17) (h10 : ¬ (x_18 = (0 : Int32))) : F_m_isCell o S a1 a2 = (1 : Int32) := by
  replace h0 := Eq.symm h0
  subst h0
  replace h1 := Eq.symm h1
  subst h1
  replace h2 := Eq.symm h2
  subst h2
  replace h3 := Eq.symm h3
  subst h3
  replace h5 := Eq.symm h5
  subst h5
  replace h6 := Eq.symm h6
  subst h6
  replace h8 := Eq.symm h8
  subst h8
  replace h9 := Eq.symm h9
  subst h9
  exact (Eq.trans (if_neg h4) (Eq.trans (if_neg h7) (Eq.trans (if_neg h10) rfl)))
set_option maxHeartbeats 8000000 in
set_option maxRecDepth 100000 in
theorem c_m_isCell (l : Launch) (g : Nat → ClassId) (D : va_G) (o : Nat) (S : dg_S) (a1 : Int32) (a2 : Int32) (bk : Int32) (f_bk : S.1 0 13 = .int bk) (b_bk : 0 ≤ (bk).toInt ∧ (bk).toInt ≤ 1) (sm : Int32) (f_sm : S.1 0 47 = .int sm) (b_sm : 0 ≤ (sm).toInt ∧ (sm).toInt ≤ 1) (cb : Int32) (f_cb : S.2.1 2 (bk : Int32).toNatClampNeg = cb) (b_cb : 0 ≤ (cb).toInt ∧ (cb).toInt ≤ 7) (rb : Int32) (f_rb : S.2.1 3 (bk : Int32).toNatClampNeg = rb) (b_rb : 0 ≤ (rb).toInt ∧ (rb).toInt ≤ 7) (ZB : ZBM S) (I : CM o S) (sz : Nat) : Met l yX12_isCell (bw yX12_isCell cX12_isCell 3 (some .boolean)) ({ frames := 2, cells := 0, slots := 0, locals := 54 } : Room) (dk_Pc g D (dg_w g shM o rfM S) sz [.ref (o + 0), .int a1, .int a2]) (va_Qi (fun (r : Int32) S' => S' = S ∧ (0 ≤ (r).toInt ∧ (r).toInt ≤ 1) ∧ ((r).toInt = 1 → (0 ≤ (a1).toInt ∧ (a1).toInt ≤ 6 ∧ 0 ≤ (a2).toInt ∧ (a2).toInt ≤ 6)) ∧ ((r).toInt = 1 ↔ ((sm).toInt = 1 ∧ 0 ≤ (a1).toInt ∧ (a1).toInt < (cb).toInt ∧ 0 ≤ (a2).toInt ∧ (a2).toInt < (rb).toInt)) ∧ (r = F_m_isCell o S a1 a2) ∧ True) (dg_B g D shM o rfM) (dg_A o shM.length sz)) 0 0 (dg_A o shM.length sz) := by
  refine dg_met (cc := cX12_isCell) (maxL := 3) (ret := (some .boolean)) (dk_dq rfl) rfl (Nat.le_of_ble_eq_true rfl) ?_
  intro p e s m args below meth c A hAe harg hx hb hr hml hts hown hlocks hin hP K hS hA1 hA ST hsz ls hl
  rw [← hAe]
  have F : CallFix p m c cX12_isCell 3 s args (bw yX12_isCell cX12_isCell 3 (some .boolean)) RX12 := ⟨hx, hb, hml, hown, hts⟩
  have hl : lv_has ls 3 [(0, .ref (o + 0)), (1, .int a1), (2, .int a2)] := hl
  have M_0 : dg_sm shM [] [] S S := dg_sm.rf
  refine lv_aload_n hx hb dX12_isCell_0 rfl (lv_at hl 0 rfl) ?_
  refine dg_get (C := RX12) (T := TX12) (N := 77) hx hb hts (fun w h => bw_mem (wU_X12 w h)) hown K hP sM_0 rfl 47 (dk_dq rfl) (hts _ (bw_mem wB_1084)) (fun _ h9 => h9) (v := .int sm) f_sm dX12_isCell_1 ?_
  refine lv_if_eq (tgt := 49) hx hb dX12_isCell_4 (dk_dq rfl) (fun c_1 => ?_) (fun c_1 => ?_)
  · have jc_1 := dk_eqc (k := 0) (by decide +kernel) c_1
    refine lv_iconst (v := 0) hx hb dX12_isCell_49 (by decide +kernel) ?_
    have hz_2 : (0 : Int32).toInt = 0 := by decide +kernel
    have hz_3 : (0 : Int32).toInt = 0 := by decide +kernel
    have hz_4 : (0 : Int32).toInt = 0 := by decide +kernel
    refine W.widen (k := 0) (n := 0) (Nat.le_of_ble_eq_true rfl) (Nat.le_of_ble_eq_true rfl) ?_
    exact dg_iret hx hb hr hlocks (by decide +kernel) hP hS ⟨rfl, (by decide +kernel), (by omega), (by omega), (Eq.symm (F_m_isCell_p0 (zI_eq f_sm) c_1)), trivial⟩ dX12_isCell_50
  · as_aux_lemma =>
      have jc_1 := dk_neqc (k := 0) (by decide +kernel) c_1
      refine lv_iload_n hx hb dX12_isCell_7 rfl (lv_at hl 1 rfl) ?_
      refine lv_iconst (v := 0) hx hb dX12_isCell_8 (by decide +kernel) ?_
      refine lv_aload_n hx hb dX12_isCell_9 rfl (lv_at hl 0 rfl) ?_
      refine dg_get (C := RX12) (T := TX12) (N := 77) hx hb hts (fun w h => bw_mem (wU_X12 w h)) hown K hP sM_0 rfl 14 (dk_dq rfl) (hts _ (bw_mem wB_372)) (fun _ h9 => h9) (v := .ref (o + 2)) (show S.1 0 14 = .ref (o + 2) from dg_I.rel (d := 2) I sM_0 (by decide +kernel)) dX12_isCell_10 ?_
      refine lv_aload_n hx hb dX12_isCell_13 rfl (lv_at hl 0 rfl) ?_
      refine dg_get (C := RX12) (T := TX12) (N := 77) hx hb hts (fun w h => bw_mem (wU_X12 w h)) hown K hP sM_0 rfl 13 (dk_dq rfl) (hts _ (bw_mem wB_1085)) (fun _ h9 => h9) (v := .int bk) f_bk dX12_isCell_14 ?_
      have hin_5 : vp_in bk 2 := (dk_inv2 (by omega))
      refine dg_iald hx hb K hP sM_2 hin_5 dX12_isCell_17 (fun y_6 ey_6 => ?_)
      obtain rfl : cb = y_6 := (ey_6.trans f_cb).symm
      refine lv_iconst (v := 1) hx hb dX12_isCell_18 (by decide +kernel) ?_
      refine lv_isub hx hb dX12_isCell_19 ?_
      refine lv_topi (fun x_7 ex_7 => ?_)
      have jx_7 : (x_7).toInt = (cb).toInt - 1 := by rw [ex_7]; exact dk_subT2 rfl (by decide +kernel) (by omega)
      refine dg_calli hS hA1 hA (va_runS (As := [.int a1, .int 0, .int x_7]) (rest := []) F (c_m_isR l g D o S a1 0 x_7 I s.heap.size) (va_cwS 3 hts (bw_S wB_362 wB_363 wB_297 wB_361) rfl rfl rfl (by decide +kernel) ⟨Nat.le_of_ble_eq_true rfl, Nat.le_of_ble_eq_true rfl⟩) (dg_preS K ST hP hS hA1 hA) rfl rfl hl.1 rfl (lv_room (Nat.le_of_ble_eq_true rfl)) dX12_isCell_20 ⟨Nat.le_of_ble_eq_true rfl, Nat.le_of_ble_eq_true rfl⟩) (fun x_8 S_9 hw_9 H locs hP hS => ?_)
      rw [hw_9.1] at hP
      obtain ⟨hq_9, w_9_0, w_9_1, w_9_2, -⟩ := hw_9
      have hz_10 : (0 : Int32).toInt = 0 := by decide +kernel
      have w_9_0 : 0 ≤ (x_8).toInt ∧ (x_8).toInt ≤ 1 := w_9_0
      have w_9_1 : (x_8).toInt = 1 ↔ (((0 : Int32)).toInt ≤ (a1).toInt ∧ (a1).toInt ≤ (x_7).toInt) := w_9_1
      refine lv_if_eq (tgt := 49) hx hb dX12_isCell_23 (dk_dq rfl) (fun c_11 => ?_) (fun c_11 => ?_)
      · have jc_11 := dk_eqc (k := 0) (by decide +kernel) c_11
        refine lv_iconst (v := 0) hx hb dX12_isCell_49 (by decide +kernel) ?_
        have hz_12 : (0 : Int32).toInt = 0 := by decide +kernel
        have hz_13 : (0 : Int32).toInt = 0 := by decide +kernel
        have hz_14 : (0 : Int32).toInt = 0 := by decide +kernel
        refine W.widen (k := 0) (n := 0) (Nat.le_of_ble_eq_true rfl) (Nat.le_of_ble_eq_true rfl) ?_
        exact dg_iret hx hb hr hlocks (by decide +kernel) hP hS ⟨rfl, (by decide +kernel), (by omega), (by omega), (Eq.symm (F_m_isCell_p1 (zI_eq f_bk) (zI_eq f_sm) (Eq.symm f_cb) c_1 ex_7 w_9_2 c_11)), trivial⟩ dX12_isCell_50
      · as_aux_lemma =>
          have jc_11 := dk_neqc (k := 0) (by decide +kernel) c_11
          refine lv_iload_n hx hb dX12_isCell_26 rfl (lv_at hl 2 rfl) ?_
          refine lv_iconst (v := 0) hx hb dX12_isCell_27 (by decide +kernel) ?_
          refine lv_aload_n hx hb dX12_isCell_28 rfl (lv_at hl 0 rfl) ?_
          refine dg_get (C := RX12) (T := TX12) (N := 77) hx hb hts (fun w h => bw_mem (wU_X12 w h)) hown K hP sM_0 rfl 15 (dk_dq rfl) (hts _ (bw_mem wB_377)) (fun _ h9 => h9) (v := .ref (o + 3)) (show S.1 0 15 = .ref (o + 3) from dg_I.rel (d := 3) I sM_0 (by decide +kernel)) dX12_isCell_29 ?_
          refine lv_aload_n hx hb dX12_isCell_32 rfl (lv_at hl 0 rfl) ?_
          refine dg_get (C := RX12) (T := TX12) (N := 77) hx hb hts (fun w h => bw_mem (wU_X12 w h)) hown K hP sM_0 rfl 13 (dk_dq rfl) (hts _ (bw_mem wB_1085)) (fun _ h9 => h9) (v := .int bk) f_bk dX12_isCell_33 ?_
          have hin_15 : vp_in bk 2 := (dk_inv2 (by omega))
          refine dg_iald hx hb K hP sM_3 hin_15 dX12_isCell_36 (fun y_16 ey_16 => ?_)
          obtain rfl : rb = y_16 := (ey_16.trans f_rb).symm
          refine lv_iconst (v := 1) hx hb dX12_isCell_37 (by decide +kernel) ?_
          refine lv_isub hx hb dX12_isCell_38 ?_
          refine lv_topi (fun x_17 ex_17 => ?_)
          have jx_17 : (x_17).toInt = (rb).toInt - 1 := by rw [ex_17]; exact dk_subT2 rfl (by decide +kernel) (by omega)
          refine dg_calli hS hA1 hA (va_runS (As := [.int a2, .int 0, .int x_17]) (rest := []) F (c_m_isR l g D o S a2 0 x_17 I H.size) (va_cwS 3 hts (bw_S wB_362 wB_363 wB_297 wB_361) rfl rfl rfl (by decide +kernel) ⟨Nat.le_of_ble_eq_true rfl, Nat.le_of_ble_eq_true rfl⟩) (dg_preS K ST hP hS hA1 hA) rfl rfl hl.1 rfl (lv_room (Nat.le_of_ble_eq_true rfl)) dX12_isCell_39 ⟨Nat.le_of_ble_eq_true rfl, Nat.le_of_ble_eq_true rfl⟩) (fun x_18 S_19 hw_19 H locs hP hS => ?_)
          rw [hw_19.1] at hP
          obtain ⟨hq_19, w_19_0, w_19_1, w_19_2, -⟩ := hw_19
          have hz_20 : (0 : Int32).toInt = 0 := by decide +kernel
          have w_19_0 : 0 ≤ (x_18).toInt ∧ (x_18).toInt ≤ 1 := w_19_0
          have w_19_1 : (x_18).toInt = 1 ↔ (((0 : Int32)).toInt ≤ (a2).toInt ∧ (a2).toInt ≤ (x_17).toInt) := w_19_1
          refine lv_if_eq (tgt := 49) hx hb dX12_isCell_42 (dk_dq rfl) (fun c_21 => ?_) (fun c_21 => ?_)
          · have jc_21 := dk_eqc (k := 0) (by decide +kernel) c_21
            refine lv_iconst (v := 0) hx hb dX12_isCell_49 (by decide +kernel) ?_
            have hz_22 : (0 : Int32).toInt = 0 := by decide +kernel
            have hz_23 : (0 : Int32).toInt = 0 := by decide +kernel
            have hz_24 : (0 : Int32).toInt = 0 := by decide +kernel
            refine W.widen (k := 0) (n := 0) (Nat.le_of_ble_eq_true rfl) (Nat.le_of_ble_eq_true rfl) ?_
            exact dg_iret hx hb hr hlocks (by decide +kernel) hP hS ⟨rfl, (by decide +kernel), (by omega), (by omega), (Eq.symm (F_m_isCell_p2 (zI_eq f_bk) (zI_eq f_sm) (Eq.symm f_cb) (Eq.symm f_rb) c_1 ex_7 w_9_2 c_11 ex_17 w_19_2 c_21)), trivial⟩ dX12_isCell_50
          · have jc_21 := dk_neqc (k := 0) (by decide +kernel) c_21
            refine lv_iconst (v := 1) hx hb dX12_isCell_45 (by decide +kernel) ?_
            refine lv_goto (tgt := 50) hx hb dX12_isCell_46 (dk_dq rfl) ?_
            have hz_25 : (1 : Int32).toInt = 1 := by decide +kernel
            have hz_26 : (1 : Int32).toInt = 1 := by decide +kernel
            have hz_27 : (1 : Int32).toInt = 1 := by decide +kernel
            refine W.widen (k := 0) (n := 0) (Nat.le_of_ble_eq_true rfl) (Nat.le_of_ble_eq_true rfl) ?_
            exact dg_iret hx hb hr hlocks (by decide +kernel) hP hS ⟨rfl, (by decide +kernel), (by omega), (by omega), (Eq.symm (F_m_isCell_p3 (zI_eq f_bk) (zI_eq f_sm) (Eq.symm f_cb) (Eq.symm f_rb) c_1 ex_7 w_9_2 c_11 ex_17 w_19_2 c_21)), trivial⟩ dX12_isCell_50
noncomputable def F_m_isCellOf (o : Nat) (S : dg_S) (a1 : Int32) : Int32 := (if a1 < (0 : Int32) then (0 : Int32) else let x_4 : Int32 := a1 - a1 / (8 : Int32) * (8 : Int32); let x_5 : Int32 := a1 / (8 : Int32); let x_6 : Int32 := zI S 0 13; let x_7 : Int32 := zI S 0 47; let x_8 : Int32 := S.2.1 2 (x_6 : Int32).toNatClampNeg; let x_10 : Int32 := S.2.1 3 (x_6 : Int32).toNatClampNeg; let x_12 : Int32 := F_m_isCell o S x_4 x_5; (if x_12 = (0 : Int32) then (0 : Int32) else (1 : Int32)))
theorem F_m_isCellOf_p0 {o : Nat} {S : dg_S} {a1 : Int32} (h0 : a1 < (0 : Int32)) : F_m_isCellOf o S a1 = (0 : Int32) := (Eq.trans (if_pos h0) rfl)
theorem F_m_isCellOf_p1 {o : Nat} {S : dg_S} {a1 : Int32} {x_4 : Int32} {x_5 : Int32} {x_12 : Int32} (h0 : ¬ (a1 < (0 : Int32))) (h1 : x_4 = a1 - a1 / (8 : Int32) * (8 : Int32)) (h2 : x_5 = a1 / (8 : Int32)) (h3 : x_12 = F_m_isCell o S x_4 x_5) (h4 : x_12 = (0 : Int32)) : F_m_isCellOf o S a1 = (0 : Int32) := by
  replace h1 := Eq.symm h1
  subst h1
  replace h2 := Eq.symm h2
  subst h2
  replace h3 := Eq.symm h3
  subst h3
  exact (Eq.trans (if_neg h0) (Eq.trans (if_pos h4) rfl))
theorem F_m_isCellOf_p2 {o : Nat} {S : dg_S} {a1 : Int32} {x_4 : Int32} {x_5 : Int32} {x_12 : Int32} (h0 : ¬ (a1 < (0 : Int32))) (h1 : x_4 = a1 - a1 / (8 : Int32) * (8 : Int32)) (h2 : x_5 = a1 / (8 : Int32)) (h3 : x_12 = F_m_isCell o S x_4 x_5) (h4 : ¬ (x_12 = (0 : Int32))) : F_m_isCellOf o S a1 = (1 : Int32) := by
  replace h1 := Eq.symm h1
  subst h1
  replace h2 := Eq.symm h2
  subst h2
  replace h3 := Eq.symm h3
  subst h3
  exact (Eq.trans (if_neg h0) (Eq.trans (if_neg h4) rfl))
set_option maxHeartbeats 8000000 in
set_option maxRecDepth 100000 in
theorem c_m_isCellOf (l : Launch) (g : Nat → ClassId) (D : va_G) (o : Nat) (S : dg_S) (a1 : Int32) (b_a1 : (-1) ≤ (a1).toInt ∧ (a1).toInt ≤ 63) (ZB : ZBM S) (I : CM o S) (sz : Nat) : Met l yX12_isCellOf (bw yX12_isCellOf cX12_isCellOf 2 (some .boolean)) ({ frames := 3, cells := 0, slots := 0, locals := 76 } : Room) (dk_Pc g D (dg_w g shM o rfM S) sz [.ref (o + 0), .int a1]) (va_Qi (fun (r : Int32) S' => S' = S ∧ (0 ≤ (r).toInt ∧ (r).toInt ≤ 1) ∧ ((r).toInt = 1 → 0 ≤ (a1).toInt) ∧ (r = F_m_isCellOf o S a1) ∧ True) (dg_B g D shM o rfM) (dg_A o shM.length sz)) 0 0 (dg_A o shM.length sz) := by
  refine dg_met (cc := cX12_isCellOf) (maxL := 2) (ret := (some .boolean)) (dk_dq rfl) rfl (Nat.le_of_ble_eq_true rfl) ?_
  intro p e s m args below meth c A hAe harg hx hb hr hml hts hown hlocks hin hP K hS hA1 hA ST hsz ls hl
  rw [← hAe]
  have F : CallFix p m c cX12_isCellOf 2 s args (bw yX12_isCellOf cX12_isCellOf 2 (some .boolean)) RX12 := ⟨hx, hb, hml, hown, hts⟩
  have hl : lv_has ls 2 [(0, .ref (o + 0)), (1, .int a1)] := hl
  have M_0 : dg_sm shM [] [] S S := dg_sm.rf
  refine lv_iload_n hx hb dX12_isCellOf_0 rfl (lv_at hl 1 rfl) ?_
  refine lv_if_lt (tgt := 23) hx hb dX12_isCellOf_1 (dk_dq rfl) (fun c_1 => ?_) (fun c_1 => ?_)
  · have jc_1 := dk_ltc (k := 0) (by decide +kernel) c_1
    refine lv_iconst (v := 0) hx hb dX12_isCellOf_23 (by decide +kernel) ?_
    have hz_2 : (0 : Int32).toInt = 0 := by decide +kernel
    have hz_3 : (0 : Int32).toInt = 0 := by decide +kernel
    refine W.widen (k := 0) (n := 0) (Nat.le_of_ble_eq_true rfl) (Nat.le_of_ble_eq_true rfl) ?_
    exact dg_iret hx hb hr hlocks (by decide +kernel) hP hS ⟨rfl, (by decide +kernel), (by omega), (Eq.symm (F_m_isCellOf_p0 c_1)), trivial⟩ dX12_isCellOf_24
  · as_aux_lemma =>
      have jc_1 := dk_nltc (k := 0) (by decide +kernel) c_1
      refine lv_aload_n hx hb dX12_isCellOf_4 rfl (lv_at hl 0 rfl) ?_
      refine lv_iload_n hx hb dX12_isCellOf_5 rfl (lv_at hl 1 rfl) ?_
      refine lv_bipush (v := 8) hx hb dX12_isCellOf_6 (by decide +kernel) ?_
      refine lv_irem hx hb dX12_isCellOf_8 (by decide +kernel) ?_
      refine lv_topi (fun x_4 ex_4 => ?_)
      have jx_4 : (x_4).toInt = (a1).toInt % 8 := by rw [ex_4]; exact dk_remL (by omega) (by decide +kernel) (dk_dq rfl)
      refine lv_iload_n hx hb dX12_isCellOf_9 rfl (lv_at hl 1 rfl) ?_
      refine lv_bipush (v := 8) hx hb dX12_isCellOf_10 (by decide +kernel) ?_
      refine lv_idiv hx hb dX12_isCellOf_12 (by decide +kernel) ?_
      refine lv_topi (fun x_5 ex_5 => ?_)
      have jx_5 : (x_5).toInt = (a1).toInt / 8 := by rw [ex_5]; exact dk_divL (by omega) (by decide +kernel) (dk_dq rfl)
      obtain ⟨x_6, f_x_6, b_x_6⟩ := dg_I.int (i := 0) (k := 13) (lo := 0) (hi := 1) I sM_0 (by decide +kernel)
      obtain ⟨x_7, f_x_7, b_x_7⟩ := dg_I.int (i := 0) (k := 47) (lo := 0) (hi := 1) I sM_0 (by decide +kernel)
      obtain ⟨x_8, f_x_8⟩ : ∃ x, S.2.1 2 (x_6 : Int32).toNatClampNeg = x := ⟨_, rfl⟩
      have hin_9 : vp_in (x_6 : Int32) 2 := (dk_inv2 (by omega))
      have b_x_8 := dk_all_at (dg_I.row (lo := 0) (hi := 9999) I sM_2 (by decide +kernel)) hin_9 f_x_8.symm
      have ex_8 := f_x_8.symm
      have zb_x_8 : (x_8).toInt ≤ 7 ∧ ((x_7 : Int32).toInt = 1 → 3 ≤ (x_8).toInt) := by rw [ex_8]; exact ⟨(ZB x_6 x_7 f_x_6 f_x_7).1, fun h9 => ((ZB x_6 x_7 f_x_6 f_x_7).2.2.2 h9).1⟩
      obtain ⟨x_10, f_x_10⟩ : ∃ x, S.2.1 3 (x_6 : Int32).toNatClampNeg = x := ⟨_, rfl⟩
      have hin_11 : vp_in (x_6 : Int32) 2 := (dk_inv2 (by omega))
      have b_x_10 := dk_all_at (dg_I.row (lo := 0) (hi := 9999) I sM_3 (by decide +kernel)) hin_11 f_x_10.symm
      have ex_10 := f_x_10.symm
      have zb_x_10 : (x_10).toInt ≤ 7 ∧ ((x_7 : Int32).toInt = 1 → 3 ≤ (x_10).toInt) := by rw [ex_10]; exact ⟨(ZB x_6 x_7 f_x_6 f_x_7).2.1, fun h9 => ((ZB x_6 x_7 f_x_6 f_x_7).2.2.2 h9).2⟩
      refine dg_calli hS hA1 hA (va_runV (As := [.int x_4, .int x_5]) (rest := []) F (c_m_isCell l g D o S x_4 x_5 x_6 f_x_6 (by omega) x_7 f_x_7 (by omega) x_8 f_x_8 (by omega) x_10 f_x_10 (by omega) ZB I s.heap.size) (cwV 2 hts (bw_V wB_1087 wB_1088 wB_1089 wB_297 wB_1086) rfl rfl rfl (by decide +kernel) ⟨Nat.le_of_ble_eq_true rfl, Nat.le_of_ble_eq_true rfl⟩) (dg_preV sM_0 rfl K ST hP hS hA1 hA) rfl rfl hl.1 rfl (lv_room (Nat.le_of_ble_eq_true rfl)) dX12_isCellOf_13 ⟨Nat.le_of_ble_eq_true rfl, Nat.le_of_ble_eq_true rfl⟩) (fun x_12 S_13 hw_13 H locs hP hS => ?_)
      rw [hw_13.1] at hP
      obtain ⟨hq_13, w_13_0, w_13_1, w_13_2, w_13_3, -⟩ := hw_13
      have w_13_0 : 0 ≤ (x_12).toInt ∧ (x_12).toInt ≤ 1 := w_13_0
      have w_13_1 : (x_12).toInt = 1 → (0 ≤ (x_4).toInt ∧ (x_4).toInt ≤ 6 ∧ 0 ≤ (x_5).toInt ∧ (x_5).toInt ≤ 6) := w_13_1
      have w_13_2 : (x_12).toInt = 1 ↔ ((x_7).toInt = 1 ∧ 0 ≤ (x_4).toInt ∧ (x_4).toInt < (x_8).toInt ∧ 0 ≤ (x_5).toInt ∧ (x_5).toInt < (x_10).toInt) := w_13_2
      refine lv_if_eq (tgt := 23) hx hb dX12_isCellOf_16 (dk_dq rfl) (fun c_14 => ?_) (fun c_14 => ?_)
      · have jc_14 := dk_eqc (k := 0) (by decide +kernel) c_14
        refine lv_iconst (v := 0) hx hb dX12_isCellOf_23 (by decide +kernel) ?_
        have hz_15 : (0 : Int32).toInt = 0 := by decide +kernel
        have hz_16 : (0 : Int32).toInt = 0 := by decide +kernel
        refine W.widen (k := 0) (n := 0) (Nat.le_of_ble_eq_true rfl) (Nat.le_of_ble_eq_true rfl) ?_
        exact dg_iret hx hb hr hlocks (by decide +kernel) hP hS ⟨rfl, (by decide +kernel), (by omega), (Eq.symm (F_m_isCellOf_p1 c_1 ex_4 ex_5 w_13_3 c_14)), trivial⟩ dX12_isCellOf_24
      · have jc_14 := dk_neqc (k := 0) (by decide +kernel) c_14
        refine lv_iconst (v := 1) hx hb dX12_isCellOf_19 (by decide +kernel) ?_
        refine lv_goto (tgt := 24) hx hb dX12_isCellOf_20 (dk_dq rfl) ?_
        have hz_17 : (1 : Int32).toInt = 1 := by decide +kernel
        have hz_18 : (1 : Int32).toInt = 1 := by decide +kernel
        refine W.widen (k := 0) (n := 0) (Nat.le_of_ble_eq_true rfl) (Nat.le_of_ble_eq_true rfl) ?_
        exact dg_iret hx hb hr hlocks (by decide +kernel) hP hS ⟨rfl, (by decide +kernel), (by omega), (Eq.symm (F_m_isCellOf_p2 c_1 ex_4 ex_5 w_13_3 c_14)), trivial⟩ dX12_isCellOf_24
noncomputable def F_m_isTold_0 (o : Nat) (S : dg_S) : Int32 := let x_1 : Int32 := zI S 0 13; let x_2 : Int32 := (3 : Int32) * x_1; let x_4 : Int32 := S.2.1 16 (x_2 : Int32).toNatClampNeg; (if x_4 = (-1 : Int32) then (0 : Int32) else (1 : Int32))
theorem F_m_isTold_0_p0 {o : Nat} {S : dg_S} {x_1 : Int32} {x_2 : Int32} {x_4 : Int32} (h0 : x_1 = zI S 0 13) (h1 : x_2 = (3 : Int32) * x_1) (h2 : x_4 = S.2.1 16 (x_2 : Int32).toNatClampNeg) (h3 : x_4 = (-1 : Int32)) : F_m_isTold_0 o S = (0 : Int32) := by
  replace h0 := Eq.symm h0
  subst h0
  replace h1 := Eq.symm h1
  subst h1
  replace h2 := Eq.symm h2
  subst h2
  exact (Eq.trans (if_pos h3) rfl)
theorem F_m_isTold_0_p1 {o : Nat} {S : dg_S} {x_1 : Int32} {x_2 : Int32} {x_4 : Int32} (h0 : x_1 = zI S 0 13) (h1 : x_2 = (3 : Int32) * x_1) (h2 : x_4 = S.2.1 16 (x_2 : Int32).toNatClampNeg) (h3 : ¬ (x_4 = (-1 : Int32))) : F_m_isTold_0 o S = (1 : Int32) := by
  replace h0 := Eq.symm h0
  subst h0
  replace h1 := Eq.symm h1
  subst h1
  replace h2 := Eq.symm h2
  subst h2
  exact (Eq.trans (if_neg h3) rfl)
set_option maxHeartbeats 8000000 in
set_option maxRecDepth 100000 in
theorem c_m_isTold_0 (l : Launch) (g : Nat → ClassId) (D : va_G) (o : Nat) (S : dg_S) (I : CM o S) (sz : Nat) : Met l yX12_isTold (bw yX12_isTold cX12_isTold 2 (some .boolean)) ({ frames := 1, cells := 0, slots := 0, locals := 32 } : Room) (dk_Pc g D (dg_w g shM o rfM S) sz [.ref (o + 0), .int 0]) (va_Qi (fun (r : Int32) S' => S' = S ∧ (0 ≤ (r).toInt ∧ (r).toInt ≤ 1) ∧ ((r).toInt = 1 → ZT0M S') ∧ (r = F_m_isTold_0 o S) ∧ True) (dg_B g D shM o rfM) (dg_A o shM.length sz)) 0 0 (dg_A o shM.length sz) := by
  refine dg_met (cc := cX12_isTold) (maxL := 2) (ret := (some .boolean)) (dk_dq rfl) rfl (Nat.le_of_ble_eq_true rfl) ?_
  intro p e s m args below meth c A hAe harg hx hb hr hml hts hown hlocks hin hP K hS hA1 hA ST hsz ls hl
  rw [← hAe]
  have F : CallFix p m c cX12_isTold 2 s args (bw yX12_isTold cX12_isTold 2 (some .boolean)) RX12 := ⟨hx, hb, hml, hown, hts⟩
  have hl : lv_has ls 2 [(0, .ref (o + 0)), (1, .int 0)] := hl
  have M_0 : dg_sm shM [] [] S S := dg_sm.rf
  refine lv_aload_n hx hb dX12_isTold_0 rfl (lv_at hl 0 rfl) ?_
  refine dg_get (C := RX12) (T := TX12) (N := 77) hx hb hts (fun w h => bw_mem (wU_X12 w h)) hown K hP sM_0 rfl 28 (dk_dq rfl) (hts _ (bw_mem wB_449)) (fun _ h9 => h9) (v := .ref (o + 16)) (show S.1 0 28 = .ref (o + 16) from dg_I.rel (d := 16) I sM_0 (by decide +kernel)) dX12_isTold_1 ?_
  refine lv_iconst (v := 3) hx hb dX12_isTold_4 (by decide +kernel) ?_
  refine lv_aload_n hx hb dX12_isTold_5 rfl (lv_at hl 0 rfl) ?_
  obtain ⟨x_1, f_x_1, b_x_1⟩ := dg_I.int (i := 0) (k := 13) (lo := 0) (hi := 1) I sM_0 (by decide +kernel)
  refine dg_get (C := RX12) (T := TX12) (N := 77) hx hb hts (fun w h => bw_mem (wU_X12 w h)) hown K hP sM_0 rfl 13 (dk_dq rfl) (hts _ (bw_mem wB_1085)) (fun _ h9 => h9) (v := .int x_1) f_x_1 dX12_isTold_6 ?_
  refine lv_imul hx hb dX12_isTold_9 ?_
  refine lv_topi (fun x_2 ex_2 => ?_)
  have jx_2 : (x_2).toInt = 3 * (x_1).toInt := by rw [ex_2]; exact dk_mulT2 (by decide +kernel) rfl (by omega)
  refine lv_iload_n hx hb dX12_isTold_10 rfl (lv_at hl 1 rfl) ?_
  refine lv_iadd hx hb dX12_isTold_11 ?_
  refine dk_top (y := x_2) (by simp) ?_
  have hin_3 : vp_in x_2 6 := (dk_inv2 (by omega))
  refine dg_iald hx hb K hP sM_16 hin_3 dX12_isTold_12 (fun x_4 ex_4 => ?_)
  have b_x_4 := dk_all_at (dg_I.row (lo := (-1)) (hi := 1600) I sM_16 (by decide +kernel)) hin_3 ex_4
  refine lv_iconst (v := (-1)) hx hb dX12_isTold_13 (by decide +kernel) ?_
  refine lv_icmp_eq (tgt := 21) hx hb dX12_isTold_14 (dk_dq rfl) (fun c_5 => ?_) (fun c_5 => ?_)
  · have jc_5 := dk_eqc (k := (-1)) (by decide +kernel) c_5
    refine lv_iconst (v := 0) hx hb dX12_isTold_21 (by decide +kernel) ?_
    have hz_6 : (0 : Int32).toInt = 0 := by decide +kernel
    have hz_7 : (0 : Int32).toInt = 0 := by decide +kernel
    refine W.widen (k := 0) (n := 0) (Nat.le_of_ble_eq_true rfl) (Nat.le_of_ble_eq_true rfl) ?_
    exact dg_iret hx hb hr hlocks (by decide +kernel) hP hS ⟨rfl, (by decide +kernel), (fun h9 => absurd h9 (by decide +kernel)), (Eq.symm (F_m_isTold_0_p0 (zI_eq f_x_1) ex_2 (Eq.symm ex_4.symm) c_5)), trivial⟩ dX12_isTold_22
  · have jc_5 := dk_neqc (k := (-1)) (by decide +kernel) c_5
    refine lv_iconst (v := 1) hx hb dX12_isTold_17 (by decide +kernel) ?_
    refine lv_goto (tgt := 22) hx hb dX12_isTold_18 (dk_dq rfl) ?_
    have hz_8 : (1 : Int32).toInt = 1 := by decide +kernel
    have hz_9 : (1 : Int32).toInt = 1 := by decide +kernel
    refine W.widen (k := 0) (n := 0) (Nat.le_of_ble_eq_true rfl) (Nat.le_of_ble_eq_true rfl) ?_
    exact dg_iret hx hb hr hlocks (by decide +kernel) hP hS ⟨rfl, (by decide +kernel), (fun _ b9 hb9 => by have q9 := (f_x_1).symm.trans hb9; cases q9; rw [show 3 * (x_1).toNatClampNeg + 0 = (x_2 : Int32).toNatClampNeg from by have h8 := (dk_inT hin_3).1; rw [dk_clN x_1]; omega, ← ex_4]; omega), (Eq.symm (F_m_isTold_0_p1 (zI_eq f_x_1) ex_2 (Eq.symm ex_4.symm) c_5)), trivial⟩ dX12_isTold_22
noncomputable def F_m_isTold_1 (o : Nat) (S : dg_S) : Int32 := let x_1 : Int32 := zI S 0 13; let x_2 : Int32 := (3 : Int32) * x_1; let x_3 : Int32 := x_2 + (1 : Int32); let x_5 : Int32 := S.2.1 16 (x_3 : Int32).toNatClampNeg; (if x_5 = (-1 : Int32) then (0 : Int32) else (1 : Int32))
theorem F_m_isTold_1_p0 {o : Nat} {S : dg_S} {x_1 : Int32} {x_2 : Int32} {x_3 : Int32} {x_5 : Int32} (h0 : x_1 = zI S 0 13) (h1 : x_2 = (3 : Int32) * x_1) (h2 : x_3 = x_2 + (1 : Int32)) (h3 : x_5 = S.2.1 16 (x_3 : Int32).toNatClampNeg) (h4 : x_5 = (-1 : Int32)) : F_m_isTold_1 o S = (0 : Int32) := by
  replace h0 := Eq.symm h0
  subst h0
  replace h1 := Eq.symm h1
  subst h1
  replace h2 := Eq.symm h2
  subst h2
  replace h3 := Eq.symm h3
  subst h3
  exact (Eq.trans (if_pos h4) rfl)
theorem F_m_isTold_1_p1 {o : Nat} {S : dg_S} {x_1 : Int32} {x_2 : Int32} {x_3 : Int32} {x_5 : Int32} (h0 : x_1 = zI S 0 13) (h1 : x_2 = (3 : Int32) * x_1) (h2 : x_3 = x_2 + (1 : Int32)) (h3 : x_5 = S.2.1 16 (x_3 : Int32).toNatClampNeg) (h4 : ¬ (x_5 = (-1 : Int32))) : F_m_isTold_1 o S = (1 : Int32) := by
  replace h0 := Eq.symm h0
  subst h0
  replace h1 := Eq.symm h1
  subst h1
  replace h2 := Eq.symm h2
  subst h2
  replace h3 := Eq.symm h3
  subst h3
  exact (Eq.trans (if_neg h4) rfl)
set_option maxHeartbeats 8000000 in
set_option maxRecDepth 100000 in
theorem c_m_isTold_1 (l : Launch) (g : Nat → ClassId) (D : va_G) (o : Nat) (S : dg_S) (I : CM o S) (sz : Nat) : Met l yX12_isTold (bw yX12_isTold cX12_isTold 2 (some .boolean)) ({ frames := 1, cells := 0, slots := 0, locals := 32 } : Room) (dk_Pc g D (dg_w g shM o rfM S) sz [.ref (o + 0), .int 1]) (va_Qi (fun (r : Int32) S' => S' = S ∧ (0 ≤ (r).toInt ∧ (r).toInt ≤ 1) ∧ ((r).toInt = 1 → ZT1M S') ∧ (r = F_m_isTold_1 o S) ∧ True) (dg_B g D shM o rfM) (dg_A o shM.length sz)) 0 0 (dg_A o shM.length sz) := by
  refine dg_met (cc := cX12_isTold) (maxL := 2) (ret := (some .boolean)) (dk_dq rfl) rfl (Nat.le_of_ble_eq_true rfl) ?_
  intro p e s m args below meth c A hAe harg hx hb hr hml hts hown hlocks hin hP K hS hA1 hA ST hsz ls hl
  rw [← hAe]
  have F : CallFix p m c cX12_isTold 2 s args (bw yX12_isTold cX12_isTold 2 (some .boolean)) RX12 := ⟨hx, hb, hml, hown, hts⟩
  have hl : lv_has ls 2 [(0, .ref (o + 0)), (1, .int 1)] := hl
  have M_0 : dg_sm shM [] [] S S := dg_sm.rf
  refine lv_aload_n hx hb dX12_isTold_0 rfl (lv_at hl 0 rfl) ?_
  refine dg_get (C := RX12) (T := TX12) (N := 77) hx hb hts (fun w h => bw_mem (wU_X12 w h)) hown K hP sM_0 rfl 28 (dk_dq rfl) (hts _ (bw_mem wB_449)) (fun _ h9 => h9) (v := .ref (o + 16)) (show S.1 0 28 = .ref (o + 16) from dg_I.rel (d := 16) I sM_0 (by decide +kernel)) dX12_isTold_1 ?_
  refine lv_iconst (v := 3) hx hb dX12_isTold_4 (by decide +kernel) ?_
  refine lv_aload_n hx hb dX12_isTold_5 rfl (lv_at hl 0 rfl) ?_
  obtain ⟨x_1, f_x_1, b_x_1⟩ := dg_I.int (i := 0) (k := 13) (lo := 0) (hi := 1) I sM_0 (by decide +kernel)
  refine dg_get (C := RX12) (T := TX12) (N := 77) hx hb hts (fun w h => bw_mem (wU_X12 w h)) hown K hP sM_0 rfl 13 (dk_dq rfl) (hts _ (bw_mem wB_1085)) (fun _ h9 => h9) (v := .int x_1) f_x_1 dX12_isTold_6 ?_
  refine lv_imul hx hb dX12_isTold_9 ?_
  refine lv_topi (fun x_2 ex_2 => ?_)
  have jx_2 : (x_2).toInt = 3 * (x_1).toInt := by rw [ex_2]; exact dk_mulT2 (by decide +kernel) rfl (by omega)
  refine lv_iload_n hx hb dX12_isTold_10 rfl (lv_at hl 1 rfl) ?_
  refine lv_iadd hx hb dX12_isTold_11 ?_
  refine lv_topi (fun x_3 ex_3 => ?_)
  have jx_3 : (x_3).toInt = (x_2).toInt + 1 := by rw [ex_3]; exact dk_addT2 rfl (by decide +kernel) (by omega)
  have hin_4 : vp_in x_3 6 := (dk_inv2 (by omega))
  refine dg_iald hx hb K hP sM_16 hin_4 dX12_isTold_12 (fun x_5 ex_5 => ?_)
  have b_x_5 := dk_all_at (dg_I.row (lo := (-1)) (hi := 1600) I sM_16 (by decide +kernel)) hin_4 ex_5
  refine lv_iconst (v := (-1)) hx hb dX12_isTold_13 (by decide +kernel) ?_
  refine lv_icmp_eq (tgt := 21) hx hb dX12_isTold_14 (dk_dq rfl) (fun c_6 => ?_) (fun c_6 => ?_)
  · have jc_6 := dk_eqc (k := (-1)) (by decide +kernel) c_6
    refine lv_iconst (v := 0) hx hb dX12_isTold_21 (by decide +kernel) ?_
    have hz_7 : (0 : Int32).toInt = 0 := by decide +kernel
    have hz_8 : (0 : Int32).toInt = 0 := by decide +kernel
    refine W.widen (k := 0) (n := 0) (Nat.le_of_ble_eq_true rfl) (Nat.le_of_ble_eq_true rfl) ?_
    exact dg_iret hx hb hr hlocks (by decide +kernel) hP hS ⟨rfl, (by decide +kernel), (fun h9 => absurd h9 (by decide +kernel)), (Eq.symm (F_m_isTold_1_p0 (zI_eq f_x_1) ex_2 ex_3 (Eq.symm ex_5.symm) c_6)), trivial⟩ dX12_isTold_22
  · have jc_6 := dk_neqc (k := (-1)) (by decide +kernel) c_6
    refine lv_iconst (v := 1) hx hb dX12_isTold_17 (by decide +kernel) ?_
    refine lv_goto (tgt := 22) hx hb dX12_isTold_18 (dk_dq rfl) ?_
    have hz_9 : (1 : Int32).toInt = 1 := by decide +kernel
    have hz_10 : (1 : Int32).toInt = 1 := by decide +kernel
    refine W.widen (k := 0) (n := 0) (Nat.le_of_ble_eq_true rfl) (Nat.le_of_ble_eq_true rfl) ?_
    exact dg_iret hx hb hr hlocks (by decide +kernel) hP hS ⟨rfl, (by decide +kernel), (fun _ b9 hb9 => by have q9 := (f_x_1).symm.trans hb9; cases q9; rw [show 3 * (x_1).toNatClampNeg + 1 = (x_3 : Int32).toNatClampNeg from by have h8 := (dk_inT hin_4).1; rw [dk_clN x_1]; omega, ← ex_5]; omega), (Eq.symm (F_m_isTold_1_p1 (zI_eq f_x_1) ex_2 ex_3 (Eq.symm ex_5.symm) c_6)), trivial⟩ dX12_isTold_22
noncomputable def F_m_isTold_2 (o : Nat) (S : dg_S) : Int32 := let x_1 : Int32 := zI S 0 13; let x_2 : Int32 := (3 : Int32) * x_1; let x_3 : Int32 := x_2 + (2 : Int32); let x_5 : Int32 := S.2.1 16 (x_3 : Int32).toNatClampNeg; (if x_5 = (-1 : Int32) then (0 : Int32) else (1 : Int32))
theorem F_m_isTold_2_p0 {o : Nat} {S : dg_S} {x_1 : Int32} {x_2 : Int32} {x_3 : Int32} {x_5 : Int32} (h0 : x_1 = zI S 0 13) (h1 : x_2 = (3 : Int32) * x_1) (h2 : x_3 = x_2 + (2 : Int32)) (h3 : x_5 = S.2.1 16 (x_3 : Int32).toNatClampNeg) (h4 : x_5 = (-1 : Int32)) : F_m_isTold_2 o S = (0 : Int32) := by
  replace h0 := Eq.symm h0
  subst h0
  replace h1 := Eq.symm h1
  subst h1
  replace h2 := Eq.symm h2
  subst h2
  replace h3 := Eq.symm h3
  subst h3
  exact (Eq.trans (if_pos h4) rfl)
theorem F_m_isTold_2_p1 {o : Nat} {S : dg_S} {x_1 : Int32} {x_2 : Int32} {x_3 : Int32} {x_5 : Int32} (h0 : x_1 = zI S 0 13) (h1 : x_2 = (3 : Int32) * x_1) (h2 : x_3 = x_2 + (2 : Int32)) (h3 : x_5 = S.2.1 16 (x_3 : Int32).toNatClampNeg) (h4 : ¬ (x_5 = (-1 : Int32))) : F_m_isTold_2 o S = (1 : Int32) := by
  replace h0 := Eq.symm h0
  subst h0
  replace h1 := Eq.symm h1
  subst h1
  replace h2 := Eq.symm h2
  subst h2
  replace h3 := Eq.symm h3
  subst h3
  exact (Eq.trans (if_neg h4) rfl)
set_option maxHeartbeats 8000000 in
set_option maxRecDepth 100000 in
theorem c_m_isTold_2 (l : Launch) (g : Nat → ClassId) (D : va_G) (o : Nat) (S : dg_S) (I : CM o S) (sz : Nat) : Met l yX12_isTold (bw yX12_isTold cX12_isTold 2 (some .boolean)) ({ frames := 1, cells := 0, slots := 0, locals := 32 } : Room) (dk_Pc g D (dg_w g shM o rfM S) sz [.ref (o + 0), .int 2]) (va_Qi (fun (r : Int32) S' => S' = S ∧ (0 ≤ (r).toInt ∧ (r).toInt ≤ 1) ∧ ((r).toInt = 1 → ZT2M S') ∧ (r = F_m_isTold_2 o S) ∧ True) (dg_B g D shM o rfM) (dg_A o shM.length sz)) 0 0 (dg_A o shM.length sz) := by
  refine dg_met (cc := cX12_isTold) (maxL := 2) (ret := (some .boolean)) (dk_dq rfl) rfl (Nat.le_of_ble_eq_true rfl) ?_
  intro p e s m args below meth c A hAe harg hx hb hr hml hts hown hlocks hin hP K hS hA1 hA ST hsz ls hl
  rw [← hAe]
  have F : CallFix p m c cX12_isTold 2 s args (bw yX12_isTold cX12_isTold 2 (some .boolean)) RX12 := ⟨hx, hb, hml, hown, hts⟩
  have hl : lv_has ls 2 [(0, .ref (o + 0)), (1, .int 2)] := hl
  have M_0 : dg_sm shM [] [] S S := dg_sm.rf
  refine lv_aload_n hx hb dX12_isTold_0 rfl (lv_at hl 0 rfl) ?_
  refine dg_get (C := RX12) (T := TX12) (N := 77) hx hb hts (fun w h => bw_mem (wU_X12 w h)) hown K hP sM_0 rfl 28 (dk_dq rfl) (hts _ (bw_mem wB_449)) (fun _ h9 => h9) (v := .ref (o + 16)) (show S.1 0 28 = .ref (o + 16) from dg_I.rel (d := 16) I sM_0 (by decide +kernel)) dX12_isTold_1 ?_
  refine lv_iconst (v := 3) hx hb dX12_isTold_4 (by decide +kernel) ?_
  refine lv_aload_n hx hb dX12_isTold_5 rfl (lv_at hl 0 rfl) ?_
  obtain ⟨x_1, f_x_1, b_x_1⟩ := dg_I.int (i := 0) (k := 13) (lo := 0) (hi := 1) I sM_0 (by decide +kernel)
  refine dg_get (C := RX12) (T := TX12) (N := 77) hx hb hts (fun w h => bw_mem (wU_X12 w h)) hown K hP sM_0 rfl 13 (dk_dq rfl) (hts _ (bw_mem wB_1085)) (fun _ h9 => h9) (v := .int x_1) f_x_1 dX12_isTold_6 ?_
  refine lv_imul hx hb dX12_isTold_9 ?_
  refine lv_topi (fun x_2 ex_2 => ?_)
  have jx_2 : (x_2).toInt = 3 * (x_1).toInt := by rw [ex_2]; exact dk_mulT2 (by decide +kernel) rfl (by omega)
  refine lv_iload_n hx hb dX12_isTold_10 rfl (lv_at hl 1 rfl) ?_
  refine lv_iadd hx hb dX12_isTold_11 ?_
  refine lv_topi (fun x_3 ex_3 => ?_)
  have jx_3 : (x_3).toInt = (x_2).toInt + 2 := by rw [ex_3]; exact dk_addT2 rfl (by decide +kernel) (by omega)
  have hin_4 : vp_in x_3 6 := (dk_inv2 (by omega))
  refine dg_iald hx hb K hP sM_16 hin_4 dX12_isTold_12 (fun x_5 ex_5 => ?_)
  have b_x_5 := dk_all_at (dg_I.row (lo := (-1)) (hi := 1600) I sM_16 (by decide +kernel)) hin_4 ex_5
  refine lv_iconst (v := (-1)) hx hb dX12_isTold_13 (by decide +kernel) ?_
  refine lv_icmp_eq (tgt := 21) hx hb dX12_isTold_14 (dk_dq rfl) (fun c_6 => ?_) (fun c_6 => ?_)
  · have jc_6 := dk_eqc (k := (-1)) (by decide +kernel) c_6
    refine lv_iconst (v := 0) hx hb dX12_isTold_21 (by decide +kernel) ?_
    have hz_7 : (0 : Int32).toInt = 0 := by decide +kernel
    have hz_8 : (0 : Int32).toInt = 0 := by decide +kernel
    refine W.widen (k := 0) (n := 0) (Nat.le_of_ble_eq_true rfl) (Nat.le_of_ble_eq_true rfl) ?_
    exact dg_iret hx hb hr hlocks (by decide +kernel) hP hS ⟨rfl, (by decide +kernel), (fun h9 => absurd h9 (by decide +kernel)), (Eq.symm (F_m_isTold_2_p0 (zI_eq f_x_1) ex_2 ex_3 (Eq.symm ex_5.symm) c_6)), trivial⟩ dX12_isTold_22
  · have jc_6 := dk_neqc (k := (-1)) (by decide +kernel) c_6
    refine lv_iconst (v := 1) hx hb dX12_isTold_17 (by decide +kernel) ?_
    refine lv_goto (tgt := 22) hx hb dX12_isTold_18 (dk_dq rfl) ?_
    have hz_9 : (1 : Int32).toInt = 1 := by decide +kernel
    have hz_10 : (1 : Int32).toInt = 1 := by decide +kernel
    refine W.widen (k := 0) (n := 0) (Nat.le_of_ble_eq_true rfl) (Nat.le_of_ble_eq_true rfl) ?_
    exact dg_iret hx hb hr hlocks (by decide +kernel) hP hS ⟨rfl, (by decide +kernel), (fun _ b9 hb9 => by have q9 := (f_x_1).symm.trans hb9; cases q9; rw [show 3 * (x_1).toNatClampNeg + 2 = (x_3 : Int32).toNatClampNeg from by have h8 := (dk_inT hin_4).1; rw [dk_clN x_1]; omega, ← ex_5]; omega), (Eq.symm (F_m_isTold_2_p1 (zI_eq f_x_1) ex_2 ex_3 (Eq.symm ex_5.symm) c_6)), trivial⟩ dX12_isTold_22
noncomputable def F_m_besideOf (o : Nat) (S : dg_S) (a1 : Int32) (a2 : Int32) : Int32 := let bk : Int32 := zI S 0 13; let sm : Int32 := zI S 0 47; let cb : Int32 := S.2.1 2 (bk : Int32).toNatClampNeg; let rb : Int32 := S.2.1 3 (bk : Int32).toNatClampNeg; let x_1 : Int32 := a1 - a1 / (8 : Int32) * (8 : Int32); (if a2 = (1 : Int32) then let x_31 : Int32 := x_1 + (1 : Int32); let x_32 : Int32 := a1 / (8 : Int32); let x_33 : Int32 := F_m_isCell o S x_31 x_32; (if x_33 = (0 : Int32) then (-1 : Int32) else let x_38 : Int32 := (8 : Int32) * x_32; let x_39 : Int32 := x_38 + x_31; x_39) else (if a2 = (3 : Int32) then let x_22 : Int32 := x_1 + (-1 : Int32); let x_23 : Int32 := a1 / (8 : Int32); let x_24 : Int32 := F_m_isCell o S x_22 x_23; (if x_24 = (0 : Int32) then (-1 : Int32) else let x_29 : Int32 := (8 : Int32) * x_23; let x_30 : Int32 := x_29 + x_22; x_30) else let x_4 : Int32 := a1 / (8 : Int32); (if a2 = (2 : Int32) then let x_14 : Int32 := x_4 + (1 : Int32); let x_15 : Int32 := F_m_isCell o S x_1 x_14; (if x_15 = (0 : Int32) then (-1 : Int32) else let x_20 : Int32 := (8 : Int32) * x_14; let x_21 : Int32 := x_20 + x_1; x_21) else let x_6 : Int32 := x_4 + (-1 : Int32); let x_7 : Int32 := F_m_isCell o S x_1 x_6; (if x_7 = (0 : Int32) then (-1 : Int32) else let x_12 : Int32 := (8 : Int32) * x_6; let x_13 : Int32 := x_12 + x_1; x_13))))
theorem F_m_besideOf_p0 {o : Nat} {S : dg_S} {a1 : Int32} {a2 : Int32} {x_1 : Int32} {x_4 : Int32} {x_6 : Int32} {x_7 : Int32} (h0 : x_1 = a1 - a1 / (8 : Int32) * (8 : Int32)) (h1 : ¬ (a2 = (1 : Int32))) (h2 : ¬ (a2 = (3 : Int32))) (h3 : x_4 = a1 / (8 : Int32)) (h4 : ¬ (a2 = (2 : Int32))) (h5 : x_6 = x_4 + (-1 : Int32)) (h6 : x_7 = F_m_isCell o S x_1 x_6) (h7 : x_7 = (0 : Int32)) : F_m_besideOf o S a1 a2 = (-1 : Int32) := by
  replace h0 := Eq.symm h0
  subst h0
  replace h3 := Eq.symm h3
  subst h3
  replace h5 := Eq.symm h5
  subst h5
  replace h6 := Eq.symm h6
  subst h6
  exact (Eq.trans (if_neg h1) (Eq.trans (if_neg h2) (Eq.trans (if_neg h4) (Eq.trans (if_pos h7) rfl))))
theorem F_m_besideOf_p1 {o : Nat} {S : dg_S} {a1 : Int32} {a2 : Int32} {x_13 : Int32} {x_1 : Int32} {x_4 : Int32} {x_6 : Int32} {x_7 : Int32} {x_12 : Int32} (h0 : x_1 = a1 - a1 / (8 : Int32) * (8 : Int32)) (h1 : ¬ (a2 = (1 : Int32))) (h2 : ¬ (a2 = (3 : Int32))) (h3 : x_4 = a1 / (8 : Int32)) (h4 : ¬ (a2 = (2 : Int32))) (h5 : x_6 = x_4 + (-1 : Int32)) (h6 : x_7 = F_m_isCell o S x_1 x_6) (h7 : ¬ (x_7 = (0 : Int32))) (h8 : x_12 = (8 : Int32) * x_6) (h9 : x_13 = x_12 + x_1) : F_m_besideOf o S a1 a2 = x_13 := by
  replace h0 := Eq.symm h0
  subst h0
  replace h3 := Eq.symm h3
  subst h3
  replace h5 := Eq.symm h5
  subst h5
  replace h6 := Eq.symm h6
  subst h6
  replace h8 := Eq.symm h8
  subst h8
  replace h9 := Eq.symm h9
  subst h9
  exact (Eq.trans (if_neg h1) (Eq.trans (if_neg h2) (Eq.trans (if_neg h4) (Eq.trans (if_neg h7) rfl))))
theorem F_m_besideOf_p2 {o : Nat} {S : dg_S} {a1 : Int32} {a2 : Int32} {x_1 : Int32} {x_4 : Int32} {x_14 : Int32} {x_15 : Int32} (h0 : x_1 = a1 - a1 / (8 : Int32) * (8 : Int32)) (h1 : ¬ (a2 = (1 : Int32))) (h2 : ¬ (a2 = (3 : Int32))) (h3 : x_4 = a1 / (8 : Int32)) (h4 : a2 = (2 : Int32)) (h5 : x_14 = x_4 + (1 : Int32)) (h6 : x_15 = F_m_isCell o S x_1 x_14) (h7 : x_15 = (0 : Int32)) : F_m_besideOf o S a1 a2 = (-1 : Int32) := by
  replace h0 := Eq.symm h0
  subst h0
  replace h3 := Eq.symm h3
  subst h3
  replace h5 := Eq.symm h5
  subst h5
  replace h6 := Eq.symm h6
  subst h6
  exact (Eq.trans (if_neg h1) (Eq.trans (if_neg h2) (Eq.trans (if_pos h4) (Eq.trans (if_pos h7) rfl))))
theorem F_m_besideOf_p3 {o : Nat} {S : dg_S} {a1 : Int32} {a2 : Int32} {x_21 : Int32} {x_1 : Int32} {x_4 : Int32} {x_14 : Int32} {x_15 : Int32} {x_20 : Int32} (h0 : x_1 = a1 - a1 / (8 : Int32) * (8 : Int32)) (h1 : ¬ (a2 = (1 : Int32))) (h2 : ¬ (a2 = (3 : Int32))) (h3 : x_4 = a1 / (8 : Int32)) (h4 : a2 = (2 : Int32)) (h5 : x_14 = x_4 + (1 : Int32)) (h6 : x_15 = F_m_isCell o S x_1 x_14) (h7 : ¬ (x_15 = (0 : Int32))) (h8 : x_20 = (8 : Int32) * x_14) (h9 : x_21 = x_20 + x_1) : F_m_besideOf o S a1 a2 = x_21 := by
  replace h0 := Eq.symm h0
  subst h0
  replace h3 := Eq.symm h3
  subst h3
  replace h5 := Eq.symm h5
  subst h5
  replace h6 := Eq.symm h6
  subst h6
  replace h8 := Eq.symm h8
  subst h8
  replace h9 := Eq.symm h9
  subst h9
  exact (Eq.trans (if_neg h1) (Eq.trans (if_neg h2) (Eq.trans (if_pos h4) (Eq.trans (if_neg h7) rfl))))
theorem F_m_besideOf_p4 {o : Nat} {S : dg_S} {a1 : Int32} {a2 : Int32} {x_1 : Int32} {x_22 : Int32} {x_23 : Int32} {x_24 : Int32} (h0 : x_1 = a1 - a1 / (8 : Int32) * (8 : Int32)) (h1 : ¬ (a2 = (1 : Int32))) (h2 : a2 = (3 : Int32)) (h3 : x_22 = x_1 + (-1 : Int32)) (h4 : x_23 = a1 / (8 : Int32)) (h5 : x_24 = F_m_isCell o S x_22 x_23) (h6 : x_24 = (0 : Int32)) : F_m_besideOf o S a1 a2 = (-1 : Int32) := by
  replace h0 := Eq.symm h0
  subst h0
  replace h3 := Eq.symm h3
  subst h3
  replace h4 := Eq.symm h4
  subst h4
  replace h5 := Eq.symm h5
  subst h5
  exact (Eq.trans (if_neg h1) (Eq.trans (if_pos h2) (Eq.trans (if_pos h6) rfl)))
theorem F_m_besideOf_p5 {o : Nat} {S : dg_S} {a1 : Int32} {a2 : Int32} {x_30 : Int32} {x_1 : Int32} {x_22 : Int32} {x_23 : Int32} {x_24 : Int32} {x_29 : Int32} (h0 : x_1 = a1 - a1 / (8 : Int32) * (8 : Int32)) (h1 : ¬ (a2 = (1 : Int32))) (h2 : a2 = (3 : Int32)) (h3 : x_22 = x_1 + (-1 : Int32)) (h4 : x_23 = a1 / (8 : Int32)) (h5 : x_24 = F_m_isCell o S x_22 x_23) (h6 : ¬ (x_24 = (0 : Int32))) (h7 : x_29 = (8 : Int32) * x_23) (h8 : x_30 = x_29 + x_22) : F_m_besideOf o S a1 a2 = x_30 := by
  replace h0 := Eq.symm h0
  subst h0
  replace h3 := Eq.symm h3
  subst h3
  replace h4 := Eq.symm h4
  subst h4
  replace h5 := Eq.symm h5
  subst h5
  replace h7 := Eq.symm h7
  subst h7
  replace h8 := Eq.symm h8
  subst h8
  exact (Eq.trans (if_neg h1) (Eq.trans (if_pos h2) (Eq.trans (if_neg h6) rfl)))
theorem F_m_besideOf_p6 {o : Nat} {S : dg_S} {a1 : Int32} {a2 : Int32} {x_1 : Int32} {x_31 : Int32} {x_32 : Int32} {x_33 : Int32} (h0 : x_1 = a1 - a1 / (8 : Int32) * (8 : Int32)) (h1 : a2 = (1 : Int32)) (h2 : x_31 = x_1 + (1 : Int32)) (h3 : x_32 = a1 / (8 : Int32)) (h4 : x_33 = F_m_isCell o S x_31 x_32) (h5 : x_33 = (0 : Int32)) : F_m_besideOf o S a1 a2 = (-1 : Int32) := by
  replace h0 := Eq.symm h0
  subst h0
  replace h2 := Eq.symm h2
  subst h2
  replace h3 := Eq.symm h3
  subst h3
  replace h4 := Eq.symm h4
  subst h4
  exact (Eq.trans (if_pos h1) (Eq.trans (if_pos h5) rfl))
theorem F_m_besideOf_p7 {o : Nat} {S : dg_S} {a1 : Int32} {a2 : Int32} {x_39 : Int32} {x_1 : Int32} {x_31 : Int32} {x_32 : Int32} {x_33 : Int32} {x_38 : Int32} (h0 : x_1 = a1 - a1 / (8 : Int32) * (8 : Int32)) (h1 : a2 = (1 : Int32)) (h2 : x_31 = x_1 + (1 : Int32)) (h3 : x_32 = a1 / (8 : Int32)) (h4 : x_33 = F_m_isCell o S x_31 x_32) (h5 : ¬ (x_33 = (0 : Int32))) (h6 : x_38 = (8 : Int32) * x_32) (h7 : x_39 = x_38 + x_31) : F_m_besideOf o S a1 a2 = x_39 := by
  replace h0 := Eq.symm h0
  subst h0
  replace h2 := Eq.symm h2
  subst h2
  replace h3 := Eq.symm h3
  subst h3
  replace h4 := Eq.symm h4
  subst h4
  replace h6 := Eq.symm h6
  subst h6
  replace h7 := Eq.symm h7
  subst h7
  exact (Eq.trans (if_pos h1) (Eq.trans (if_neg h5) rfl))
set_option maxHeartbeats 8000000 in
set_option maxRecDepth 100000 in
theorem c_m_besideOf (l : Launch) (g : Nat → ClassId) (D : va_G) (o : Nat) (S : dg_S) (a1 : Int32) (b_a1 : 0 ≤ (a1).toInt ∧ (a1).toInt ≤ 63) (a2 : Int32) (b_a2 : 0 ≤ (a2).toInt ∧ (a2).toInt ≤ 3) (bk : Int32) (f_bk : S.1 0 13 = .int bk) (b_bk : 0 ≤ (bk).toInt ∧ (bk).toInt ≤ 1) (sm : Int32) (f_sm : S.1 0 47 = .int sm) (b_sm : 0 ≤ (sm).toInt ∧ (sm).toInt ≤ 1) (cb : Int32) (f_cb : S.2.1 2 (bk : Int32).toNatClampNeg = cb) (b_cb : 0 ≤ (cb).toInt ∧ (cb).toInt ≤ 7) (rb : Int32) (f_rb : S.2.1 3 (bk : Int32).toNatClampNeg = rb) (b_rb : 0 ≤ (rb).toInt ∧ (rb).toInt ≤ 7) (ZB : ZBM S) (I : CM o S) (sz : Nat) : Met l yX12_besideOf (bw yX12_besideOf cX12_besideOf 5 (some .int)) ({ frames := 3, cells := 0, slots := 0, locals := 76 } : Room) (dk_Pc g D (dg_w g shM o rfM S) sz [.ref (o + 0), .int a1, .int a2]) (va_Qi (fun (r : Int32) S' => S' = S ∧ (((-1) ≤ (r).toInt ∧ (r).toInt ≤ 54) ∧ ((r).toInt ≤ (-1) ∨ 0 ≤ (r).toInt)) ∧ ((r).toInt ≠ -1 ↔ ((sm).toInt = 1 ∧ 0 ≤ (a1).toInt % 8 + dk_dC (a2).toInt ∧ (a1).toInt % 8 + dk_dC (a2).toInt < (cb).toInt ∧ 0 ≤ (a1).toInt / 8 + dk_dR (a2).toInt ∧ (a1).toInt / 8 + dk_dR (a2).toInt < (rb).toInt)) ∧ (r = F_m_besideOf o S a1 a2) ∧ True) (dg_B g D shM o rfM) (dg_A o shM.length sz)) 0 0 (dg_A o shM.length sz) := by
  refine dg_met (cc := cX12_besideOf) (maxL := 5) (ret := (some .int)) (dk_dq rfl) rfl (Nat.le_of_ble_eq_true rfl) ?_
  intro p e s m args below meth c A hAe harg hx hb hr hml hts hown hlocks hin hP K hS hA1 hA ST hsz ls hl
  rw [← hAe]
  have F : CallFix p m c cX12_besideOf 5 s args (bw yX12_besideOf cX12_besideOf 5 (some .int)) RX12 := ⟨hx, hb, hml, hown, hts⟩
  have hl : lv_has ls 5 [(0, .ref (o + 0)), (1, .int a1), (2, .int a2)] := hl
  have M_0 : dg_sm shM [] [] S S := dg_sm.rf
  refine lv_iload_n hx hb dX12_besideOf_0 rfl (lv_at hl 1 rfl) ?_
  refine lv_bipush (v := 8) hx hb dX12_besideOf_1 (by decide +kernel) ?_
  refine lv_irem hx hb dX12_besideOf_3 (by decide +kernel) ?_
  refine lv_topi (fun x_1 ex_1 => ?_)
  have jx_1 : (x_1).toInt = (a1).toInt % 8 := by rw [ex_1]; exact dk_remL (by omega) (by decide +kernel) (dk_dq rfl)
  refine lv_iload_n hx hb dX12_besideOf_4 rfl (lv_at hl 2 rfl) ?_
  refine lv_iconst (v := 1) hx hb dX12_besideOf_5 (by decide +kernel) ?_
  refine lv_icmp_ne (tgt := 13) hx hb dX12_besideOf_6 (dk_dq rfl) (fun c_2 => ?_) (fun c_2 => ?_)
  · as_aux_lemma =>
      have jc_2 := dk_neqc (k := 1) (by decide +kernel) c_2
      refine lv_iload_n hx hb dX12_besideOf_13 rfl (lv_at hl 2 rfl) ?_
      refine lv_iconst (v := 3) hx hb dX12_besideOf_14 (by decide +kernel) ?_
      refine lv_icmp_ne (tgt := 22) hx hb dX12_besideOf_15 (dk_dq rfl) (fun c_3 => ?_) (fun c_3 => ?_)
      · as_aux_lemma =>
          have jc_3 := dk_neqc (k := 3) (by decide +kernel) c_3
          refine lv_iconst (v := 0) hx hb dX12_besideOf_22 (by decide +kernel) ?_
          refine lv_iadd hx hb dX12_besideOf_23 ?_
          refine dk_top (y := x_1) (by simp) ?_
          refine lv_istore_n (lv' := [(3, .int x_1), (0, .ref (o + 0)), (1, .int a1), (2, .int a2)]) hx hb dX12_besideOf_24 rfl hl (dk_dq rfl) rfl (fun ls hl => ?_)
          refine lv_iload_n hx hb dX12_besideOf_25 rfl (lv_at hl 2 rfl) ?_
          refine lv_bipush (v := 8) hx hb dX12_besideOf_26 (by decide +kernel) ?_
          refine lv_idiv hx hb dX12_besideOf_28 (by decide +kernel) ?_
          refine lv_topi (fun x_4 ex_4 => ?_)
          have jx_4 : (x_4).toInt = (a1).toInt / 8 := by rw [ex_4]; exact dk_divL (by omega) (by decide +kernel) (dk_dq rfl)
          refine lv_iload_n hx hb dX12_besideOf_29 rfl (lv_at hl 3 rfl) ?_
          refine lv_iconst (v := 2) hx hb dX12_besideOf_30 (by decide +kernel) ?_
          refine lv_icmp_ne (tgt := 38) hx hb dX12_besideOf_31 (dk_dq rfl) (fun c_5 => ?_) (fun c_5 => ?_)
          · as_aux_lemma =>
              have jc_5 := dk_neqc (k := 2) (by decide +kernel) c_5
              refine lv_iload_n hx hb dX12_besideOf_38 rfl (lv_at hl 3 rfl) ?_
              refine lv_if_ne (tgt := 46) hx hb dX12_besideOf_39 (dk_dq rfl) (fun c => absurd (dk_eqp (k := 0) (by decide +kernel) (by omega)) c) (fun _ => ?_)
              refine lv_iconst (v := (-1)) hx hb dX12_besideOf_42 (by decide +kernel) ?_
              refine lv_goto (tgt := 47) hx hb dX12_besideOf_43 (dk_dq rfl) ?_
              refine lv_iadd hx hb dX12_besideOf_47 ?_
              refine lv_topi (fun x_6 ex_6 => ?_)
              have jx_6 : (x_6).toInt = (x_4).toInt + (-1) := by rw [ex_6]; exact dk_addT2 rfl (by decide +kernel) (by omega)
              refine lv_istore (lv' := [(4, .int x_6), (3, .int x_1), (0, .ref (o + 0)), (1, .int a1), (2, .int a2)]) hx hb dX12_besideOf_48 hl (dk_dq rfl) rfl (fun ls hl => ?_)
              refine lv_aload_n hx hb dX12_besideOf_50 rfl (lv_at hl 2 rfl) ?_
              refine lv_iload_n hx hb dX12_besideOf_51 rfl (lv_at hl 1 rfl) ?_
              refine lv_iload hx hb dX12_besideOf_52 (lv_at hl 0 rfl) ?_
              refine dg_calli hS hA1 hA (va_runV (As := [.int x_1, .int x_6]) (rest := []) F (c_m_isCell l g D o S x_1 x_6 bk f_bk (by omega) sm f_sm (by omega) cb f_cb (by omega) rb f_rb (by omega) ZB I s.heap.size) (cwV 2 hts (bw_V wB_1087 wB_1088 wB_1089 wB_297 wB_1086) rfl rfl rfl (by decide +kernel) ⟨Nat.le_of_ble_eq_true rfl, Nat.le_of_ble_eq_true rfl⟩) (dg_preV sM_0 rfl K ST hP hS hA1 hA) rfl rfl hl.1 rfl (lv_room (Nat.le_of_ble_eq_true rfl)) dX12_besideOf_54 ⟨Nat.le_of_ble_eq_true rfl, Nat.le_of_ble_eq_true rfl⟩) (fun x_7 S_8 hw_8 H locs hP hS => ?_)
              rw [hw_8.1] at hP
              obtain ⟨hq_8, w_8_0, w_8_1, w_8_2, w_8_3, -⟩ := hw_8
              have w_8_0 : 0 ≤ (x_7).toInt ∧ (x_7).toInt ≤ 1 := w_8_0
              have w_8_1 : (x_7).toInt = 1 → (0 ≤ (x_1).toInt ∧ (x_1).toInt ≤ 6 ∧ 0 ≤ (x_6).toInt ∧ (x_6).toInt ≤ 6) := w_8_1
              have w_8_2 : (x_7).toInt = 1 ↔ ((sm).toInt = 1 ∧ 0 ≤ (x_1).toInt ∧ (x_1).toInt < (cb).toInt ∧ 0 ≤ (x_6).toInt ∧ (x_6).toInt < (rb).toInt) := w_8_2
              refine lv_if_eq (tgt := 70) hx hb dX12_besideOf_57 (dk_dq rfl) (fun c_9 => ?_) (fun c_9 => ?_)
              · have jc_9 := dk_eqc (k := 0) (by decide +kernel) c_9
                refine lv_iconst (v := (-1)) hx hb dX12_besideOf_70 (by decide +kernel) ?_
                have hz_10 : (-1 : Int32).toInt = (-1) := by decide +kernel
                have hz_11 : (-1 : Int32).toInt = (-1) := by decide +kernel
                have hdc : dk_dC (a2).toInt = 0 := by unfold dk_dC; split <;> (try split) <;> omega
                have hdr : dk_dR (a2).toInt = -1 := by unfold dk_dR; split <;> (try split) <;> omega
                refine W.widen (k := 0) (n := 0) (Nat.le_of_ble_eq_true rfl) (Nat.le_of_ble_eq_true rfl) ?_
                exact dg_iret hx hb hr hlocks rfl hP hS ⟨rfl, (by decide +kernel), (by rw [hdc, hdr]; omega), (Eq.symm (F_m_besideOf_p0 ex_1 c_2 c_3 ex_4 c_5 ex_6 w_8_3 c_9)), trivial⟩ dX12_besideOf_71
              · have jc_9 := dk_neqc (k := 0) (by decide +kernel) c_9
                refine lv_bipush (v := 8) hx hb dX12_besideOf_60 (by decide +kernel) ?_
                refine lv_iload hx hb dX12_besideOf_62 (lv_at hl 0 rfl) ?_
                refine lv_imul hx hb dX12_besideOf_64 ?_
                refine lv_topi (fun x_12 ex_12 => ?_)
                have jx_12 : (x_12).toInt = 8 * (x_6).toInt := by rw [ex_12]; exact dk_mulT2 (by decide +kernel) rfl (by omega)
                refine lv_iload_n hx hb dX12_besideOf_65 rfl (lv_at hl 1 rfl) ?_
                refine lv_iadd hx hb dX12_besideOf_66 ?_
                refine lv_topi (fun x_13 ex_13 => ?_)
                have jx_13 : (x_13).toInt = (x_12).toInt + (x_1).toInt := by rw [ex_13]; exact dk_addT2 rfl rfl (by omega)
                refine lv_goto (tgt := 71) hx hb dX12_besideOf_67 (dk_dq rfl) ?_
                have hdc : dk_dC (a2).toInt = 0 := by unfold dk_dC; split <;> (try split) <;> omega
                have hdr : dk_dR (a2).toInt = -1 := by unfold dk_dR; split <;> (try split) <;> omega
                refine W.widen (k := 0) (n := 0) (Nat.le_of_ble_eq_true rfl) (Nat.le_of_ble_eq_true rfl) ?_
                exact dg_iret hx hb hr hlocks rfl hP hS ⟨rfl, (by omega), (by rw [hdc, hdr]; omega), (Eq.symm (F_m_besideOf_p1 ex_1 c_2 c_3 ex_4 c_5 ex_6 w_8_3 c_9 ex_12 ex_13)), trivial⟩ dX12_besideOf_71
          · as_aux_lemma =>
              have jc_5 := dk_eqc (k := 2) (by decide +kernel) c_5
              refine lv_iconst (v := 1) hx hb dX12_besideOf_34 (by decide +kernel) ?_
              refine lv_goto (tgt := 47) hx hb dX12_besideOf_35 (dk_dq rfl) ?_
              refine lv_iadd hx hb dX12_besideOf_47 ?_
              refine lv_topi (fun x_14 ex_14 => ?_)
              have jx_14 : (x_14).toInt = (x_4).toInt + 1 := by rw [ex_14]; exact dk_addT2 rfl (by decide +kernel) (by omega)
              refine lv_istore (lv' := [(4, .int x_14), (3, .int x_1), (0, .ref (o + 0)), (1, .int a1), (2, .int a2)]) hx hb dX12_besideOf_48 hl (dk_dq rfl) rfl (fun ls hl => ?_)
              refine lv_aload_n hx hb dX12_besideOf_50 rfl (lv_at hl 2 rfl) ?_
              refine lv_iload_n hx hb dX12_besideOf_51 rfl (lv_at hl 1 rfl) ?_
              refine lv_iload hx hb dX12_besideOf_52 (lv_at hl 0 rfl) ?_
              refine dg_calli hS hA1 hA (va_runV (As := [.int x_1, .int x_14]) (rest := []) F (c_m_isCell l g D o S x_1 x_14 bk f_bk (by omega) sm f_sm (by omega) cb f_cb (by omega) rb f_rb (by omega) ZB I s.heap.size) (cwV 2 hts (bw_V wB_1087 wB_1088 wB_1089 wB_297 wB_1086) rfl rfl rfl (by decide +kernel) ⟨Nat.le_of_ble_eq_true rfl, Nat.le_of_ble_eq_true rfl⟩) (dg_preV sM_0 rfl K ST hP hS hA1 hA) rfl rfl hl.1 rfl (lv_room (Nat.le_of_ble_eq_true rfl)) dX12_besideOf_54 ⟨Nat.le_of_ble_eq_true rfl, Nat.le_of_ble_eq_true rfl⟩) (fun x_15 S_16 hw_16 H locs hP hS => ?_)
              rw [hw_16.1] at hP
              obtain ⟨hq_16, w_16_0, w_16_1, w_16_2, w_16_3, -⟩ := hw_16
              have w_16_0 : 0 ≤ (x_15).toInt ∧ (x_15).toInt ≤ 1 := w_16_0
              have w_16_1 : (x_15).toInt = 1 → (0 ≤ (x_1).toInt ∧ (x_1).toInt ≤ 6 ∧ 0 ≤ (x_14).toInt ∧ (x_14).toInt ≤ 6) := w_16_1
              have w_16_2 : (x_15).toInt = 1 ↔ ((sm).toInt = 1 ∧ 0 ≤ (x_1).toInt ∧ (x_1).toInt < (cb).toInt ∧ 0 ≤ (x_14).toInt ∧ (x_14).toInt < (rb).toInt) := w_16_2
              refine lv_if_eq (tgt := 70) hx hb dX12_besideOf_57 (dk_dq rfl) (fun c_17 => ?_) (fun c_17 => ?_)
              · have jc_17 := dk_eqc (k := 0) (by decide +kernel) c_17
                refine lv_iconst (v := (-1)) hx hb dX12_besideOf_70 (by decide +kernel) ?_
                have hz_18 : (-1 : Int32).toInt = (-1) := by decide +kernel
                have hz_19 : (-1 : Int32).toInt = (-1) := by decide +kernel
                have hdc : dk_dC (a2).toInt = 0 := by unfold dk_dC; split <;> (try split) <;> omega
                have hdr : dk_dR (a2).toInt = 1 := by unfold dk_dR; split <;> (try split) <;> omega
                refine W.widen (k := 0) (n := 0) (Nat.le_of_ble_eq_true rfl) (Nat.le_of_ble_eq_true rfl) ?_
                exact dg_iret hx hb hr hlocks rfl hP hS ⟨rfl, (by decide +kernel), (by rw [hdc, hdr]; omega), (Eq.symm (F_m_besideOf_p2 ex_1 c_2 c_3 ex_4 c_5 ex_14 w_16_3 c_17)), trivial⟩ dX12_besideOf_71
              · have jc_17 := dk_neqc (k := 0) (by decide +kernel) c_17
                refine lv_bipush (v := 8) hx hb dX12_besideOf_60 (by decide +kernel) ?_
                refine lv_iload hx hb dX12_besideOf_62 (lv_at hl 0 rfl) ?_
                refine lv_imul hx hb dX12_besideOf_64 ?_
                refine lv_topi (fun x_20 ex_20 => ?_)
                have jx_20 : (x_20).toInt = 8 * (x_14).toInt := by rw [ex_20]; exact dk_mulT2 (by decide +kernel) rfl (by omega)
                refine lv_iload_n hx hb dX12_besideOf_65 rfl (lv_at hl 1 rfl) ?_
                refine lv_iadd hx hb dX12_besideOf_66 ?_
                refine lv_topi (fun x_21 ex_21 => ?_)
                have jx_21 : (x_21).toInt = (x_20).toInt + (x_1).toInt := by rw [ex_21]; exact dk_addT2 rfl rfl (by omega)
                refine lv_goto (tgt := 71) hx hb dX12_besideOf_67 (dk_dq rfl) ?_
                have hdc : dk_dC (a2).toInt = 0 := by unfold dk_dC; split <;> (try split) <;> omega
                have hdr : dk_dR (a2).toInt = 1 := by unfold dk_dR; split <;> (try split) <;> omega
                refine W.widen (k := 0) (n := 0) (Nat.le_of_ble_eq_true rfl) (Nat.le_of_ble_eq_true rfl) ?_
                exact dg_iret hx hb hr hlocks rfl hP hS ⟨rfl, (by omega), (by rw [hdc, hdr]; omega), (Eq.symm (F_m_besideOf_p3 ex_1 c_2 c_3 ex_4 c_5 ex_14 w_16_3 c_17 ex_20 ex_21)), trivial⟩ dX12_besideOf_71
      · as_aux_lemma =>
          have jc_3 := dk_eqc (k := 3) (by decide +kernel) c_3
          refine lv_iconst (v := (-1)) hx hb dX12_besideOf_18 (by decide +kernel) ?_
          refine lv_goto (tgt := 23) hx hb dX12_besideOf_19 (dk_dq rfl) ?_
          refine lv_iadd hx hb dX12_besideOf_23 ?_
          refine lv_topi (fun x_22 ex_22 => ?_)
          have jx_22 : (x_22).toInt = (x_1).toInt + (-1) := by rw [ex_22]; exact dk_addT2 rfl (by decide +kernel) (by omega)
          refine lv_istore_n (lv' := [(3, .int x_22), (0, .ref (o + 0)), (1, .int a1), (2, .int a2)]) hx hb dX12_besideOf_24 rfl hl (dk_dq rfl) rfl (fun ls hl => ?_)
          refine lv_iload_n hx hb dX12_besideOf_25 rfl (lv_at hl 2 rfl) ?_
          refine lv_bipush (v := 8) hx hb dX12_besideOf_26 (by decide +kernel) ?_
          refine lv_idiv hx hb dX12_besideOf_28 (by decide +kernel) ?_
          refine lv_topi (fun x_23 ex_23 => ?_)
          have jx_23 : (x_23).toInt = (a1).toInt / 8 := by rw [ex_23]; exact dk_divL (by omega) (by decide +kernel) (dk_dq rfl)
          refine lv_iload_n hx hb dX12_besideOf_29 rfl (lv_at hl 3 rfl) ?_
          refine lv_iconst (v := 2) hx hb dX12_besideOf_30 (by decide +kernel) ?_
          refine lv_icmp_ne (tgt := 38) hx hb dX12_besideOf_31 (dk_dq rfl) (fun _ => ?_) (fun c => absurd c (fun z => absurd (dk_eqc (k := 2) (by decide +kernel) z) (by omega)))
          refine lv_iload_n hx hb dX12_besideOf_38 rfl (lv_at hl 3 rfl) ?_
          refine lv_if_ne (tgt := 46) hx hb dX12_besideOf_39 (dk_dq rfl) (fun _ => ?_) (fun c => absurd c (fun z => absurd (dk_eqc (k := 0) (by decide +kernel) z) (by omega)))
          refine lv_iconst (v := 0) hx hb dX12_besideOf_46 (by decide +kernel) ?_
          refine lv_iadd hx hb dX12_besideOf_47 ?_
          refine dk_top (y := x_23) (by simp) ?_
          refine lv_istore (lv' := [(4, .int x_23), (3, .int x_22), (0, .ref (o + 0)), (1, .int a1), (2, .int a2)]) hx hb dX12_besideOf_48 hl (dk_dq rfl) rfl (fun ls hl => ?_)
          refine lv_aload_n hx hb dX12_besideOf_50 rfl (lv_at hl 2 rfl) ?_
          refine lv_iload_n hx hb dX12_besideOf_51 rfl (lv_at hl 1 rfl) ?_
          refine lv_iload hx hb dX12_besideOf_52 (lv_at hl 0 rfl) ?_
          refine dg_calli hS hA1 hA (va_runV (As := [.int x_22, .int x_23]) (rest := []) F (c_m_isCell l g D o S x_22 x_23 bk f_bk (by omega) sm f_sm (by omega) cb f_cb (by omega) rb f_rb (by omega) ZB I s.heap.size) (cwV 2 hts (bw_V wB_1087 wB_1088 wB_1089 wB_297 wB_1086) rfl rfl rfl (by decide +kernel) ⟨Nat.le_of_ble_eq_true rfl, Nat.le_of_ble_eq_true rfl⟩) (dg_preV sM_0 rfl K ST hP hS hA1 hA) rfl rfl hl.1 rfl (lv_room (Nat.le_of_ble_eq_true rfl)) dX12_besideOf_54 ⟨Nat.le_of_ble_eq_true rfl, Nat.le_of_ble_eq_true rfl⟩) (fun x_24 S_25 hw_25 H locs hP hS => ?_)
          rw [hw_25.1] at hP
          obtain ⟨hq_25, w_25_0, w_25_1, w_25_2, w_25_3, -⟩ := hw_25
          have w_25_0 : 0 ≤ (x_24).toInt ∧ (x_24).toInt ≤ 1 := w_25_0
          have w_25_1 : (x_24).toInt = 1 → (0 ≤ (x_22).toInt ∧ (x_22).toInt ≤ 6 ∧ 0 ≤ (x_23).toInt ∧ (x_23).toInt ≤ 6) := w_25_1
          have w_25_2 : (x_24).toInt = 1 ↔ ((sm).toInt = 1 ∧ 0 ≤ (x_22).toInt ∧ (x_22).toInt < (cb).toInt ∧ 0 ≤ (x_23).toInt ∧ (x_23).toInt < (rb).toInt) := w_25_2
          refine lv_if_eq (tgt := 70) hx hb dX12_besideOf_57 (dk_dq rfl) (fun c_26 => ?_) (fun c_26 => ?_)
          · have jc_26 := dk_eqc (k := 0) (by decide +kernel) c_26
            refine lv_iconst (v := (-1)) hx hb dX12_besideOf_70 (by decide +kernel) ?_
            have hz_27 : (-1 : Int32).toInt = (-1) := by decide +kernel
            have hz_28 : (-1 : Int32).toInt = (-1) := by decide +kernel
            have hdc : dk_dC (a2).toInt = -1 := by unfold dk_dC; split <;> (try split) <;> omega
            have hdr : dk_dR (a2).toInt = 0 := by unfold dk_dR; split <;> (try split) <;> omega
            refine W.widen (k := 0) (n := 0) (Nat.le_of_ble_eq_true rfl) (Nat.le_of_ble_eq_true rfl) ?_
            exact dg_iret hx hb hr hlocks rfl hP hS ⟨rfl, (by decide +kernel), (by rw [hdc, hdr]; omega), (Eq.symm (F_m_besideOf_p4 ex_1 c_2 c_3 ex_22 ex_23 w_25_3 c_26)), trivial⟩ dX12_besideOf_71
          · have jc_26 := dk_neqc (k := 0) (by decide +kernel) c_26
            refine lv_bipush (v := 8) hx hb dX12_besideOf_60 (by decide +kernel) ?_
            refine lv_iload hx hb dX12_besideOf_62 (lv_at hl 0 rfl) ?_
            refine lv_imul hx hb dX12_besideOf_64 ?_
            refine lv_topi (fun x_29 ex_29 => ?_)
            have jx_29 : (x_29).toInt = 8 * (x_23).toInt := by rw [ex_29]; exact dk_mulT2 (by decide +kernel) rfl (by omega)
            refine lv_iload_n hx hb dX12_besideOf_65 rfl (lv_at hl 1 rfl) ?_
            refine lv_iadd hx hb dX12_besideOf_66 ?_
            refine lv_topi (fun x_30 ex_30 => ?_)
            have jx_30 : (x_30).toInt = (x_29).toInt + (x_22).toInt := by rw [ex_30]; exact dk_addT2 rfl rfl (by omega)
            refine lv_goto (tgt := 71) hx hb dX12_besideOf_67 (dk_dq rfl) ?_
            have hdc : dk_dC (a2).toInt = -1 := by unfold dk_dC; split <;> (try split) <;> omega
            have hdr : dk_dR (a2).toInt = 0 := by unfold dk_dR; split <;> (try split) <;> omega
            refine W.widen (k := 0) (n := 0) (Nat.le_of_ble_eq_true rfl) (Nat.le_of_ble_eq_true rfl) ?_
            exact dg_iret hx hb hr hlocks rfl hP hS ⟨rfl, (by omega), (by rw [hdc, hdr]; omega), (Eq.symm (F_m_besideOf_p5 ex_1 c_2 c_3 ex_22 ex_23 w_25_3 c_26 ex_29 ex_30)), trivial⟩ dX12_besideOf_71
  · as_aux_lemma =>
      have jc_2 := dk_eqc (k := 1) (by decide +kernel) c_2
      refine lv_iconst (v := 1) hx hb dX12_besideOf_9 (by decide +kernel) ?_
      refine lv_goto (tgt := 23) hx hb dX12_besideOf_10 (dk_dq rfl) ?_
      refine lv_iadd hx hb dX12_besideOf_23 ?_
      refine lv_topi (fun x_31 ex_31 => ?_)
      have jx_31 : (x_31).toInt = (x_1).toInt + 1 := by rw [ex_31]; exact dk_addT2 rfl (by decide +kernel) (by omega)
      refine lv_istore_n (lv' := [(3, .int x_31), (0, .ref (o + 0)), (1, .int a1), (2, .int a2)]) hx hb dX12_besideOf_24 rfl hl (dk_dq rfl) rfl (fun ls hl => ?_)
      refine lv_iload_n hx hb dX12_besideOf_25 rfl (lv_at hl 2 rfl) ?_
      refine lv_bipush (v := 8) hx hb dX12_besideOf_26 (by decide +kernel) ?_
      refine lv_idiv hx hb dX12_besideOf_28 (by decide +kernel) ?_
      refine lv_topi (fun x_32 ex_32 => ?_)
      have jx_32 : (x_32).toInt = (a1).toInt / 8 := by rw [ex_32]; exact dk_divL (by omega) (by decide +kernel) (dk_dq rfl)
      refine lv_iload_n hx hb dX12_besideOf_29 rfl (lv_at hl 3 rfl) ?_
      refine lv_iconst (v := 2) hx hb dX12_besideOf_30 (by decide +kernel) ?_
      refine lv_icmp_ne (tgt := 38) hx hb dX12_besideOf_31 (dk_dq rfl) (fun _ => ?_) (fun c => absurd c (fun z => absurd (dk_eqc (k := 2) (by decide +kernel) z) (by omega)))
      refine lv_iload_n hx hb dX12_besideOf_38 rfl (lv_at hl 3 rfl) ?_
      refine lv_if_ne (tgt := 46) hx hb dX12_besideOf_39 (dk_dq rfl) (fun _ => ?_) (fun c => absurd c (fun z => absurd (dk_eqc (k := 0) (by decide +kernel) z) (by omega)))
      refine lv_iconst (v := 0) hx hb dX12_besideOf_46 (by decide +kernel) ?_
      refine lv_iadd hx hb dX12_besideOf_47 ?_
      refine dk_top (y := x_32) (by simp) ?_
      refine lv_istore (lv' := [(4, .int x_32), (3, .int x_31), (0, .ref (o + 0)), (1, .int a1), (2, .int a2)]) hx hb dX12_besideOf_48 hl (dk_dq rfl) rfl (fun ls hl => ?_)
      refine lv_aload_n hx hb dX12_besideOf_50 rfl (lv_at hl 2 rfl) ?_
      refine lv_iload_n hx hb dX12_besideOf_51 rfl (lv_at hl 1 rfl) ?_
      refine lv_iload hx hb dX12_besideOf_52 (lv_at hl 0 rfl) ?_
      refine dg_calli hS hA1 hA (va_runV (As := [.int x_31, .int x_32]) (rest := []) F (c_m_isCell l g D o S x_31 x_32 bk f_bk (by omega) sm f_sm (by omega) cb f_cb (by omega) rb f_rb (by omega) ZB I s.heap.size) (cwV 2 hts (bw_V wB_1087 wB_1088 wB_1089 wB_297 wB_1086) rfl rfl rfl (by decide +kernel) ⟨Nat.le_of_ble_eq_true rfl, Nat.le_of_ble_eq_true rfl⟩) (dg_preV sM_0 rfl K ST hP hS hA1 hA) rfl rfl hl.1 rfl (lv_room (Nat.le_of_ble_eq_true rfl)) dX12_besideOf_54 ⟨Nat.le_of_ble_eq_true rfl, Nat.le_of_ble_eq_true rfl⟩) (fun x_33 S_34 hw_34 H locs hP hS => ?_)
      rw [hw_34.1] at hP
      obtain ⟨hq_34, w_34_0, w_34_1, w_34_2, w_34_3, -⟩ := hw_34
      have w_34_0 : 0 ≤ (x_33).toInt ∧ (x_33).toInt ≤ 1 := w_34_0
      have w_34_1 : (x_33).toInt = 1 → (0 ≤ (x_31).toInt ∧ (x_31).toInt ≤ 6 ∧ 0 ≤ (x_32).toInt ∧ (x_32).toInt ≤ 6) := w_34_1
      have w_34_2 : (x_33).toInt = 1 ↔ ((sm).toInt = 1 ∧ 0 ≤ (x_31).toInt ∧ (x_31).toInt < (cb).toInt ∧ 0 ≤ (x_32).toInt ∧ (x_32).toInt < (rb).toInt) := w_34_2
      refine lv_if_eq (tgt := 70) hx hb dX12_besideOf_57 (dk_dq rfl) (fun c_35 => ?_) (fun c_35 => ?_)
      · have jc_35 := dk_eqc (k := 0) (by decide +kernel) c_35
        refine lv_iconst (v := (-1)) hx hb dX12_besideOf_70 (by decide +kernel) ?_
        have hz_36 : (-1 : Int32).toInt = (-1) := by decide +kernel
        have hz_37 : (-1 : Int32).toInt = (-1) := by decide +kernel
        have hdc : dk_dC (a2).toInt = 1 := by unfold dk_dC; split <;> (try split) <;> omega
        have hdr : dk_dR (a2).toInt = 0 := by unfold dk_dR; split <;> (try split) <;> omega
        refine W.widen (k := 0) (n := 0) (Nat.le_of_ble_eq_true rfl) (Nat.le_of_ble_eq_true rfl) ?_
        exact dg_iret hx hb hr hlocks rfl hP hS ⟨rfl, (by decide +kernel), (by rw [hdc, hdr]; omega), (Eq.symm (F_m_besideOf_p6 ex_1 c_2 ex_31 ex_32 w_34_3 c_35)), trivial⟩ dX12_besideOf_71
      · have jc_35 := dk_neqc (k := 0) (by decide +kernel) c_35
        refine lv_bipush (v := 8) hx hb dX12_besideOf_60 (by decide +kernel) ?_
        refine lv_iload hx hb dX12_besideOf_62 (lv_at hl 0 rfl) ?_
        refine lv_imul hx hb dX12_besideOf_64 ?_
        refine lv_topi (fun x_38 ex_38 => ?_)
        have jx_38 : (x_38).toInt = 8 * (x_32).toInt := by rw [ex_38]; exact dk_mulT2 (by decide +kernel) rfl (by omega)
        refine lv_iload_n hx hb dX12_besideOf_65 rfl (lv_at hl 1 rfl) ?_
        refine lv_iadd hx hb dX12_besideOf_66 ?_
        refine lv_topi (fun x_39 ex_39 => ?_)
        have jx_39 : (x_39).toInt = (x_38).toInt + (x_31).toInt := by rw [ex_39]; exact dk_addT2 rfl rfl (by omega)
        refine lv_goto (tgt := 71) hx hb dX12_besideOf_67 (dk_dq rfl) ?_
        have hdc : dk_dC (a2).toInt = 1 := by unfold dk_dC; split <;> (try split) <;> omega
        have hdr : dk_dR (a2).toInt = 0 := by unfold dk_dR; split <;> (try split) <;> omega
        refine W.widen (k := 0) (n := 0) (Nat.le_of_ble_eq_true rfl) (Nat.le_of_ble_eq_true rfl) ?_
        exact dg_iret hx hb hr hlocks rfl hP hS ⟨rfl, (by omega), (by rw [hdc, hdr]; omega), (Eq.symm (F_m_besideOf_p7 ex_1 c_2 ex_31 ex_32 w_34_3 c_35 ex_38 ex_39)), trivial⟩ dX12_besideOf_71
noncomputable def F_m_isOpenG (o : Nat) (S : dg_S) (a1 : Int32) (a2 : Int32) : Int32 := let x_1 : Int32 := (64 : Int32) * a1; let x_2 : Int32 := x_1 + a2; let x_4 : Int32 := S.2.1 31 (x_2 : Int32).toNatClampNeg; (if x_4 = (-1 : Int32) then (1 : Int32) else (0 : Int32))
theorem F_m_isOpenG_p0 {o : Nat} {S : dg_S} {a1 : Int32} {a2 : Int32} {x_1 : Int32} {x_2 : Int32} {x_4 : Int32} (h0 : x_1 = (64 : Int32) * a1) (h1 : x_2 = x_1 + a2) (h2 : x_4 = S.2.1 31 (x_2 : Int32).toNatClampNeg) (h3 : ¬ (x_4 = (-1 : Int32))) : F_m_isOpenG o S a1 a2 = (0 : Int32) := by
  replace h0 := Eq.symm h0
  subst h0
  replace h1 := Eq.symm h1
  subst h1
  replace h2 := Eq.symm h2
  subst h2
  exact (Eq.trans (if_neg h3) rfl)
theorem F_m_isOpenG_p1 {o : Nat} {S : dg_S} {a1 : Int32} {a2 : Int32} {x_1 : Int32} {x_2 : Int32} {x_4 : Int32} (h0 : x_1 = (64 : Int32) * a1) (h1 : x_2 = x_1 + a2) (h2 : x_4 = S.2.1 31 (x_2 : Int32).toNatClampNeg) (h3 : x_4 = (-1 : Int32)) : F_m_isOpenG o S a1 a2 = (1 : Int32) := by
  replace h0 := Eq.symm h0
  subst h0
  replace h1 := Eq.symm h1
  subst h1
  replace h2 := Eq.symm h2
  subst h2
  exact (Eq.trans (if_pos h3) rfl)
set_option maxHeartbeats 8000000 in
set_option maxRecDepth 100000 in
theorem c_m_isOpenG (l : Launch) (g : Nat → ClassId) (D : va_G) (o : Nat) (S : dg_S) (a1 : Int32) (b_a1 : 0 ≤ (a1).toInt ∧ (a1).toInt ≤ 21) (a2 : Int32) (b_a2 : 0 ≤ (a2).toInt ∧ (a2).toInt ≤ 63) (ci : Int32) (gv : Int32) (f_gv : S.2.1 31 (ci : Int32).toNatClampNeg = gv) (b_gv : (-1) ≤ (gv).toInt ∧ (gv).toInt ≤ 9) (hci : (ci).toInt = 64 * (a1).toInt + (a2).toInt) (I : CM o S) (sz : Nat) : Met l yX12_isOpen (bw yX12_isOpen cX12_isOpen 3 (some .boolean)) ({ frames := 1, cells := 0, slots := 0, locals := 32 } : Room) (dk_Pc g D (dg_w g shM o rfM S) sz [.ref (o + 0), .int a1, .int a2]) (va_Qi (fun (r : Int32) S' => S' = S ∧ (0 ≤ (r).toInt ∧ (r).toInt ≤ 1) ∧ ((r).toInt = 1 ↔ (gv).toInt = -1) ∧ (r = F_m_isOpenG o S a1 a2) ∧ True) (dg_B g D shM o rfM) (dg_A o shM.length sz)) 0 0 (dg_A o shM.length sz) := by
  refine dg_met (cc := cX12_isOpen) (maxL := 3) (ret := (some .boolean)) (dk_dq rfl) rfl (Nat.le_of_ble_eq_true rfl) ?_
  intro p e s m args below meth c A hAe harg hx hb hr hml hts hown hlocks hin hP K hS hA1 hA ST hsz ls hl
  rw [← hAe]
  have F : CallFix p m c cX12_isOpen 3 s args (bw yX12_isOpen cX12_isOpen 3 (some .boolean)) RX12 := ⟨hx, hb, hml, hown, hts⟩
  have hl : lv_has ls 3 [(0, .ref (o + 0)), (1, .int a1), (2, .int a2)] := hl
  have M_0 : dg_sm shM [] [] S S := dg_sm.rf
  refine lv_aload_n hx hb dX12_isOpen_0 rfl (lv_at hl 0 rfl) ?_
  refine dg_get (C := RX12) (T := TX12) (N := 77) hx hb hts (fun w h => bw_mem (wU_X12 w h)) hown K hP sM_0 rfl 51 (dk_dq rfl) (hts _ (bw_mem wB_1090)) (fun _ h9 => h9) (v := .ref (o + 31)) (show S.1 0 51 = .ref (o + 31) from dg_I.rel (d := 31) I sM_0 (by decide +kernel)) dX12_isOpen_1 ?_
  refine lv_bipush (v := 64) hx hb dX12_isOpen_4 (by decide +kernel) ?_
  refine lv_iload_n hx hb dX12_isOpen_6 rfl (lv_at hl 1 rfl) ?_
  refine lv_imul hx hb dX12_isOpen_7 ?_
  refine lv_topi (fun x_1 ex_1 => ?_)
  have jx_1 : (x_1).toInt = 64 * (a1).toInt := by rw [ex_1]; exact dk_mulT2 (by decide +kernel) rfl (by omega)
  refine lv_iload_n hx hb dX12_isOpen_8 rfl (lv_at hl 2 rfl) ?_
  refine lv_iadd hx hb dX12_isOpen_9 ?_
  refine lv_topi (fun x_2 ex_2 => ?_)
  have jx_2 : (x_2).toInt = (x_1).toInt + (a2).toInt := by rw [ex_2]; exact dk_addT2 rfl rfl (by omega)
  have hin_3 : vp_in x_2 1408 := (dk_inv2 (by omega))
  refine dg_iald hx hb K hP sM_31 hin_3 dX12_isOpen_10 (fun x_4 ex_4 => ?_)
  have b_x_4 := dk_all_at (dg_I.row (lo := (-1)) (hi := 9) I sM_31 (by decide +kernel)) hin_3 ex_4
  have hs_x_4 : (x_2 : Int32).toInt = (ci).toInt → (x_4).toInt = (gv).toInt := fun h => by have h9 := Int32.toInt_inj.mp h; rw [ex_4, h9]; exact congrArg Int32.toInt f_gv
  refine lv_iconst (v := (-1)) hx hb dX12_isOpen_11 (by decide +kernel) ?_
  refine lv_icmp_ne (tgt := 19) hx hb dX12_isOpen_12 (dk_dq rfl) (fun c_5 => ?_) (fun c_5 => ?_)
  · have jc_5 := dk_neqc (k := (-1)) (by decide +kernel) c_5
    refine lv_iconst (v := 0) hx hb dX12_isOpen_19 (by decide +kernel) ?_
    have hz_6 : (0 : Int32).toInt = 0 := by decide +kernel
    have hz_7 : (0 : Int32).toInt = 0 := by decide +kernel
    refine W.widen (k := 0) (n := 0) (Nat.le_of_ble_eq_true rfl) (Nat.le_of_ble_eq_true rfl) ?_
    exact dg_iret hx hb hr hlocks (by decide +kernel) hP hS ⟨rfl, (by decide +kernel), (by omega), (Eq.symm (F_m_isOpenG_p0 ex_1 ex_2 (Eq.symm ex_4.symm) c_5)), trivial⟩ dX12_isOpen_20
  · have jc_5 := dk_eqc (k := (-1)) (by decide +kernel) c_5
    refine lv_iconst (v := 1) hx hb dX12_isOpen_15 (by decide +kernel) ?_
    refine lv_goto (tgt := 20) hx hb dX12_isOpen_16 (dk_dq rfl) ?_
    have hz_8 : (1 : Int32).toInt = 1 := by decide +kernel
    have hz_9 : (1 : Int32).toInt = 1 := by decide +kernel
    refine W.widen (k := 0) (n := 0) (Nat.le_of_ble_eq_true rfl) (Nat.le_of_ble_eq_true rfl) ?_
    exact dg_iret hx hb hr hlocks (by decide +kernel) hP hS ⟨rfl, (by decide +kernel), (by omega), (Eq.symm (F_m_isOpenG_p1 ex_1 ex_2 (Eq.symm ex_4.symm) c_5)), trivial⟩ dX12_isOpen_20
noncomputable def F_m_isOpen (o : Nat) (S : dg_S) (a1 : Int32) (a2 : Int32) : Int32 := let x_1 : Int32 := (64 : Int32) * a1; let x_2 : Int32 := x_1 + a2; let x_4 : Int32 := S.2.1 31 (x_2 : Int32).toNatClampNeg; (if x_4 = (-1 : Int32) then (1 : Int32) else (0 : Int32))
theorem F_m_isOpen_p0 {o : Nat} {S : dg_S} {a1 : Int32} {a2 : Int32} {x_1 : Int32} {x_2 : Int32} {x_4 : Int32} (h0 : x_1 = (64 : Int32) * a1) (h1 : x_2 = x_1 + a2) (h2 : x_4 = S.2.1 31 (x_2 : Int32).toNatClampNeg) (h3 : ¬ (x_4 = (-1 : Int32))) : F_m_isOpen o S a1 a2 = (0 : Int32) := by
  replace h0 := Eq.symm h0
  subst h0
  replace h1 := Eq.symm h1
  subst h1
  replace h2 := Eq.symm h2
  subst h2
  exact (Eq.trans (if_neg h3) rfl)
theorem F_m_isOpen_p1 {o : Nat} {S : dg_S} {a1 : Int32} {a2 : Int32} {x_1 : Int32} {x_2 : Int32} {x_4 : Int32} (h0 : x_1 = (64 : Int32) * a1) (h1 : x_2 = x_1 + a2) (h2 : x_4 = S.2.1 31 (x_2 : Int32).toNatClampNeg) (h3 : x_4 = (-1 : Int32)) : F_m_isOpen o S a1 a2 = (1 : Int32) := by
  replace h0 := Eq.symm h0
  subst h0
  replace h1 := Eq.symm h1
  subst h1
  replace h2 := Eq.symm h2
  subst h2
  exact (Eq.trans (if_pos h3) rfl)
set_option maxHeartbeats 8000000 in
set_option maxRecDepth 100000 in
theorem c_m_isOpen (l : Launch) (g : Nat → ClassId) (D : va_G) (o : Nat) (S : dg_S) (a1 : Int32) (b_a1 : 0 ≤ (a1).toInt ∧ (a1).toInt ≤ 21) (a2 : Int32) (b_a2 : 0 ≤ (a2).toInt ∧ (a2).toInt ≤ 63) (I : CM o S) (sz : Nat) : Met l yX12_isOpen (bw yX12_isOpen cX12_isOpen 3 (some .boolean)) ({ frames := 1, cells := 0, slots := 0, locals := 32 } : Room) (dk_Pc g D (dg_w g shM o rfM S) sz [.ref (o + 0), .int a1, .int a2]) (va_Qi (fun (r : Int32) S' => S' = S ∧ (0 ≤ (r).toInt ∧ (r).toInt ≤ 1) ∧ (r = F_m_isOpen o S a1 a2) ∧ True) (dg_B g D shM o rfM) (dg_A o shM.length sz)) 0 0 (dg_A o shM.length sz) := by
  refine dg_met (cc := cX12_isOpen) (maxL := 3) (ret := (some .boolean)) (dk_dq rfl) rfl (Nat.le_of_ble_eq_true rfl) ?_
  intro p e s m args below meth c A hAe harg hx hb hr hml hts hown hlocks hin hP K hS hA1 hA ST hsz ls hl
  rw [← hAe]
  have F : CallFix p m c cX12_isOpen 3 s args (bw yX12_isOpen cX12_isOpen 3 (some .boolean)) RX12 := ⟨hx, hb, hml, hown, hts⟩
  have hl : lv_has ls 3 [(0, .ref (o + 0)), (1, .int a1), (2, .int a2)] := hl
  have M_0 : dg_sm shM [] [] S S := dg_sm.rf
  refine lv_aload_n hx hb dX12_isOpen_0 rfl (lv_at hl 0 rfl) ?_
  refine dg_get (C := RX12) (T := TX12) (N := 77) hx hb hts (fun w h => bw_mem (wU_X12 w h)) hown K hP sM_0 rfl 51 (dk_dq rfl) (hts _ (bw_mem wB_1090)) (fun _ h9 => h9) (v := .ref (o + 31)) (show S.1 0 51 = .ref (o + 31) from dg_I.rel (d := 31) I sM_0 (by decide +kernel)) dX12_isOpen_1 ?_
  refine lv_bipush (v := 64) hx hb dX12_isOpen_4 (by decide +kernel) ?_
  refine lv_iload_n hx hb dX12_isOpen_6 rfl (lv_at hl 1 rfl) ?_
  refine lv_imul hx hb dX12_isOpen_7 ?_
  refine lv_topi (fun x_1 ex_1 => ?_)
  have jx_1 : (x_1).toInt = 64 * (a1).toInt := by rw [ex_1]; exact dk_mulT2 (by decide +kernel) rfl (by omega)
  refine lv_iload_n hx hb dX12_isOpen_8 rfl (lv_at hl 2 rfl) ?_
  refine lv_iadd hx hb dX12_isOpen_9 ?_
  refine lv_topi (fun x_2 ex_2 => ?_)
  have jx_2 : (x_2).toInt = (x_1).toInt + (a2).toInt := by rw [ex_2]; exact dk_addT2 rfl rfl (by omega)
  have hin_3 : vp_in x_2 1408 := (dk_inv2 (by omega))
  refine dg_iald hx hb K hP sM_31 hin_3 dX12_isOpen_10 (fun x_4 ex_4 => ?_)
  have b_x_4 := dk_all_at (dg_I.row (lo := (-1)) (hi := 9) I sM_31 (by decide +kernel)) hin_3 ex_4
  refine lv_iconst (v := (-1)) hx hb dX12_isOpen_11 (by decide +kernel) ?_
  refine lv_icmp_ne (tgt := 19) hx hb dX12_isOpen_12 (dk_dq rfl) (fun c_5 => ?_) (fun c_5 => ?_)
  · have jc_5 := dk_neqc (k := (-1)) (by decide +kernel) c_5
    refine lv_iconst (v := 0) hx hb dX12_isOpen_19 (by decide +kernel) ?_
    have hz_6 : (0 : Int32).toInt = 0 := by decide +kernel
    refine W.widen (k := 0) (n := 0) (Nat.le_of_ble_eq_true rfl) (Nat.le_of_ble_eq_true rfl) ?_
    exact dg_iret hx hb hr hlocks (by decide +kernel) hP hS ⟨rfl, (by decide +kernel), (Eq.symm (F_m_isOpen_p0 ex_1 ex_2 (Eq.symm ex_4.symm) c_5)), trivial⟩ dX12_isOpen_20
  · have jc_5 := dk_eqc (k := (-1)) (by decide +kernel) c_5
    refine lv_iconst (v := 1) hx hb dX12_isOpen_15 (by decide +kernel) ?_
    refine lv_goto (tgt := 20) hx hb dX12_isOpen_16 (dk_dq rfl) ?_
    have hz_7 : (1 : Int32).toInt = 1 := by decide +kernel
    refine W.widen (k := 0) (n := 0) (Nat.le_of_ble_eq_true rfl) (Nat.le_of_ble_eq_true rfl) ?_
    exact dg_iret hx hb hr hlocks (by decide +kernel) hP hS ⟨rfl, (by decide +kernel), (Eq.symm (F_m_isOpen_p1 ex_1 ex_2 (Eq.symm ex_4.symm) c_5)), trivial⟩ dX12_isOpen_20
noncomputable def F_m_isMiner (o : Nat) (S : dg_S) (a1 : Int32) : Int32 := (if a1 < (0 : Int32) then (0 : Int32) else let x_4 : Int32 := zI S 0 13; let x_6 : Int32 := S.2.1 8 (x_4 : Int32).toNatClampNeg; (if x_6 ≤ a1 then (0 : Int32) else (1 : Int32)))
theorem F_m_isMiner_p0 {o : Nat} {S : dg_S} {a1 : Int32} (h0 : a1 < (0 : Int32)) : F_m_isMiner o S a1 = (0 : Int32) := (Eq.trans (if_pos h0) rfl)
theorem F_m_isMiner_p1 {o : Nat} {S : dg_S} {a1 : Int32} {x_4 : Int32} {x_6 : Int32} (h0 : ¬ (a1 < (0 : Int32))) (h1 : x_4 = zI S 0 13) (h2 : x_6 = S.2.1 8 (x_4 : Int32).toNatClampNeg) (h3 : x_6 ≤ a1) : F_m_isMiner o S a1 = (0 : Int32) := by
  replace h1 := Eq.symm h1
  subst h1
  replace h2 := Eq.symm h2
  subst h2
  exact (Eq.trans (if_neg h0) (Eq.trans (if_pos h3) rfl))
theorem F_m_isMiner_p2 {o : Nat} {S : dg_S} {a1 : Int32} {x_4 : Int32} {x_6 : Int32} (h0 : ¬ (a1 < (0 : Int32))) (h1 : x_4 = zI S 0 13) (h2 : x_6 = S.2.1 8 (x_4 : Int32).toNatClampNeg) (h3 : ¬ (x_6 ≤ a1)) : F_m_isMiner o S a1 = (1 : Int32) := by
  replace h1 := Eq.symm h1
  subst h1
  replace h2 := Eq.symm h2
  subst h2
  exact (Eq.trans (if_neg h0) (Eq.trans (if_neg h3) rfl))
set_option maxHeartbeats 8000000 in
set_option maxRecDepth 100000 in
theorem c_m_isMiner (l : Launch) (g : Nat → ClassId) (D : va_G) (o : Nat) (S : dg_S) (a1 : Int32) (I : CM o S) (sz : Nat) : Met l yX12_isMiner (bw yX12_isMiner cX12_isMiner 2 (some .boolean)) ({ frames := 1, cells := 0, slots := 0, locals := 32 } : Room) (dk_Pc g D (dg_w g shM o rfM S) sz [.ref (o + 0), .int a1]) (va_Qi (fun (r : Int32) S' => S' = S ∧ (0 ≤ (r).toInt ∧ (r).toInt ≤ 1) ∧ ((r).toInt = 1 → (0 ≤ (a1).toInt ∧ (a1).toInt ≤ 5)) ∧ (r = F_m_isMiner o S a1) ∧ True) (dg_B g D shM o rfM) (dg_A o shM.length sz)) 0 0 (dg_A o shM.length sz) := by
  refine dg_met (cc := cX12_isMiner) (maxL := 2) (ret := (some .boolean)) (dk_dq rfl) rfl (Nat.le_of_ble_eq_true rfl) ?_
  intro p e s m args below meth c A hAe harg hx hb hr hml hts hown hlocks hin hP K hS hA1 hA ST hsz ls hl
  rw [← hAe]
  have F : CallFix p m c cX12_isMiner 2 s args (bw yX12_isMiner cX12_isMiner 2 (some .boolean)) RX12 := ⟨hx, hb, hml, hown, hts⟩
  have hl : lv_has ls 2 [(0, .ref (o + 0)), (1, .int a1)] := hl
  have M_0 : dg_sm shM [] [] S S := dg_sm.rf
  refine lv_iload_n hx hb dX12_isMiner_0 rfl (lv_at hl 1 rfl) ?_
  refine lv_if_lt (tgt := 21) hx hb dX12_isMiner_1 (dk_dq rfl) (fun c_1 => ?_) (fun c_1 => ?_)
  · have jc_1 := dk_ltc (k := 0) (by decide +kernel) c_1
    refine lv_iconst (v := 0) hx hb dX12_isMiner_21 (by decide +kernel) ?_
    have hz_2 : (0 : Int32).toInt = 0 := by decide +kernel
    have hz_3 : (0 : Int32).toInt = 0 := by decide +kernel
    refine W.widen (k := 0) (n := 0) (Nat.le_of_ble_eq_true rfl) (Nat.le_of_ble_eq_true rfl) ?_
    exact dg_iret hx hb hr hlocks (by decide +kernel) hP hS ⟨rfl, (by decide +kernel), (by omega), (Eq.symm (F_m_isMiner_p0 c_1)), trivial⟩ dX12_isMiner_22
  · have jc_1 := dk_nltc (k := 0) (by decide +kernel) c_1
    refine lv_iload_n hx hb dX12_isMiner_4 rfl (lv_at hl 1 rfl) ?_
    refine lv_aload_n hx hb dX12_isMiner_5 rfl (lv_at hl 0 rfl) ?_
    refine dg_get (C := RX12) (T := TX12) (N := 77) hx hb hts (fun w h => bw_mem (wU_X12 w h)) hown K hP sM_0 rfl 20 (dk_dq rfl) (hts _ (bw_mem wB_352)) (fun _ h9 => h9) (v := .ref (o + 8)) (show S.1 0 20 = .ref (o + 8) from dg_I.rel (d := 8) I sM_0 (by decide +kernel)) dX12_isMiner_6 ?_
    refine lv_aload_n hx hb dX12_isMiner_9 rfl (lv_at hl 0 rfl) ?_
    obtain ⟨x_4, f_x_4, b_x_4⟩ := dg_I.int (i := 0) (k := 13) (lo := 0) (hi := 1) I sM_0 (by decide +kernel)
    refine dg_get (C := RX12) (T := TX12) (N := 77) hx hb hts (fun w h => bw_mem (wU_X12 w h)) hown K hP sM_0 rfl 13 (dk_dq rfl) (hts _ (bw_mem wB_1085)) (fun _ h9 => h9) (v := .int x_4) f_x_4 dX12_isMiner_10 ?_
    have hin_5 : vp_in x_4 2 := (dk_inv2 (by omega))
    refine dg_iald hx hb K hP sM_8 hin_5 dX12_isMiner_13 (fun x_6 ex_6 => ?_)
    have b_x_6 := dk_all_at (dg_I.row (lo := 0) (hi := 6) I sM_8 (by decide +kernel)) hin_5 ex_6
    refine lv_icmp_ge (tgt := 21) hx hb dX12_isMiner_14 (dk_dq rfl) (fun c_7 => ?_) (fun c_7 => ?_)
    · have hf_7 := dk_full a1
      have jc_7 := dk_gec (k := (x_6).toInt) rfl c_7
      refine lv_iconst (v := 0) hx hb dX12_isMiner_21 (by decide +kernel) ?_
      have hz_9 : (0 : Int32).toInt = 0 := by decide +kernel
      have hz_10 : (0 : Int32).toInt = 0 := by decide +kernel
      refine W.widen (k := 0) (n := 0) (Nat.le_of_ble_eq_true rfl) (Nat.le_of_ble_eq_true rfl) ?_
      exact dg_iret hx hb hr hlocks (by decide +kernel) hP hS ⟨rfl, (by decide +kernel), (by omega), (Eq.symm (F_m_isMiner_p1 c_1 (zI_eq f_x_4) (Eq.symm ex_6.symm) c_7)), trivial⟩ dX12_isMiner_22
    · have hf_10 := dk_full a1
      have jc_7 := dk_ngec (k := (x_6).toInt) rfl c_7
      refine lv_iconst (v := 1) hx hb dX12_isMiner_17 (by decide +kernel) ?_
      refine lv_goto (tgt := 22) hx hb dX12_isMiner_18 (dk_dq rfl) ?_
      have hz_12 : (1 : Int32).toInt = 1 := by decide +kernel
      have hz_13 : (1 : Int32).toInt = 1 := by decide +kernel
      refine W.widen (k := 0) (n := 0) (Nat.le_of_ble_eq_true rfl) (Nat.le_of_ble_eq_true rfl) ?_
      exact dg_iret hx hb hr hlocks (by decide +kernel) hP hS ⟨rfl, (by decide +kernel), (by omega), (Eq.symm (F_m_isMiner_p2 c_1 (zI_eq f_x_4) (Eq.symm ex_6.symm) c_7)), trivial⟩ dX12_isMiner_22
noncomputable def F_m_isOrder (o : Nat) (S : dg_S) (a1 : Int32) : Int32 := (if a1 < (0 : Int32) then (0 : Int32) else let x_4 : Int32 := zI S 0 13; let x_6 : Int32 := S.2.1 12 (x_4 : Int32).toNatClampNeg; (if x_6 ≤ a1 then (0 : Int32) else (1 : Int32)))
theorem F_m_isOrder_p0 {o : Nat} {S : dg_S} {a1 : Int32} (h0 : a1 < (0 : Int32)) : F_m_isOrder o S a1 = (0 : Int32) := (Eq.trans (if_pos h0) rfl)
theorem F_m_isOrder_p1 {o : Nat} {S : dg_S} {a1 : Int32} {x_4 : Int32} {x_6 : Int32} (h0 : ¬ (a1 < (0 : Int32))) (h1 : x_4 = zI S 0 13) (h2 : x_6 = S.2.1 12 (x_4 : Int32).toNatClampNeg) (h3 : x_6 ≤ a1) : F_m_isOrder o S a1 = (0 : Int32) := by
  replace h1 := Eq.symm h1
  subst h1
  replace h2 := Eq.symm h2
  subst h2
  exact (Eq.trans (if_neg h0) (Eq.trans (if_pos h3) rfl))
theorem F_m_isOrder_p2 {o : Nat} {S : dg_S} {a1 : Int32} {x_4 : Int32} {x_6 : Int32} (h0 : ¬ (a1 < (0 : Int32))) (h1 : x_4 = zI S 0 13) (h2 : x_6 = S.2.1 12 (x_4 : Int32).toNatClampNeg) (h3 : ¬ (x_6 ≤ a1)) : F_m_isOrder o S a1 = (1 : Int32) := by
  replace h1 := Eq.symm h1
  subst h1
  replace h2 := Eq.symm h2
  subst h2
  exact (Eq.trans (if_neg h0) (Eq.trans (if_neg h3) rfl))
set_option maxHeartbeats 8000000 in
set_option maxRecDepth 100000 in
theorem c_m_isOrder (l : Launch) (g : Nat → ClassId) (D : va_G) (o : Nat) (S : dg_S) (a1 : Int32) (I : CM o S) (sz : Nat) : Met l yX12_isOrder (bw yX12_isOrder cX12_isOrder 2 (some .boolean)) ({ frames := 1, cells := 0, slots := 0, locals := 32 } : Room) (dk_Pc g D (dg_w g shM o rfM S) sz [.ref (o + 0), .int a1]) (va_Qi (fun (r : Int32) S' => S' = S ∧ (0 ≤ (r).toInt ∧ (r).toInt ≤ 1) ∧ ((r).toInt = 1 → (0 ≤ (a1).toInt ∧ (a1).toInt ≤ 4)) ∧ (r = F_m_isOrder o S a1) ∧ True) (dg_B g D shM o rfM) (dg_A o shM.length sz)) 0 0 (dg_A o shM.length sz) := by
  refine dg_met (cc := cX12_isOrder) (maxL := 2) (ret := (some .boolean)) (dk_dq rfl) rfl (Nat.le_of_ble_eq_true rfl) ?_
  intro p e s m args below meth c A hAe harg hx hb hr hml hts hown hlocks hin hP K hS hA1 hA ST hsz ls hl
  rw [← hAe]
  have F : CallFix p m c cX12_isOrder 2 s args (bw yX12_isOrder cX12_isOrder 2 (some .boolean)) RX12 := ⟨hx, hb, hml, hown, hts⟩
  have hl : lv_has ls 2 [(0, .ref (o + 0)), (1, .int a1)] := hl
  have M_0 : dg_sm shM [] [] S S := dg_sm.rf
  refine lv_iload_n hx hb dX12_isOrder_0 rfl (lv_at hl 1 rfl) ?_
  refine lv_if_lt (tgt := 21) hx hb dX12_isOrder_1 (dk_dq rfl) (fun c_1 => ?_) (fun c_1 => ?_)
  · have jc_1 := dk_ltc (k := 0) (by decide +kernel) c_1
    refine lv_iconst (v := 0) hx hb dX12_isOrder_21 (by decide +kernel) ?_
    have hz_2 : (0 : Int32).toInt = 0 := by decide +kernel
    have hz_3 : (0 : Int32).toInt = 0 := by decide +kernel
    refine W.widen (k := 0) (n := 0) (Nat.le_of_ble_eq_true rfl) (Nat.le_of_ble_eq_true rfl) ?_
    exact dg_iret hx hb hr hlocks (by decide +kernel) hP hS ⟨rfl, (by decide +kernel), (by omega), (Eq.symm (F_m_isOrder_p0 c_1)), trivial⟩ dX12_isOrder_22
  · have jc_1 := dk_nltc (k := 0) (by decide +kernel) c_1
    refine lv_iload_n hx hb dX12_isOrder_4 rfl (lv_at hl 1 rfl) ?_
    refine lv_aload_n hx hb dX12_isOrder_5 rfl (lv_at hl 0 rfl) ?_
    refine dg_get (C := RX12) (T := TX12) (N := 77) hx hb hts (fun w h => bw_mem (wU_X12 w h)) hown K hP sM_0 rfl 24 (dk_dq rfl) (hts _ (bw_mem wB_355)) (fun _ h9 => h9) (v := .ref (o + 12)) (show S.1 0 24 = .ref (o + 12) from dg_I.rel (d := 12) I sM_0 (by decide +kernel)) dX12_isOrder_6 ?_
    refine lv_aload_n hx hb dX12_isOrder_9 rfl (lv_at hl 0 rfl) ?_
    obtain ⟨x_4, f_x_4, b_x_4⟩ := dg_I.int (i := 0) (k := 13) (lo := 0) (hi := 1) I sM_0 (by decide +kernel)
    refine dg_get (C := RX12) (T := TX12) (N := 77) hx hb hts (fun w h => bw_mem (wU_X12 w h)) hown K hP sM_0 rfl 13 (dk_dq rfl) (hts _ (bw_mem wB_1085)) (fun _ h9 => h9) (v := .int x_4) f_x_4 dX12_isOrder_10 ?_
    have hin_5 : vp_in x_4 2 := (dk_inv2 (by omega))
    refine dg_iald hx hb K hP sM_12 hin_5 dX12_isOrder_13 (fun x_6 ex_6 => ?_)
    have b_x_6 := dk_all_at (dg_I.row (lo := 0) (hi := 5) I sM_12 (by decide +kernel)) hin_5 ex_6
    refine lv_icmp_ge (tgt := 21) hx hb dX12_isOrder_14 (dk_dq rfl) (fun c_7 => ?_) (fun c_7 => ?_)
    · have hf_7 := dk_full a1
      have jc_7 := dk_gec (k := (x_6).toInt) rfl c_7
      refine lv_iconst (v := 0) hx hb dX12_isOrder_21 (by decide +kernel) ?_
      have hz_9 : (0 : Int32).toInt = 0 := by decide +kernel
      have hz_10 : (0 : Int32).toInt = 0 := by decide +kernel
      refine W.widen (k := 0) (n := 0) (Nat.le_of_ble_eq_true rfl) (Nat.le_of_ble_eq_true rfl) ?_
      exact dg_iret hx hb hr hlocks (by decide +kernel) hP hS ⟨rfl, (by decide +kernel), (by omega), (Eq.symm (F_m_isOrder_p1 c_1 (zI_eq f_x_4) (Eq.symm ex_6.symm) c_7)), trivial⟩ dX12_isOrder_22
    · have hf_10 := dk_full a1
      have jc_7 := dk_ngec (k := (x_6).toInt) rfl c_7
      refine lv_iconst (v := 1) hx hb dX12_isOrder_17 (by decide +kernel) ?_
      refine lv_goto (tgt := 22) hx hb dX12_isOrder_18 (dk_dq rfl) ?_
      have hz_12 : (1 : Int32).toInt = 1 := by decide +kernel
      have hz_13 : (1 : Int32).toInt = 1 := by decide +kernel
      refine W.widen (k := 0) (n := 0) (Nat.le_of_ble_eq_true rfl) (Nat.le_of_ble_eq_true rfl) ?_
      exact dg_iret hx hb hr hlocks (by decide +kernel) hP hS ⟨rfl, (by decide +kernel), (by omega), (Eq.symm (F_m_isOrder_p2 c_1 (zI_eq f_x_4) (Eq.symm ex_6.symm) c_7)), trivial⟩ dX12_isOrder_22
noncomputable def F_m_isLit (o : Nat) (S : dg_S) (a1 : Int32) (a2 : Int32) : Int32 := let x_1 : Int32 := F_m_isOpen o S a1 a2; (if x_1 = (0 : Int32) then (0 : Int32) else let x_6 : Int32 := S.2.1 42 (a2 : Int32).toNatClampNeg; let x_7 : Int32 := zI S 0 63; (if x_7 < x_6 then (0 : Int32) else let x_14 : Int32 := (64 : Int32) * a1; let x_15 : Int32 := x_14 + a2; let x_17 : Int32 := S.2.1 32 (x_15 : Int32).toNatClampNeg; (if x_17 = (0 : Int32) then (1 : Int32) else (0 : Int32))))
theorem F_m_isLit_p0 {o : Nat} {S : dg_S} {a1 : Int32} {a2 : Int32} {x_1 : Int32} (h0 : x_1 = F_m_isOpen o S a1 a2) (h1 : x_1 = (0 : Int32)) : F_m_isLit o S a1 a2 = (0 : Int32) := by
  replace h0 := Eq.symm h0
  subst h0
  exact (Eq.trans (if_pos h1) rfl)
theorem F_m_isLit_p1 {o : Nat} {S : dg_S} {a1 : Int32} {a2 : Int32} {x_1 : Int32} {x_6 : Int32} {x_7 : Int32} (h0 : x_1 = F_m_isOpen o S a1 a2) (h1 : ¬ (x_1 = (0 : Int32))) (h2 : x_6 = S.2.1 42 (a2 : Int32).toNatClampNeg) (h3 : x_7 = zI S 0 63) (h4 : x_7 < x_6) : F_m_isLit o S a1 a2 = (0 : Int32) := by
  replace h0 := Eq.symm h0
  subst h0
  replace h2 := Eq.symm h2
  subst h2
  replace h3 := Eq.symm h3
  subst h3
  exact (Eq.trans (if_neg h1) (Eq.trans (if_pos h4) rfl))
theorem F_m_isLit_p2 {o : Nat} {S : dg_S} {a1 : Int32} {a2 : Int32} {x_1 : Int32} {x_6 : Int32} {x_7 : Int32} {x_14 : Int32} {x_15 : Int32} {x_17 : Int32} (h0 : x_1 = F_m_isOpen o S a1 a2) (h1 : ¬ (x_1 = (0 : Int32))) (h2 : x_6 = S.2.1 42 (a2 : Int32).toNatClampNeg) (h3 : x_7 = zI S 0 63) (h4 : ¬ (x_7 < x_6)) (h5 : x_14 = (64 : Int32) * a1) (h6 : x_15 = x_14 + a2) (h7 : x_17 = S.2.1 32 (x_15 : Int32).toNatClampNeg) (h8 : ¬ (x_17 = (0 : Int32))) : F_m_isLit o S a1 a2 = (0 : Int32) := by
  replace h0 := Eq.symm h0
  subst h0
  replace h2 := Eq.symm h2
  subst h2
  replace h3 := Eq.symm h3
  subst h3
  replace h5 := Eq.symm h5
  subst h5
  replace h6 := Eq.symm h6
  subst h6
  replace h7 := Eq.symm h7
  subst h7
  exact (Eq.trans (if_neg h1) (Eq.trans (if_neg h4) (Eq.trans (if_neg h8) rfl)))
theorem F_m_isLit_p3 {o : Nat} {S : dg_S} {a1 : Int32} {a2 : Int32} {x_1 : Int32} {x_6 : Int32} {x_7 : Int32} {x_14 : Int32} {x_15 : Int32} {x_17 : Int32} (h0 : x_1 = F_m_isOpen o S a1 a2) (h1 : ¬ (x_1 = (0 : Int32))) (h2 : x_6 = S.2.1 42 (a2 : Int32).toNatClampNeg) (h3 : x_7 = zI S 0 63) (h4 : ¬ (x_7 < x_6)) (h5 : x_14 = (64 : Int32) * a1) (h6 : x_15 = x_14 + a2) (h7 : x_17 = S.2.1 32 (x_15 : Int32).toNatClampNeg) (h8 : x_17 = (0 : Int32)) : F_m_isLit o S a1 a2 = (1 : Int32) := by
  replace h0 := Eq.symm h0
  subst h0
  replace h2 := Eq.symm h2
  subst h2
  replace h3 := Eq.symm h3
  subst h3
  replace h5 := Eq.symm h5
  subst h5
  replace h6 := Eq.symm h6
  subst h6
  replace h7 := Eq.symm h7
  subst h7
  exact (Eq.trans (if_neg h1) (Eq.trans (if_neg h4) (Eq.trans (if_pos h8) rfl)))
set_option maxHeartbeats 8000000 in
set_option maxRecDepth 100000 in
theorem c_m_isLit (l : Launch) (g : Nat → ClassId) (D : va_G) (o : Nat) (S : dg_S) (a1 : Int32) (b_a1 : 0 ≤ (a1).toInt ∧ (a1).toInt ≤ 21) (a2 : Int32) (b_a2 : 0 ≤ (a2).toInt ∧ (a2).toInt ≤ 63) (I : CM o S) (sz : Nat) : Met l yX12_isLit (bw yX12_isLit cX12_isLit 3 (some .boolean)) ({ frames := 2, cells := 0, slots := 0, locals := 54 } : Room) (dk_Pc g D (dg_w g shM o rfM S) sz [.ref (o + 0), .int a1, .int a2]) (va_Qi (fun (r : Int32) S' => S' = S ∧ (0 ≤ (r).toInt ∧ (r).toInt ≤ 1) ∧ (r = F_m_isLit o S a1 a2) ∧ True) (dg_B g D shM o rfM) (dg_A o shM.length sz)) 0 0 (dg_A o shM.length sz) := by
  refine dg_met (cc := cX12_isLit) (maxL := 3) (ret := (some .boolean)) (dk_dq rfl) rfl (Nat.le_of_ble_eq_true rfl) ?_
  intro p e s m args below meth c A hAe harg hx hb hr hml hts hown hlocks hin hP K hS hA1 hA ST hsz ls hl
  rw [← hAe]
  have F : CallFix p m c cX12_isLit 3 s args (bw yX12_isLit cX12_isLit 3 (some .boolean)) RX12 := ⟨hx, hb, hml, hown, hts⟩
  have hl : lv_has ls 3 [(0, .ref (o + 0)), (1, .int a1), (2, .int a2)] := hl
  have M_0 : dg_sm shM [] [] S S := dg_sm.rf
  refine lv_aload_n hx hb dX12_isLit_0 rfl (lv_at hl 0 rfl) ?_
  refine lv_iload_n hx hb dX12_isLit_1 rfl (lv_at hl 1 rfl) ?_
  refine lv_iload_n hx hb dX12_isLit_2 rfl (lv_at hl 2 rfl) ?_
  refine dg_calli hS hA1 hA (va_runV (As := [.int a1, .int a2]) (rest := []) F (c_m_isOpen l g D o S a1 (by omega) a2 (by omega) I s.heap.size) (cwV 2 hts (bw_V wB_1092 wB_1093 wB_1094 wB_297 wB_1091) rfl rfl rfl (by decide +kernel) ⟨Nat.le_of_ble_eq_true rfl, Nat.le_of_ble_eq_true rfl⟩) (dg_preV sM_0 rfl K ST hP hS hA1 hA) rfl rfl hl.1 rfl (lv_room (Nat.le_of_ble_eq_true rfl)) dX12_isLit_3 ⟨Nat.le_of_ble_eq_true rfl, Nat.le_of_ble_eq_true rfl⟩) (fun x_1 S_2 hw_2 H locs hP hS => ?_)
  rw [hw_2.1] at hP
  obtain ⟨hq_2, w_2_0, w_2_1, -⟩ := hw_2
  have w_2_0 : 0 ≤ (x_1).toInt ∧ (x_1).toInt ≤ 1 := w_2_0
  refine lv_if_eq (tgt := 40) hx hb dX12_isLit_6 (dk_dq rfl) (fun c_3 => ?_) (fun c_3 => ?_)
  · have jc_3 := dk_eqc (k := 0) (by decide +kernel) c_3
    refine lv_iconst (v := 0) hx hb dX12_isLit_40 (by decide +kernel) ?_
    have hz_4 : (0 : Int32).toInt = 0 := by decide +kernel
    refine W.widen (k := 0) (n := 0) (Nat.le_of_ble_eq_true rfl) (Nat.le_of_ble_eq_true rfl) ?_
    exact dg_iret hx hb hr hlocks (by decide +kernel) hP hS ⟨rfl, (by decide +kernel), (Eq.symm (F_m_isLit_p0 w_2_1 c_3)), trivial⟩ dX12_isLit_41
  · as_aux_lemma =>
      have jc_3 := dk_neqc (k := 0) (by decide +kernel) c_3
      refine lv_aload_n hx hb dX12_isLit_9 rfl (lv_at hl 0 rfl) ?_
      refine dg_get (C := RX12) (T := TX12) (N := 77) hx hb hts (fun w h => bw_mem (wU_X12 w h)) hown K hP sM_0 rfl 66 (dk_dq rfl) (hts _ (bw_mem wB_1095)) (fun _ h9 => h9) (v := .ref (o + 42)) (show S.1 0 66 = .ref (o + 42) from dg_I.rel (d := 42) I sM_0 (by decide +kernel)) dX12_isLit_10 ?_
      refine lv_iload_n hx hb dX12_isLit_13 rfl (lv_at hl 2 rfl) ?_
      have hin_5 : vp_in a2 64 := (dk_inv2 (by omega))
      refine dg_iald hx hb K hP sM_42 hin_5 dX12_isLit_14 (fun x_6 ex_6 => ?_)
      refine lv_aload_n hx hb dX12_isLit_15 rfl (lv_at hl 0 rfl) ?_
      obtain ⟨x_7, f_x_7, b_x_7⟩ := dg_I.int (i := 0) (k := 63) (lo := (-2147483648)) (hi := 2147483647) I sM_0 (by decide +kernel)
      refine dg_get (C := RX12) (T := TX12) (N := 77) hx hb hts (fun w h => bw_mem (wU_X12 w h)) hown K hP sM_0 rfl 63 (dk_dq rfl) (hts _ (bw_mem wB_1096)) (fun _ h9 => h9) (v := .int x_7) f_x_7 dX12_isLit_16 ?_
      refine lv_icmp_gt (tgt := 40) hx hb dX12_isLit_19 (dk_dq rfl) (fun c_8 => ?_) (fun c_8 => ?_)
      · have hf_8 := dk_full x_6
        have hf_9 := dk_full x_7
        have jc_8 := dk_gtc (k := (x_7).toInt) rfl c_8
        refine lv_iconst (v := 0) hx hb dX12_isLit_40 (by decide +kernel) ?_
        have hz_11 : (0 : Int32).toInt = 0 := by decide +kernel
        refine W.widen (k := 0) (n := 0) (Nat.le_of_ble_eq_true rfl) (Nat.le_of_ble_eq_true rfl) ?_
        exact dg_iret hx hb hr hlocks (by decide +kernel) hP hS ⟨rfl, (by decide +kernel), (Eq.symm (F_m_isLit_p1 w_2_1 c_3 (Eq.symm ex_6.symm) (zI_eq f_x_7) c_8)), trivial⟩ dX12_isLit_41
      · as_aux_lemma =>
          have hf_11 := dk_full x_6
          have hf_12 := dk_full x_7
          have jc_8 := dk_ngtc (k := (x_7).toInt) rfl c_8
          refine lv_aload_n hx hb dX12_isLit_22 rfl (lv_at hl 0 rfl) ?_
          refine dg_get (C := RX12) (T := TX12) (N := 77) hx hb hts (fun w h => bw_mem (wU_X12 w h)) hown K hP sM_0 rfl 52 (dk_dq rfl) (hts _ (bw_mem wB_1097)) (fun _ h9 => h9) (v := .ref (o + 32)) (show S.1 0 52 = .ref (o + 32) from dg_I.rel (d := 32) I sM_0 (by decide +kernel)) dX12_isLit_23 ?_
          refine lv_bipush (v := 64) hx hb dX12_isLit_26 (by decide +kernel) ?_
          refine lv_iload_n hx hb dX12_isLit_28 rfl (lv_at hl 1 rfl) ?_
          refine lv_imul hx hb dX12_isLit_29 ?_
          refine lv_topi (fun x_14 ex_14 => ?_)
          have jx_14 : (x_14).toInt = 64 * (a1).toInt := by rw [ex_14]; exact dk_mulT2 (by decide +kernel) rfl (by omega)
          refine lv_iload_n hx hb dX12_isLit_30 rfl (lv_at hl 2 rfl) ?_
          refine lv_iadd hx hb dX12_isLit_31 ?_
          refine lv_topi (fun x_15 ex_15 => ?_)
          have jx_15 : (x_15).toInt = (x_14).toInt + (a2).toInt := by rw [ex_15]; exact dk_addT2 rfl rfl (by omega)
          have hin_16 : vp_in x_15 1408 := (dk_inv2 (by omega))
          refine dg_iald hx hb K hP sM_32 hin_16 dX12_isLit_32 (fun x_17 ex_17 => ?_)
          refine lv_if_ne (tgt := 40) hx hb dX12_isLit_33 (dk_dq rfl) (fun c_18 => ?_) (fun c_18 => ?_)
          · have jc_18 := dk_neqc (k := 0) (by decide +kernel) c_18
            refine lv_iconst (v := 0) hx hb dX12_isLit_40 (by decide +kernel) ?_
            have hz_19 : (0 : Int32).toInt = 0 := by decide +kernel
            refine W.widen (k := 0) (n := 0) (Nat.le_of_ble_eq_true rfl) (Nat.le_of_ble_eq_true rfl) ?_
            exact dg_iret hx hb hr hlocks (by decide +kernel) hP hS ⟨rfl, (by decide +kernel), (Eq.symm (F_m_isLit_p2 w_2_1 c_3 (Eq.symm ex_6.symm) (zI_eq f_x_7) c_8 ex_14 ex_15 (Eq.symm ex_17.symm) c_18)), trivial⟩ dX12_isLit_41
          · have jc_18 := dk_eqc (k := 0) (by decide +kernel) c_18
            refine lv_iconst (v := 1) hx hb dX12_isLit_36 (by decide +kernel) ?_
            refine lv_goto (tgt := 41) hx hb dX12_isLit_37 (dk_dq rfl) ?_
            have hz_20 : (1 : Int32).toInt = 1 := by decide +kernel
            refine W.widen (k := 0) (n := 0) (Nat.le_of_ble_eq_true rfl) (Nat.le_of_ble_eq_true rfl) ?_
            exact dg_iret hx hb hr hlocks (by decide +kernel) hP hS ⟨rfl, (by decide +kernel), (Eq.symm (F_m_isLit_p3 w_2_1 c_3 (Eq.symm ex_6.symm) (zI_eq f_x_7) c_8 ex_14 ex_15 (Eq.symm ex_17.symm) c_18)), trivial⟩ dX12_isLit_41
noncomputable def F_m_openBeside_J2 (x_99 : Int32) (x_116 : Int32) (x_98 : Int32) : (Int32 × Int32) ⊕ (Int32) := let x_120 : Int32 := x_99 + x_116; let x_121 : Int32 := x_98 + 1; (Sum.inl (x_121, x_120))
noncomputable def F_m_openBeside_J3 (x_99 : Int32) (x_98 : Int32) : (Int32 × Int32) ⊕ (Int32) := (F_m_openBeside_J2 x_99 (0 : Int32) x_98)
noncomputable def F_m_openBeside_B1 (S : dg_S) (o : Nat) (a2 : Int32) (a1 : Int32) : (Int32 × Int32) → (Int32 × Int32) ⊕ (Int32) := fun w9 => match w9 with | (x_98, x_99) => (if (4 : Int32) ≤ x_98 then (Sum.inr (x_99)) else let x_102 : Int32 := zI S 0 13; let x_103 : Int32 := zI S 0 47; let x_104 : Int32 := S.2.1 2 (x_102 : Int32).toNatClampNeg; let x_106 : Int32 := S.2.1 3 (x_102 : Int32).toNatClampNeg; let x_108 : Int32 := F_m_besideOf o S a2 x_98; (if x_108 = (-1 : Int32) then (F_m_openBeside_J3 x_99 x_98) else let x_125 : Int32 := F_m_besideOf o S a2 x_98; let x_127 : Int32 := F_m_isOpen o S a1 x_125; (if x_127 = (0 : Int32) then (F_m_openBeside_J3 x_99 x_98) else (F_m_openBeside_J2 x_99 (1 : Int32) x_98))))
noncomputable def F_m_openBeside (o : Nat) (S : dg_S) (a1 : Int32) (a2 : Int32) : Int32 := (lp (F_m_openBeside_B1 S o a2 a1) (0 : Int32) ((5 - ((0 : Int32)).toInt).toNat + 1) ((0 : Int32), (0 : Int32)))
theorem F_m_openBeside_p0 {S : dg_S} {o : Nat} {a2 : Int32} {a1 : Int32} {x_98 : Int32} {x_99 : Int32} (h0 : (4 : Int32) ≤ x_98) : (F_m_openBeside_B1 S o a2 a1) (x_98, x_99) = Sum.inr (x_99) := (Eq.trans (if_pos h0) rfl)
theorem F_m_openBeside_p1 {x_99 : Int32} {x_116 : Int32} {x_98 : Int32} {x_121 : Int32} {x_120 : Int32} (h0 : x_120 = x_99 + x_116) (h1 : x_121 = x_98 + 1) : F_m_openBeside_J2 x_99 x_116 x_98 = Sum.inl (x_121, x_120) := by
  replace h0 := Eq.symm h0
  subst h0
  replace h1 := Eq.symm h1
  subst h1
  exact rfl
theorem F_m_openBeside_p2 {x_99 : Int32} {x_98 : Int32}  : F_m_openBeside_J3 x_99 x_98 = F_m_openBeside_J2 x_99 (0 : Int32) x_98 := rfl
theorem F_m_openBeside_p3 {S : dg_S} {o : Nat} {a2 : Int32} {a1 : Int32} {x_98 : Int32} {x_99 : Int32} {x_108 : Int32} (h0 : ¬ ((4 : Int32) ≤ x_98)) (h1 : x_108 = F_m_besideOf o S a2 x_98) (h2 : x_108 = (-1 : Int32)) : (F_m_openBeside_B1 S o a2 a1) (x_98, x_99) = F_m_openBeside_J3 x_99 x_98 := by
  replace h1 := Eq.symm h1
  subst h1
  exact (Eq.trans (if_neg h0) (Eq.trans (if_pos h2) rfl))
theorem F_m_openBeside_p4 {S : dg_S} {o : Nat} {a2 : Int32} {a1 : Int32} {x_98 : Int32} {x_99 : Int32} {x_108 : Int32} {x_125 : Int32} {x_127 : Int32} (h0 : ¬ ((4 : Int32) ≤ x_98)) (h1 : x_108 = F_m_besideOf o S a2 x_98) (h2 : ¬ (x_108 = (-1 : Int32))) (h3 : x_125 = F_m_besideOf o S a2 x_98) (h4 : x_127 = F_m_isOpen o S a1 x_125) (h5 : x_127 = (0 : Int32)) : (F_m_openBeside_B1 S o a2 a1) (x_98, x_99) = F_m_openBeside_J3 x_99 x_98 := by
  replace h1 := Eq.symm h1
  subst h1
  replace h3 := Eq.symm h3
  subst h3
  replace h4 := Eq.symm h4
  subst h4
  exact (Eq.trans (if_neg h0) (Eq.trans (if_neg h2) (Eq.trans (if_pos h5) rfl)))
theorem F_m_openBeside_p5 {S : dg_S} {o : Nat} {a2 : Int32} {a1 : Int32} {x_98 : Int32} {x_99 : Int32} {x_108 : Int32} {x_125 : Int32} {x_127 : Int32} (h0 : ¬ ((4 : Int32) ≤ x_98)) (h1 : x_108 = F_m_besideOf o S a2 x_98) (h2 : ¬ (x_108 = (-1 : Int32))) (h3 : x_125 = F_m_besideOf o S a2 x_98) (h4 : x_127 = F_m_isOpen o S a1 x_125) (h5 : ¬ (x_127 = (0 : Int32))) : (F_m_openBeside_B1 S o a2 a1) (x_98, x_99) = F_m_openBeside_J2 x_99 (1 : Int32) x_98 := by
  replace h1 := Eq.symm h1
  subst h1
  replace h3 := Eq.symm h3
  subst h3
  replace h4 := Eq.symm h4
  subst h4
  exact (Eq.trans (if_neg h0) (Eq.trans (if_neg h2) (Eq.trans (if_neg h5) rfl)))
theorem F_m_openBeside_p6 {o : Nat} {S : dg_S} {a1 : Int32} {a2 : Int32}  : F_m_openBeside o S a1 a2 = lp (F_m_openBeside_B1 S o a2 a1) (0 : Int32) ((5 - ((0 : Int32)).toInt).toNat + 1) ((0 : Int32), (0 : Int32)) := rfl
set_option maxHeartbeats 8000000 in
set_option maxRecDepth 100000 in
theorem c_m_openBeside (l : Launch) (g : Nat → ClassId) (D : va_G) (o : Nat) (S : dg_S) (a1 : Int32) (b_a1 : 0 ≤ (a1).toInt ∧ (a1).toInt ≤ 21) (a2 : Int32) (b_a2 : 0 ≤ (a2).toInt ∧ (a2).toInt ≤ 63) (ZB : ZBM S) (I : CM o S) (sz : Nat) : Met l yX12_openBeside (bw yX12_openBeside cX12_openBeside 5 (some .int)) ({ frames := 4, cells := 0, slots := 0, locals := 100 } : Room) (dk_Pc g D (dg_w g shM o rfM S) sz [.ref (o + 0), .int a1, .int a2]) (va_Qi (fun (r : Int32) S' => S' = S ∧ (r = F_m_openBeside o S a1 a2) ∧ True) (dg_B g D shM o rfM) (dg_A o shM.length sz)) 0 0 (dg_A o shM.length sz) := by
  refine dg_met (cc := cX12_openBeside) (maxL := 5) (ret := (some .int)) (dk_dq rfl) rfl (Nat.le_of_ble_eq_true rfl) ?_
  intro p e s m args below meth c A hAe harg hx hb hr hml hts hown hlocks hin hP K hS hA1 hA ST hsz ls hl
  rw [← hAe]
  have F : CallFix p m c cX12_openBeside 5 s args (bw yX12_openBeside cX12_openBeside 5 (some .int)) RX12 := ⟨hx, hb, hml, hown, hts⟩
  have hl : lv_has ls 5 [(0, .ref (o + 0)), (1, .int a1), (2, .int a2)] := hl
  have M_0 : dg_sm shM [] [] S S := dg_sm.rf
  refine lv_iconst (v := 0) hx hb dX12_openBeside_0 (by decide +kernel) ?_
  refine lv_istore_n (lv' := [(3, .int 0), (0, .ref (o + 0)), (1, .int a1), (2, .int a2)]) hx hb dX12_openBeside_1 rfl hl (dk_dq rfl) rfl (fun ls hl => ?_)
  refine lv_iconst (v := 0) hx hb dX12_openBeside_2 (by decide +kernel) ?_
  refine lv_istore (lv' := [(4, .int 0), (3, .int 0), (0, .ref (o + 0)), (1, .int a1), (2, .int a2)]) hx hb dX12_openBeside_3 hl (dk_dq rfl) rfl (fun ls hl => ?_)
  have L_100 : ∀ (n : Nat) (x_98 : Int32) (x_99 : Int32), (0 ≤ (x_98).toInt ∧ (x_98).toInt ≤ 4) → ((5 - (x_98).toInt).toNat < n) → (F_m_openBeside o S a1 a2 = lp (F_m_openBeside_B1 S o a2 a1) (0 : Int32) n (x_98, x_99)) → ∀ (H : Heap) (locs : List Loc), va_P D vwCl (dg_w g shM o rfM S) H → va_S A s.heap H locs → ∀ ls : Array Slot, lv_has ls 5 [(4, .int x_98), (3, .int x_99), (0, .ref (o + 0)), (1, .int a1), (2, .int a2)] → W p l e ({ frames := 4, cells := 0, slots := 0, locals := 100 } : Room) s m args below meth c H locs 0 0 (MQ below (va_Qi (fun (r : Int32) S' => S' = S ∧ (r = F_m_openBeside o S a1 a2) ∧ True) (dg_B g D shM o rfM) A) args s 0 0 A) (F0 m 5 ls []) := by
    as_aux_lemma =>
      intro n
      induction n with
      | zero =>
        intro x_98 x_99 b_x_98 hmu hF_1 H locs hP hS ls hl
        omega
      | succ n ih =>
        as_aux_lemma =>
          intro x_98 x_99 b_x_98 hmu hF_1 H locs hP hS ls hl
          refine lv_iload hx hb dX12_openBeside_5 (lv_at hl 0 rfl) ?_
          refine lv_iconst (v := 4) hx hb dX12_openBeside_7 (by decide +kernel) ?_
          refine lv_icmp_ge (tgt := 51) hx hb dX12_openBeside_8 (dk_dq rfl) (fun c_101 => ?_) (fun c_101 => ?_)
          · have jc_101 := dk_gec (k := 4) (by decide +kernel) c_101
            refine lv_iload_n hx hb dX12_openBeside_51 rfl (lv_at hl 1 rfl) ?_
            refine W.widen (k := 0) (n := 0) (Nat.le_of_ble_eq_true rfl) (Nat.le_of_ble_eq_true rfl) ?_
            exact dg_iret hx hb hr hlocks rfl hP hS ⟨rfl, (Eq.symm (lp_r hF_1 (F_m_openBeside_p0 c_101))), trivial⟩ dX12_openBeside_52
          · as_aux_lemma =>
              have jc_101 := dk_ngec (k := 4) (by decide +kernel) c_101
              refine lv_iload_n hx hb dX12_openBeside_11 rfl (lv_at hl 1 rfl) ?_
              refine lv_aload_n hx hb dX12_openBeside_12 rfl (lv_at hl 2 rfl) ?_
              refine lv_iload_n hx hb dX12_openBeside_13 rfl (lv_at hl 4 rfl) ?_
              refine lv_iload hx hb dX12_openBeside_14 (lv_at hl 0 rfl) ?_
              obtain ⟨x_102, f_x_102, b_x_102⟩ := dg_I.int (i := 0) (k := 13) (lo := 0) (hi := 1) I sM_0 (by decide +kernel)
              obtain ⟨x_103, f_x_103, b_x_103⟩ := dg_I.int (i := 0) (k := 47) (lo := 0) (hi := 1) I sM_0 (by decide +kernel)
              obtain ⟨x_104, f_x_104⟩ : ∃ x, S.2.1 2 (x_102 : Int32).toNatClampNeg = x := ⟨_, rfl⟩
              have hin_105 : vp_in (x_102 : Int32) 2 := (dk_inv2 (by omega))
              have b_x_104 := dk_all_at (dg_I.row (lo := 0) (hi := 9999) I sM_2 (by decide +kernel)) hin_105 f_x_104.symm
              have ex_104 := f_x_104.symm
              have zb_x_104 : (x_104).toInt ≤ 7 ∧ ((x_103 : Int32).toInt = 1 → 3 ≤ (x_104).toInt) := by rw [ex_104]; exact ⟨(ZB x_102 x_103 f_x_102 f_x_103).1, fun h9 => ((ZB x_102 x_103 f_x_102 f_x_103).2.2.2 h9).1⟩
              obtain ⟨x_106, f_x_106⟩ : ∃ x, S.2.1 3 (x_102 : Int32).toNatClampNeg = x := ⟨_, rfl⟩
              have hin_107 : vp_in (x_102 : Int32) 2 := (dk_inv2 (by omega))
              have b_x_106 := dk_all_at (dg_I.row (lo := 0) (hi := 9999) I sM_3 (by decide +kernel)) hin_107 f_x_106.symm
              have ex_106 := f_x_106.symm
              have zb_x_106 : (x_106).toInt ≤ 7 ∧ ((x_103 : Int32).toInt = 1 → 3 ≤ (x_106).toInt) := by rw [ex_106]; exact ⟨(ZB x_102 x_103 f_x_102 f_x_103).2.1, fun h9 => ((ZB x_102 x_103 f_x_102 f_x_103).2.2.2 h9).2⟩
              refine dg_calli hS hA1 hA (va_runV (As := [.int a2, .int x_98]) (rest := [.int x_99]) F (c_m_besideOf l g D o S a2 (by omega) x_98 (by omega) x_102 f_x_102 (by omega) x_103 f_x_103 (by omega) x_104 f_x_104 (by omega) x_106 f_x_106 (by omega) ZB I H.size) (cwV 2 hts (bw_V wB_1099 wB_1100 wB_1101 wB_297 wB_1098) rfl rfl rfl (by decide +kernel) ⟨Nat.le_of_ble_eq_true rfl, Nat.le_of_ble_eq_true rfl⟩) (dg_preV sM_0 rfl K ST hP hS hA1 hA) rfl rfl hl.1 rfl (lv_room (Nat.le_of_ble_eq_true rfl)) dX12_openBeside_16 ⟨Nat.le_of_ble_eq_true rfl, Nat.le_of_ble_eq_true rfl⟩) (fun x_108 S_109 hw_109 H locs hP hS => ?_)
              rw [hw_109.1] at hP
              obtain ⟨hq_109, w_109_0, w_109_1, w_109_2, -⟩ := hw_109
              have w_109_0 : ((-1) ≤ (x_108).toInt ∧ (x_108).toInt ≤ 54) ∧ ((x_108).toInt ≤ (-1) ∨ 0 ≤ (x_108).toInt) := w_109_0
              have w_109_1 : (x_108).toInt ≠ -1 ↔ ((x_103).toInt = 1 ∧ 0 ≤ (a2).toInt % 8 + dk_dC (x_98).toInt ∧ (a2).toInt % 8 + dk_dC (x_98).toInt < (x_104).toInt ∧ 0 ≤ (a2).toInt / 8 + dk_dR (x_98).toInt ∧ (a2).toInt / 8 + dk_dR (x_98).toInt < (x_106).toInt) := w_109_1
              refine lv_iconst (v := (-1)) hx hb dX12_openBeside_19 (by decide +kernel) ?_
              have J_119 : ∀ (x_116 : Int32), (0 ≤ (x_116).toInt ∧ (x_116).toInt ≤ 1) → ((F_m_openBeside_B1 S o a2 a1) (x_98, x_99) = F_m_openBeside_J2 x_99 x_116 x_98) → ∀ (H : Heap) (locs : List Loc), va_P D vwCl (dg_w g shM o rfM S) H → va_S A s.heap H locs → ∀ ls : Array Slot, lv_has ls 5 [(4, .int x_98), (3, .int x_99), (0, .ref (o + 0)), (1, .int a1), (2, .int a2)] → W p l e ({ frames := 4, cells := 0, slots := 0, locals := 100 } : Room) s m args below meth c H locs 0 0 (MQ below (va_Qi (fun (r : Int32) S' => S' = S ∧ (r = F_m_openBeside o S a1 a2) ∧ True) (dg_B g D shM o rfM) A) args s 0 0 A) (F0 m 43 ls [.int x_116, .int x_99]) := by
                intro x_116 b_x_116 hF_2 H locs hP hS ls hl
                refine lv_iadd hx hb dX12_openBeside_43 ?_
                refine lv_topi (fun x_120 ex_120 => ?_)
                refine lv_istore_n (lv' := [(3, .int x_120), (4, .int x_98), (0, .ref (o + 0)), (1, .int a1), (2, .int a2)]) hx hb dX12_openBeside_44 rfl hl (dk_dq rfl) rfl (fun ls hl => ?_)
                obtain ⟨x_121, ex_121⟩ : ∃ z, z = x_98 + 1 := ⟨_, rfl⟩
                have jx_121 : (x_121).toInt = (x_98).toInt + 1 := by rw [ex_121]; exact dk_addT2 rfl (by decide +kernel) (by omega)
                refine lv_iinc (v := x_121) (lv' := [(4, .int x_121), (3, .int x_120), (0, .ref (o + 0)), (1, .int a1), (2, .int a2)]) hx hb dX12_openBeside_45 hl (k := 1) rfl (by rw [ex_121]; rfl) (dk_dq rfl) rfl (fun ls hl => ?_)
                refine lv_goto (tgt := 5) hx hb dX12_openBeside_48 (dk_dq rfl) ?_
                exact ih x_121 x_120 (by omega) (by first | exact mu_lt hmu (by omega) (by omega) | omega) (lp_l hF_1 (Eq.trans hF_2 (F_m_openBeside_p1 ex_120 ex_121))) _ _ hP hS _ (lv_sub hl [0, 1, 2, 3, 4] rfl)
              have J_122 : ((F_m_openBeside_B1 S o a2 a1) (x_98, x_99) = F_m_openBeside_J3 x_99 x_98) → ∀ (H : Heap) (locs : List Loc), va_P D vwCl (dg_w g shM o rfM S) H → va_S A s.heap H locs → ∀ ls : Array Slot, lv_has ls 5 [(4, .int x_98), (3, .int x_99), (0, .ref (o + 0)), (1, .int a1), (2, .int a2)] → W p l e ({ frames := 4, cells := 0, slots := 0, locals := 100 } : Room) s m args below meth c H locs 0 0 (MQ below (va_Qi (fun (r : Int32) S' => S' = S ∧ (r = F_m_openBeside o S a1 a2) ∧ True) (dg_B g D shM o rfM) A) args s 0 0 A) (F0 m 42 ls [.int x_99]) := by
                intro hF_3 H locs hP hS ls hl
                refine lv_iconst (v := 0) hx hb dX12_openBeside_42 (by decide +kernel) ?_
                have hz_123 : (0 : Int32).toInt = 0 := by decide +kernel
                exact J_119 0 (by decide +kernel) (Eq.trans hF_3 (F_m_openBeside_p2)) _ _ hP hS _ (lv_sub hl [0, 1, 2, 3, 4] rfl)
              refine lv_icmp_eq (tgt := 42) hx hb dX12_openBeside_20 (dk_dq rfl) (fun c_124 => ?_) (fun c_124 => ?_)
              · have jc_124 := dk_eqc (k := (-1)) (by decide +kernel) c_124
                exact J_122   (F_m_openBeside_p3 c_101 w_109_2 c_124) _ _ hP hS _ (lv_sub hl [0, 1, 2, 3, 4] rfl)
              · as_aux_lemma =>
                  have jc_124 := dk_neqc (k := (-1)) (by decide +kernel) c_124
                  refine lv_aload_n hx hb dX12_openBeside_23 rfl (lv_at hl 2 rfl) ?_
                  refine lv_iload_n hx hb dX12_openBeside_24 rfl (lv_at hl 3 rfl) ?_
                  refine lv_aload_n hx hb dX12_openBeside_25 rfl (lv_at hl 2 rfl) ?_
                  refine lv_iload_n hx hb dX12_openBeside_26 rfl (lv_at hl 4 rfl) ?_
                  refine lv_iload hx hb dX12_openBeside_27 (lv_at hl 0 rfl) ?_
                  refine dg_calli hS hA1 hA (va_runV (As := [.int a2, .int x_98]) (rest := [.int a1, .ref (o + 0), .int x_99]) F (c_m_besideOf l g D o S a2 (by omega) x_98 (by omega) x_102 f_x_102 (by omega) x_103 f_x_103 (by omega) x_104 f_x_104 (by omega) x_106 f_x_106 (by omega) ZB I H.size) (cwV 2 hts (bw_V wB_1099 wB_1100 wB_1101 wB_297 wB_1098) rfl rfl rfl (by decide +kernel) ⟨Nat.le_of_ble_eq_true rfl, Nat.le_of_ble_eq_true rfl⟩) (dg_preV sM_0 rfl K ST hP hS hA1 hA) rfl rfl hl.1 rfl (lv_room (Nat.le_of_ble_eq_true rfl)) dX12_openBeside_29 ⟨Nat.le_of_ble_eq_true rfl, Nat.le_of_ble_eq_true rfl⟩) (fun x_125 S_126 hw_126 H locs hP hS => ?_)
                  rw [hw_126.1] at hP
                  obtain ⟨hq_126, w_126_0, w_126_1, w_126_2, -⟩ := hw_126
                  have w_126_0 : ((-1) ≤ (x_125).toInt ∧ (x_125).toInt ≤ 54) ∧ ((x_125).toInt ≤ (-1) ∨ 0 ≤ (x_125).toInt) := w_126_0
                  have w_126_1 : (x_125).toInt ≠ -1 ↔ ((x_103).toInt = 1 ∧ 0 ≤ (a2).toInt % 8 + dk_dC (x_98).toInt ∧ (a2).toInt % 8 + dk_dC (x_98).toInt < (x_104).toInt ∧ 0 ≤ (a2).toInt / 8 + dk_dR (x_98).toInt ∧ (a2).toInt / 8 + dk_dR (x_98).toInt < (x_106).toInt) := w_126_1
                  refine dg_calli hS hA1 hA (va_runV (As := [.int a1, .int x_125]) (rest := [.int x_99]) F (c_m_isOpen l g D o S a1 (by omega) x_125 (by omega) I H.size) (cwV 2 hts (bw_V wB_1092 wB_1093 wB_1094 wB_297 wB_1091) rfl rfl rfl (by decide +kernel) ⟨Nat.le_of_ble_eq_true rfl, Nat.le_of_ble_eq_true rfl⟩) (dg_preV sM_0 rfl K ST hP hS hA1 hA) rfl rfl hl.1 rfl (lv_room (Nat.le_of_ble_eq_true rfl)) dX12_openBeside_32 ⟨Nat.le_of_ble_eq_true rfl, Nat.le_of_ble_eq_true rfl⟩) (fun x_127 S_128 hw_128 H locs hP hS => ?_)
                  rw [hw_128.1] at hP
                  obtain ⟨hq_128, w_128_0, w_128_1, -⟩ := hw_128
                  have w_128_0 : 0 ≤ (x_127).toInt ∧ (x_127).toInt ≤ 1 := w_128_0
                  refine lv_if_eq (tgt := 42) hx hb dX12_openBeside_35 (dk_dq rfl) (fun c_129 => ?_) (fun c_129 => ?_)
                  · have jc_129 := dk_eqc (k := 0) (by decide +kernel) c_129
                    exact J_122   (F_m_openBeside_p4 c_101 w_109_2 c_124 w_126_2 w_128_1 c_129) _ _ hP hS _ (lv_sub hl [0, 1, 2, 3, 4] rfl)
                  · have jc_129 := dk_neqc (k := 0) (by decide +kernel) c_129
                    refine lv_iconst (v := 1) hx hb dX12_openBeside_38 (by decide +kernel) ?_
                    refine lv_goto (tgt := 43) hx hb dX12_openBeside_39 (dk_dq rfl) ?_
                    have hz_130 : (1 : Int32).toInt = 1 := by decide +kernel
                    exact J_119 1 (by decide +kernel) (F_m_openBeside_p5 c_101 w_109_2 c_124 w_126_2 w_128_1 c_129) _ _ hP hS _ (lv_sub hl [0, 1, 2, 3, 4] rfl)
  have hz_131 : (0 : Int32).toInt = 0 := by decide +kernel
  have hz_132 : (0 : Int32).toInt = 0 := by decide +kernel
  have hz_133 : (0 : Int32).toInt = 0 := by decide +kernel
  exact L_100 ((5 - ((0 : Int32)).toInt).toNat + 1) 0 0 (by decide +kernel) (by first | exact mu_lt hmu (by omega) (by omega) | omega) (F_m_openBeside_p6) _ _ hP hS _ (lv_sub hl [0, 1, 2, 3, 4] rfl)
noncomputable def F_m_litBeside_J2 (x_125 : Int32) (x_151 : Int32) : (Int32 × Int32) ⊕ (Int32) := let x_155 : Int32 := x_125 + 1; (Sum.inl (x_155, x_151))
noncomputable def F_m_litBeside_B1 (S : dg_S) (o : Nat) (a2 : Int32) (a1 : Int32) : (Int32 × Int32) → (Int32 × Int32) ⊕ (Int32) := fun w9 => match w9 with | (x_125, x_126) => (if (4 : Int32) ≤ x_125 then (Sum.inr (x_126)) else let x_130 : Int32 := zI S 0 13; let x_131 : Int32 := zI S 0 47; let x_132 : Int32 := S.2.1 2 (x_130 : Int32).toNatClampNeg; let x_134 : Int32 := S.2.1 3 (x_130 : Int32).toNatClampNeg; let x_136 : Int32 := F_m_besideOf o S a2 x_125; (if x_136 = (-1 : Int32) then (F_m_litBeside_J2 x_125 x_126) else let x_159 : Int32 := F_m_isLit o S a1 x_136; (if x_159 = (0 : Int32) then (F_m_litBeside_J2 x_125 x_126) else let x_164 : Int32 := S.2.1 42 (x_136 : Int32).toNatClampNeg; (if x_126 ≤ x_164 then (F_m_litBeside_J2 x_125 x_126) else (F_m_litBeside_J2 x_125 x_164)))))
noncomputable def F_m_litBeside (o : Nat) (S : dg_S) (a1 : Int32) (a2 : Int32) : Int32 := (lp (F_m_litBeside_B1 S o a2 a1) (0 : Int32) ((5 - ((0 : Int32)).toInt).toNat + 1) ((0 : Int32), (100000000 : Int32)))
theorem F_m_litBeside_p0 {S : dg_S} {o : Nat} {a2 : Int32} {a1 : Int32} {x_125 : Int32} {x_126 : Int32} (h0 : (4 : Int32) ≤ x_125) : (F_m_litBeside_B1 S o a2 a1) (x_125, x_126) = Sum.inr (x_126) := (Eq.trans (if_pos h0) rfl)
theorem F_m_litBeside_p1 {x_125 : Int32} {x_151 : Int32} {x_155 : Int32} (h0 : x_155 = x_125 + 1) : F_m_litBeside_J2 x_125 x_151 = Sum.inl (x_155, x_151) := by
  replace h0 := Eq.symm h0
  subst h0
  exact rfl
theorem F_m_litBeside_p2 {S : dg_S} {o : Nat} {a2 : Int32} {a1 : Int32} {x_125 : Int32} {x_126 : Int32} {x_136 : Int32} (h0 : ¬ ((4 : Int32) ≤ x_125)) (h1 : x_136 = F_m_besideOf o S a2 x_125) (h2 : x_136 = (-1 : Int32)) : (F_m_litBeside_B1 S o a2 a1) (x_125, x_126) = F_m_litBeside_J2 x_125 x_126 := by
  replace h1 := Eq.symm h1
  subst h1
  exact (Eq.trans (if_neg h0) (Eq.trans (if_pos h2) rfl))
theorem F_m_litBeside_p3 {S : dg_S} {o : Nat} {a2 : Int32} {a1 : Int32} {x_125 : Int32} {x_126 : Int32} {x_136 : Int32} {x_159 : Int32} (h0 : ¬ ((4 : Int32) ≤ x_125)) (h1 : x_136 = F_m_besideOf o S a2 x_125) (h2 : ¬ (x_136 = (-1 : Int32))) (h3 : x_159 = F_m_isLit o S a1 x_136) (h4 : x_159 = (0 : Int32)) : (F_m_litBeside_B1 S o a2 a1) (x_125, x_126) = F_m_litBeside_J2 x_125 x_126 := by
  replace h1 := Eq.symm h1
  subst h1
  replace h3 := Eq.symm h3
  subst h3
  exact (Eq.trans (if_neg h0) (Eq.trans (if_neg h2) (Eq.trans (if_pos h4) rfl)))
theorem F_m_litBeside_p4 {S : dg_S} {o : Nat} {a2 : Int32} {a1 : Int32} {x_125 : Int32} {x_126 : Int32} {x_136 : Int32} {x_159 : Int32} {x_164 : Int32} (h0 : ¬ ((4 : Int32) ≤ x_125)) (h1 : x_136 = F_m_besideOf o S a2 x_125) (h2 : ¬ (x_136 = (-1 : Int32))) (h3 : x_159 = F_m_isLit o S a1 x_136) (h4 : ¬ (x_159 = (0 : Int32))) (h5 : x_164 = S.2.1 42 (x_136 : Int32).toNatClampNeg) (h6 : x_126 ≤ x_164) : (F_m_litBeside_B1 S o a2 a1) (x_125, x_126) = F_m_litBeside_J2 x_125 x_126 := by
  replace h1 := Eq.symm h1
  subst h1
  replace h3 := Eq.symm h3
  subst h3
  replace h5 := Eq.symm h5
  subst h5
  exact (Eq.trans (if_neg h0) (Eq.trans (if_neg h2) (Eq.trans (if_neg h4) (Eq.trans (if_pos h6) rfl))))
theorem F_m_litBeside_p5 {S : dg_S} {o : Nat} {a2 : Int32} {a1 : Int32} {x_125 : Int32} {x_126 : Int32} {x_164 : Int32} {x_136 : Int32} {x_159 : Int32} (h0 : ¬ ((4 : Int32) ≤ x_125)) (h1 : x_136 = F_m_besideOf o S a2 x_125) (h2 : ¬ (x_136 = (-1 : Int32))) (h3 : x_159 = F_m_isLit o S a1 x_136) (h4 : ¬ (x_159 = (0 : Int32))) (h5 : x_164 = S.2.1 42 (x_136 : Int32).toNatClampNeg) (h6 : ¬ (x_126 ≤ x_164)) : (F_m_litBeside_B1 S o a2 a1) (x_125, x_126) = F_m_litBeside_J2 x_125 x_164 := by
  replace h1 := Eq.symm h1
  subst h1
  replace h3 := Eq.symm h3
  subst h3
  replace h5 := Eq.symm h5
  subst h5
  exact (Eq.trans (if_neg h0) (Eq.trans (if_neg h2) (Eq.trans (if_neg h4) (Eq.trans (if_neg h6) rfl))))
theorem F_m_litBeside_p6 {o : Nat} {S : dg_S} {a1 : Int32} {a2 : Int32}  : F_m_litBeside o S a1 a2 = lp (F_m_litBeside_B1 S o a2 a1) (0 : Int32) ((5 - ((0 : Int32)).toInt).toNat + 1) ((0 : Int32), (100000000 : Int32)) := rfl
set_option maxHeartbeats 8000000 in
set_option maxRecDepth 100000 in
theorem c_m_litBeside (l : Launch) (g : Nat → ClassId) (D : va_G) (o : Nat) (S : dg_S) (a1 : Int32) (b_a1 : 0 ≤ (a1).toInt ∧ (a1).toInt ≤ 21) (a2 : Int32) (b_a2 : 0 ≤ (a2).toInt ∧ (a2).toInt ≤ 63) (ZB : ZBM S) (I : CM o S) (sz : Nat) : Met l yX12_litBeside (bw yX12_litBeside cX12_litBeside 6 (some .int)) ({ frames := 4, cells := 0, slots := 0, locals := 100 } : Room) (dk_Pc g D (dg_w g shM o rfM S) sz [.ref (o + 0), .int a1, .int a2]) (va_Qi (fun (r : Int32) S' => S' = S ∧ ((-2147483648) ≤ (r).toInt ∧ (r).toInt ≤ 100000000) ∧ (r = F_m_litBeside o S a1 a2) ∧ True) (dg_B g D shM o rfM) (dg_A o shM.length sz)) 0 0 (dg_A o shM.length sz) := by
  refine dg_met (cc := cX12_litBeside) (maxL := 6) (ret := (some .int)) (dk_dq rfl) rfl (Nat.le_of_ble_eq_true rfl) ?_
  intro p e s m args below meth c A hAe harg hx hb hr hml hts hown hlocks hin hP K hS hA1 hA ST hsz ls hl
  rw [← hAe]
  have F : CallFix p m c cX12_litBeside 6 s args (bw yX12_litBeside cX12_litBeside 6 (some .int)) RX12 := ⟨hx, hb, hml, hown, hts⟩
  have hl : lv_has ls 6 [(0, .ref (o + 0)), (1, .int a1), (2, .int a2)] := hl
  have M_0 : dg_sm shM [] [] S S := dg_sm.rf
  refine lv_ldcw hx hb hown (hts _ (bw_mem wB_1102)) dX12_litBeside_0 ?_
  refine lv_istore_n (lv' := [(3, .int 100000000), (0, .ref (o + 0)), (1, .int a1), (2, .int a2)]) hx hb dX12_litBeside_3 rfl hl (dk_dq rfl) rfl (fun ls hl => ?_)
  refine lv_iconst (v := 0) hx hb dX12_litBeside_4 (by decide +kernel) ?_
  refine lv_istore (lv' := [(4, .int 0), (3, .int 100000000), (0, .ref (o + 0)), (1, .int a1), (2, .int a2)]) hx hb dX12_litBeside_5 hl (dk_dq rfl) rfl (fun ls hl => ?_)
  have L_127 : ∀ (n : Nat) (x_125 : Int32) (x_126 : Int32), (0 ≤ (x_125).toInt ∧ (x_125).toInt ≤ 4) → ((-2147483648) ≤ (x_126).toInt ∧ (x_126).toInt ≤ 100000000) → ((5 - (x_125).toInt).toNat < n) → (F_m_litBeside o S a1 a2 = lp (F_m_litBeside_B1 S o a2 a1) (0 : Int32) n (x_125, x_126)) → ∀ (H : Heap) (locs : List Loc), va_P D vwCl (dg_w g shM o rfM S) H → va_S A s.heap H locs → ∀ ls : Array Slot, lv_has ls 6 [(4, .int x_125), (3, .int x_126), (0, .ref (o + 0)), (1, .int a1), (2, .int a2)] → W p l e ({ frames := 4, cells := 0, slots := 0, locals := 100 } : Room) s m args below meth c H locs 0 0 (MQ below (va_Qi (fun (r : Int32) S' => S' = S ∧ ((-2147483648) ≤ (r).toInt ∧ (r).toInt ≤ 100000000) ∧ (r = F_m_litBeside o S a1 a2) ∧ True) (dg_B g D shM o rfM) A) args s 0 0 A) (F0 m 7 ls []) := by
    as_aux_lemma =>
      intro n
      induction n with
      | zero =>
        intro x_125 x_126 b_x_125 b_x_126 hmu hF_1 H locs hP hS ls hl
        omega
      | succ n ih =>
        as_aux_lemma =>
          intro x_125 x_126 b_x_125 b_x_126 hmu hF_1 H locs hP hS ls hl
          refine lv_iload hx hb dX12_litBeside_7 (lv_at hl 0 rfl) ?_
          refine lv_iconst (v := 4) hx hb dX12_litBeside_9 (by decide +kernel) ?_
          refine lv_icmp_ge (tgt := 63) hx hb dX12_litBeside_10 (dk_dq rfl) (fun c_128 => ?_) (fun c_128 => ?_)
          · have jc_128 := dk_gec (k := 4) (by decide +kernel) c_128
            refine lv_iload_n hx hb dX12_litBeside_63 rfl (lv_at hl 1 rfl) ?_
            have hf_128 := dk_full x_126
            refine W.widen (k := 0) (n := 0) (Nat.le_of_ble_eq_true rfl) (Nat.le_of_ble_eq_true rfl) ?_
            exact dg_iret hx hb hr hlocks rfl hP hS ⟨rfl, (by omega), (Eq.symm (lp_r hF_1 (F_m_litBeside_p0 c_128))), trivial⟩ dX12_litBeside_64
          · as_aux_lemma =>
              have jc_128 := dk_ngec (k := 4) (by decide +kernel) c_128
              refine lv_aload_n hx hb dX12_litBeside_13 rfl (lv_at hl 2 rfl) ?_
              refine lv_iload_n hx hb dX12_litBeside_14 rfl (lv_at hl 4 rfl) ?_
              refine lv_iload hx hb dX12_litBeside_15 (lv_at hl 0 rfl) ?_
              obtain ⟨x_130, f_x_130, b_x_130⟩ := dg_I.int (i := 0) (k := 13) (lo := 0) (hi := 1) I sM_0 (by decide +kernel)
              obtain ⟨x_131, f_x_131, b_x_131⟩ := dg_I.int (i := 0) (k := 47) (lo := 0) (hi := 1) I sM_0 (by decide +kernel)
              obtain ⟨x_132, f_x_132⟩ : ∃ x, S.2.1 2 (x_130 : Int32).toNatClampNeg = x := ⟨_, rfl⟩
              have hin_133 : vp_in (x_130 : Int32) 2 := (dk_inv2 (by omega))
              have b_x_132 := dk_all_at (dg_I.row (lo := 0) (hi := 9999) I sM_2 (by decide +kernel)) hin_133 f_x_132.symm
              have ex_132 := f_x_132.symm
              have zb_x_132 : (x_132).toInt ≤ 7 ∧ ((x_131 : Int32).toInt = 1 → 3 ≤ (x_132).toInt) := by rw [ex_132]; exact ⟨(ZB x_130 x_131 f_x_130 f_x_131).1, fun h9 => ((ZB x_130 x_131 f_x_130 f_x_131).2.2.2 h9).1⟩
              obtain ⟨x_134, f_x_134⟩ : ∃ x, S.2.1 3 (x_130 : Int32).toNatClampNeg = x := ⟨_, rfl⟩
              have hin_135 : vp_in (x_130 : Int32) 2 := (dk_inv2 (by omega))
              have b_x_134 := dk_all_at (dg_I.row (lo := 0) (hi := 9999) I sM_3 (by decide +kernel)) hin_135 f_x_134.symm
              have ex_134 := f_x_134.symm
              have zb_x_134 : (x_134).toInt ≤ 7 ∧ ((x_131 : Int32).toInt = 1 → 3 ≤ (x_134).toInt) := by rw [ex_134]; exact ⟨(ZB x_130 x_131 f_x_130 f_x_131).2.1, fun h9 => ((ZB x_130 x_131 f_x_130 f_x_131).2.2.2 h9).2⟩
              refine dg_calli hS hA1 hA (va_runV (As := [.int a2, .int x_125]) (rest := []) F (c_m_besideOf l g D o S a2 (by omega) x_125 (by omega) x_130 f_x_130 (by omega) x_131 f_x_131 (by omega) x_132 f_x_132 (by omega) x_134 f_x_134 (by omega) ZB I H.size) (cwV 2 hts (bw_V wB_1099 wB_1100 wB_1101 wB_297 wB_1098) rfl rfl rfl (by decide +kernel) ⟨Nat.le_of_ble_eq_true rfl, Nat.le_of_ble_eq_true rfl⟩) (dg_preV sM_0 rfl K ST hP hS hA1 hA) rfl rfl hl.1 rfl (lv_room (Nat.le_of_ble_eq_true rfl)) dX12_litBeside_17 ⟨Nat.le_of_ble_eq_true rfl, Nat.le_of_ble_eq_true rfl⟩) (fun x_136 S_137 hw_137 H locs hP hS => ?_)
              rw [hw_137.1] at hP
              obtain ⟨hq_137, w_137_0, w_137_1, w_137_2, -⟩ := hw_137
              have w_137_0 : ((-1) ≤ (x_136).toInt ∧ (x_136).toInt ≤ 54) ∧ ((x_136).toInt ≤ (-1) ∨ 0 ≤ (x_136).toInt) := w_137_0
              have w_137_1 : (x_136).toInt ≠ -1 ↔ ((x_131).toInt = 1 ∧ 0 ≤ (a2).toInt % 8 + dk_dC (x_125).toInt ∧ (a2).toInt % 8 + dk_dC (x_125).toInt < (x_132).toInt ∧ 0 ≤ (a2).toInt / 8 + dk_dR (x_125).toInt ∧ (a2).toInt / 8 + dk_dR (x_125).toInt < (x_134).toInt) := w_137_1
              refine lv_istore (lv' := [(5, .int x_136), (4, .int x_125), (3, .int x_126), (0, .ref (o + 0)), (1, .int a1), (2, .int a2)]) hx hb dX12_litBeside_20 hl (dk_dq rfl) rfl (fun ls hl => ?_)
              refine lv_iload hx hb dX12_litBeside_22 (lv_at hl 0 rfl) ?_
              refine lv_iconst (v := (-1)) hx hb dX12_litBeside_24 (by decide +kernel) ?_
              have J_154 : ∀ (x_151 : Int32), ((-2147483648) ≤ (x_151).toInt ∧ (x_151).toInt ≤ 100000000) → ((F_m_litBeside_B1 S o a2 a1) (x_125, x_126) = F_m_litBeside_J2 x_125 x_151) → ∀ (H : Heap) (locs : List Loc), va_P D vwCl (dg_w g shM o rfM S) H → va_S A s.heap H locs → ∀ ls : Array Slot, lv_has ls 6 [(5, .int x_136), (4, .int x_125), (3, .int x_151), (0, .ref (o + 0)), (1, .int a1), (2, .int a2)] → W p l e ({ frames := 4, cells := 0, slots := 0, locals := 100 } : Room) s m args below meth c H locs 0 0 (MQ below (va_Qi (fun (r : Int32) S' => S' = S ∧ ((-2147483648) ≤ (r).toInt ∧ (r).toInt ≤ 100000000) ∧ (r = F_m_litBeside o S a1 a2) ∧ True) (dg_B g D shM o rfM) A) args s 0 0 A) (F0 m 57 ls []) := by
                intro x_151 b_x_151 hF_2 H locs hP hS ls hl
                obtain ⟨x_155, ex_155⟩ : ∃ z, z = x_125 + 1 := ⟨_, rfl⟩
                have jx_155 : (x_155).toInt = (x_125).toInt + 1 := by rw [ex_155]; exact dk_addT2 rfl (by decide +kernel) (by omega)
                refine lv_iinc (v := x_155) (lv' := [(4, .int x_155), (5, .int x_136), (3, .int x_151), (0, .ref (o + 0)), (1, .int a1), (2, .int a2)]) hx hb dX12_litBeside_57 hl (k := 1) rfl (by rw [ex_155]; rfl) (dk_dq rfl) rfl (fun ls hl => ?_)
                refine lv_goto (tgt := 7) hx hb dX12_litBeside_60 (dk_dq rfl) ?_
                have hf_155 := dk_full x_151
                exact ih x_155 x_151 (by omega) (by omega) (by first | exact mu_lt hmu (by omega) (by omega) | omega) (lp_l hF_1 (Eq.trans hF_2 (F_m_litBeside_p1 ex_155))) _ _ hP hS _ (lv_sub hl [0, 2, 3, 4, 5] rfl)
              refine lv_icmp_eq (tgt := 57) hx hb dX12_litBeside_25 (dk_dq rfl) (fun c_157 => ?_) (fun c_157 => ?_)
              · have jc_157 := dk_eqc (k := (-1)) (by decide +kernel) c_157
                have hf_157 := dk_full x_126
                exact J_154 x_126 (by omega) (F_m_litBeside_p2 c_128 w_137_2 c_157) _ _ hP hS _ (lv_sub hl [0, 1, 2, 3, 4, 5] rfl)
              · as_aux_lemma =>
                  have jc_157 := dk_neqc (k := (-1)) (by decide +kernel) c_157
                  refine lv_aload_n hx hb dX12_litBeside_28 rfl (lv_at hl 3 rfl) ?_
                  refine lv_iload_n hx hb dX12_litBeside_29 rfl (lv_at hl 4 rfl) ?_
                  refine lv_iload hx hb dX12_litBeside_30 (lv_at hl 0 rfl) ?_
                  refine dg_calli hS hA1 hA (va_runV (As := [.int a1, .int x_136]) (rest := []) F (c_m_isLit l g D o S a1 (by omega) x_136 (by omega) I H.size) (cwV 2 hts (bw_V wB_1104 wB_1105 wB_1106 wB_297 wB_1103) rfl rfl rfl (by decide +kernel) ⟨Nat.le_of_ble_eq_true rfl, Nat.le_of_ble_eq_true rfl⟩) (dg_preV sM_0 rfl K ST hP hS hA1 hA) rfl rfl hl.1 rfl (lv_room (Nat.le_of_ble_eq_true rfl)) dX12_litBeside_32 ⟨Nat.le_of_ble_eq_true rfl, Nat.le_of_ble_eq_true rfl⟩) (fun x_159 S_160 hw_160 H locs hP hS => ?_)
                  rw [hw_160.1] at hP
                  obtain ⟨hq_160, w_160_0, w_160_1, -⟩ := hw_160
                  have w_160_0 : 0 ≤ (x_159).toInt ∧ (x_159).toInt ≤ 1 := w_160_0
                  refine lv_if_eq (tgt := 57) hx hb dX12_litBeside_35 (dk_dq rfl) (fun c_161 => ?_) (fun c_161 => ?_)
                  · have jc_161 := dk_eqc (k := 0) (by decide +kernel) c_161
                    have hf_161 := dk_full x_126
                    exact J_154 x_126 (by omega) (F_m_litBeside_p3 c_128 w_137_2 c_157 w_160_1 c_161) _ _ hP hS _ (lv_sub hl [0, 1, 2, 3, 4, 5] rfl)
                  · as_aux_lemma =>
                      have jc_161 := dk_neqc (k := 0) (by decide +kernel) c_161
                      refine lv_aload_n hx hb dX12_litBeside_38 rfl (lv_at hl 3 rfl) ?_
                      refine dg_get (C := RX12) (T := TX12) (N := 77) hx hb hts (fun w h => bw_mem (wU_X12 w h)) hown K hP sM_0 rfl 66 (dk_dq rfl) (hts _ (bw_mem wB_1095)) (fun _ h9 => h9) (v := .ref (o + 42)) (show S.1 0 66 = .ref (o + 42) from dg_I.rel (d := 42) I sM_0 (by decide +kernel)) dX12_litBeside_39 ?_
                      refine lv_iload hx hb dX12_litBeside_42 (lv_at hl 0 rfl) ?_
                      have hin_163 : vp_in x_136 64 := (dk_inv2 (by omega))
                      refine dg_iald hx hb K hP sM_42 hin_163 dX12_litBeside_44 (fun x_164 ex_164 => ?_)
                      refine lv_iload_n hx hb dX12_litBeside_45 rfl (lv_at hl 2 rfl) ?_
                      refine lv_icmp_ge (tgt := 57) hx hb dX12_litBeside_46 (dk_dq rfl) (fun c_165 => ?_) (fun c_165 => ?_)
                      · have hf_165 := dk_full x_164
                        have hf_166 := dk_full x_126
                        have jc_165 := dk_gec (k := (x_126).toInt) rfl c_165
                        have hf_167 := dk_full x_126
                        exact J_154 x_126 (by omega) (F_m_litBeside_p4 c_128 w_137_2 c_157 w_160_1 c_161 (Eq.symm ex_164.symm) c_165) _ _ hP hS _ (lv_sub hl [0, 1, 2, 3, 4, 5] rfl)
                      · have hf_168 := dk_full x_164
                        have hf_169 := dk_full x_126
                        have jc_165 := dk_ngec (k := (x_126).toInt) rfl c_165
                        refine lv_aload_n hx hb dX12_litBeside_49 rfl (lv_at hl 3 rfl) ?_
                        refine dg_get (C := RX12) (T := TX12) (N := 77) hx hb hts (fun w h => bw_mem (wU_X12 w h)) hown K hP sM_0 rfl 66 (dk_dq rfl) (hts _ (bw_mem wB_1095)) (fun _ h9 => h9) (v := .ref (o + 42)) (show S.1 0 66 = .ref (o + 42) from dg_I.rel (d := 42) I sM_0 (by decide +kernel)) dX12_litBeside_50 ?_
                        refine lv_iload hx hb dX12_litBeside_53 (lv_at hl 0 rfl) ?_
                        have hin_171 : vp_in x_136 64 := (dk_inv2 (by omega))
                        refine dg_iald hx hb K hP sM_42 hin_171 dX12_litBeside_55 (fun y_172 ey_172 => ?_)
                        obtain rfl : x_164 = y_172 := (ey_172.trans ex_164.symm).symm
                        refine lv_istore_n (lv' := [(3, .int x_164), (5, .int x_136), (4, .int x_125), (0, .ref (o + 0)), (1, .int a1), (2, .int a2)]) hx hb dX12_litBeside_56 rfl hl (dk_dq rfl) rfl (fun ls hl => ?_)
                        have hf_172 := dk_full x_164
                        exact J_154 x_164 (by omega) (F_m_litBeside_p5 c_128 w_137_2 c_157 w_160_1 c_161 (Eq.symm ex_164.symm) c_165) _ _ hP hS _ (lv_sub hl [1, 2, 0, 3, 4, 5] rfl)
  have hz_174 : (0 : Int32).toInt = 0 := by decide +kernel
  have hz_175 : (100000000 : Int32).toInt = 100000000 := by decide +kernel
  have hz_176 : (0 : Int32).toInt = 0 := by decide +kernel
  have hz_177 : (100000000 : Int32).toInt = 100000000 := by decide +kernel
  exact L_127 ((5 - ((0 : Int32)).toInt).toNat + 1) 0 100000000 (by decide +kernel) (by decide +kernel) (by first | exact mu_lt hmu (by omega) (by omega) | omega) (F_m_litBeside_p6) _ _ hP hS _ (lv_sub hl [0, 1, 2, 3, 4] rfl)
noncomputable def F_m_lays_J1 (o : Nat) (S_20 : dg_S) (a1 : Int32) (a2 : Int32) : dg_S := let x_22 : Int32 := F_m_openBeside o S_20 a1 a2; let S_25 : dg_S := dg_uf S_20 41 (upd (S_20.2.1 41) (5 : Int32).toNatClampNeg x_22); let x_27 : Int32 := F_m_litBeside o S_25 a1 a2; (if (100000000 : Int32) ≤ x_27 then let S_31 : dg_S := dg_uf S_25 41 (upd (S_25.2.1 41) (6 : Int32).toNatClampNeg (0 : Int32)); (S_31) else let S_35 : dg_S := dg_uf S_25 41 (upd (S_25.2.1 41) (6 : Int32).toNatClampNeg (1 : Int32)); (S_35))
noncomputable def F_m_lays (o : Nat) (S : dg_S) (a1 : Int32) (a2 : Int32) : dg_S := let x_1 : Int32 := (64 : Int32) * a1; let x_2 : Int32 := x_1 + a2; let x_4 : Int32 := S.2.1 31 (x_2 : Int32).toNatClampNeg; let S_6 : dg_S := dg_uf S 41 (upd (S.2.1 41) (1 : Int32).toNatClampNeg x_4); let x_8 : Int32 := a2 / (8 : Int32); let S_10 : dg_S := dg_uf S_6 41 (upd (S_6.2.1 41) (2 : Int32).toNatClampNeg x_8); let x_13 : Int32 := S_10.2.1 29 (a1 : Int32).toNatClampNeg; let S_15 : dg_S := dg_uf S_10 41 (upd (S_10.2.1 41) (3 : Int32).toNatClampNeg x_13); let x_17 : Int32 := F_m_litBeside o S_15 a1 a2; let S_20 : dg_S := dg_uf S_15 41 (upd (S_15.2.1 41) (4 : Int32).toNatClampNeg x_17); (F_m_lays_J1 o S_20 a1 a2)
theorem F_m_lays_p0 {o : Nat} {S_20 : dg_S} {a1 : Int32} {a2 : Int32} {S_31 : dg_S} {x_22 : Int32} {S_25 : dg_S} {x_27 : Int32} (h0 : x_22 = F_m_openBeside o S_20 a1 a2) (h1 : S_25 = dg_uf S_20 41 (upd (S_20.2.1 41) (5 : Int32).toNatClampNeg x_22)) (h2 : x_27 = F_m_litBeside o S_25 a1 a2) (h3 : (100000000 : Int32) ≤ x_27) (h4 : S_31 = dg_uf S_25 41 (upd (S_25.2.1 41) (6 : Int32).toNatClampNeg (0 : Int32))) : F_m_lays_J1 o S_20 a1 a2 = S_31 := by
  replace h0 := Eq.symm h0
  subst h0
  replace h1 := Eq.symm h1
  subst h1
  replace h2 := Eq.symm h2
  subst h2
  replace h4 := Eq.symm h4
  subst h4
  exact (Eq.trans (if_pos h3) rfl)
theorem F_m_lays_p1 {o : Nat} {S_20 : dg_S} {a1 : Int32} {a2 : Int32} {S_35 : dg_S} {x_22 : Int32} {S_25 : dg_S} {x_27 : Int32} (h0 : x_22 = F_m_openBeside o S_20 a1 a2) (h1 : S_25 = dg_uf S_20 41 (upd (S_20.2.1 41) (5 : Int32).toNatClampNeg x_22)) (h2 : x_27 = F_m_litBeside o S_25 a1 a2) (h3 : ¬ ((100000000 : Int32) ≤ x_27)) (h4 : S_35 = dg_uf S_25 41 (upd (S_25.2.1 41) (6 : Int32).toNatClampNeg (1 : Int32))) : F_m_lays_J1 o S_20 a1 a2 = S_35 := by
  replace h0 := Eq.symm h0
  subst h0
  replace h1 := Eq.symm h1
  subst h1
  replace h2 := Eq.symm h2
  subst h2
  replace h4 := Eq.symm h4
  subst h4
  exact (Eq.trans (if_neg h3) rfl)
theorem F_m_lays_p2 {o : Nat} {S : dg_S} {a1 : Int32} {a2 : Int32} {S_20 : dg_S} {x_1 : Int32} {x_2 : Int32} {x_4 : Int32} {S_6 : dg_S} {x_8 : Int32} {S_10 : dg_S} {x_13 : Int32} {S_15 : dg_S} {x_17 : Int32} (h0 : x_1 = (64 : Int32) * a1) (h1 : x_2 = x_1 + a2) (h2 : x_4 = S.2.1 31 (x_2 : Int32).toNatClampNeg) (h3 : S_6 = dg_uf S 41 (upd (S.2.1 41) (1 : Int32).toNatClampNeg x_4)) (h4 : x_8 = a2 / (8 : Int32)) (h5 : S_10 = dg_uf S_6 41 (upd (S_6.2.1 41) (2 : Int32).toNatClampNeg x_8)) (h6 : x_13 = S_10.2.1 29 (a1 : Int32).toNatClampNeg) (h7 : S_15 = dg_uf S_10 41 (upd (S_10.2.1 41) (3 : Int32).toNatClampNeg x_13)) (h8 : x_17 = F_m_litBeside o S_15 a1 a2) (h9 : S_20 = dg_uf S_15 41 (upd (S_15.2.1 41) (4 : Int32).toNatClampNeg x_17)) : F_m_lays o S a1 a2 = F_m_lays_J1 o S_20 a1 a2 := by
  replace h0 := Eq.symm h0
  subst h0
  replace h1 := Eq.symm h1
  subst h1
  replace h2 := Eq.symm h2
  subst h2
  replace h3 := Eq.symm h3
  subst h3
  replace h4 := Eq.symm h4
  subst h4
  replace h5 := Eq.symm h5
  subst h5
  replace h6 := Eq.symm h6
  subst h6
  replace h7 := Eq.symm h7
  subst h7
  replace h8 := Eq.symm h8
  subst h8
  replace h9 := Eq.symm h9
  subst h9
  exact rfl
set_option maxHeartbeats 8000000 in
set_option maxRecDepth 100000 in
theorem c_m_lays (l : Launch) (g : Nat → ClassId) (D : va_G) (o : Nat) (S : dg_S) (a1 : Int32) (b_a1 : 0 ≤ (a1).toInt ∧ (a1).toInt ≤ 21) (a2 : Int32) (b_a2 : 0 ≤ (a2).toInt ∧ (a2).toInt ≤ 63) (ZB : ZBM S) (I : CM o S) (sz : Nat) : Met l yX12_lays (bw yX12_lays cX12_lays 3 none) ({ frames := 5, cells := 0, slots := 0, locals := 125 } : Room) (dk_Pc g D (dg_w g shM o rfM S) sz [.ref (o + 0), .int a1, .int a2]) (va_Qv (fun S' => CM o S' ∧ dg_sm shM [] [41] S S' ∧ (S' = F_m_lays o S a1 a2) ∧ True) (dg_B g D shM o rfM) (dg_A o shM.length sz)) 0 0 (dg_A o shM.length sz) := by
  refine dg_met (cc := cX12_lays) (maxL := 3) (ret := none) (dk_dq rfl) rfl (Nat.le_of_ble_eq_true rfl) ?_
  intro p e s m args below meth c A hAe harg hx hb hr hml hts hown hlocks hin hP K hS hA1 hA ST hsz ls hl
  rw [← hAe]
  have F : CallFix p m c cX12_lays 3 s args (bw yX12_lays cX12_lays 3 none) RX12 := ⟨hx, hb, hml, hown, hts⟩
  have hl : lv_has ls 3 [(0, .ref (o + 0)), (1, .int a1), (2, .int a2)] := hl
  have M_0 : dg_sm shM [] [41] S S := dg_sm.rf
  refine lv_aload_n hx hb dX12_lays_0 rfl (lv_at hl 0 rfl) ?_
  refine dg_get (C := RX12) (T := TX12) (N := 77) hx hb hts (fun w h => bw_mem (wU_X12 w h)) hown K hP sM_0 rfl 65 (dk_dq rfl) (hts _ (bw_mem wB_1107)) (fun _ h9 => h9) (v := .ref (o + 41)) (show S.1 0 65 = .ref (o + 41) from dg_I.rel (d := 41) I sM_0 (by decide +kernel)) dX12_lays_1 ?_
  refine lv_iconst (v := 1) hx hb dX12_lays_4 (by decide +kernel) ?_
  refine lv_aload_n hx hb dX12_lays_5 rfl (lv_at hl 0 rfl) ?_
  refine dg_get (C := RX12) (T := TX12) (N := 77) hx hb hts (fun w h => bw_mem (wU_X12 w h)) hown K hP sM_0 rfl 51 (dk_dq rfl) (hts _ (bw_mem wB_1090)) (fun _ h9 => h9) (v := .ref (o + 31)) (show S.1 0 51 = .ref (o + 31) from dg_I.rel (d := 31) I sM_0 (by decide +kernel)) dX12_lays_6 ?_
  refine lv_bipush (v := 64) hx hb dX12_lays_9 (by decide +kernel) ?_
  refine lv_iload_n hx hb dX12_lays_11 rfl (lv_at hl 1 rfl) ?_
  refine lv_imul hx hb dX12_lays_12 ?_
  refine lv_topi (fun x_1 ex_1 => ?_)
  have jx_1 : (x_1).toInt = 64 * (a1).toInt := by rw [ex_1]; exact dk_mulT2 (by decide +kernel) rfl (by omega)
  refine lv_iload_n hx hb dX12_lays_13 rfl (lv_at hl 2 rfl) ?_
  refine lv_iadd hx hb dX12_lays_14 ?_
  refine lv_topi (fun x_2 ex_2 => ?_)
  have jx_2 : (x_2).toInt = (x_1).toInt + (a2).toInt := by rw [ex_2]; exact dk_addT2 rfl rfl (by omega)
  have hin_3 : vp_in x_2 1408 := (dk_inv2 (by omega))
  refine dg_iald hx hb K hP sM_31 hin_3 dX12_lays_15 (fun x_4 ex_4 => ?_)
  have b_x_4 := dk_all_at (dg_I.row (lo := (-1)) (hi := 9) I sM_31 (by decide +kernel)) hin_3 ex_4
  have hin_5 : vp_in (1 : Int32) 10 := (dk_in (by decide +kernel))
  have hz_7 : (1 : Int32).toInt = 1 := by decide +kernel
  refine dg_iast hx hb K hP hS hA1 sM_41 hin_5 dX12_lays_16 (fun S_6 e_6 H locs hP hS => ?_)
  have I_6 := dg_I.uf0 I e_6 sM_41 (by decide +kernel)
  have M_6 := dg_sm.uf M_0 e_6 sM_41 (dk_dq rfl)
  refine lv_aload_n hx hb dX12_lays_17 rfl (lv_at hl 0 rfl) ?_
  refine dg_get (C := RX12) (T := TX12) (N := 77) hx hb hts (fun w h => bw_mem (wU_X12 w h)) hown K hP sM_0 rfl 65 (dk_dq rfl) (hts _ (bw_mem wB_1107)) (fun _ h9 => h9) (v := .ref (o + 41)) (show S_6.1 0 65 = .ref (o + 41) from dg_I.rel (d := 41) I_6 sM_0 (by decide +kernel)) dX12_lays_18 ?_
  refine lv_iconst (v := 2) hx hb dX12_lays_21 (by decide +kernel) ?_
  refine lv_iload_n hx hb dX12_lays_22 rfl (lv_at hl 2 rfl) ?_
  refine lv_bipush (v := 8) hx hb dX12_lays_23 (by decide +kernel) ?_
  refine lv_idiv hx hb dX12_lays_25 (by decide +kernel) ?_
  refine lv_topi (fun x_8 ex_8 => ?_)
  have jx_8 : (x_8).toInt = (a2).toInt / 8 := by rw [ex_8]; exact dk_divL (by omega) (by decide +kernel) (dk_dq rfl)
  have hin_9 : vp_in (2 : Int32) 10 := (dk_in (by decide +kernel))
  have hz_11 : (2 : Int32).toInt = 2 := by decide +kernel
  refine dg_iast hx hb K hP hS hA1 sM_41 hin_9 dX12_lays_26 (fun S_10 e_10 H locs hP hS => ?_)
  have I_10 := dg_I.uf0 I_6 e_10 sM_41 (by decide +kernel)
  have M_10 := dg_sm.uf M_6 e_10 sM_41 (dk_dq rfl)
  as_aux_lemma =>
    refine lv_aload_n hx hb dX12_lays_27 rfl (lv_at hl 0 rfl) ?_
    refine dg_get (C := RX12) (T := TX12) (N := 77) hx hb hts (fun w h => bw_mem (wU_X12 w h)) hown K hP sM_0 rfl 65 (dk_dq rfl) (hts _ (bw_mem wB_1107)) (fun _ h9 => h9) (v := .ref (o + 41)) (show S_10.1 0 65 = .ref (o + 41) from dg_I.rel (d := 41) I_10 sM_0 (by decide +kernel)) dX12_lays_28 ?_
    refine lv_iconst (v := 3) hx hb dX12_lays_31 (by decide +kernel) ?_
    refine lv_aload_n hx hb dX12_lays_32 rfl (lv_at hl 0 rfl) ?_
    refine dg_get (C := RX12) (T := TX12) (N := 77) hx hb hts (fun w h => bw_mem (wU_X12 w h)) hown K hP sM_0 rfl 49 (dk_dq rfl) (hts _ (bw_mem wB_1108)) (fun _ h9 => h9) (v := .ref (o + 29)) (show S_10.1 0 49 = .ref (o + 29) from dg_I.rel (d := 29) I_10 sM_0 (by decide +kernel)) dX12_lays_33 ?_
    refine lv_iload_n hx hb dX12_lays_36 rfl (lv_at hl 1 rfl) ?_
    have hin_12 : vp_in a1 22 := (dk_inv2 (by omega))
    refine dg_iald hx hb K hP sM_29 hin_12 dX12_lays_37 (fun x_13 ex_13 => ?_)
    have b_x_13 := dk_all_at (dg_I.row (lo := 0) (hi := 2000) I_10 sM_29 (by decide +kernel)) hin_12 ex_13
    have hin_14 : vp_in (3 : Int32) 10 := (dk_in (by decide +kernel))
    have hz_16 : (3 : Int32).toInt = 3 := by decide +kernel
    refine dg_iast hx hb K hP hS hA1 sM_41 hin_14 dX12_lays_38 (fun S_15 e_15 H locs hP hS => ?_)
    have I_15 := dg_I.uf0 I_10 e_15 sM_41 (by decide +kernel)
    have M_15 := dg_sm.uf M_10 e_15 sM_41 (dk_dq rfl)
    refine lv_aload_n hx hb dX12_lays_39 rfl (lv_at hl 0 rfl) ?_
    refine dg_get (C := RX12) (T := TX12) (N := 77) hx hb hts (fun w h => bw_mem (wU_X12 w h)) hown K hP sM_0 rfl 65 (dk_dq rfl) (hts _ (bw_mem wB_1107)) (fun _ h9 => h9) (v := .ref (o + 41)) (show S_15.1 0 65 = .ref (o + 41) from dg_I.rel (d := 41) I_15 sM_0 (by decide +kernel)) dX12_lays_40 ?_
    refine lv_iconst (v := 4) hx hb dX12_lays_43 (by decide +kernel) ?_
    refine lv_aload_n hx hb dX12_lays_44 rfl (lv_at hl 0 rfl) ?_
    refine lv_iload_n hx hb dX12_lays_45 rfl (lv_at hl 1 rfl) ?_
    refine lv_iload_n hx hb dX12_lays_46 rfl (lv_at hl 2 rfl) ?_
    refine dg_calli hS hA1 hA (va_runV (As := [.int a1, .int a2]) (rest := [.int 4, .ref (o + 41)]) F (c_m_litBeside l g D o S_15 a1 (by omega) a2 (by omega) (ZBM.keep (ZBM.keep (ZBM.keep ZB (dg_sm.uf (WF := []) (WA := [41]) dg_sm.rf e_6 sM_41 (dk_dq rfl)) (dk_dq rfl) (dk_dq rfl) (dk_dq rfl) (dk_dq rfl) (dk_dq rfl)) (dg_sm.uf (WF := []) (WA := [41]) dg_sm.rf e_10 sM_41 (dk_dq rfl)) (dk_dq rfl) (dk_dq rfl) (dk_dq rfl) (dk_dq rfl) (dk_dq rfl)) (dg_sm.uf (WF := []) (WA := [41]) dg_sm.rf e_15 sM_41 (dk_dq rfl)) (dk_dq rfl) (dk_dq rfl) (dk_dq rfl) (dk_dq rfl) (dk_dq rfl)) I_15 H.size) (cwV 2 hts (bw_V wB_1110 wB_1111 wB_1112 wB_297 wB_1109) rfl rfl rfl (by decide +kernel) ⟨Nat.le_of_ble_eq_true rfl, Nat.le_of_ble_eq_true rfl⟩) (dg_preV sM_0 rfl K ST hP hS hA1 hA) rfl rfl hl.1 rfl (lv_room (Nat.le_of_ble_eq_true rfl)) dX12_lays_47 ⟨Nat.le_of_ble_eq_true rfl, Nat.le_of_ble_eq_true rfl⟩) (fun x_17 S_18 hw_18 H locs hP hS => ?_)
    rw [hw_18.1] at hP
    obtain ⟨hq_18, w_18_0, w_18_1, -⟩ := hw_18
    have w_18_0 : (-2147483648) ≤ (x_17).toInt ∧ (x_17).toInt ≤ 100000000 := w_18_0
    have hin_19 : vp_in (4 : Int32) 10 := (dk_in (by decide +kernel))
    have hz_21 : (4 : Int32).toInt = 4 := by decide +kernel
    refine dg_iast hx hb K hP hS hA1 sM_41 hin_19 dX12_lays_50 (fun S_20 e_20 H locs hP hS => ?_)
    have I_20 := dg_I.uf0 I_15 e_20 sM_41 (by decide +kernel)
    have M_20 := dg_sm.uf M_15 e_20 sM_41 (dk_dq rfl)
    have hF_1 : F_m_lays o S a1 a2 = F_m_lays_J1 o S_20 a1 a2 := (F_m_lays_p2 ex_1 ex_2 (Eq.symm ex_4.symm) e_6 ex_8 e_10 (Eq.symm ex_13.symm) e_15 w_18_1 e_20)
    refine lv_aload_n hx hb dX12_lays_51 rfl (lv_at hl 0 rfl) ?_
    refine dg_get (C := RX12) (T := TX12) (N := 77) hx hb hts (fun w h => bw_mem (wU_X12 w h)) hown K hP sM_0 rfl 65 (dk_dq rfl) (hts _ (bw_mem wB_1107)) (fun _ h9 => h9) (v := .ref (o + 41)) (show S_20.1 0 65 = .ref (o + 41) from dg_I.rel (d := 41) I_20 sM_0 (by decide +kernel)) dX12_lays_52 ?_
    refine lv_iconst (v := 5) hx hb dX12_lays_55 (by decide +kernel) ?_
    refine lv_aload_n hx hb dX12_lays_56 rfl (lv_at hl 0 rfl) ?_
    refine lv_iload_n hx hb dX12_lays_57 rfl (lv_at hl 1 rfl) ?_
    refine lv_iload_n hx hb dX12_lays_58 rfl (lv_at hl 2 rfl) ?_
    refine dg_calli hS hA1 hA (va_runV (As := [.int a1, .int a2]) (rest := [.int 5, .ref (o + 41)]) F (c_m_openBeside l g D o S_20 a1 (by omega) a2 (by omega) (ZBM.keep (ZBM.keep (ZBM.keep (ZBM.keep ZB (dg_sm.uf (WF := []) (WA := [41]) dg_sm.rf e_6 sM_41 (dk_dq rfl)) (dk_dq rfl) (dk_dq rfl) (dk_dq rfl) (dk_dq rfl) (dk_dq rfl)) (dg_sm.uf (WF := []) (WA := [41]) dg_sm.rf e_10 sM_41 (dk_dq rfl)) (dk_dq rfl) (dk_dq rfl) (dk_dq rfl) (dk_dq rfl) (dk_dq rfl)) (dg_sm.uf (WF := []) (WA := [41]) dg_sm.rf e_15 sM_41 (dk_dq rfl)) (dk_dq rfl) (dk_dq rfl) (dk_dq rfl) (dk_dq rfl) (dk_dq rfl)) (dg_sm.uf (WF := []) (WA := [41]) dg_sm.rf e_20 sM_41 (dk_dq rfl)) (dk_dq rfl) (dk_dq rfl) (dk_dq rfl) (dk_dq rfl) (dk_dq rfl)) I_20 H.size) (cwV 2 hts (bw_V wB_1114 wB_1115 wB_1116 wB_297 wB_1113) rfl rfl rfl (by decide +kernel) ⟨Nat.le_of_ble_eq_true rfl, Nat.le_of_ble_eq_true rfl⟩) (dg_preV sM_0 rfl K ST hP hS hA1 hA) rfl rfl hl.1 rfl (lv_room (Nat.le_of_ble_eq_true rfl)) dX12_lays_59 ⟨Nat.le_of_ble_eq_true rfl, Nat.le_of_ble_eq_true rfl⟩) (fun x_22 S_23 hw_23 H locs hP hS => ?_)
    rw [hw_23.1] at hP
    obtain ⟨hq_23, w_23_0, -⟩ := hw_23
    have hin_24 : vp_in (5 : Int32) 10 := (dk_in (by decide +kernel))
    have hz_26 : (5 : Int32).toInt = 5 := by decide +kernel
    as_aux_lemma =>
      refine dg_iast hx hb K hP hS hA1 sM_41 hin_24 dX12_lays_62 (fun S_25 e_25 H locs hP hS => ?_)
      have I_25 := dg_I.uf0 I_20 e_25 sM_41 (by decide +kernel)
      have M_25 := dg_sm.uf M_20 e_25 sM_41 (dk_dq rfl)
      refine lv_aload_n hx hb dX12_lays_63 rfl (lv_at hl 0 rfl) ?_
      refine dg_get (C := RX12) (T := TX12) (N := 77) hx hb hts (fun w h => bw_mem (wU_X12 w h)) hown K hP sM_0 rfl 65 (dk_dq rfl) (hts _ (bw_mem wB_1107)) (fun _ h9 => h9) (v := .ref (o + 41)) (show S_25.1 0 65 = .ref (o + 41) from dg_I.rel (d := 41) I_25 sM_0 (by decide +kernel)) dX12_lays_64 ?_
      refine lv_bipush (v := 6) hx hb dX12_lays_67 (by decide +kernel) ?_
      refine lv_aload_n hx hb dX12_lays_69 rfl (lv_at hl 0 rfl) ?_
      refine lv_iload_n hx hb dX12_lays_70 rfl (lv_at hl 1 rfl) ?_
      refine lv_iload_n hx hb dX12_lays_71 rfl (lv_at hl 2 rfl) ?_
      refine dg_calli hS hA1 hA (va_runV (As := [.int a1, .int a2]) (rest := [.int 6, .ref (o + 41)]) F (c_m_litBeside l g D o S_25 a1 (by omega) a2 (by omega) (ZBM.keep (ZBM.keep (ZBM.keep (ZBM.keep (ZBM.keep ZB (dg_sm.uf (WF := []) (WA := [41]) dg_sm.rf e_6 sM_41 (dk_dq rfl)) (dk_dq rfl) (dk_dq rfl) (dk_dq rfl) (dk_dq rfl) (dk_dq rfl)) (dg_sm.uf (WF := []) (WA := [41]) dg_sm.rf e_10 sM_41 (dk_dq rfl)) (dk_dq rfl) (dk_dq rfl) (dk_dq rfl) (dk_dq rfl) (dk_dq rfl)) (dg_sm.uf (WF := []) (WA := [41]) dg_sm.rf e_15 sM_41 (dk_dq rfl)) (dk_dq rfl) (dk_dq rfl) (dk_dq rfl) (dk_dq rfl) (dk_dq rfl)) (dg_sm.uf (WF := []) (WA := [41]) dg_sm.rf e_20 sM_41 (dk_dq rfl)) (dk_dq rfl) (dk_dq rfl) (dk_dq rfl) (dk_dq rfl) (dk_dq rfl)) (dg_sm.uf (WF := []) (WA := [41]) dg_sm.rf e_25 sM_41 (dk_dq rfl)) (dk_dq rfl) (dk_dq rfl) (dk_dq rfl) (dk_dq rfl) (dk_dq rfl)) I_25 H.size) (cwV 2 hts (bw_V wB_1110 wB_1111 wB_1112 wB_297 wB_1109) rfl rfl rfl (by decide +kernel) ⟨Nat.le_of_ble_eq_true rfl, Nat.le_of_ble_eq_true rfl⟩) (dg_preV sM_0 rfl K ST hP hS hA1 hA) rfl rfl hl.1 rfl (lv_room (Nat.le_of_ble_eq_true rfl)) dX12_lays_72 ⟨Nat.le_of_ble_eq_true rfl, Nat.le_of_ble_eq_true rfl⟩) (fun x_27 S_28 hw_28 H locs hP hS => ?_)
      rw [hw_28.1] at hP
      obtain ⟨hq_28, w_28_0, w_28_1, -⟩ := hw_28
      have w_28_0 : (-2147483648) ≤ (x_27).toInt ∧ (x_27).toInt ≤ 100000000 := w_28_0
      refine lv_ldcw hx hb hown (hts _ (bw_mem wB_1102)) dX12_lays_75 ?_
      refine lv_icmp_ge (tgt := 85) hx hb dX12_lays_78 (dk_dq rfl) (fun c_29 => ?_) (fun c_29 => ?_)
      · have jc_29 := dk_gec (k := 100000000) (by decide +kernel) c_29
        refine lv_iconst (v := 0) hx hb dX12_lays_85 (by decide +kernel) ?_
        have hin_30 : vp_in (6 : Int32) 10 := (dk_in (by decide +kernel))
        have hz_32 : (6 : Int32).toInt = 6 := by decide +kernel
        have hz_33 : (0 : Int32).toInt = 0 := by decide +kernel
        refine dg_iast hx hb K hP hS hA1 sM_41 hin_30 dX12_lays_86 (fun S_31 e_31 H locs hP hS => ?_)
        have I_31 := dg_I.uf0 I_25 e_31 sM_41 (by decide +kernel)
        have M_31 := dg_sm.uf M_25 e_31 sM_41 (dk_dq rfl)
        refine W.widen (k := 0) (n := 0) (Nat.le_of_ble_eq_true rfl) (Nat.le_of_ble_eq_true rfl) ?_
        exact dg_vret hx hb hr hlocks hP hS ⟨I_31, M_31, (Eq.symm (Eq.trans hF_1 (F_m_lays_p0 w_23_0 e_25 w_28_1 c_29 e_31))), trivial⟩ dX12_lays_87
      · have jc_29 := dk_ngec (k := 100000000) (by decide +kernel) c_29
        refine lv_iconst (v := 1) hx hb dX12_lays_81 (by decide +kernel) ?_
        refine lv_goto (tgt := 86) hx hb dX12_lays_82 (dk_dq rfl) ?_
        have hin_34 : vp_in (6 : Int32) 10 := (dk_in (by decide +kernel))
        have hz_36 : (6 : Int32).toInt = 6 := by decide +kernel
        have hz_37 : (1 : Int32).toInt = 1 := by decide +kernel
        refine dg_iast hx hb K hP hS hA1 sM_41 hin_34 dX12_lays_86 (fun S_35 e_35 H locs hP hS => ?_)
        have I_35 := dg_I.uf0 I_25 e_35 sM_41 (by decide +kernel)
        have M_35 := dg_sm.uf M_25 e_35 sM_41 (dk_dq rfl)
        refine W.widen (k := 0) (n := 0) (Nat.le_of_ble_eq_true rfl) (Nat.le_of_ble_eq_true rfl) ?_
        exact dg_vret hx hb hr hlocks hP hS ⟨I_35, M_35, (Eq.symm (Eq.trans hF_1 (F_m_lays_p1 w_23_0 e_25 w_28_1 c_29 e_35))), trivial⟩ dX12_lays_87
noncomputable def F_m_canDigG (o : Nat) (S : dg_S) (a1 : Int32) (a2 : Int32) : Int32 := let x_1 : Int32 := F_m_isOpenG o S a1 a2; (if x_1 = (0 : Int32) then let x_6 : Int32 := F_m_openBeside o S a1 a2; (if x_6 ≤ (0 : Int32) then (0 : Int32) else (1 : Int32)) else (0 : Int32))
theorem F_m_canDigG_p0 {o : Nat} {S : dg_S} {a1 : Int32} {a2 : Int32} {x_1 : Int32} (h0 : x_1 = F_m_isOpenG o S a1 a2) (h1 : ¬ (x_1 = (0 : Int32))) : F_m_canDigG o S a1 a2 = (0 : Int32) := by
  replace h0 := Eq.symm h0
  subst h0
  exact (Eq.trans (if_neg h1) rfl)
theorem F_m_canDigG_p1 {o : Nat} {S : dg_S} {a1 : Int32} {a2 : Int32} {x_1 : Int32} {x_6 : Int32} (h0 : x_1 = F_m_isOpenG o S a1 a2) (h1 : x_1 = (0 : Int32)) (h2 : x_6 = F_m_openBeside o S a1 a2) (h3 : x_6 ≤ (0 : Int32)) : F_m_canDigG o S a1 a2 = (0 : Int32) := by
  replace h0 := Eq.symm h0
  subst h0
  replace h2 := Eq.symm h2
  subst h2
  exact (Eq.trans (if_pos h1) (Eq.trans (if_pos h3) rfl))
theorem F_m_canDigG_p2 {o : Nat} {S : dg_S} {a1 : Int32} {a2 : Int32} {x_1 : Int32} {x_6 : Int32} (h0 : x_1 = F_m_isOpenG o S a1 a2) (h1 : x_1 = (0 : Int32)) (h2 : x_6 = F_m_openBeside o S a1 a2) (h3 : ¬ (x_6 ≤ (0 : Int32))) : F_m_canDigG o S a1 a2 = (1 : Int32) := by
  replace h0 := Eq.symm h0
  subst h0
  replace h2 := Eq.symm h2
  subst h2
  exact (Eq.trans (if_pos h1) (Eq.trans (if_neg h3) rfl))
set_option maxHeartbeats 8000000 in
set_option maxRecDepth 100000 in
theorem c_m_canDigG (l : Launch) (g : Nat → ClassId) (D : va_G) (o : Nat) (S : dg_S) (a1 : Int32) (b_a1 : 0 ≤ (a1).toInt ∧ (a1).toInt ≤ 21) (a2 : Int32) (b_a2 : 0 ≤ (a2).toInt ∧ (a2).toInt ≤ 63) (ci : Int32) (gv : Int32) (f_gv : S.2.1 31 (ci : Int32).toNatClampNeg = gv) (b_gv : (-1) ≤ (gv).toInt ∧ (gv).toInt ≤ 9) (hci : (ci).toInt = 64 * (a1).toInt + (a2).toInt) (ZB : ZBM S) (I : CM o S) (sz : Nat) : Met l yX12_canDig (bw yX12_canDig cX12_canDig 3 (some .boolean)) ({ frames := 5, cells := 0, slots := 0, locals := 124 } : Room) (dk_Pc g D (dg_w g shM o rfM S) sz [.ref (o + 0), .int a1, .int a2]) (va_Qi (fun (r : Int32) S' => S' = S ∧ (0 ≤ (r).toInt ∧ (r).toInt ≤ 1) ∧ ((r).toInt = 1 → 0 ≤ (gv).toInt) ∧ (r = F_m_canDigG o S a1 a2) ∧ True) (dg_B g D shM o rfM) (dg_A o shM.length sz)) 0 0 (dg_A o shM.length sz) := by
  refine dg_met (cc := cX12_canDig) (maxL := 3) (ret := (some .boolean)) (dk_dq rfl) rfl (Nat.le_of_ble_eq_true rfl) ?_
  intro p e s m args below meth c A hAe harg hx hb hr hml hts hown hlocks hin hP K hS hA1 hA ST hsz ls hl
  rw [← hAe]
  have F : CallFix p m c cX12_canDig 3 s args (bw yX12_canDig cX12_canDig 3 (some .boolean)) RX12 := ⟨hx, hb, hml, hown, hts⟩
  have hl : lv_has ls 3 [(0, .ref (o + 0)), (1, .int a1), (2, .int a2)] := hl
  have M_0 : dg_sm shM [] [] S S := dg_sm.rf
  refine lv_aload_n hx hb dX12_canDig_0 rfl (lv_at hl 0 rfl) ?_
  refine lv_iload_n hx hb dX12_canDig_1 rfl (lv_at hl 1 rfl) ?_
  refine lv_iload_n hx hb dX12_canDig_2 rfl (lv_at hl 2 rfl) ?_
  refine dg_calli hS hA1 hA (va_runV (As := [.int a1, .int a2]) (rest := []) F (c_m_isOpenG l g D o S a1 (by omega) a2 (by omega) ci gv f_gv (by omega) (by omega) I s.heap.size) (cwV 2 hts (bw_V wB_1092 wB_1093 wB_1094 wB_297 wB_1091) rfl rfl rfl (by decide +kernel) ⟨Nat.le_of_ble_eq_true rfl, Nat.le_of_ble_eq_true rfl⟩) (dg_preV sM_0 rfl K ST hP hS hA1 hA) rfl rfl hl.1 rfl (lv_room (Nat.le_of_ble_eq_true rfl)) dX12_canDig_3 ⟨Nat.le_of_ble_eq_true rfl, Nat.le_of_ble_eq_true rfl⟩) (fun x_1 S_2 hw_2 H locs hP hS => ?_)
  rw [hw_2.1] at hP
  obtain ⟨hq_2, w_2_0, w_2_1, w_2_2, -⟩ := hw_2
  have w_2_0 : 0 ≤ (x_1).toInt ∧ (x_1).toInt ≤ 1 := w_2_0
  have w_2_1 : (x_1).toInt = 1 ↔ (gv).toInt = -1 := w_2_1
  refine lv_if_ne (tgt := 22) hx hb dX12_canDig_6 (dk_dq rfl) (fun c_3 => ?_) (fun c_3 => ?_)
  · have jc_3 := dk_neqc (k := 0) (by decide +kernel) c_3
    refine lv_iconst (v := 0) hx hb dX12_canDig_22 (by decide +kernel) ?_
    have hz_4 : (0 : Int32).toInt = 0 := by decide +kernel
    have hz_5 : (0 : Int32).toInt = 0 := by decide +kernel
    refine W.widen (k := 0) (n := 0) (Nat.le_of_ble_eq_true rfl) (Nat.le_of_ble_eq_true rfl) ?_
    exact dg_iret hx hb hr hlocks (by decide +kernel) hP hS ⟨rfl, (by decide +kernel), (by omega), (Eq.symm (F_m_canDigG_p0 w_2_2 c_3)), trivial⟩ dX12_canDig_23
  · as_aux_lemma =>
      have jc_3 := dk_eqc (k := 0) (by decide +kernel) c_3
      refine lv_aload_n hx hb dX12_canDig_9 rfl (lv_at hl 0 rfl) ?_
      refine lv_iload_n hx hb dX12_canDig_10 rfl (lv_at hl 1 rfl) ?_
      refine lv_iload_n hx hb dX12_canDig_11 rfl (lv_at hl 2 rfl) ?_
      refine dg_calli hS hA1 hA (va_runV (As := [.int a1, .int a2]) (rest := []) F (c_m_openBeside l g D o S a1 (by omega) a2 (by omega) ZB I H.size) (cwV 2 hts (bw_V wB_1114 wB_1115 wB_1116 wB_297 wB_1113) rfl rfl rfl (by decide +kernel) ⟨Nat.le_of_ble_eq_true rfl, Nat.le_of_ble_eq_true rfl⟩) (dg_preV sM_0 rfl K ST hP hS hA1 hA) rfl rfl hl.1 rfl (lv_room (Nat.le_of_ble_eq_true rfl)) dX12_canDig_12 ⟨Nat.le_of_ble_eq_true rfl, Nat.le_of_ble_eq_true rfl⟩) (fun x_6 S_7 hw_7 H locs hP hS => ?_)
      rw [hw_7.1] at hP
      obtain ⟨hq_7, w_7_0, -⟩ := hw_7
      refine lv_if_le (tgt := 22) hx hb dX12_canDig_15 (dk_dq rfl) (fun c_8 => ?_) (fun c_8 => ?_)
      · have jc_8 := dk_lec (k := 0) (by decide +kernel) c_8
        refine lv_iconst (v := 0) hx hb dX12_canDig_22 (by decide +kernel) ?_
        have hz_9 : (0 : Int32).toInt = 0 := by decide +kernel
        have hz_10 : (0 : Int32).toInt = 0 := by decide +kernel
        refine W.widen (k := 0) (n := 0) (Nat.le_of_ble_eq_true rfl) (Nat.le_of_ble_eq_true rfl) ?_
        exact dg_iret hx hb hr hlocks (by decide +kernel) hP hS ⟨rfl, (by decide +kernel), (by omega), (Eq.symm (F_m_canDigG_p1 w_2_2 c_3 w_7_0 c_8)), trivial⟩ dX12_canDig_23
      · have jc_8 := dk_nlec (k := 0) (by decide +kernel) c_8
        refine lv_iconst (v := 1) hx hb dX12_canDig_18 (by decide +kernel) ?_
        refine lv_goto (tgt := 23) hx hb dX12_canDig_19 (dk_dq rfl) ?_
        have hz_11 : (1 : Int32).toInt = 1 := by decide +kernel
        have hz_12 : (1 : Int32).toInt = 1 := by decide +kernel
        refine W.widen (k := 0) (n := 0) (Nat.le_of_ble_eq_true rfl) (Nat.le_of_ble_eq_true rfl) ?_
        exact dg_iret hx hb hr hlocks (by decide +kernel) hP hS ⟨rfl, (by decide +kernel), (by omega), (Eq.symm (F_m_canDigG_p2 w_2_2 c_3 w_7_0 c_8)), trivial⟩ dX12_canDig_23
noncomputable def F_m_canDig (o : Nat) (S : dg_S) (a1 : Int32) (a2 : Int32) : Int32 := let x_5 : Int32 := F_m_isOpenG o S a1 a2; (if x_5 = (0 : Int32) then let x_9 : Int32 := F_m_openBeside o S a1 a2; (if x_9 ≤ (0 : Int32) then (0 : Int32) else (1 : Int32)) else (0 : Int32))
theorem F_m_canDig_p0 {o : Nat} {S : dg_S} {a1 : Int32} {a2 : Int32} {x_5 : Int32} (h0 : x_5 = F_m_isOpenG o S a1 a2) (h1 : ¬ (x_5 = (0 : Int32))) : F_m_canDig o S a1 a2 = (0 : Int32) := by
  replace h0 := Eq.symm h0
  subst h0
  exact (Eq.trans (if_neg h1) rfl)
theorem F_m_canDig_p1 {o : Nat} {S : dg_S} {a1 : Int32} {a2 : Int32} {x_5 : Int32} {x_9 : Int32} (h0 : x_5 = F_m_isOpenG o S a1 a2) (h1 : x_5 = (0 : Int32)) (h2 : x_9 = F_m_openBeside o S a1 a2) (h3 : x_9 ≤ (0 : Int32)) : F_m_canDig o S a1 a2 = (0 : Int32) := by
  replace h0 := Eq.symm h0
  subst h0
  replace h2 := Eq.symm h2
  subst h2
  exact (Eq.trans (if_pos h1) (Eq.trans (if_pos h3) rfl))
theorem F_m_canDig_p2 {o : Nat} {S : dg_S} {a1 : Int32} {a2 : Int32} {x_5 : Int32} {x_9 : Int32} (h0 : x_5 = F_m_isOpenG o S a1 a2) (h1 : x_5 = (0 : Int32)) (h2 : x_9 = F_m_openBeside o S a1 a2) (h3 : ¬ (x_9 ≤ (0 : Int32))) : F_m_canDig o S a1 a2 = (1 : Int32) := by
  replace h0 := Eq.symm h0
  subst h0
  replace h2 := Eq.symm h2
  subst h2
  exact (Eq.trans (if_pos h1) (Eq.trans (if_neg h3) rfl))
set_option maxHeartbeats 8000000 in
set_option maxRecDepth 100000 in
theorem c_m_canDig (l : Launch) (g : Nat → ClassId) (D : va_G) (o : Nat) (S : dg_S) (a1 : Int32) (b_a1 : 0 ≤ (a1).toInt ∧ (a1).toInt ≤ 21) (a2 : Int32) (b_a2 : 0 ≤ (a2).toInt ∧ (a2).toInt ≤ 63) (ZB : ZBM S) (I : CM o S) (sz : Nat) : Met l yX12_canDig (bw yX12_canDig cX12_canDig 3 (some .boolean)) ({ frames := 5, cells := 0, slots := 0, locals := 124 } : Room) (dk_Pc g D (dg_w g shM o rfM S) sz [.ref (o + 0), .int a1, .int a2]) (va_Qi (fun (r : Int32) S' => S' = S ∧ (0 ≤ (r).toInt ∧ (r).toInt ≤ 1) ∧ (r = F_m_canDig o S a1 a2) ∧ True) (dg_B g D shM o rfM) (dg_A o shM.length sz)) 0 0 (dg_A o shM.length sz) := by
  refine dg_met (cc := cX12_canDig) (maxL := 3) (ret := (some .boolean)) (dk_dq rfl) rfl (Nat.le_of_ble_eq_true rfl) ?_
  intro p e s m args below meth c A hAe harg hx hb hr hml hts hown hlocks hin hP K hS hA1 hA ST hsz ls hl
  rw [← hAe]
  have F : CallFix p m c cX12_canDig 3 s args (bw yX12_canDig cX12_canDig 3 (some .boolean)) RX12 := ⟨hx, hb, hml, hown, hts⟩
  have hl : lv_has ls 3 [(0, .ref (o + 0)), (1, .int a1), (2, .int a2)] := hl
  have M_0 : dg_sm shM [] [] S S := dg_sm.rf
  refine lv_aload_n hx hb dX12_canDig_0 rfl (lv_at hl 0 rfl) ?_
  refine lv_iload_n hx hb dX12_canDig_1 rfl (lv_at hl 1 rfl) ?_
  refine lv_iload_n hx hb dX12_canDig_2 rfl (lv_at hl 2 rfl) ?_
  obtain ⟨x_2, ex_2⟩ : ∃ z : Int32, z = 64 * (a1 : Int32) := ⟨_, rfl⟩
  have jx_2 : (x_2).toInt = 64 * (a1 : Int32).toInt := by rw [ex_2]; exact dk_mulT2 (by decide +kernel) rfl (by omega)
  obtain ⟨ci_1, eci_1⟩ : ∃ z : Int32, z = x_2 + (a2 : Int32) := ⟨_, rfl⟩
  have jci_1 : (ci_1).toInt = (x_2).toInt + (a2 : Int32).toInt := by rw [eci_1]; exact dk_addT2 rfl rfl (by omega)
  obtain ⟨x_3, f_x_3⟩ : ∃ x, S.2.1 31 (ci_1 : Int32).toNatClampNeg = x := ⟨_, rfl⟩
  have hin_4 : vp_in (ci_1 : Int32) 1408 := (dk_inv2 (by omega))
  have b_x_3 := dk_all_at (dg_I.row (lo := (-1)) (hi := 9) I sM_31 (by decide +kernel)) hin_4 f_x_3.symm
  refine dg_calli hS hA1 hA (va_runV (As := [.int a1, .int a2]) (rest := []) F (c_m_isOpenG l g D o S a1 (by omega) a2 (by omega) ci_1 x_3 f_x_3 (by omega) (by omega) I s.heap.size) (cwV 2 hts (bw_V wB_1092 wB_1093 wB_1094 wB_297 wB_1091) rfl rfl rfl (by decide +kernel) ⟨Nat.le_of_ble_eq_true rfl, Nat.le_of_ble_eq_true rfl⟩) (dg_preV sM_0 rfl K ST hP hS hA1 hA) rfl rfl hl.1 rfl (lv_room (Nat.le_of_ble_eq_true rfl)) dX12_canDig_3 ⟨Nat.le_of_ble_eq_true rfl, Nat.le_of_ble_eq_true rfl⟩) (fun x_5 S_6 hw_6 H locs hP hS => ?_)
  rw [hw_6.1] at hP
  obtain ⟨hq_6, w_6_0, w_6_1, w_6_2, -⟩ := hw_6
  have w_6_0 : 0 ≤ (x_5).toInt ∧ (x_5).toInt ≤ 1 := w_6_0
  have w_6_1 : (x_5).toInt = 1 ↔ (x_3).toInt = -1 := w_6_1
  refine lv_if_ne (tgt := 22) hx hb dX12_canDig_6 (dk_dq rfl) (fun c_7 => ?_) (fun c_7 => ?_)
  · have jc_7 := dk_neqc (k := 0) (by decide +kernel) c_7
    refine lv_iconst (v := 0) hx hb dX12_canDig_22 (by decide +kernel) ?_
    have hz_8 : (0 : Int32).toInt = 0 := by decide +kernel
    refine W.widen (k := 0) (n := 0) (Nat.le_of_ble_eq_true rfl) (Nat.le_of_ble_eq_true rfl) ?_
    exact dg_iret hx hb hr hlocks (by decide +kernel) hP hS ⟨rfl, (by decide +kernel), (Eq.symm (F_m_canDig_p0 w_6_2 c_7)), trivial⟩ dX12_canDig_23
  · as_aux_lemma =>
      have jc_7 := dk_eqc (k := 0) (by decide +kernel) c_7
      refine lv_aload_n hx hb dX12_canDig_9 rfl (lv_at hl 0 rfl) ?_
      refine lv_iload_n hx hb dX12_canDig_10 rfl (lv_at hl 1 rfl) ?_
      refine lv_iload_n hx hb dX12_canDig_11 rfl (lv_at hl 2 rfl) ?_
      refine dg_calli hS hA1 hA (va_runV (As := [.int a1, .int a2]) (rest := []) F (c_m_openBeside l g D o S a1 (by omega) a2 (by omega) ZB I H.size) (cwV 2 hts (bw_V wB_1114 wB_1115 wB_1116 wB_297 wB_1113) rfl rfl rfl (by decide +kernel) ⟨Nat.le_of_ble_eq_true rfl, Nat.le_of_ble_eq_true rfl⟩) (dg_preV sM_0 rfl K ST hP hS hA1 hA) rfl rfl hl.1 rfl (lv_room (Nat.le_of_ble_eq_true rfl)) dX12_canDig_12 ⟨Nat.le_of_ble_eq_true rfl, Nat.le_of_ble_eq_true rfl⟩) (fun x_9 S_10 hw_10 H locs hP hS => ?_)
      rw [hw_10.1] at hP
      obtain ⟨hq_10, w_10_0, -⟩ := hw_10
      refine lv_if_le (tgt := 22) hx hb dX12_canDig_15 (dk_dq rfl) (fun c_11 => ?_) (fun c_11 => ?_)
      · have jc_11 := dk_lec (k := 0) (by decide +kernel) c_11
        refine lv_iconst (v := 0) hx hb dX12_canDig_22 (by decide +kernel) ?_
        have hz_12 : (0 : Int32).toInt = 0 := by decide +kernel
        refine W.widen (k := 0) (n := 0) (Nat.le_of_ble_eq_true rfl) (Nat.le_of_ble_eq_true rfl) ?_
        exact dg_iret hx hb hr hlocks (by decide +kernel) hP hS ⟨rfl, (by decide +kernel), (Eq.symm (F_m_canDig_p1 w_6_2 c_7 w_10_0 c_11)), trivial⟩ dX12_canDig_23
      · have jc_11 := dk_nlec (k := 0) (by decide +kernel) c_11
        refine lv_iconst (v := 1) hx hb dX12_canDig_18 (by decide +kernel) ?_
        refine lv_goto (tgt := 23) hx hb dX12_canDig_19 (dk_dq rfl) ?_
        have hz_13 : (1 : Int32).toInt = 1 := by decide +kernel
        refine W.widen (k := 0) (n := 0) (Nat.le_of_ble_eq_true rfl) (Nat.le_of_ble_eq_true rfl) ?_
        exact dg_iret hx hb hr hlocks (by decide +kernel) hP hS ⟨rfl, (by decide +kernel), (Eq.symm (F_m_canDig_p2 w_6_2 c_7 w_10_0 c_11)), trivial⟩ dX12_canDig_23
noncomputable def F_m_tubGrades_B1 (a1 : Int32) (S : dg_S) : (Int32 × Int32) → (Int32 × Int32) ⊕ (Int32) := fun w9 => match w9 with | (x_44, x_45) => (if (10 : Int32) ≤ x_44 then (Sum.inr (x_45)) else let x_48 : Int32 := (10 : Int32) * a1; let x_49 : Int32 := x_48 + x_44; let x_51 : Int32 := S.2.1 37 (x_49 : Int32).toNatClampNeg; let x_52 : Int32 := x_44 * x_51; let x_53 : Int32 := x_45 + x_52; let x_54 : Int32 := x_44 + 1; (Sum.inl (x_54, x_53)))
noncomputable def F_m_tubGrades (o : Nat) (S : dg_S) (a1 : Int32) : Int32 := (lp (F_m_tubGrades_B1 a1 S) (0 : Int32) ((11 - ((0 : Int32)).toInt).toNat + 1) ((0 : Int32), (0 : Int32)))
theorem F_m_tubGrades_p0 {a1 : Int32} {S : dg_S} {x_44 : Int32} {x_45 : Int32} (h0 : (10 : Int32) ≤ x_44) : (F_m_tubGrades_B1 a1 S) (x_44, x_45) = Sum.inr (x_45) := (Eq.trans (if_pos h0) rfl)
theorem F_m_tubGrades_p1 {a1 : Int32} {S : dg_S} {x_44 : Int32} {x_45 : Int32} {x_54 : Int32} {x_53 : Int32} {x_48 : Int32} {x_49 : Int32} {x_51 : Int32} {x_52 : Int32} (h0 : ¬ ((10 : Int32) ≤ x_44)) (h1 : x_48 = (10 : Int32) * a1) (h2 : x_49 = x_48 + x_44) (h3 : x_51 = S.2.1 37 (x_49 : Int32).toNatClampNeg) (h4 : x_52 = x_44 * x_51) (h5 : x_53 = x_45 + x_52) (h6 : x_54 = x_44 + 1) : (F_m_tubGrades_B1 a1 S) (x_44, x_45) = Sum.inl (x_54, x_53) := by
  replace h1 := Eq.symm h1
  subst h1
  replace h2 := Eq.symm h2
  subst h2
  replace h3 := Eq.symm h3
  subst h3
  replace h4 := Eq.symm h4
  subst h4
  replace h5 := Eq.symm h5
  subst h5
  replace h6 := Eq.symm h6
  subst h6
  exact (Eq.trans (if_neg h0) rfl)
theorem F_m_tubGrades_p2 {o : Nat} {S : dg_S} {a1 : Int32}  : F_m_tubGrades o S a1 = lp (F_m_tubGrades_B1 a1 S) (0 : Int32) ((11 - ((0 : Int32)).toInt).toNat + 1) ((0 : Int32), (0 : Int32)) := rfl
set_option maxHeartbeats 8000000 in
set_option maxRecDepth 100000 in
theorem c_m_tubGrades (l : Launch) (g : Nat → ClassId) (D : va_G) (o : Nat) (S : dg_S) (a1 : Int32) (b_a1 : 0 ≤ (a1).toInt ∧ (a1).toInt ≤ 21) (I : CM o S) (sz : Nat) : Met l yX12_tubGrades (bw yX12_tubGrades cX12_tubGrades 4 (some .int)) ({ frames := 1, cells := 0, slots := 0, locals := 32 } : Room) (dk_Pc g D (dg_w g shM o rfM S) sz [.ref (o + 0), .int a1]) (va_Qi (fun (r : Int32) S' => S' = S ∧ (r = F_m_tubGrades o S a1) ∧ True) (dg_B g D shM o rfM) (dg_A o shM.length sz)) 0 0 (dg_A o shM.length sz) := by
  refine dg_met (cc := cX12_tubGrades) (maxL := 4) (ret := (some .int)) (dk_dq rfl) rfl (Nat.le_of_ble_eq_true rfl) ?_
  intro p e s m args below meth c A hAe harg hx hb hr hml hts hown hlocks hin hP K hS hA1 hA ST hsz ls hl
  rw [← hAe]
  have F : CallFix p m c cX12_tubGrades 4 s args (bw yX12_tubGrades cX12_tubGrades 4 (some .int)) RX12 := ⟨hx, hb, hml, hown, hts⟩
  have hl : lv_has ls 4 [(0, .ref (o + 0)), (1, .int a1)] := hl
  have M_0 : dg_sm shM [] [] S S := dg_sm.rf
  refine lv_iconst (v := 0) hx hb dX12_tubGrades_0 (by decide +kernel) ?_
  refine lv_istore_n (lv' := [(2, .int 0), (0, .ref (o + 0)), (1, .int a1)]) hx hb dX12_tubGrades_1 rfl hl (dk_dq rfl) rfl (fun ls hl => ?_)
  refine lv_iconst (v := 0) hx hb dX12_tubGrades_2 (by decide +kernel) ?_
  refine lv_istore_n (lv' := [(3, .int 0), (2, .int 0), (0, .ref (o + 0)), (1, .int a1)]) hx hb dX12_tubGrades_3 rfl hl (dk_dq rfl) rfl (fun ls hl => ?_)
  have L_46 : ∀ (n : Nat) (x_44 : Int32) (x_45 : Int32), (0 ≤ (x_44).toInt ∧ (x_44).toInt ≤ 10) → ((11 - (x_44).toInt).toNat < n) → (F_m_tubGrades o S a1 = lp (F_m_tubGrades_B1 a1 S) (0 : Int32) n (x_44, x_45)) → ∀ (H : Heap) (locs : List Loc), va_P D vwCl (dg_w g shM o rfM S) H → va_S A s.heap H locs → ∀ ls : Array Slot, lv_has ls 4 [(3, .int x_44), (2, .int x_45), (0, .ref (o + 0)), (1, .int a1)] → W p l e ({ frames := 1, cells := 0, slots := 0, locals := 32 } : Room) s m args below meth c H locs 0 0 (MQ below (va_Qi (fun (r : Int32) S' => S' = S ∧ (r = F_m_tubGrades o S a1) ∧ True) (dg_B g D shM o rfM) A) args s 0 0 A) (F0 m 4 ls []) := by
    as_aux_lemma =>
      intro n
      induction n with
      | zero =>
        intro x_44 x_45 b_x_44 hmu hF_1 H locs hP hS ls hl
        omega
      | succ n ih =>
        as_aux_lemma =>
          intro x_44 x_45 b_x_44 hmu hF_1 H locs hP hS ls hl
          refine lv_iload_n hx hb dX12_tubGrades_4 rfl (lv_at hl 0 rfl) ?_
          refine lv_bipush (v := 10) hx hb dX12_tubGrades_5 (by decide +kernel) ?_
          refine lv_icmp_ge (tgt := 32) hx hb dX12_tubGrades_7 (dk_dq rfl) (fun c_47 => ?_) (fun c_47 => ?_)
          · have jc_47 := dk_gec (k := 10) (by decide +kernel) c_47
            refine lv_iload_n hx hb dX12_tubGrades_32 rfl (lv_at hl 1 rfl) ?_
            refine W.widen (k := 0) (n := 0) (Nat.le_of_ble_eq_true rfl) (Nat.le_of_ble_eq_true rfl) ?_
            exact dg_iret hx hb hr hlocks rfl hP hS ⟨rfl, (Eq.symm (lp_r hF_1 (F_m_tubGrades_p0 c_47))), trivial⟩ dX12_tubGrades_33
          · as_aux_lemma =>
              have jc_47 := dk_ngec (k := 10) (by decide +kernel) c_47
              refine lv_iload_n hx hb dX12_tubGrades_10 rfl (lv_at hl 1 rfl) ?_
              refine lv_iload_n hx hb dX12_tubGrades_11 rfl (lv_at hl 0 rfl) ?_
              refine lv_aload_n hx hb dX12_tubGrades_12 rfl (lv_at hl 2 rfl) ?_
              refine dg_get (C := RX12) (T := TX12) (N := 77) hx hb hts (fun w h => bw_mem (wU_X12 w h)) hown K hP sM_0 rfl 57 (dk_dq rfl) (hts _ (bw_mem wB_1117)) (fun _ h9 => h9) (v := .ref (o + 37)) (show S.1 0 57 = .ref (o + 37) from dg_I.rel (d := 37) I sM_0 (by decide +kernel)) dX12_tubGrades_13 ?_
              refine lv_bipush (v := 10) hx hb dX12_tubGrades_16 (by decide +kernel) ?_
              refine lv_iload_n hx hb dX12_tubGrades_18 rfl (lv_at hl 3 rfl) ?_
              refine lv_imul hx hb dX12_tubGrades_19 ?_
              refine lv_topi (fun x_48 ex_48 => ?_)
              have jx_48 : (x_48).toInt = 10 * (a1).toInt := by rw [ex_48]; exact dk_mulT2 (by decide +kernel) rfl (by omega)
              refine lv_iload_n hx hb dX12_tubGrades_20 rfl (lv_at hl 0 rfl) ?_
              refine lv_iadd hx hb dX12_tubGrades_21 ?_
              refine lv_topi (fun x_49 ex_49 => ?_)
              have jx_49 : (x_49).toInt = (x_48).toInt + (x_44).toInt := by rw [ex_49]; exact dk_addT2 rfl rfl (by omega)
              have hin_50 : vp_in x_49 220 := (dk_inv2 (by omega))
              refine dg_iald hx hb K hP sM_37 hin_50 dX12_tubGrades_22 (fun x_51 ex_51 => ?_)
              refine lv_imul hx hb dX12_tubGrades_23 ?_
              refine lv_topi (fun x_52 ex_52 => ?_)
              refine lv_iadd hx hb dX12_tubGrades_24 ?_
              refine lv_topi (fun x_53 ex_53 => ?_)
              refine lv_istore_n (lv' := [(2, .int x_53), (3, .int x_44), (0, .ref (o + 0)), (1, .int a1)]) hx hb dX12_tubGrades_25 rfl hl (dk_dq rfl) rfl (fun ls hl => ?_)
              obtain ⟨x_54, ex_54⟩ : ∃ z, z = x_44 + 1 := ⟨_, rfl⟩
              have jx_54 : (x_54).toInt = (x_44).toInt + 1 := by rw [ex_54]; exact dk_addT2 rfl (by decide +kernel) (by omega)
              refine lv_iinc (v := x_54) (lv' := [(3, .int x_54), (2, .int x_53), (0, .ref (o + 0)), (1, .int a1)]) hx hb dX12_tubGrades_26 hl (k := 1) rfl (by rw [ex_54]; rfl) (dk_dq rfl) rfl (fun ls hl => ?_)
              refine lv_goto (tgt := 4) hx hb dX12_tubGrades_29 (dk_dq rfl) ?_
              exact ih x_54 x_53 (by omega) (by first | exact mu_lt hmu (by omega) (by omega) | omega) (lp_l hF_1 (F_m_tubGrades_p1 c_47 ex_48 ex_49 (Eq.symm ex_51.symm) ex_52 ex_53 ex_54)) _ _ hP hS _ (lv_sub hl [0, 1, 2, 3] rfl)
  have hz_55 : (0 : Int32).toInt = 0 := by decide +kernel
  have hz_56 : (0 : Int32).toInt = 0 := by decide +kernel
  have hz_57 : (0 : Int32).toInt = 0 := by decide +kernel
  exact L_46 ((11 - ((0 : Int32)).toInt).toNat + 1) 0 0 (by decide +kernel) (by first | exact mu_lt hmu (by omega) (by omega) | omega) (F_m_tubGrades_p2) _ _ hP hS _ (lv_sub hl [0, 1, 2, 3] rfl)
noncomputable def F_m_worthOf_J2 (x_80 : Int32) (x_93 : Int32) (x_79 : Int32) : (Int32 × Int32) ⊕ (Int32) := let x_97 : Int32 := x_80 + x_93; let x_98 : Int32 := x_79 + 1; (Sum.inl (x_98, x_97))
noncomputable def F_m_worthOf_J3 (x_80 : Int32) (x_79 : Int32) : (Int32 × Int32) ⊕ (Int32) := (F_m_worthOf_J2 x_80 (0 : Int32) x_79)
noncomputable def F_m_worthOf_B1 (o : Nat) (S : dg_S) (a1 : Int32) : (Int32 × Int32) → (Int32 × Int32) ⊕ (Int32) := fun w9 => match w9 with | (x_79, x_80) => (if (64 : Int32) ≤ x_79 then (Sum.inr (x_80)) else let x_83 : Int32 := F_m_isCellOf o S x_79; (if x_83 = (0 : Int32) then (F_m_worthOf_J3 x_80 x_79) else let x_102 : Int32 := F_m_isOpen o S a1 x_79; (if x_102 = (0 : Int32) then let x_105 : Int32 := (64 : Int32) * a1; let x_106 : Int32 := x_105 + x_79; let x_108 : Int32 := S.2.1 31 (x_106 : Int32).toNatClampNeg; (F_m_worthOf_J2 x_80 x_108 x_79) else (F_m_worthOf_J3 x_80 x_79))))
noncomputable def F_m_worthOf (o : Nat) (S : dg_S) (a1 : Int32) : Int32 := let x_1 : Int32 := F_m_tubGrades o S a1; (lp (F_m_worthOf_B1 o S a1) (0 : Int32) ((65 - ((0 : Int32)).toInt).toNat + 1) ((0 : Int32), x_1))
theorem F_m_worthOf_p0 {o : Nat} {S : dg_S} {a1 : Int32} {x_79 : Int32} {x_80 : Int32} (h0 : (64 : Int32) ≤ x_79) : (F_m_worthOf_B1 o S a1) (x_79, x_80) = Sum.inr (x_80) := (Eq.trans (if_pos h0) rfl)
theorem F_m_worthOf_p1 {x_80 : Int32} {x_93 : Int32} {x_79 : Int32} {x_98 : Int32} {x_97 : Int32} (h0 : x_97 = x_80 + x_93) (h1 : x_98 = x_79 + 1) : F_m_worthOf_J2 x_80 x_93 x_79 = Sum.inl (x_98, x_97) := by
  replace h0 := Eq.symm h0
  subst h0
  replace h1 := Eq.symm h1
  subst h1
  exact rfl
theorem F_m_worthOf_p2 {x_80 : Int32} {x_79 : Int32}  : F_m_worthOf_J3 x_80 x_79 = F_m_worthOf_J2 x_80 (0 : Int32) x_79 := rfl
theorem F_m_worthOf_p3 {o : Nat} {S : dg_S} {a1 : Int32} {x_79 : Int32} {x_80 : Int32} {x_83 : Int32} (h0 : ¬ ((64 : Int32) ≤ x_79)) (h1 : x_83 = F_m_isCellOf o S x_79) (h2 : x_83 = (0 : Int32)) : (F_m_worthOf_B1 o S a1) (x_79, x_80) = F_m_worthOf_J3 x_80 x_79 := by
  replace h1 := Eq.symm h1
  subst h1
  exact (Eq.trans (if_neg h0) (Eq.trans (if_pos h2) rfl))
theorem F_m_worthOf_p4 {o : Nat} {S : dg_S} {a1 : Int32} {x_79 : Int32} {x_80 : Int32} {x_83 : Int32} {x_102 : Int32} (h0 : ¬ ((64 : Int32) ≤ x_79)) (h1 : x_83 = F_m_isCellOf o S x_79) (h2 : ¬ (x_83 = (0 : Int32))) (h3 : x_102 = F_m_isOpen o S a1 x_79) (h4 : ¬ (x_102 = (0 : Int32))) : (F_m_worthOf_B1 o S a1) (x_79, x_80) = F_m_worthOf_J3 x_80 x_79 := by
  replace h1 := Eq.symm h1
  subst h1
  replace h3 := Eq.symm h3
  subst h3
  exact (Eq.trans (if_neg h0) (Eq.trans (if_neg h2) (Eq.trans (if_neg h4) rfl)))
theorem F_m_worthOf_p5 {o : Nat} {S : dg_S} {a1 : Int32} {x_79 : Int32} {x_80 : Int32} {x_108 : Int32} {x_83 : Int32} {x_102 : Int32} {x_105 : Int32} {x_106 : Int32} (h0 : ¬ ((64 : Int32) ≤ x_79)) (h1 : x_83 = F_m_isCellOf o S x_79) (h2 : ¬ (x_83 = (0 : Int32))) (h3 : x_102 = F_m_isOpen o S a1 x_79) (h4 : x_102 = (0 : Int32)) (h5 : x_105 = (64 : Int32) * a1) (h6 : x_106 = x_105 + x_79) (h7 : x_108 = S.2.1 31 (x_106 : Int32).toNatClampNeg) : (F_m_worthOf_B1 o S a1) (x_79, x_80) = F_m_worthOf_J2 x_80 x_108 x_79 := by
  replace h1 := Eq.symm h1
  subst h1
  replace h3 := Eq.symm h3
  subst h3
  replace h5 := Eq.symm h5
  subst h5
  replace h6 := Eq.symm h6
  subst h6
  replace h7 := Eq.symm h7
  subst h7
  exact (Eq.trans (if_neg h0) (Eq.trans (if_neg h2) (Eq.trans (if_pos h4) rfl)))
theorem F_m_worthOf_p6 {o : Nat} {S : dg_S} {a1 : Int32} {x_1 : Int32} (h0 : x_1 = F_m_tubGrades o S a1) : F_m_worthOf o S a1 = lp (F_m_worthOf_B1 o S a1) (0 : Int32) ((65 - ((0 : Int32)).toInt).toNat + 1) ((0 : Int32), x_1) := by
  replace h0 := Eq.symm h0
  subst h0
  exact rfl
set_option maxHeartbeats 8000000 in
set_option maxRecDepth 100000 in
theorem c_m_worthOf (l : Launch) (g : Nat → ClassId) (D : va_G) (o : Nat) (S : dg_S) (a1 : Int32) (b_a1 : 0 ≤ (a1).toInt ∧ (a1).toInt ≤ 21) (ZB : ZBM S) (I : CM o S) (sz : Nat) : Met l yX12_worthOf (bw yX12_worthOf cX12_worthOf 4 (some .int)) ({ frames := 4, cells := 0, slots := 0, locals := 97 } : Room) (dk_Pc g D (dg_w g shM o rfM S) sz [.ref (o + 0), .int a1]) (va_Qi (fun (r : Int32) S' => S' = S ∧ (r = F_m_worthOf o S a1) ∧ True) (dg_B g D shM o rfM) (dg_A o shM.length sz)) 0 0 (dg_A o shM.length sz) := by
  refine dg_met (cc := cX12_worthOf) (maxL := 4) (ret := (some .int)) (dk_dq rfl) rfl (Nat.le_of_ble_eq_true rfl) ?_
  intro p e s m args below meth c A hAe harg hx hb hr hml hts hown hlocks hin hP K hS hA1 hA ST hsz ls hl
  rw [← hAe]
  have F : CallFix p m c cX12_worthOf 4 s args (bw yX12_worthOf cX12_worthOf 4 (some .int)) RX12 := ⟨hx, hb, hml, hown, hts⟩
  have hl : lv_has ls 4 [(0, .ref (o + 0)), (1, .int a1)] := hl
  have M_0 : dg_sm shM [] [] S S := dg_sm.rf
  refine lv_aload_n hx hb dX12_worthOf_0 rfl (lv_at hl 0 rfl) ?_
  refine lv_iload_n hx hb dX12_worthOf_1 rfl (lv_at hl 1 rfl) ?_
  refine dg_calli hS hA1 hA (va_runV (As := [.int a1]) (rest := []) F (c_m_tubGrades l g D o S a1 (by omega) I s.heap.size) (cwV 1 hts (bw_V wB_1119 wB_1120 wB_1121 wB_297 wB_1118) rfl rfl rfl (by decide +kernel) ⟨Nat.le_of_ble_eq_true rfl, Nat.le_of_ble_eq_true rfl⟩) (dg_preV sM_0 rfl K ST hP hS hA1 hA) rfl rfl hl.1 rfl (lv_room (Nat.le_of_ble_eq_true rfl)) dX12_worthOf_2 ⟨Nat.le_of_ble_eq_true rfl, Nat.le_of_ble_eq_true rfl⟩) (fun x_1 S_2 hw_2 H locs hP hS => ?_)
  rw [hw_2.1] at hP
  obtain ⟨hq_2, w_2_0, -⟩ := hw_2
  refine lv_istore_n (lv' := [(2, .int x_1), (0, .ref (o + 0)), (1, .int a1)]) hx hb dX12_worthOf_5 rfl hl (dk_dq rfl) rfl (fun ls hl => ?_)
  refine lv_iconst (v := 0) hx hb dX12_worthOf_6 (by decide +kernel) ?_
  refine lv_istore_n (lv' := [(3, .int 0), (2, .int x_1), (0, .ref (o + 0)), (1, .int a1)]) hx hb dX12_worthOf_7 rfl hl (dk_dq rfl) rfl (fun ls hl => ?_)
  have L_81 : ∀ (n : Nat) (x_79 : Int32) (x_80 : Int32), (0 ≤ (x_79).toInt ∧ (x_79).toInt ≤ 64) → ((65 - (x_79).toInt).toNat < n) → (F_m_worthOf o S a1 = lp (F_m_worthOf_B1 o S a1) (0 : Int32) n (x_79, x_80)) → ∀ (H : Heap) (locs : List Loc), va_P D vwCl (dg_w g shM o rfM S) H → va_S A s.heap H locs → ∀ ls : Array Slot, lv_has ls 4 [(3, .int x_79), (2, .int x_80), (0, .ref (o + 0)), (1, .int a1)] → W p l e ({ frames := 4, cells := 0, slots := 0, locals := 97 } : Room) s m args below meth c H locs 0 0 (MQ below (va_Qi (fun (r : Int32) S' => S' = S ∧ (r = F_m_worthOf o S a1) ∧ True) (dg_B g D shM o rfM) A) args s 0 0 A) (F0 m 8 ls []) := by
    as_aux_lemma =>
      intro n
      induction n with
      | zero =>
        intro x_79 x_80 b_x_79 hmu hF_1 H locs hP hS ls hl
        omega
      | succ n ih =>
        as_aux_lemma =>
          intro x_79 x_80 b_x_79 hmu hF_1 H locs hP hS ls hl
          refine lv_iload_n hx hb dX12_worthOf_8 rfl (lv_at hl 0 rfl) ?_
          refine lv_bipush (v := 64) hx hb dX12_worthOf_9 (by decide +kernel) ?_
          refine lv_icmp_ge (tgt := 55) hx hb dX12_worthOf_11 (dk_dq rfl) (fun c_82 => ?_) (fun c_82 => ?_)
          · have jc_82 := dk_gec (k := 64) (by decide +kernel) c_82
            refine lv_iload_n hx hb dX12_worthOf_55 rfl (lv_at hl 1 rfl) ?_
            refine W.widen (k := 0) (n := 0) (Nat.le_of_ble_eq_true rfl) (Nat.le_of_ble_eq_true rfl) ?_
            exact dg_iret hx hb hr hlocks rfl hP hS ⟨rfl, (Eq.symm (lp_r hF_1 (F_m_worthOf_p0 c_82))), trivial⟩ dX12_worthOf_56
          · as_aux_lemma =>
              have jc_82 := dk_ngec (k := 64) (by decide +kernel) c_82
              refine lv_iload_n hx hb dX12_worthOf_14 rfl (lv_at hl 1 rfl) ?_
              refine lv_aload_n hx hb dX12_worthOf_15 rfl (lv_at hl 2 rfl) ?_
              refine lv_iload_n hx hb dX12_worthOf_16 rfl (lv_at hl 0 rfl) ?_
              refine dg_calli hS hA1 hA (va_runV (As := [.int x_79]) (rest := [.int x_80]) F (c_m_isCellOf l g D o S x_79 (by omega) ZB I H.size) (cwV 1 hts (bw_V wB_1123 wB_1124 wB_1125 wB_297 wB_1122) rfl rfl rfl (by decide +kernel) ⟨Nat.le_of_ble_eq_true rfl, Nat.le_of_ble_eq_true rfl⟩) (dg_preV sM_0 rfl K ST hP hS hA1 hA) rfl rfl hl.1 rfl (lv_room (Nat.le_of_ble_eq_true rfl)) dX12_worthOf_17 ⟨Nat.le_of_ble_eq_true rfl, Nat.le_of_ble_eq_true rfl⟩) (fun x_83 S_84 hw_84 H locs hP hS => ?_)
              rw [hw_84.1] at hP
              obtain ⟨hq_84, w_84_0, w_84_1, w_84_2, -⟩ := hw_84
              have w_84_0 : 0 ≤ (x_83).toInt ∧ (x_83).toInt ≤ 1 := w_84_0
              have w_84_1 : (x_83).toInt = 1 → 0 ≤ (x_79).toInt := w_84_1
              have J_96 : ∀ (x_93 : Int32), ((-1) ≤ (x_93).toInt ∧ (x_93).toInt ≤ 9) → ((F_m_worthOf_B1 o S a1) (x_79, x_80) = F_m_worthOf_J2 x_80 x_93 x_79) → ∀ (H : Heap) (locs : List Loc), va_P D vwCl (dg_w g shM o rfM S) H → va_S A s.heap H locs → ∀ ls : Array Slot, lv_has ls 4 [(3, .int x_79), (2, .int x_80), (0, .ref (o + 0)), (1, .int a1)] → W p l e ({ frames := 4, cells := 0, slots := 0, locals := 97 } : Room) s m args below meth c H locs 0 0 (MQ below (va_Qi (fun (r : Int32) S' => S' = S ∧ (r = F_m_worthOf o S a1) ∧ True) (dg_B g D shM o rfM) A) args s 0 0 A) (F0 m 47 ls [.int x_93, .int x_80]) := by
                intro x_93 b_x_93 hF_2 H locs hP hS ls hl
                refine lv_iadd hx hb dX12_worthOf_47 ?_
                refine lv_topi (fun x_97 ex_97 => ?_)
                refine lv_istore_n (lv' := [(2, .int x_97), (3, .int x_79), (0, .ref (o + 0)), (1, .int a1)]) hx hb dX12_worthOf_48 rfl hl (dk_dq rfl) rfl (fun ls hl => ?_)
                obtain ⟨x_98, ex_98⟩ : ∃ z, z = x_79 + 1 := ⟨_, rfl⟩
                have jx_98 : (x_98).toInt = (x_79).toInt + 1 := by rw [ex_98]; exact dk_addT2 rfl (by decide +kernel) (by omega)
                refine lv_iinc (v := x_98) (lv' := [(3, .int x_98), (2, .int x_97), (0, .ref (o + 0)), (1, .int a1)]) hx hb dX12_worthOf_49 hl (k := 1) rfl (by rw [ex_98]; rfl) (dk_dq rfl) rfl (fun ls hl => ?_)
                refine lv_goto (tgt := 8) hx hb dX12_worthOf_52 (dk_dq rfl) ?_
                exact ih x_98 x_97 (by omega) (by first | exact mu_lt hmu (by omega) (by omega) | omega) (lp_l hF_1 (Eq.trans hF_2 (F_m_worthOf_p1 ex_97 ex_98))) _ _ hP hS _ (lv_sub hl [0, 1, 2, 3] rfl)
              have J_99 : ((F_m_worthOf_B1 o S a1) (x_79, x_80) = F_m_worthOf_J3 x_80 x_79) → ∀ (H : Heap) (locs : List Loc), va_P D vwCl (dg_w g shM o rfM S) H → va_S A s.heap H locs → ∀ ls : Array Slot, lv_has ls 4 [(3, .int x_79), (2, .int x_80), (0, .ref (o + 0)), (1, .int a1)] → W p l e ({ frames := 4, cells := 0, slots := 0, locals := 97 } : Room) s m args below meth c H locs 0 0 (MQ below (va_Qi (fun (r : Int32) S' => S' = S ∧ (r = F_m_worthOf o S a1) ∧ True) (dg_B g D shM o rfM) A) args s 0 0 A) (F0 m 46 ls [.int x_80]) := by
                intro hF_3 H locs hP hS ls hl
                refine lv_iconst (v := 0) hx hb dX12_worthOf_46 (by decide +kernel) ?_
                have hz_100 : (0 : Int32).toInt = 0 := by decide +kernel
                exact J_96 0 (by decide +kernel) (Eq.trans hF_3 (F_m_worthOf_p2)) _ _ hP hS _ (lv_sub hl [0, 1, 2, 3] rfl)
              refine lv_if_eq (tgt := 46) hx hb dX12_worthOf_20 (dk_dq rfl) (fun c_101 => ?_) (fun c_101 => ?_)
              · have jc_101 := dk_eqc (k := 0) (by decide +kernel) c_101
                exact J_99   (F_m_worthOf_p3 c_82 w_84_2 c_101) _ _ hP hS _ (lv_sub hl [0, 1, 2, 3] rfl)
              · as_aux_lemma =>
                  have jc_101 := dk_neqc (k := 0) (by decide +kernel) c_101
                  refine lv_aload_n hx hb dX12_worthOf_23 rfl (lv_at hl 2 rfl) ?_
                  refine lv_iload_n hx hb dX12_worthOf_24 rfl (lv_at hl 3 rfl) ?_
                  refine lv_iload_n hx hb dX12_worthOf_25 rfl (lv_at hl 0 rfl) ?_
                  refine dg_calli hS hA1 hA (va_runV (As := [.int a1, .int x_79]) (rest := [.int x_80]) F (c_m_isOpen l g D o S a1 (by omega) x_79 (by omega) I H.size) (cwV 2 hts (bw_V wB_1092 wB_1093 wB_1094 wB_297 wB_1091) rfl rfl rfl (by decide +kernel) ⟨Nat.le_of_ble_eq_true rfl, Nat.le_of_ble_eq_true rfl⟩) (dg_preV sM_0 rfl K ST hP hS hA1 hA) rfl rfl hl.1 rfl (lv_room (Nat.le_of_ble_eq_true rfl)) dX12_worthOf_26 ⟨Nat.le_of_ble_eq_true rfl, Nat.le_of_ble_eq_true rfl⟩) (fun x_102 S_103 hw_103 H locs hP hS => ?_)
                  rw [hw_103.1] at hP
                  obtain ⟨hq_103, w_103_0, w_103_1, -⟩ := hw_103
                  have w_103_0 : 0 ≤ (x_102).toInt ∧ (x_102).toInt ≤ 1 := w_103_0
                  refine lv_if_ne (tgt := 46) hx hb dX12_worthOf_29 (dk_dq rfl) (fun c_104 => ?_) (fun c_104 => ?_)
                  · have jc_104 := dk_neqc (k := 0) (by decide +kernel) c_104
                    exact J_99   (F_m_worthOf_p4 c_82 w_84_2 c_101 w_103_1 c_104) _ _ hP hS _ (lv_sub hl [0, 1, 2, 3] rfl)
                  · as_aux_lemma =>
                      have jc_104 := dk_eqc (k := 0) (by decide +kernel) c_104
                      refine lv_aload_n hx hb dX12_worthOf_32 rfl (lv_at hl 2 rfl) ?_
                      refine dg_get (C := RX12) (T := TX12) (N := 77) hx hb hts (fun w h => bw_mem (wU_X12 w h)) hown K hP sM_0 rfl 51 (dk_dq rfl) (hts _ (bw_mem wB_1090)) (fun _ h9 => h9) (v := .ref (o + 31)) (show S.1 0 51 = .ref (o + 31) from dg_I.rel (d := 31) I sM_0 (by decide +kernel)) dX12_worthOf_33 ?_
                      refine lv_bipush (v := 64) hx hb dX12_worthOf_36 (by decide +kernel) ?_
                      refine lv_iload_n hx hb dX12_worthOf_38 rfl (lv_at hl 3 rfl) ?_
                      refine lv_imul hx hb dX12_worthOf_39 ?_
                      refine lv_topi (fun x_105 ex_105 => ?_)
                      have jx_105 : (x_105).toInt = 64 * (a1).toInt := by rw [ex_105]; exact dk_mulT2 (by decide +kernel) rfl (by omega)
                      refine lv_iload_n hx hb dX12_worthOf_40 rfl (lv_at hl 0 rfl) ?_
                      refine lv_iadd hx hb dX12_worthOf_41 ?_
                      refine lv_topi (fun x_106 ex_106 => ?_)
                      have jx_106 : (x_106).toInt = (x_105).toInt + (x_79).toInt := by rw [ex_106]; exact dk_addT2 rfl rfl (by omega)
                      have hin_107 : vp_in x_106 1408 := (dk_inv2 (by omega))
                      refine dg_iald hx hb K hP sM_31 hin_107 dX12_worthOf_42 (fun x_108 ex_108 => ?_)
                      have b_x_108 := dk_all_at (dg_I.row (lo := (-1)) (hi := 9) I sM_31 (by decide +kernel)) hin_107 ex_108
                      refine lv_goto (tgt := 47) hx hb dX12_worthOf_43 (dk_dq rfl) ?_
                      exact J_96 x_108 (by omega) (F_m_worthOf_p5 c_82 w_84_2 c_101 w_103_1 c_104 ex_105 ex_106 (Eq.symm ex_108.symm)) _ _ hP hS _ (lv_sub hl [0, 1, 2, 3] rfl)
  have hz_109 : (0 : Int32).toInt = 0 := by decide +kernel
  have hz_110 : (0 : Int32).toInt = 0 := by decide +kernel
  exact L_81 ((65 - ((0 : Int32)).toInt).toNat + 1) 0 x_1 (by decide +kernel) (by first | exact mu_lt hmu (by omega) (by omega) | omega) (F_m_worthOf_p6 w_2_0) _ _ hP hS _ (lv_sub hl [0, 1, 2, 3] rfl)
noncomputable def F_m_tubsFrom_B1 (a1 : Int32) (S : dg_S) : (Int32 × Int32) → (Int32 × Int32) ⊕ (Int32) := fun w9 => match w9 with | (x_17, x_18) => (if (10 : Int32) ≤ x_17 then (Sum.inr (x_18)) else let x_21 : Int32 := (10 : Int32) * a1; let x_22 : Int32 := x_21 + x_17; let x_24 : Int32 := S.2.1 37 (x_22 : Int32).toNatClampNeg; let x_25 : Int32 := x_18 + x_24; let x_26 : Int32 := x_17 + 1; (Sum.inl (x_26, x_25)))
noncomputable def F_m_tubsFrom (o : Nat) (S : dg_S) (a1 : Int32) (a2 : Int32) : Int32 := (lp (F_m_tubsFrom_B1 a1 S) (0 : Int32) ((10000 - ((a2 : Int32)).toInt).toNat + 1) (a2, (0 : Int32)))
theorem F_m_tubsFrom_p0 {a1 : Int32} {S : dg_S} {x_17 : Int32} {x_18 : Int32} (h0 : (10 : Int32) ≤ x_17) : (F_m_tubsFrom_B1 a1 S) (x_17, x_18) = Sum.inr (x_18) := (Eq.trans (if_pos h0) rfl)
theorem F_m_tubsFrom_p1 {a1 : Int32} {S : dg_S} {x_17 : Int32} {x_18 : Int32} {x_26 : Int32} {x_25 : Int32} {x_21 : Int32} {x_22 : Int32} {x_24 : Int32} (h0 : ¬ ((10 : Int32) ≤ x_17)) (h1 : x_21 = (10 : Int32) * a1) (h2 : x_22 = x_21 + x_17) (h3 : x_24 = S.2.1 37 (x_22 : Int32).toNatClampNeg) (h4 : x_25 = x_18 + x_24) (h5 : x_26 = x_17 + 1) : (F_m_tubsFrom_B1 a1 S) (x_17, x_18) = Sum.inl (x_26, x_25) := by
  replace h1 := Eq.symm h1
  subst h1
  replace h2 := Eq.symm h2
  subst h2
  replace h3 := Eq.symm h3
  subst h3
  replace h4 := Eq.symm h4
  subst h4
  replace h5 := Eq.symm h5
  subst h5
  exact (Eq.trans (if_neg h0) rfl)
theorem F_m_tubsFrom_p2 {o : Nat} {S : dg_S} {a1 : Int32} {a2 : Int32}  : F_m_tubsFrom o S a1 a2 = lp (F_m_tubsFrom_B1 a1 S) (0 : Int32) ((10000 - ((a2 : Int32)).toInt).toNat + 1) (a2, (0 : Int32)) := rfl
set_option maxHeartbeats 8000000 in
set_option maxRecDepth 100000 in
theorem c_m_tubsFrom (l : Launch) (g : Nat → ClassId) (D : va_G) (o : Nat) (S : dg_S) (a1 : Int32) (b_a1 : 0 ≤ (a1).toInt ∧ (a1).toInt ≤ 21) (a2 : Int32) (b_a2 : 0 ≤ (a2).toInt ∧ (a2).toInt ≤ 9999) (I : CM o S) (sz : Nat) : Met l yX12_tubsFrom (bw yX12_tubsFrom cX12_tubsFrom 5 (some .int)) ({ frames := 1, cells := 0, slots := 0, locals := 32 } : Room) (dk_Pc g D (dg_w g shM o rfM S) sz [.ref (o + 0), .int a1, .int a2]) (va_Qi (fun (r : Int32) S' => S' = S ∧ (r = F_m_tubsFrom o S a1 a2) ∧ True) (dg_B g D shM o rfM) (dg_A o shM.length sz)) 0 0 (dg_A o shM.length sz) := by
  refine dg_met (cc := cX12_tubsFrom) (maxL := 5) (ret := (some .int)) (dk_dq rfl) rfl (Nat.le_of_ble_eq_true rfl) ?_
  intro p e s m args below meth c A hAe harg hx hb hr hml hts hown hlocks hin hP K hS hA1 hA ST hsz ls hl
  rw [← hAe]
  have F : CallFix p m c cX12_tubsFrom 5 s args (bw yX12_tubsFrom cX12_tubsFrom 5 (some .int)) RX12 := ⟨hx, hb, hml, hown, hts⟩
  have hl : lv_has ls 5 [(0, .ref (o + 0)), (1, .int a1), (2, .int a2)] := hl
  have M_0 : dg_sm shM [] [] S S := dg_sm.rf
  refine lv_iconst (v := 0) hx hb dX12_tubsFrom_0 (by decide +kernel) ?_
  refine lv_istore_n (lv' := [(3, .int 0), (0, .ref (o + 0)), (1, .int a1), (2, .int a2)]) hx hb dX12_tubsFrom_1 rfl hl (dk_dq rfl) rfl (fun ls hl => ?_)
  refine lv_iload_n hx hb dX12_tubsFrom_2 rfl (lv_at hl 3 rfl) ?_
  refine lv_istore (lv' := [(4, .int a2), (3, .int 0), (0, .ref (o + 0)), (1, .int a1), (2, .int a2)]) hx hb dX12_tubsFrom_3 hl (dk_dq rfl) rfl (fun ls hl => ?_)
  have L_19 : ∀ (n : Nat) (x_17 : Int32) (x_18 : Int32), (0 ≤ (x_17).toInt ∧ (x_17).toInt ≤ 9999) → ((10000 - (x_17).toInt).toNat < n) → (F_m_tubsFrom o S a1 a2 = lp (F_m_tubsFrom_B1 a1 S) (0 : Int32) n (x_17, x_18)) → ∀ (H : Heap) (locs : List Loc), va_P D vwCl (dg_w g shM o rfM S) H → va_S A s.heap H locs → ∀ ls : Array Slot, lv_has ls 5 [(4, .int x_17), (3, .int x_18), (0, .ref (o + 0)), (1, .int a1), (2, .int a2)] → W p l e ({ frames := 1, cells := 0, slots := 0, locals := 32 } : Room) s m args below meth c H locs 0 0 (MQ below (va_Qi (fun (r : Int32) S' => S' = S ∧ (r = F_m_tubsFrom o S a1 a2) ∧ True) (dg_B g D shM o rfM) A) args s 0 0 A) (F0 m 5 ls []) := by
    as_aux_lemma =>
      intro n
      induction n with
      | zero =>
        intro x_17 x_18 b_x_17 hmu hF_1 H locs hP hS ls hl
        omega
      | succ n ih =>
        as_aux_lemma =>
          intro x_17 x_18 b_x_17 hmu hF_1 H locs hP hS ls hl
          refine lv_iload hx hb dX12_tubsFrom_5 (lv_at hl 0 rfl) ?_
          refine lv_bipush (v := 10) hx hb dX12_tubsFrom_7 (by decide +kernel) ?_
          refine lv_icmp_ge (tgt := 33) hx hb dX12_tubsFrom_9 (dk_dq rfl) (fun c_20 => ?_) (fun c_20 => ?_)
          · have jc_20 := dk_gec (k := 10) (by decide +kernel) c_20
            refine lv_iload_n hx hb dX12_tubsFrom_33 rfl (lv_at hl 1 rfl) ?_
            refine W.widen (k := 0) (n := 0) (Nat.le_of_ble_eq_true rfl) (Nat.le_of_ble_eq_true rfl) ?_
            exact dg_iret hx hb hr hlocks rfl hP hS ⟨rfl, (Eq.symm (lp_r hF_1 (F_m_tubsFrom_p0 c_20))), trivial⟩ dX12_tubsFrom_34
          · as_aux_lemma =>
              have jc_20 := dk_ngec (k := 10) (by decide +kernel) c_20
              refine lv_iload_n hx hb dX12_tubsFrom_12 rfl (lv_at hl 1 rfl) ?_
              refine lv_aload_n hx hb dX12_tubsFrom_13 rfl (lv_at hl 2 rfl) ?_
              refine dg_get (C := RX12) (T := TX12) (N := 77) hx hb hts (fun w h => bw_mem (wU_X12 w h)) hown K hP sM_0 rfl 57 (dk_dq rfl) (hts _ (bw_mem wB_1117)) (fun _ h9 => h9) (v := .ref (o + 37)) (show S.1 0 57 = .ref (o + 37) from dg_I.rel (d := 37) I sM_0 (by decide +kernel)) dX12_tubsFrom_14 ?_
              refine lv_bipush (v := 10) hx hb dX12_tubsFrom_17 (by decide +kernel) ?_
              refine lv_iload_n hx hb dX12_tubsFrom_19 rfl (lv_at hl 3 rfl) ?_
              refine lv_imul hx hb dX12_tubsFrom_20 ?_
              refine lv_topi (fun x_21 ex_21 => ?_)
              have jx_21 : (x_21).toInt = 10 * (a1).toInt := by rw [ex_21]; exact dk_mulT2 (by decide +kernel) rfl (by omega)
              refine lv_iload hx hb dX12_tubsFrom_21 (lv_at hl 0 rfl) ?_
              refine lv_iadd hx hb dX12_tubsFrom_23 ?_
              refine lv_topi (fun x_22 ex_22 => ?_)
              have jx_22 : (x_22).toInt = (x_21).toInt + (x_17).toInt := by rw [ex_22]; exact dk_addT2 rfl rfl (by omega)
              have hin_23 : vp_in x_22 220 := (dk_inv2 (by omega))
              refine dg_iald hx hb K hP sM_37 hin_23 dX12_tubsFrom_24 (fun x_24 ex_24 => ?_)
              refine lv_iadd hx hb dX12_tubsFrom_25 ?_
              refine lv_topi (fun x_25 ex_25 => ?_)
              refine lv_istore_n (lv' := [(3, .int x_25), (4, .int x_17), (0, .ref (o + 0)), (1, .int a1), (2, .int a2)]) hx hb dX12_tubsFrom_26 rfl hl (dk_dq rfl) rfl (fun ls hl => ?_)
              obtain ⟨x_26, ex_26⟩ : ∃ z, z = x_17 + 1 := ⟨_, rfl⟩
              have jx_26 : (x_26).toInt = (x_17).toInt + 1 := by rw [ex_26]; exact dk_addT2 rfl (by decide +kernel) (by omega)
              refine lv_iinc (v := x_26) (lv' := [(4, .int x_26), (3, .int x_25), (0, .ref (o + 0)), (1, .int a1), (2, .int a2)]) hx hb dX12_tubsFrom_27 hl (k := 1) rfl (by rw [ex_26]; rfl) (dk_dq rfl) rfl (fun ls hl => ?_)
              refine lv_goto (tgt := 5) hx hb dX12_tubsFrom_30 (dk_dq rfl) ?_
              exact ih x_26 x_25 (by omega) (by first | exact mu_lt hmu (by omega) (by omega) | omega) (lp_l hF_1 (F_m_tubsFrom_p1 c_20 ex_21 ex_22 (Eq.symm ex_24.symm) ex_25 ex_26)) _ _ hP hS _ (lv_sub hl [0, 1, 2, 3, 4] rfl)
  have hz_27 : (0 : Int32).toInt = 0 := by decide +kernel
  exact L_19 ((10000 - ((a2 : Int32)).toInt).toNat + 1) a2 0 (by omega) (by first | exact mu_lt hmu (by omega) (by omega) | omega) (F_m_tubsFrom_p2) _ _ hP hS _ (lv_sub hl [0, 1, 2, 3, 4] rfl)
noncomputable def F_m_slot (o : Nat) (S : dg_S) (a1 : Int32) : Int32 := let x_1 : Int32 := zI S 0 60; let x_2 : Int32 := x_1 + a1; let x_3 : Int32 := x_2 - x_2 / (20 : Int32) * (20 : Int32); let x_4 : Int32 := (2 : Int32) + x_3; x_4
theorem F_m_slot_p0 {o : Nat} {S : dg_S} {a1 : Int32} {x_4 : Int32} {x_1 : Int32} {x_2 : Int32} {x_3 : Int32} (h0 : x_1 = zI S 0 60) (h1 : x_2 = x_1 + a1) (h2 : x_3 = x_2 - x_2 / (20 : Int32) * (20 : Int32)) (h3 : x_4 = (2 : Int32) + x_3) : F_m_slot o S a1 = x_4 := by
  replace h0 := Eq.symm h0
  subst h0
  replace h1 := Eq.symm h1
  subst h1
  replace h2 := Eq.symm h2
  subst h2
  replace h3 := Eq.symm h3
  subst h3
  exact rfl
set_option maxHeartbeats 8000000 in
set_option maxRecDepth 100000 in
theorem c_m_slot (l : Launch) (g : Nat → ClassId) (D : va_G) (o : Nat) (S : dg_S) (a1 : Int32) (b_a1 : 0 ≤ (a1).toInt ∧ (a1).toInt ≤ 20) (I : CM o S) (sz : Nat) : Met l yX12_slot (bw yX12_slot cX12_slot 2 (some .int)) ({ frames := 1, cells := 0, slots := 0, locals := 32 } : Room) (dk_Pc g D (dg_w g shM o rfM S) sz [.ref (o + 0), .int a1]) (va_Qi (fun (r : Int32) S' => S' = S ∧ (2 ≤ (r).toInt ∧ (r).toInt ≤ 21) ∧ (r = F_m_slot o S a1) ∧ True) (dg_B g D shM o rfM) (dg_A o shM.length sz)) 0 0 (dg_A o shM.length sz) := by
  refine dg_met (cc := cX12_slot) (maxL := 2) (ret := (some .int)) (dk_dq rfl) rfl (Nat.le_of_ble_eq_true rfl) ?_
  intro p e s m args below meth c A hAe harg hx hb hr hml hts hown hlocks hin hP K hS hA1 hA ST hsz ls hl
  rw [← hAe]
  have F : CallFix p m c cX12_slot 2 s args (bw yX12_slot cX12_slot 2 (some .int)) RX12 := ⟨hx, hb, hml, hown, hts⟩
  have hl : lv_has ls 2 [(0, .ref (o + 0)), (1, .int a1)] := hl
  have M_0 : dg_sm shM [] [] S S := dg_sm.rf
  refine lv_iconst (v := 2) hx hb dX12_slot_0 (by decide +kernel) ?_
  refine lv_aload_n hx hb dX12_slot_1 rfl (lv_at hl 0 rfl) ?_
  obtain ⟨x_1, f_x_1, b_x_1⟩ := dg_I.int (i := 0) (k := 60) (lo := 0) (hi := 19) I sM_0 (by decide +kernel)
  refine dg_get (C := RX12) (T := TX12) (N := 77) hx hb hts (fun w h => bw_mem (wU_X12 w h)) hown K hP sM_0 rfl 60 (dk_dq rfl) (hts _ (bw_mem wB_1126)) (fun _ h9 => h9) (v := .int x_1) f_x_1 dX12_slot_2 ?_
  refine lv_iload_n hx hb dX12_slot_5 rfl (lv_at hl 1 rfl) ?_
  refine lv_iadd hx hb dX12_slot_6 ?_
  refine lv_topi (fun x_2 ex_2 => ?_)
  have jx_2 : (x_2).toInt = (x_1).toInt + (a1).toInt := by rw [ex_2]; exact dk_addT2 rfl rfl (by omega)
  refine lv_bipush (v := 20) hx hb dX12_slot_7 (by decide +kernel) ?_
  refine lv_irem hx hb dX12_slot_9 (by decide +kernel) ?_
  refine lv_topi (fun x_3 ex_3 => ?_)
  have jx_3 : (x_3).toInt = (x_2).toInt % 20 := by rw [ex_3]; exact dk_remL (by omega) (by decide +kernel) (dk_dq rfl)
  refine lv_iadd hx hb dX12_slot_10 ?_
  refine lv_topi (fun x_4 ex_4 => ?_)
  have jx_4 : (x_4).toInt = 2 + (x_3).toInt := by rw [ex_4]; exact dk_addT2 (by decide +kernel) rfl (by omega)
  refine W.widen (k := 0) (n := 0) (Nat.le_of_ble_eq_true rfl) (Nat.le_of_ble_eq_true rfl) ?_
  exact dg_iret hx hb hr hlocks rfl hP hS ⟨rfl, (by omega), (Eq.symm (F_m_slot_p0 (zI_eq f_x_1) ex_2 ex_3 ex_4)), trivial⟩ dX12_slot_11
noncomputable def F_m_writesDown_J2 (rw_94_0 : Int32) (S_113 : dg_S) (a1 : Int32) : dg_S := let x_116 : Int32 := rw_94_0 + (1 : Int32); let S_118 : dg_S := dg_uf S_113 38 (upd (S_113.2.1 38) (a1 : Int32).toNatClampNeg x_116); (S_118)
noncomputable def F_m_writesDown_J1 (a1 : Int32) (rw_94_0 : Int32) (S_94 : dg_S) (a2 : Int32) (a3 : Int32) (a4 : Int32) : dg_S := let x_96 : Int32 := (40 : Int32) * a1; let x_99 : Int32 := x_96 + rw_94_0; let x_100 : Int32 := (4 : Int32) * x_99; let x_102 : Int32 := S_94.2.1 29 (a1 : Int32).toNatClampNeg; let S_104 : dg_S := dg_uf S_94 39 (upd (S_94.2.1 39) (x_100 : Int32).toNatClampNeg x_102); let x_105 : Int32 := x_100 + (1 : Int32); let S_107 : dg_S := dg_uf S_104 39 (upd (S_104.2.1 39) (x_105 : Int32).toNatClampNeg a2); let x_108 : Int32 := x_100 + (2 : Int32); let S_110 : dg_S := dg_uf S_107 39 (upd (S_107.2.1 39) (x_108 : Int32).toNatClampNeg a3); let x_111 : Int32 := x_100 + (3 : Int32); let S_113 : dg_S := dg_uf S_110 39 (upd (S_110.2.1 39) (x_111 : Int32).toNatClampNeg a4); (F_m_writesDown_J2 rw_94_0 S_113 a1)
noncomputable def F_m_writesDown_J3 (x_2 : Int32) (S_186 : dg_S) (a1 : Int32) (a2 : Int32) (a3 : Int32) (a4 : Int32) : dg_S := let x_190 : Int32 := x_2 - (1 : Int32); let S_192 : dg_S := dg_uf S_186 38 (upd (S_186.2.1 38) (a1 : Int32).toNatClampNeg x_190); (F_m_writesDown_J1 a1 x_190 S_192 a2 a3 a4)
noncomputable def F_m_writesDown_B4 (a1 : Int32) (x_2 : Int32) (a2 : Int32) (a3 : Int32) (a4 : Int32) : (Int32 × dg_S) → (Int32 × dg_S) ⊕ (dg_S) := fun w9 => match w9 with | (x_239, S_240) => let x_242 : Int32 := (160 : Int32) * a1; let x_243 : Int32 := x_242 + (160 : Int32); let x_244 : Int32 := x_243 - (4 : Int32); (if x_244 ≤ x_239 then (Sum.inr ((F_m_writesDown_J3 x_2 S_240 a1 a2 a3 a4))) else let x_246 : Int32 := x_239 + (4 : Int32); let x_248 : Int32 := S_240.2.1 39 (x_246 : Int32).toNatClampNeg; let S_250 : dg_S := dg_uf S_240 39 (upd (S_240.2.1 39) (x_239 : Int32).toNatClampNeg x_248); let x_251 : Int32 := x_239 + 1; (Sum.inl (x_251, S_250)))
noncomputable def F_m_writesDown (o : Nat) (S : dg_S) (a1 : Int32) (a2 : Int32) (a3 : Int32) (a4 : Int32) : dg_S := let x_2 : Int32 := S.2.1 38 (a1 : Int32).toNatClampNeg; (if x_2 = (40 : Int32) then let x_120 : Int32 := (160 : Int32) * a1; (lp (F_m_writesDown_B4 a1 x_2 a2 a3 a4) S ((3517 - ((x_120 : Int32)).toInt).toNat + 1) (x_120, S)) else (F_m_writesDown_J1 a1 x_2 S a2 a3 a4))
theorem F_m_writesDown_p0 {rw_94_0 : Int32} {S_113 : dg_S} {a1 : Int32} {S_118 : dg_S} {x_116 : Int32} (h0 : x_116 = rw_94_0 + (1 : Int32)) (h1 : S_118 = dg_uf S_113 38 (upd (S_113.2.1 38) (a1 : Int32).toNatClampNeg x_116)) : F_m_writesDown_J2 rw_94_0 S_113 a1 = S_118 := by
  replace h0 := Eq.symm h0
  subst h0
  replace h1 := Eq.symm h1
  subst h1
  exact rfl
theorem F_m_writesDown_p1 {a1 : Int32} {rw_94_0 : Int32} {S_94 : dg_S} {a2 : Int32} {a3 : Int32} {a4 : Int32} {S_113 : dg_S} {x_96 : Int32} {x_99 : Int32} {x_100 : Int32} {x_102 : Int32} {S_104 : dg_S} {x_105 : Int32} {S_107 : dg_S} {x_108 : Int32} {S_110 : dg_S} {x_111 : Int32} (h0 : x_96 = (40 : Int32) * a1) (h1 : x_99 = x_96 + rw_94_0) (h2 : x_100 = (4 : Int32) * x_99) (h3 : x_102 = S_94.2.1 29 (a1 : Int32).toNatClampNeg) (h4 : S_104 = dg_uf S_94 39 (upd (S_94.2.1 39) (x_100 : Int32).toNatClampNeg x_102)) (h5 : x_105 = x_100 + (1 : Int32)) (h6 : S_107 = dg_uf S_104 39 (upd (S_104.2.1 39) (x_105 : Int32).toNatClampNeg a2)) (h7 : x_108 = x_100 + (2 : Int32)) (h8 : S_110 = dg_uf S_107 39 (upd (S_107.2.1 39) (x_108 : Int32).toNatClampNeg a3)) (h9 : x_111 = x_100 + (3 : Int32)) (h10 : S_113 = dg_uf S_110 39 (upd (S_110.2.1 39) (x_111 : Int32).toNatClampNeg a4)) : F_m_writesDown_J1 a1 rw_94_0 S_94 a2 a3 a4 = F_m_writesDown_J2 rw_94_0 S_113 a1 := by
  replace h0 := Eq.symm h0
  subst h0
  replace h1 := Eq.symm h1
  subst h1
  replace h2 := Eq.symm h2
  subst h2
  replace h3 := Eq.symm h3
  subst h3
  replace h4 := Eq.symm h4
  subst h4
  replace h5 := Eq.symm h5
  subst h5
  replace h6 := Eq.symm h6
  subst h6
  replace h7 := Eq.symm h7
  subst h7
  replace h8 := Eq.symm h8
  subst h8
  replace h9 := Eq.symm h9
  subst h9
  replace h10 := Eq.symm h10
  subst h10
  exact rfl
theorem F_m_writesDown_p2 {o : Nat} {S : dg_S} {a1 : Int32} {a2 : Int32} {a3 : Int32} {a4 : Int32} {x_2 : Int32} (h0 : x_2 = S.2.1 38 (a1 : Int32).toNatClampNeg) (h1 : ¬ (x_2 = (40 : Int32))) : F_m_writesDown o S a1 a2 a3 a4 = F_m_writesDown_J1 a1 x_2 S a2 a3 a4 := by
  replace h0 := Eq.symm h0
  subst h0
  exact (Eq.trans (if_neg h1) rfl)
theorem F_m_writesDown_p3 {x_2 : Int32} {S_186 : dg_S} {a1 : Int32} {a2 : Int32} {a3 : Int32} {a4 : Int32} {x_190 : Int32} {S_192 : dg_S} (h0 : x_190 = x_2 - (1 : Int32)) (h1 : S_192 = dg_uf S_186 38 (upd (S_186.2.1 38) (a1 : Int32).toNatClampNeg x_190)) : F_m_writesDown_J3 x_2 S_186 a1 a2 a3 a4 = F_m_writesDown_J1 a1 x_190 S_192 a2 a3 a4 := by
  replace h0 := Eq.symm h0
  subst h0
  replace h1 := Eq.symm h1
  subst h1
  exact rfl
theorem F_m_writesDown_p4 {a1 : Int32} {x_2 : Int32} {a2 : Int32} {a3 : Int32} {a4 : Int32} {x_239 : Int32} {S_240 : dg_S} {x_242 : Int32} {x_243 : Int32} {x_244 : Int32} (h0 : x_242 = (160 : Int32) * a1) (h1 : x_243 = x_242 + (160 : Int32)) (h2 : x_244 = x_243 - (4 : Int32)) (h3 : x_244 ≤ x_239) : (F_m_writesDown_B4 a1 x_2 a2 a3 a4) (x_239, S_240) = Sum.inr (F_m_writesDown_J3 x_2 S_240 a1 a2 a3 a4) := by
  replace h0 := Eq.symm h0
  subst h0
  replace h1 := Eq.symm h1
  subst h1
  replace h2 := Eq.symm h2
  subst h2
  exact (Eq.trans (if_pos h3) rfl)
theorem F_m_writesDown_p5 {a1 : Int32} {x_2 : Int32} {a2 : Int32} {a3 : Int32} {a4 : Int32} {x_239 : Int32} {S_240 : dg_S} {x_251 : Int32} {S_250 : dg_S} {x_242 : Int32} {x_243 : Int32} {x_244 : Int32} {x_246 : Int32} {x_248 : Int32} (h0 : x_242 = (160 : Int32) * a1) (h1 : x_243 = x_242 + (160 : Int32)) (h2 : x_244 = x_243 - (4 : Int32)) (h3 : ¬ (x_244 ≤ x_239)) (h4 : x_246 = x_239 + (4 : Int32)) (h5 : x_248 = S_240.2.1 39 (x_246 : Int32).toNatClampNeg) (h6 : S_250 = dg_uf S_240 39 (upd (S_240.2.1 39) (x_239 : Int32).toNatClampNeg x_248)) (h7 : x_251 = x_239 + 1) : (F_m_writesDown_B4 a1 x_2 a2 a3 a4) (x_239, S_240) = Sum.inl (x_251, S_250) := by
  replace h0 := Eq.symm h0
  subst h0
  replace h1 := Eq.symm h1
  subst h1
  replace h2 := Eq.symm h2
  subst h2
  replace h4 := Eq.symm h4
  subst h4
  replace h5 := Eq.symm h5
  subst h5
  replace h6 := Eq.symm h6
  subst h6
  replace h7 := Eq.symm h7
  subst h7
  exact (Eq.trans (if_neg h3) rfl)
theorem F_m_writesDown_p6 {o : Nat} {S : dg_S} {a1 : Int32} {a2 : Int32} {a3 : Int32} {a4 : Int32} {x_2 : Int32} {x_120 : Int32} (h0 : x_2 = S.2.1 38 (a1 : Int32).toNatClampNeg) (h1 : x_2 = (40 : Int32)) (h2 : x_120 = (160 : Int32) * a1) : F_m_writesDown o S a1 a2 a3 a4 = lp (F_m_writesDown_B4 a1 x_2 a2 a3 a4) S ((3517 - ((x_120 : Int32)).toInt).toNat + 1) (x_120, S) := by
  replace h0 := Eq.symm h0
  subst h0
  replace h2 := Eq.symm h2
  subst h2
  exact (Eq.trans (if_pos h1) rfl)
set_option maxHeartbeats 8000000 in
set_option maxRecDepth 100000 in
theorem c_m_writesDown (l : Launch) (g : Nat → ClassId) (D : va_G) (o : Nat) (S : dg_S) (a1 : Int32) (b_a1 : 0 ≤ (a1).toInt ∧ (a1).toInt ≤ 21) (a2 : Int32) (a3 : Int32) (a4 : Int32) (I : CM o S) (sz : Nat) : Met l yX12_writesDown (bw yX12_writesDown cX12_writesDown 6 none) ({ frames := 1, cells := 0, slots := 0, locals := 32 } : Room) (dk_Pc g D (dg_w g shM o rfM S) sz [.ref (o + 0), .int a1, .int a2, .int a3, .int a4]) (va_Qv (fun S' => CM o S' ∧ dg_sm shM [] [38, 39] S S' ∧ (S' = F_m_writesDown o S a1 a2 a3 a4) ∧ True) (dg_B g D shM o rfM) (dg_A o shM.length sz)) 0 0 (dg_A o shM.length sz) := by
  refine dg_met (cc := cX12_writesDown) (maxL := 6) (ret := none) (dk_dq rfl) rfl (Nat.le_of_ble_eq_true rfl) ?_
  intro p e s m args below meth c A hAe harg hx hb hr hml hts hown hlocks hin hP K hS hA1 hA ST hsz ls hl
  rw [← hAe]
  have F : CallFix p m c cX12_writesDown 6 s args (bw yX12_writesDown cX12_writesDown 6 none) RX12 := ⟨hx, hb, hml, hown, hts⟩
  have hl : lv_has ls 6 [(0, .ref (o + 0)), (1, .int a1), (2, .int a2), (3, .int a3), (4, .int a4)] := hl
  have M_0 : dg_sm shM [] [38, 39] S S := dg_sm.rf
  refine lv_aload_n hx hb dX12_writesDown_0 rfl (lv_at hl 0 rfl) ?_
  refine dg_get (C := RX12) (T := TX12) (N := 77) hx hb hts (fun w h => bw_mem (wU_X12 w h)) hown K hP sM_0 rfl 58 (dk_dq rfl) (hts _ (bw_mem wB_1127)) (fun _ h9 => h9) (v := .ref (o + 38)) (show S.1 0 58 = .ref (o + 38) from dg_I.rel (d := 38) I sM_0 (by decide +kernel)) dX12_writesDown_1 ?_
  refine lv_iload_n hx hb dX12_writesDown_4 rfl (lv_at hl 1 rfl) ?_
  have hin_1 : vp_in a1 22 := (dk_inv2 (by omega))
  refine dg_iald hx hb K hP sM_38 hin_1 dX12_writesDown_5 (fun x_2 ex_2 => ?_)
  have b_x_2 := dk_all_at (dg_I.row (lo := 0) (hi := 40) I sM_38 (by decide +kernel)) hin_1 ex_2
  refine lv_bipush (v := 40) hx hb dX12_writesDown_6 (by decide +kernel) ?_
  have J_95 : ∀ S_94 : dg_S, CM o S_94 → dg_sm shM [] [38, 39] S S_94 → ∀ rw_94_0 : Int32, S_94.2.1 38 (a1 : Int32).toNatClampNeg = rw_94_0 → (0 ≤ (rw_94_0).toInt ∧ (rw_94_0).toInt ≤ 39) → (F_m_writesDown o S a1 a2 a3 a4 = F_m_writesDown_J1 a1 rw_94_0 S_94 a2 a3 a4) → ∀ (H : Heap) (locs : List Loc), va_P D vwCl (dg_w g shM o rfM S_94) H → va_S A s.heap H locs → ∀ ls : Array Slot, lv_has ls 6 [(0, .ref (o + 0)), (1, .int a1), (2, .int a2), (3, .int a3), (4, .int a4)] → W p l e ({ frames := 1, cells := 0, slots := 0, locals := 32 } : Room) s m args below meth c H locs 0 0 (MQ below (va_Qv (fun S' => CM o S' ∧ dg_sm shM [] [38, 39] S S' ∧ (S' = F_m_writesDown o S a1 a2 a3 a4) ∧ True) (dg_B g D shM o rfM) A) args s 0 0 A) (F0 m 66 ls []) := by
    as_aux_lemma =>
      intro S_94 I_94 M_94 rw_94_0 frw_94_0 brw_94_0 hF_1 H locs hP hS ls hl
      refine lv_iconst (v := 4) hx hb dX12_writesDown_66 (by decide +kernel) ?_
      refine lv_bipush (v := 40) hx hb dX12_writesDown_67 (by decide +kernel) ?_
      refine lv_iload_n hx hb dX12_writesDown_69 rfl (lv_at hl 1 rfl) ?_
      refine lv_imul hx hb dX12_writesDown_70 ?_
      refine lv_topi (fun x_96 ex_96 => ?_)
      have jx_96 : (x_96).toInt = 40 * (a1).toInt := by rw [ex_96]; exact dk_mulT2 (by decide +kernel) rfl (by omega)
      refine lv_aload_n hx hb dX12_writesDown_71 rfl (lv_at hl 0 rfl) ?_
      refine dg_get (C := RX12) (T := TX12) (N := 77) hx hb hts (fun w h => bw_mem (wU_X12 w h)) hown K hP sM_0 rfl 58 (dk_dq rfl) (hts _ (bw_mem wB_1127)) (fun _ h9 => h9) (v := .ref (o + 38)) (show S_94.1 0 58 = .ref (o + 38) from dg_I.rel (d := 38) I_94 sM_0 (by decide +kernel)) dX12_writesDown_72 ?_
      refine lv_iload_n hx hb dX12_writesDown_75 rfl (lv_at hl 1 rfl) ?_
      have hin_97 : vp_in a1 22 := (dk_inv2 (by omega))
      refine dg_iald hx hb K hP sM_38 hin_97 dX12_writesDown_76 (fun y_98 ey_98 => ?_)
      obtain rfl : rw_94_0 = y_98 := (ey_98.trans frw_94_0).symm
      refine lv_iadd hx hb dX12_writesDown_77 ?_
      refine lv_topi (fun x_99 ex_99 => ?_)
      have jx_99 : (x_99).toInt = (x_96).toInt + (rw_94_0).toInt := by rw [ex_99]; exact dk_addT2 rfl rfl (by omega)
      refine lv_imul hx hb dX12_writesDown_78 ?_
      refine lv_topi (fun x_100 ex_100 => ?_)
      have jx_100 : (x_100).toInt = 4 * (x_99).toInt := by rw [ex_100]; exact dk_mulT2 (by decide +kernel) rfl (by omega)
      refine lv_istore (lv' := [(5, .int x_100), (0, .ref (o + 0)), (1, .int a1), (2, .int a2), (3, .int a3), (4, .int a4)]) hx hb dX12_writesDown_79 hl (dk_dq rfl) rfl (fun ls hl => ?_)
      refine lv_aload_n hx hb dX12_writesDown_81 rfl (lv_at hl 1 rfl) ?_
      refine dg_get (C := RX12) (T := TX12) (N := 77) hx hb hts (fun w h => bw_mem (wU_X12 w h)) hown K hP sM_0 rfl 59 (dk_dq rfl) (hts _ (bw_mem wB_1128)) (fun _ h9 => h9) (v := .ref (o + 39)) (show S_94.1 0 59 = .ref (o + 39) from dg_I.rel (d := 39) I_94 sM_0 (by decide +kernel)) dX12_writesDown_82 ?_
      refine lv_iload hx hb dX12_writesDown_85 (lv_at hl 0 rfl) ?_
      refine lv_aload_n hx hb dX12_writesDown_87 rfl (lv_at hl 1 rfl) ?_
      refine dg_get (C := RX12) (T := TX12) (N := 77) hx hb hts (fun w h => bw_mem (wU_X12 w h)) hown K hP sM_0 rfl 49 (dk_dq rfl) (hts _ (bw_mem wB_1108)) (fun _ h9 => h9) (v := .ref (o + 29)) (show S_94.1 0 49 = .ref (o + 29) from dg_I.rel (d := 29) I_94 sM_0 (by decide +kernel)) dX12_writesDown_88 ?_
      refine lv_iload_n hx hb dX12_writesDown_91 rfl (lv_at hl 2 rfl) ?_
      have hin_101 : vp_in a1 22 := (dk_inv2 (by omega))
      refine dg_iald hx hb K hP sM_29 hin_101 dX12_writesDown_92 (fun x_102 ex_102 => ?_)
      have b_x_102 := dk_all_at (dg_I.row (lo := 0) (hi := 2000) I_94 sM_29 (by decide +kernel)) hin_101 ex_102
      have hin_103 : vp_in x_100 3520 := (dk_inv2 (by omega))
      refine dg_iast hx hb K hP hS hA1 sM_39 hin_103 dX12_writesDown_93 (fun S_104 e_104 H locs hP hS => ?_)
      have I_104 := dg_I.uf0 I_94 e_104 sM_39 (by decide +kernel)
      have M_104 := dg_sm.uf M_94 e_104 sM_39 (dk_dq rfl)
      refine lv_aload_n hx hb dX12_writesDown_94 rfl (lv_at hl 1 rfl) ?_
      refine dg_get (C := RX12) (T := TX12) (N := 77) hx hb hts (fun w h => bw_mem (wU_X12 w h)) hown K hP sM_0 rfl 59 (dk_dq rfl) (hts _ (bw_mem wB_1128)) (fun _ h9 => h9) (v := .ref (o + 39)) (show S_104.1 0 59 = .ref (o + 39) from dg_I.rel (d := 39) I_104 sM_0 (by decide +kernel)) dX12_writesDown_95 ?_
      refine lv_iload hx hb dX12_writesDown_98 (lv_at hl 0 rfl) ?_
      refine lv_iconst (v := 1) hx hb dX12_writesDown_100 (by decide +kernel) ?_
      refine lv_iadd hx hb dX12_writesDown_101 ?_
      refine lv_topi (fun x_105 ex_105 => ?_)
      have jx_105 : (x_105).toInt = (x_100).toInt + 1 := by rw [ex_105]; exact dk_addT2 rfl (by decide +kernel) (by omega)
      as_aux_lemma =>
        refine lv_iload_n hx hb dX12_writesDown_102 rfl (lv_at hl 3 rfl) ?_
        have hin_106 : vp_in x_105 3520 := (dk_inv2 (by omega))
        refine dg_iast hx hb K hP hS hA1 sM_39 hin_106 dX12_writesDown_103 (fun S_107 e_107 H locs hP hS => ?_)
        have I_107 := dg_I.uf0 I_104 e_107 sM_39 (by decide +kernel)
        have M_107 := dg_sm.uf M_104 e_107 sM_39 (dk_dq rfl)
        refine lv_aload_n hx hb dX12_writesDown_104 rfl (lv_at hl 1 rfl) ?_
        refine dg_get (C := RX12) (T := TX12) (N := 77) hx hb hts (fun w h => bw_mem (wU_X12 w h)) hown K hP sM_0 rfl 59 (dk_dq rfl) (hts _ (bw_mem wB_1128)) (fun _ h9 => h9) (v := .ref (o + 39)) (show S_107.1 0 59 = .ref (o + 39) from dg_I.rel (d := 39) I_107 sM_0 (by decide +kernel)) dX12_writesDown_105 ?_
        refine lv_iload hx hb dX12_writesDown_108 (lv_at hl 0 rfl) ?_
        refine lv_iconst (v := 2) hx hb dX12_writesDown_110 (by decide +kernel) ?_
        refine lv_iadd hx hb dX12_writesDown_111 ?_
        refine lv_topi (fun x_108 ex_108 => ?_)
        have jx_108 : (x_108).toInt = (x_100).toInt + 2 := by rw [ex_108]; exact dk_addT2 rfl (by decide +kernel) (by omega)
        refine lv_iload_n hx hb dX12_writesDown_112 rfl (lv_at hl 4 rfl) ?_
        have hin_109 : vp_in x_108 3520 := (dk_inv2 (by omega))
        refine dg_iast hx hb K hP hS hA1 sM_39 hin_109 dX12_writesDown_113 (fun S_110 e_110 H locs hP hS => ?_)
        have I_110 := dg_I.uf0 I_107 e_110 sM_39 (by decide +kernel)
        have M_110 := dg_sm.uf M_107 e_110 sM_39 (dk_dq rfl)
        refine lv_aload_n hx hb dX12_writesDown_114 rfl (lv_at hl 1 rfl) ?_
        refine dg_get (C := RX12) (T := TX12) (N := 77) hx hb hts (fun w h => bw_mem (wU_X12 w h)) hown K hP sM_0 rfl 59 (dk_dq rfl) (hts _ (bw_mem wB_1128)) (fun _ h9 => h9) (v := .ref (o + 39)) (show S_110.1 0 59 = .ref (o + 39) from dg_I.rel (d := 39) I_110 sM_0 (by decide +kernel)) dX12_writesDown_115 ?_
        refine lv_iload hx hb dX12_writesDown_118 (lv_at hl 0 rfl) ?_
        refine lv_iconst (v := 3) hx hb dX12_writesDown_120 (by decide +kernel) ?_
        refine lv_iadd hx hb dX12_writesDown_121 ?_
        refine lv_topi (fun x_111 ex_111 => ?_)
        have jx_111 : (x_111).toInt = (x_100).toInt + 3 := by rw [ex_111]; exact dk_addT2 rfl (by decide +kernel) (by omega)
        refine lv_iload hx hb dX12_writesDown_122 (lv_at hl 5 rfl) ?_
        have hin_112 : vp_in x_111 3520 := (dk_inv2 (by omega))
        refine dg_iast hx hb K hP hS hA1 sM_39 hin_112 dX12_writesDown_124 (fun S_113 e_113 H locs hP hS => ?_)
        have I_113 := dg_I.uf0 I_110 e_113 sM_39 (by decide +kernel)
        have M_113 := dg_sm.uf M_110 e_113 sM_39 (dk_dq rfl)
        have hF_2 : F_m_writesDown o S a1 a2 a3 a4 = F_m_writesDown_J2 rw_94_0 S_113 a1 := (Eq.trans hF_1 (F_m_writesDown_p1 ex_96 ex_99 ex_100 (Eq.symm ex_102.symm) e_104 ex_105 e_107 ex_108 e_110 ex_111 e_113))
        refine lv_aload_n hx hb dX12_writesDown_125 rfl (lv_at hl 1 rfl) ?_
        refine dg_get (C := RX12) (T := TX12) (N := 77) hx hb hts (fun w h => bw_mem (wU_X12 w h)) hown K hP sM_0 rfl 58 (dk_dq rfl) (hts _ (bw_mem wB_1127)) (fun _ h9 => h9) (v := .ref (o + 38)) (show S_113.1 0 58 = .ref (o + 38) from dg_I.rel (d := 38) I_113 sM_0 (by decide +kernel)) dX12_writesDown_126 ?_
        refine lv_iload_n hx hb dX12_writesDown_129 rfl (lv_at hl 2 rfl) ?_
        refine lv_dup2_11 hx hb dX12_writesDown_130 rfl rfl ?_
        have hin_114 : vp_in a1 22 := (dk_inv2 (by omega))
        refine dg_iald hx hb K hP sM_38 hin_114 dX12_writesDown_131 (fun y_115 ey_115 => ?_)
        obtain rfl : rw_94_0 = y_115 := ((ey_115.trans (congrFun ((dg_uf_ne e_113 (dk_dq rfl)).trans ((dg_uf_ne e_110 (dk_dq rfl)).trans ((dg_uf_ne e_107 (dk_dq rfl)).trans (dg_uf_ne e_104 (dk_dq rfl))))) _)).trans frw_94_0).symm
        refine lv_iconst (v := 1) hx hb dX12_writesDown_132 (by decide +kernel) ?_
        refine lv_iadd hx hb dX12_writesDown_133 ?_
        refine lv_topi (fun x_116 ex_116 => ?_)
        have jx_116 : (x_116).toInt = (rw_94_0).toInt + 1 := by rw [ex_116]; exact dk_addT2 rfl (by decide +kernel) (by omega)
        have hin_117 : vp_in a1 22 := (dk_inv2 (by omega))
        refine dg_iast hx hb K hP hS hA1 sM_38 hin_117 dX12_writesDown_134 (fun S_118 e_118 H locs hP hS => ?_)
        have I_118 := dg_I.ufu (lo := 0) (hi := 40) I_113 e_118 sM_38 (by decide +kernel) (show 0 ≤ (x_116).toInt ∧ (x_116).toInt ≤ 40 from (by omega))
        have M_118 := dg_sm.uf M_113 e_118 sM_38 (dk_dq rfl)
        refine W.widen (k := 0) (n := 0) (Nat.le_of_ble_eq_true rfl) (Nat.le_of_ble_eq_true rfl) ?_
        exact dg_vret hx hb hr hlocks hP hS ⟨I_118, M_118, (Eq.symm (Eq.trans hF_2 (F_m_writesDown_p0 ex_116 e_118))), trivial⟩ dX12_writesDown_135
  refine lv_icmp_ne (tgt := 66) hx hb dX12_writesDown_8 (dk_dq rfl) (fun c_119 => ?_) (fun c_119 => ?_)
  · have jc_119 := dk_neqc (k := 40) (by decide +kernel) c_119
    exact J_95   S I M_0 x_2 ex_2.symm (by omega) (F_m_writesDown_p2 (Eq.symm ex_2.symm) c_119) _ _ hP hS _ (lv_sub hl [0, 1, 2, 3, 4] rfl)
  · as_aux_lemma =>
      have jc_119 := dk_eqc (k := 40) (by decide +kernel) c_119
      refine lv_sipush (v := 160) hx hb dX12_writesDown_11 (by decide +kernel) ?_
      refine lv_iload_n hx hb dX12_writesDown_14 rfl (lv_at hl 1 rfl) ?_
      refine lv_imul hx hb dX12_writesDown_15 ?_
      refine lv_topi (fun x_120 ex_120 => ?_)
      have jx_120 : (x_120).toInt = 160 * (a1).toInt := by rw [ex_120]; exact dk_mulT2 (by decide +kernel) rfl (by omega)
      refine lv_istore (lv' := [(5, .int x_120), (0, .ref (o + 0)), (1, .int a1), (2, .int a2), (3, .int a3), (4, .int a4)]) hx hb dX12_writesDown_16 hl (dk_dq rfl) rfl (fun ls hl => ?_)
      have J_187 : ∀ (x_179 : Int32), (156 ≤ (x_179).toInt ∧ (x_179).toInt ≤ 9999) → ∀ S_186 : dg_S, CM o S_186 → dg_sm shM [] [38, 39] S S_186 → S_186.2.1 38 (a1 : Int32).toNatClampNeg = x_2 → (F_m_writesDown o S a1 a2 a3 a4 = F_m_writesDown_J3 x_2 S_186 a1 a2 a3 a4) → ∀ (H : Heap) (locs : List Loc), va_P D vwCl (dg_w g shM o rfM S_186) H → va_S A s.heap H locs → ∀ ls : Array Slot, lv_has ls 6 [(5, .int x_179), (0, .ref (o + 0)), (1, .int a1), (2, .int a2), (3, .int a3), (4, .int a4)] → W p l e ({ frames := 1, cells := 0, slots := 0, locals := 32 } : Room) s m args below meth c H locs 0 0 (MQ below (va_Qv (fun S' => CM o S' ∧ dg_sm shM [] [38, 39] S S' ∧ (S' = F_m_writesDown o S a1 a2 a3 a4) ∧ True) (dg_B g D shM o rfM) A) args s 0 0 A) (F0 m 56 ls []) := by
        as_aux_lemma =>
          intro x_179 b_x_179 S_186 I_186 M_186 frw_186_0 hF_3 H locs hP hS ls hl
          refine lv_aload_n hx hb dX12_writesDown_56 rfl (lv_at hl 1 rfl) ?_
          refine dg_get (C := RX12) (T := TX12) (N := 77) hx hb hts (fun w h => bw_mem (wU_X12 w h)) hown K hP sM_0 rfl 58 (dk_dq rfl) (hts _ (bw_mem wB_1127)) (fun _ h9 => h9) (v := .ref (o + 38)) (show S_186.1 0 58 = .ref (o + 38) from dg_I.rel (d := 38) I_186 sM_0 (by decide +kernel)) dX12_writesDown_57 ?_
          refine lv_iload_n hx hb dX12_writesDown_60 rfl (lv_at hl 2 rfl) ?_
          refine lv_dup2_11 hx hb dX12_writesDown_61 rfl rfl ?_
          have hin_188 : vp_in a1 22 := (dk_inv2 (by omega))
          refine dg_iald hx hb K hP sM_38 hin_188 dX12_writesDown_62 (fun y_189 ey_189 => ?_)
          obtain rfl : x_2 = y_189 := (ey_189.trans frw_186_0).symm
          refine lv_iconst (v := 1) hx hb dX12_writesDown_63 (by decide +kernel) ?_
          refine lv_isub hx hb dX12_writesDown_64 ?_
          refine lv_topi (fun x_190 ex_190 => ?_)
          have jx_190 : (x_190).toInt = (x_2).toInt - 1 := by rw [ex_190]; exact dk_subT2 rfl (by decide +kernel) (by omega)
          have hin_191 : vp_in a1 22 := (dk_inv2 (by omega))
          refine dg_iast hx hb K hP hS hA1 sM_38 hin_191 dX12_writesDown_65 (fun S_192 e_192 H locs hP hS => ?_)
          have I_192 := dg_I.ufu (lo := 0) (hi := 40) I_186 e_192 sM_38 (by decide +kernel) (show 0 ≤ (x_190).toInt ∧ (x_190).toInt ≤ 40 from (by omega))
          have M_192 := dg_sm.uf M_186 e_192 sM_38 (dk_dq rfl)
          exact J_95   S_192 I_192 M_192 x_190 ((congrFun (dg_uf_at e_192) _).trans (dg_upd_at rfl)) (by omega) (Eq.trans hF_3 (F_m_writesDown_p3 ex_190 e_192)) _ _ hP hS _ (lv_sub hl [1, 2, 3, 4, 5] rfl)
      have L_241 : ∀ (n : Nat) (x_239 : Int32), (0 ≤ (x_239).toInt ∧ (x_239).toInt ≤ 3516) → ((3517 - (x_239).toInt).toNat < n) → ∀ S_240 : dg_S, CM o S_240 → dg_sm shM [] [38, 39] S S_240 → S_240.2.1 38 (a1 : Int32).toNatClampNeg = x_2 → (F_m_writesDown o S a1 a2 a3 a4 = lp (F_m_writesDown_B4 a1 x_2 a2 a3 a4) S n (x_239, S_240)) → ∀ (H : Heap) (locs : List Loc), va_P D vwCl (dg_w g shM o rfM S_240) H → va_S A s.heap H locs → ∀ ls : Array Slot, lv_has ls 6 [(5, .int x_239), (0, .ref (o + 0)), (1, .int a1), (2, .int a2), (3, .int a3), (4, .int a4)] → W p l e ({ frames := 1, cells := 0, slots := 0, locals := 32 } : Room) s m args below meth c H locs 0 0 (MQ below (va_Qv (fun S' => CM o S' ∧ dg_sm shM [] [38, 39] S S' ∧ (S' = F_m_writesDown o S a1 a2 a3 a4) ∧ True) (dg_B g D shM o rfM) A) args s 0 0 A) (F0 m 18 ls []) := by
        as_aux_lemma =>
          intro n
          induction n with
          | zero =>
            intro x_239 b_x_239 hmu S_240 I_240 M_240 frw_240_0 hF_4 H locs hP hS ls hl
            omega
          | succ n ih =>
            as_aux_lemma =>
              intro x_239 b_x_239 hmu S_240 I_240 M_240 frw_240_0 hF_4 H locs hP hS ls hl
              refine lv_iload hx hb dX12_writesDown_18 (lv_at hl 0 rfl) ?_
              refine lv_sipush (v := 160) hx hb dX12_writesDown_20 (by decide +kernel) ?_
              refine lv_iload_n hx hb dX12_writesDown_23 rfl (lv_at hl 2 rfl) ?_
              refine lv_imul hx hb dX12_writesDown_24 ?_
              refine lv_topi (fun x_242 ex_242 => ?_)
              have jx_242 : (x_242).toInt = 160 * (a1).toInt := by rw [ex_242]; exact dk_mulT2 (by decide +kernel) rfl (by omega)
              refine lv_sipush (v := 160) hx hb dX12_writesDown_25 (by decide +kernel) ?_
              refine lv_iadd hx hb dX12_writesDown_28 ?_
              refine lv_topi (fun x_243 ex_243 => ?_)
              have jx_243 : (x_243).toInt = (x_242).toInt + 160 := by rw [ex_243]; exact dk_addT2 rfl (by decide +kernel) (by omega)
              refine lv_iconst (v := 4) hx hb dX12_writesDown_29 (by decide +kernel) ?_
              refine lv_isub hx hb dX12_writesDown_30 ?_
              refine lv_topi (fun x_244 ex_244 => ?_)
              have jx_244 : (x_244).toInt = (x_243).toInt - 4 := by rw [ex_244]; exact dk_subT2 rfl (by decide +kernel) (by omega)
              refine lv_icmp_ge (tgt := 56) hx hb dX12_writesDown_31 (dk_dq rfl) (fun c_245 => ?_) (fun c_245 => ?_)
              · have jc_245 := dk_gec (k := (x_244).toInt) rfl c_245
                exact J_187 x_239 (by omega) S_240 I_240 M_240 frw_240_0 (lp_r hF_4 (F_m_writesDown_p4 ex_242 ex_243 ex_244 c_245)) _ _ hP hS _ (lv_sub hl [0, 1, 2, 3, 4, 5] rfl)
              · as_aux_lemma =>
                  have jc_245 := dk_ngec (k := (x_244).toInt) rfl c_245
                  refine lv_aload_n hx hb dX12_writesDown_34 rfl (lv_at hl 1 rfl) ?_
                  refine dg_get (C := RX12) (T := TX12) (N := 77) hx hb hts (fun w h => bw_mem (wU_X12 w h)) hown K hP sM_0 rfl 59 (dk_dq rfl) (hts _ (bw_mem wB_1128)) (fun _ h9 => h9) (v := .ref (o + 39)) (show S_240.1 0 59 = .ref (o + 39) from dg_I.rel (d := 39) I_240 sM_0 (by decide +kernel)) dX12_writesDown_35 ?_
                  refine lv_iload hx hb dX12_writesDown_38 (lv_at hl 0 rfl) ?_
                  refine lv_aload_n hx hb dX12_writesDown_40 rfl (lv_at hl 1 rfl) ?_
                  refine dg_get (C := RX12) (T := TX12) (N := 77) hx hb hts (fun w h => bw_mem (wU_X12 w h)) hown K hP sM_0 rfl 59 (dk_dq rfl) (hts _ (bw_mem wB_1128)) (fun _ h9 => h9) (v := .ref (o + 39)) (show S_240.1 0 59 = .ref (o + 39) from dg_I.rel (d := 39) I_240 sM_0 (by decide +kernel)) dX12_writesDown_41 ?_
                  refine lv_iload hx hb dX12_writesDown_44 (lv_at hl 0 rfl) ?_
                  refine lv_iconst (v := 4) hx hb dX12_writesDown_46 (by decide +kernel) ?_
                  refine lv_iadd hx hb dX12_writesDown_47 ?_
                  refine lv_topi (fun x_246 ex_246 => ?_)
                  have jx_246 : (x_246).toInt = (x_239).toInt + 4 := by rw [ex_246]; exact dk_addT2 rfl (by decide +kernel) (by omega)
                  have hin_247 : vp_in x_246 3520 := (dk_inv2 (by omega))
                  refine dg_iald hx hb K hP sM_39 hin_247 dX12_writesDown_48 (fun x_248 ex_248 => ?_)
                  have hin_249 : vp_in x_239 3520 := (dk_inv2 (by omega))
                  refine dg_iast hx hb K hP hS hA1 sM_39 hin_249 dX12_writesDown_49 (fun S_250 e_250 H locs hP hS => ?_)
                  have I_250 := dg_I.uf0 I_240 e_250 sM_39 (by decide +kernel)
                  have M_250 := dg_sm.uf M_240 e_250 sM_39 (dk_dq rfl)
                  obtain ⟨x_251, ex_251⟩ : ∃ z, z = x_239 + 1 := ⟨_, rfl⟩
                  have jx_251 : (x_251).toInt = (x_239).toInt + 1 := by rw [ex_251]; exact dk_addT2 rfl (by decide +kernel) (by omega)
                  refine lv_iinc (v := x_251) (lv' := [(5, .int x_251), (0, .ref (o + 0)), (1, .int a1), (2, .int a2), (3, .int a3), (4, .int a4)]) hx hb dX12_writesDown_50 hl (k := 0) rfl (by rw [ex_251]; rfl) (dk_dq rfl) rfl (fun ls hl => ?_)
                  refine lv_goto (tgt := 18) hx hb dX12_writesDown_53 (dk_dq rfl) ?_
                  exact ih x_251 (by omega) (by first | exact mu_lt hmu (by omega) (by omega) | omega) S_250 I_250 M_250 ((congrFun (dg_uf_ne e_250 (dk_dq rfl)) _).trans frw_240_0) (lp_l hF_4 (F_m_writesDown_p5 ex_242 ex_243 ex_244 c_245 ex_246 (Eq.symm ex_248.symm) e_250 ex_251)) _ _ hP hS _ (lv_sub hl [0, 1, 2, 3, 4, 5] rfl)
      exact L_241 ((3517 - ((x_120 : Int32)).toInt).toNat + 1) x_120 (by omega) (by first | exact mu_lt hmu (by omega) (by omega) | omega) S I M_0 ex_2.symm (F_m_writesDown_p6 (Eq.symm ex_2.symm) c_119 ex_120) _ _ hP hS _ (lv_sub hl [0, 1, 2, 3, 4, 5] rfl)
noncomputable def F_m_isAhead (o : Nat) (S : dg_S) (a1 : Int32) (a2 : Int32) (a3 : Int32) : Int32 := let sm : Int32 := zI S 0 47; let s0 : Int32 := S.2.1 29 (0 : Int32).toNatClampNeg; (if sm = (0 : Int32) then (0 : Int32) else let x_4 : Int32 := F_m_is o S a1 a2 a3; (if x_4 = (0 : Int32) then (0 : Int32) else let x_11 : Int32 := (999 : Int32) - a1; (if x_11 < s0 then (0 : Int32) else (1 : Int32))))
theorem F_m_isAhead_p0 {o : Nat} {S : dg_S} {a1 : Int32} {a2 : Int32} {a3 : Int32} {sm : Int32} (h0 : sm = zI S 0 47) (h1 : sm = (0 : Int32)) : F_m_isAhead o S a1 a2 a3 = (0 : Int32) := by
  replace h0 := Eq.symm h0
  subst h0
  exact (Eq.trans (if_pos h1) rfl)
theorem F_m_isAhead_p1 {o : Nat} {S : dg_S} {a1 : Int32} {a2 : Int32} {a3 : Int32} {sm : Int32} {x_4 : Int32} (h0 : sm = zI S 0 47) (h1 : ¬ (sm = (0 : Int32))) (h2 : x_4 = F_m_is o S a1 a2 a3) (h3 : x_4 = (0 : Int32)) : F_m_isAhead o S a1 a2 a3 = (0 : Int32) := by
  replace h0 := Eq.symm h0
  subst h0
  replace h2 := Eq.symm h2
  subst h2
  exact (Eq.trans (if_neg h1) (Eq.trans (if_pos h3) rfl))
theorem F_m_isAhead_p2 {o : Nat} {S : dg_S} {a1 : Int32} {a2 : Int32} {a3 : Int32} {sm : Int32} {s0 : Int32} {x_4 : Int32} {x_11 : Int32} (h0 : sm = zI S 0 47) (h1 : s0 = S.2.1 29 (0 : Int32).toNatClampNeg) (h2 : ¬ (sm = (0 : Int32))) (h3 : x_4 = F_m_is o S a1 a2 a3) (h4 : ¬ (x_4 = (0 : Int32))) (h5 : x_11 = (999 : Int32) - a1) (h6 : x_11 < s0) : F_m_isAhead o S a1 a2 a3 = (0 : Int32) := by
  replace h0 := Eq.symm h0
  subst h0
  replace h1 := Eq.symm h1
  subst h1
  replace h3 := Eq.symm h3
  subst h3
  replace h5 := Eq.symm h5
  subst h5
  exact (Eq.trans (if_neg h2) (Eq.trans (if_neg h4) (Eq.trans (if_pos h6) rfl)))
theorem F_m_isAhead_p3 {o : Nat} {S : dg_S} {a1 : Int32} {a2 : Int32} {a3 : Int32} {sm : Int32} {s0 : Int32} {x_4 : Int32} {x_11 : Int32} (h0 : sm = zI S 0 47) (h1 : s0 = S.2.1 29 (0 : Int32).toNatClampNeg) (h2 : ¬ (sm = (0 : Int32))) (h3 : x_4 = F_m_is o S a1 a2 a3) (h4 : ¬ (x_4 = (0 : Int32))) (h5 : x_11 = (999 : Int32) - a1) (h6 : ¬ (x_11 < s0)) : F_m_isAhead o S a1 a2 a3 = (1 : Int32) := by
  replace h0 := Eq.symm h0
  subst h0
  replace h1 := Eq.symm h1
  subst h1
  replace h3 := Eq.symm h3
  subst h3
  replace h5 := Eq.symm h5
  subst h5
  exact (Eq.trans (if_neg h2) (Eq.trans (if_neg h4) (Eq.trans (if_neg h6) rfl)))
set_option maxHeartbeats 8000000 in
set_option maxRecDepth 100000 in
theorem c_m_isAhead (l : Launch) (g : Nat → ClassId) (D : va_G) (o : Nat) (S : dg_S) (a1 : Int32) (a2 : Int32) (b_a2 : 0 ≤ (a2).toInt ∧ (a2).toInt ≤ 1) (a3 : Int32) (b_a3 : 1 ≤ (a3).toInt ∧ (a3).toInt ≤ 40) (sm : Int32) (f_sm : S.1 0 47 = .int sm) (b_sm : 0 ≤ (sm).toInt ∧ (sm).toInt ≤ 1) (s0 : Int32) (f_s0 : S.2.1 29 (0 : Int32).toNatClampNeg = s0) (b_s0 : 0 ≤ (s0).toInt ∧ (s0).toInt ≤ 2000) (I : CM o S) (sz : Nat) : Met l yX12_isAhead (bw yX12_isAhead cX12_isAhead 4 (some .boolean)) ({ frames := 2, cells := 0, slots := 0, locals := 54 } : Room) (dk_Pc g D (dg_w g shM o rfM S) sz [.ref (o + 0), .int a1, .int a2, .int a3]) (va_Qi (fun (r : Int32) S' => S' = S ∧ (0 ≤ (r).toInt ∧ (r).toInt ≤ 1) ∧ ((r).toInt = 1 → ((sm).toInt = 1 ∧ (a2).toInt ≤ (a1).toInt ∧ (a1).toInt ≤ (a3).toInt ∧ (s0).toInt ≤ 999 - (a1).toInt)) ∧ (r = F_m_isAhead o S a1 a2 a3) ∧ True) (dg_B g D shM o rfM) (dg_A o shM.length sz)) 0 0 (dg_A o shM.length sz) := by
  refine dg_met (cc := cX12_isAhead) (maxL := 4) (ret := (some .boolean)) (dk_dq rfl) rfl (Nat.le_of_ble_eq_true rfl) ?_
  intro p e s m args below meth c A hAe harg hx hb hr hml hts hown hlocks hin hP K hS hA1 hA ST hsz ls hl
  rw [← hAe]
  have F : CallFix p m c cX12_isAhead 4 s args (bw yX12_isAhead cX12_isAhead 4 (some .boolean)) RX12 := ⟨hx, hb, hml, hown, hts⟩
  have hl : lv_has ls 4 [(0, .ref (o + 0)), (1, .int a1), (2, .int a2), (3, .int a3)] := hl
  have M_0 : dg_sm shM [] [] S S := dg_sm.rf
  refine lv_aload_n hx hb dX12_isAhead_0 rfl (lv_at hl 0 rfl) ?_
  refine dg_get (C := RX12) (T := TX12) (N := 77) hx hb hts (fun w h => bw_mem (wU_X12 w h)) hown K hP sM_0 rfl 47 (dk_dq rfl) (hts _ (bw_mem wB_1084)) (fun _ h9 => h9) (v := .int sm) f_sm dX12_isAhead_1 ?_
  refine lv_if_eq (tgt := 34) hx hb dX12_isAhead_4 (dk_dq rfl) (fun c_1 => ?_) (fun c_1 => ?_)
  · have jc_1 := dk_eqc (k := 0) (by decide +kernel) c_1
    refine lv_iconst (v := 0) hx hb dX12_isAhead_34 (by decide +kernel) ?_
    have hz_2 : (0 : Int32).toInt = 0 := by decide +kernel
    have hz_3 : (0 : Int32).toInt = 0 := by decide +kernel
    refine W.widen (k := 0) (n := 0) (Nat.le_of_ble_eq_true rfl) (Nat.le_of_ble_eq_true rfl) ?_
    exact dg_iret hx hb hr hlocks (by decide +kernel) hP hS ⟨rfl, (by decide +kernel), (by omega), (Eq.symm (F_m_isAhead_p0 (zI_eq f_sm) c_1)), trivial⟩ dX12_isAhead_35
  · as_aux_lemma =>
      have jc_1 := dk_neqc (k := 0) (by decide +kernel) c_1
      refine lv_iload_n hx hb dX12_isAhead_7 rfl (lv_at hl 1 rfl) ?_
      refine lv_iload_n hx hb dX12_isAhead_8 rfl (lv_at hl 2 rfl) ?_
      refine lv_iload_n hx hb dX12_isAhead_9 rfl (lv_at hl 3 rfl) ?_
      refine dg_calli hS hA1 hA (va_runS (As := [.int a1, .int a2, .int a3]) (rest := []) F (c_m_isR l g D o S a1 a2 a3 I s.heap.size) (va_cwS 3 hts (bw_S wB_362 wB_363 wB_297 wB_361) rfl rfl rfl (by decide +kernel) ⟨Nat.le_of_ble_eq_true rfl, Nat.le_of_ble_eq_true rfl⟩) (dg_preS K ST hP hS hA1 hA) rfl rfl hl.1 rfl (lv_room (Nat.le_of_ble_eq_true rfl)) dX12_isAhead_10 ⟨Nat.le_of_ble_eq_true rfl, Nat.le_of_ble_eq_true rfl⟩) (fun x_4 S_5 hw_5 H locs hP hS => ?_)
      rw [hw_5.1] at hP
      obtain ⟨hq_5, w_5_0, w_5_1, w_5_2, -⟩ := hw_5
      have w_5_0 : 0 ≤ (x_4).toInt ∧ (x_4).toInt ≤ 1 := w_5_0
      have w_5_1 : (x_4).toInt = 1 ↔ ((a2).toInt ≤ (a1).toInt ∧ (a1).toInt ≤ (a3).toInt) := w_5_1
      refine lv_if_eq (tgt := 34) hx hb dX12_isAhead_13 (dk_dq rfl) (fun c_6 => ?_) (fun c_6 => ?_)
      · have jc_6 := dk_eqc (k := 0) (by decide +kernel) c_6
        refine lv_iconst (v := 0) hx hb dX12_isAhead_34 (by decide +kernel) ?_
        have hz_7 : (0 : Int32).toInt = 0 := by decide +kernel
        have hz_8 : (0 : Int32).toInt = 0 := by decide +kernel
        refine W.widen (k := 0) (n := 0) (Nat.le_of_ble_eq_true rfl) (Nat.le_of_ble_eq_true rfl) ?_
        exact dg_iret hx hb hr hlocks (by decide +kernel) hP hS ⟨rfl, (by decide +kernel), (by omega), (Eq.symm (F_m_isAhead_p1 (zI_eq f_sm) c_1 w_5_2 c_6)), trivial⟩ dX12_isAhead_35
      · as_aux_lemma =>
          have jc_6 := dk_neqc (k := 0) (by decide +kernel) c_6
          refine lv_aload_n hx hb dX12_isAhead_16 rfl (lv_at hl 0 rfl) ?_
          refine dg_get (C := RX12) (T := TX12) (N := 77) hx hb hts (fun w h => bw_mem (wU_X12 w h)) hown K hP sM_0 rfl 49 (dk_dq rfl) (hts _ (bw_mem wB_1108)) (fun _ h9 => h9) (v := .ref (o + 29)) (show S.1 0 49 = .ref (o + 29) from dg_I.rel (d := 29) I sM_0 (by decide +kernel)) dX12_isAhead_17 ?_
          refine lv_iconst (v := 0) hx hb dX12_isAhead_20 (by decide +kernel) ?_
          have hin_9 : vp_in (0 : Int32) 22 := (dk_in (by decide +kernel))
          refine dg_iald hx hb K hP sM_29 hin_9 dX12_isAhead_21 (fun y_10 ey_10 => ?_)
          obtain rfl : s0 = y_10 := (ey_10.trans f_s0).symm
          refine lv_sipush (v := 999) hx hb dX12_isAhead_22 (by decide +kernel) ?_
          refine lv_iload_n hx hb dX12_isAhead_25 rfl (lv_at hl 1 rfl) ?_
          refine lv_isub hx hb dX12_isAhead_26 ?_
          refine lv_topi (fun x_11 ex_11 => ?_)
          have jx_11 : (x_11).toInt = 999 - (a1).toInt := by rw [ex_11]; exact dk_subT2 (by decide +kernel) rfl (by omega)
          refine lv_icmp_gt (tgt := 34) hx hb dX12_isAhead_27 (dk_dq rfl) (fun c_12 => ?_) (fun c_12 => ?_)
          · have jc_12 := dk_gtc (k := (x_11).toInt) rfl c_12
            refine lv_iconst (v := 0) hx hb dX12_isAhead_34 (by decide +kernel) ?_
            have hz_13 : (0 : Int32).toInt = 0 := by decide +kernel
            have hz_14 : (0 : Int32).toInt = 0 := by decide +kernel
            refine W.widen (k := 0) (n := 0) (Nat.le_of_ble_eq_true rfl) (Nat.le_of_ble_eq_true rfl) ?_
            exact dg_iret hx hb hr hlocks (by decide +kernel) hP hS ⟨rfl, (by decide +kernel), (by omega), (Eq.symm (F_m_isAhead_p2 (zI_eq f_sm) (Eq.symm f_s0) c_1 w_5_2 c_6 ex_11 c_12)), trivial⟩ dX12_isAhead_35
          · have jc_12 := dk_ngtc (k := (x_11).toInt) rfl c_12
            refine lv_iconst (v := 1) hx hb dX12_isAhead_30 (by decide +kernel) ?_
            refine lv_goto (tgt := 35) hx hb dX12_isAhead_31 (dk_dq rfl) ?_
            have hz_15 : (1 : Int32).toInt = 1 := by decide +kernel
            have hz_16 : (1 : Int32).toInt = 1 := by decide +kernel
            refine W.widen (k := 0) (n := 0) (Nat.le_of_ble_eq_true rfl) (Nat.le_of_ble_eq_true rfl) ?_
            exact dg_iret hx hb hr hlocks (by decide +kernel) hP hS ⟨rfl, (by decide +kernel), (by omega), (Eq.symm (F_m_isAhead_p3 (zI_eq f_sm) (Eq.symm f_s0) c_1 w_5_2 c_6 ex_11 c_12)), trivial⟩ dX12_isAhead_35
noncomputable def F_m_canHang (o : Nat) (S : dg_S) (a1 : Int32) : Int32 := let x_1 : Int32 := F_m_isCellOf o S a1; (if x_1 = (0 : Int32) then (0 : Int32) else let x_6 : Int32 := F_m_isOpen o S (0 : Int32) a1; (if x_6 = (0 : Int32) then (0 : Int32) else let x_10 : Int32 := zI S 0 13; let x_13 : Int32 := zI S 0 47; let x_12 : Int32 := S.2.1 4 (x_10 : Int32).toNatClampNeg; (if a1 = x_12 then (0 : Int32) else (1 : Int32))))
theorem F_m_canHang_p0 {o : Nat} {S : dg_S} {a1 : Int32} {x_1 : Int32} (h0 : x_1 = F_m_isCellOf o S a1) (h1 : x_1 = (0 : Int32)) : F_m_canHang o S a1 = (0 : Int32) := by
  replace h0 := Eq.symm h0
  subst h0
  exact (Eq.trans (if_pos h1) rfl)
theorem F_m_canHang_p1 {o : Nat} {S : dg_S} {a1 : Int32} {x_1 : Int32} {x_6 : Int32} (h0 : x_1 = F_m_isCellOf o S a1) (h1 : ¬ (x_1 = (0 : Int32))) (h2 : x_6 = F_m_isOpen o S (0 : Int32) a1) (h3 : x_6 = (0 : Int32)) : F_m_canHang o S a1 = (0 : Int32) := by
  replace h0 := Eq.symm h0
  subst h0
  replace h2 := Eq.symm h2
  subst h2
  exact (Eq.trans (if_neg h1) (Eq.trans (if_pos h3) rfl))
theorem F_m_canHang_p2 {o : Nat} {S : dg_S} {a1 : Int32} {x_1 : Int32} {x_6 : Int32} {x_10 : Int32} {x_12 : Int32} (h0 : x_1 = F_m_isCellOf o S a1) (h1 : ¬ (x_1 = (0 : Int32))) (h2 : x_6 = F_m_isOpen o S (0 : Int32) a1) (h3 : ¬ (x_6 = (0 : Int32))) (h4 : x_10 = zI S 0 13) (h5 : x_12 = S.2.1 4 (x_10 : Int32).toNatClampNeg) (h6 : a1 = x_12) : F_m_canHang o S a1 = (0 : Int32) := by
  replace h0 := Eq.symm h0
  subst h0
  replace h2 := Eq.symm h2
  subst h2
  replace h4 := Eq.symm h4
  subst h4
  replace h5 := Eq.symm h5
  subst h5
  exact (Eq.trans (if_neg h1) (Eq.trans (if_neg h3) (Eq.trans (if_pos h6) rfl)))
theorem F_m_canHang_p3 {o : Nat} {S : dg_S} {a1 : Int32} {x_1 : Int32} {x_6 : Int32} {x_10 : Int32} {x_12 : Int32} (h0 : x_1 = F_m_isCellOf o S a1) (h1 : ¬ (x_1 = (0 : Int32))) (h2 : x_6 = F_m_isOpen o S (0 : Int32) a1) (h3 : ¬ (x_6 = (0 : Int32))) (h4 : x_10 = zI S 0 13) (h5 : x_12 = S.2.1 4 (x_10 : Int32).toNatClampNeg) (h6 : ¬ (a1 = x_12)) : F_m_canHang o S a1 = (1 : Int32) := by
  replace h0 := Eq.symm h0
  subst h0
  replace h2 := Eq.symm h2
  subst h2
  replace h4 := Eq.symm h4
  subst h4
  replace h5 := Eq.symm h5
  subst h5
  exact (Eq.trans (if_neg h1) (Eq.trans (if_neg h3) (Eq.trans (if_neg h6) rfl)))
set_option maxHeartbeats 8000000 in
set_option maxRecDepth 100000 in
theorem c_m_canHang (l : Launch) (g : Nat → ClassId) (D : va_G) (o : Nat) (S : dg_S) (a1 : Int32) (b_a1 : (-1) ≤ (a1).toInt ∧ (a1).toInt ≤ 63) (ZB : ZBM S) (I : CM o S) (sz : Nat) : Met l yX12_canHang (bw yX12_canHang cX12_canHang 2 (some .boolean)) ({ frames := 4, cells := 0, slots := 0, locals := 97 } : Room) (dk_Pc g D (dg_w g shM o rfM S) sz [.ref (o + 0), .int a1]) (va_Qi (fun (r : Int32) S' => S' = S ∧ (0 ≤ (r).toInt ∧ (r).toInt ≤ 1) ∧ (r = F_m_canHang o S a1) ∧ True) (dg_B g D shM o rfM) (dg_A o shM.length sz)) 0 0 (dg_A o shM.length sz) := by
  refine dg_met (cc := cX12_canHang) (maxL := 2) (ret := (some .boolean)) (dk_dq rfl) rfl (Nat.le_of_ble_eq_true rfl) ?_
  intro p e s m args below meth c A hAe harg hx hb hr hml hts hown hlocks hin hP K hS hA1 hA ST hsz ls hl
  rw [← hAe]
  have F : CallFix p m c cX12_canHang 2 s args (bw yX12_canHang cX12_canHang 2 (some .boolean)) RX12 := ⟨hx, hb, hml, hown, hts⟩
  have hl : lv_has ls 2 [(0, .ref (o + 0)), (1, .int a1)] := hl
  have M_0 : dg_sm shM [] [] S S := dg_sm.rf
  refine lv_aload_n hx hb dX12_canHang_0 rfl (lv_at hl 0 rfl) ?_
  refine lv_iload_n hx hb dX12_canHang_1 rfl (lv_at hl 1 rfl) ?_
  refine dg_calli hS hA1 hA (va_runV (As := [.int a1]) (rest := []) F (c_m_isCellOf l g D o S a1 (by omega) ZB I s.heap.size) (cwV 1 hts (bw_V wB_1123 wB_1124 wB_1125 wB_297 wB_1122) rfl rfl rfl (by decide +kernel) ⟨Nat.le_of_ble_eq_true rfl, Nat.le_of_ble_eq_true rfl⟩) (dg_preV sM_0 rfl K ST hP hS hA1 hA) rfl rfl hl.1 rfl (lv_room (Nat.le_of_ble_eq_true rfl)) dX12_canHang_2 ⟨Nat.le_of_ble_eq_true rfl, Nat.le_of_ble_eq_true rfl⟩) (fun x_1 S_2 hw_2 H locs hP hS => ?_)
  rw [hw_2.1] at hP
  obtain ⟨hq_2, w_2_0, w_2_1, w_2_2, -⟩ := hw_2
  have w_2_0 : 0 ≤ (x_1).toInt ∧ (x_1).toInt ≤ 1 := w_2_0
  have w_2_1 : (x_1).toInt = 1 → 0 ≤ (a1).toInt := w_2_1
  refine lv_if_eq (tgt := 34) hx hb dX12_canHang_5 (dk_dq rfl) (fun c_3 => ?_) (fun c_3 => ?_)
  · have jc_3 := dk_eqc (k := 0) (by decide +kernel) c_3
    refine lv_iconst (v := 0) hx hb dX12_canHang_34 (by decide +kernel) ?_
    have hz_4 : (0 : Int32).toInt = 0 := by decide +kernel
    refine W.widen (k := 0) (n := 0) (Nat.le_of_ble_eq_true rfl) (Nat.le_of_ble_eq_true rfl) ?_
    exact dg_iret hx hb hr hlocks (by decide +kernel) hP hS ⟨rfl, (by decide +kernel), (Eq.symm (F_m_canHang_p0 w_2_2 c_3)), trivial⟩ dX12_canHang_35
  · as_aux_lemma =>
      have jc_3 := dk_neqc (k := 0) (by decide +kernel) c_3
      refine lv_aload_n hx hb dX12_canHang_8 rfl (lv_at hl 0 rfl) ?_
      refine lv_iconst (v := 0) hx hb dX12_canHang_9 (by decide +kernel) ?_
      refine lv_iload_n hx hb dX12_canHang_10 rfl (lv_at hl 1 rfl) ?_
      have hz_5 : (0 : Int32).toInt = 0 := by decide +kernel
      refine dg_calli hS hA1 hA (va_runV (As := [.int 0, .int a1]) (rest := []) F (c_m_isOpen l g D o S 0 (by decide +kernel) a1 (by omega) I H.size) (cwV 2 hts (bw_V wB_1092 wB_1093 wB_1094 wB_297 wB_1091) rfl rfl rfl (by decide +kernel) ⟨Nat.le_of_ble_eq_true rfl, Nat.le_of_ble_eq_true rfl⟩) (dg_preV sM_0 rfl K ST hP hS hA1 hA) rfl rfl hl.1 rfl (lv_room (Nat.le_of_ble_eq_true rfl)) dX12_canHang_11 ⟨Nat.le_of_ble_eq_true rfl, Nat.le_of_ble_eq_true rfl⟩) (fun x_6 S_7 hw_7 H locs hP hS => ?_)
      rw [hw_7.1] at hP
      obtain ⟨hq_7, w_7_0, w_7_1, -⟩ := hw_7
      have w_7_0 : 0 ≤ (x_6).toInt ∧ (x_6).toInt ≤ 1 := w_7_0
      refine lv_if_eq (tgt := 34) hx hb dX12_canHang_14 (dk_dq rfl) (fun c_8 => ?_) (fun c_8 => ?_)
      · have jc_8 := dk_eqc (k := 0) (by decide +kernel) c_8
        refine lv_iconst (v := 0) hx hb dX12_canHang_34 (by decide +kernel) ?_
        have hz_9 : (0 : Int32).toInt = 0 := by decide +kernel
        refine W.widen (k := 0) (n := 0) (Nat.le_of_ble_eq_true rfl) (Nat.le_of_ble_eq_true rfl) ?_
        exact dg_iret hx hb hr hlocks (by decide +kernel) hP hS ⟨rfl, (by decide +kernel), (Eq.symm (F_m_canHang_p1 w_2_2 c_3 w_7_1 c_8)), trivial⟩ dX12_canHang_35
      · as_aux_lemma =>
          have jc_8 := dk_neqc (k := 0) (by decide +kernel) c_8
          refine lv_iload_n hx hb dX12_canHang_17 rfl (lv_at hl 1 rfl) ?_
          refine lv_aload_n hx hb dX12_canHang_18 rfl (lv_at hl 0 rfl) ?_
          refine dg_get (C := RX12) (T := TX12) (N := 77) hx hb hts (fun w h => bw_mem (wU_X12 w h)) hown K hP sM_0 rfl 16 (dk_dq rfl) (hts _ (bw_mem wB_481)) (fun _ h9 => h9) (v := .ref (o + 4)) (show S.1 0 16 = .ref (o + 4) from dg_I.rel (d := 4) I sM_0 (by decide +kernel)) dX12_canHang_19 ?_
          refine lv_aload_n hx hb dX12_canHang_22 rfl (lv_at hl 0 rfl) ?_
          obtain ⟨x_10, f_x_10, b_x_10⟩ := dg_I.int (i := 0) (k := 13) (lo := 0) (hi := 1) I sM_0 (by decide +kernel)
          refine dg_get (C := RX12) (T := TX12) (N := 77) hx hb hts (fun w h => bw_mem (wU_X12 w h)) hown K hP sM_0 rfl 13 (dk_dq rfl) (hts _ (bw_mem wB_1085)) (fun _ h9 => h9) (v := .int x_10) f_x_10 dX12_canHang_23 ?_
          have hin_11 : vp_in x_10 2 := (dk_inv2 (by omega))
          refine dg_iald hx hb K hP sM_4 hin_11 dX12_canHang_26 (fun x_12 ex_12 => ?_)
          have b_x_12 := dk_all_at (dg_I.row (lo := 0) (hi := 9999) I sM_4 (by decide +kernel)) hin_11 ex_12
          obtain ⟨x_13, f_x_13, b_x_13⟩ := dg_I.int (i := 0) (k := 47) (lo := 0) (hi := 1) I sM_0 (by decide +kernel)
          have zb_x_12 : (x_12).toInt ≤ 63 := by rw [ex_12]; exact (ZB x_10 x_13 f_x_10 f_x_13).2.2.1
          refine lv_icmp_eq (tgt := 34) hx hb dX12_canHang_27 (dk_dq rfl) (fun c_14 => ?_) (fun c_14 => ?_)
          · have jc_14 := dk_eqc (k := (x_12).toInt) rfl c_14
            refine lv_iconst (v := 0) hx hb dX12_canHang_34 (by decide +kernel) ?_
            have hz_15 : (0 : Int32).toInt = 0 := by decide +kernel
            refine W.widen (k := 0) (n := 0) (Nat.le_of_ble_eq_true rfl) (Nat.le_of_ble_eq_true rfl) ?_
            exact dg_iret hx hb hr hlocks (by decide +kernel) hP hS ⟨rfl, (by decide +kernel), (Eq.symm (F_m_canHang_p2 w_2_2 c_3 w_7_1 c_8 (zI_eq f_x_10) (Eq.symm ex_12.symm) c_14)), trivial⟩ dX12_canHang_35
          · have jc_14 := dk_neqc (k := (x_12).toInt) rfl c_14
            refine lv_iconst (v := 1) hx hb dX12_canHang_30 (by decide +kernel) ?_
            refine lv_goto (tgt := 35) hx hb dX12_canHang_31 (dk_dq rfl) ?_
            have hz_16 : (1 : Int32).toInt = 1 := by decide +kernel
            refine W.widen (k := 0) (n := 0) (Nat.le_of_ble_eq_true rfl) (Nat.le_of_ble_eq_true rfl) ?_
            exact dg_iret hx hb hr hlocks (by decide +kernel) hP hS ⟨rfl, (by decide +kernel), (Eq.symm (F_m_canHang_p3 w_2_2 c_3 w_7_1 c_8 (zI_eq f_x_10) (Eq.symm ex_12.symm) c_14)), trivial⟩ dX12_canHang_35
noncomputable def F_m_isSolidBy (o : Nat) (S : dg_S) (a1 : Int32) (a2 : Int32) : dg_S × Int32 := let x_1 : Int32 := F_m_isOpen o S a1 a2; (if x_1 = (0 : Int32) then (S, (0 : Int32)) else let x_5 : Int32 := zI S 0 13; let x_7 : Int32 := S.2.1 4 (x_5 : Int32).toNatClampNeg; (if a2 = x_7 then (S, (0 : Int32)) else let x_9 : Int32 := (64 : Int32) * a1; let x_10 : Int32 := x_9 + a2; let S_12 : dg_S := dg_uf S 31 (upd (S.2.1 31) (x_10 : Int32).toNatClampNeg (0 : Int32)); let x_14 : Int32 := (64 : Int32) * a1; let x_15 : Int32 := x_14 + a2; let S_17 : dg_S := dg_uf S_12 32 (upd (S_12.2.1 32) (x_15 : Int32).toNatClampNeg (0 : Int32)); (S_17, (1 : Int32))))
theorem F_m_isSolidBy_p0 {o : Nat} {S : dg_S} {a1 : Int32} {a2 : Int32} {x_1 : Int32} (h0 : x_1 = F_m_isOpen o S a1 a2) (h1 : x_1 = (0 : Int32)) : F_m_isSolidBy o S a1 a2 = (S, (0 : Int32)) := by
  replace h0 := Eq.symm h0
  subst h0
  exact (Eq.trans (if_pos h1) rfl)
theorem F_m_isSolidBy_p1 {o : Nat} {S : dg_S} {a1 : Int32} {a2 : Int32} {S_17 : dg_S} {x_1 : Int32} {x_5 : Int32} {x_7 : Int32} {x_9 : Int32} {x_10 : Int32} {S_12 : dg_S} {x_14 : Int32} {x_15 : Int32} (h0 : x_1 = F_m_isOpen o S a1 a2) (h1 : ¬ (x_1 = (0 : Int32))) (h2 : x_5 = zI S 0 13) (h3 : x_7 = S.2.1 4 (x_5 : Int32).toNatClampNeg) (h4 : ¬ (a2 = x_7)) (h5 : x_9 = (64 : Int32) * a1) (h6 : x_10 = x_9 + a2) (h7 : S_12 = dg_uf S 31 (upd (S.2.1 31) (x_10 : Int32).toNatClampNeg (0 : Int32))) (h8 : x_14 = (64 : Int32) * a1) (h9 : x_15 = x_14 + a2) (h10 : S_17 = dg_uf S_12 32 (upd (S_12.2.1 32) (x_15 : Int32).toNatClampNeg (0 : Int32))) : F_m_isSolidBy o S a1 a2 = (S_17, (1 : Int32)) := by
  replace h0 := Eq.symm h0
  subst h0
  replace h2 := Eq.symm h2
  subst h2
  replace h3 := Eq.symm h3
  subst h3
  replace h5 := Eq.symm h5
  subst h5
  replace h6 := Eq.symm h6
  subst h6
  replace h7 := Eq.symm h7
  subst h7
  replace h8 := Eq.symm h8
  subst h8
  replace h9 := Eq.symm h9
  subst h9
  replace h10 := Eq.symm h10
  subst h10
  exact (Eq.trans (if_neg h1) (Eq.trans (if_neg h4) rfl))
theorem F_m_isSolidBy_p2 {o : Nat} {S : dg_S} {a1 : Int32} {a2 : Int32} {x_1 : Int32} {x_5 : Int32} {x_7 : Int32} (h0 : x_1 = F_m_isOpen o S a1 a2) (h1 : ¬ (x_1 = (0 : Int32))) (h2 : x_5 = zI S 0 13) (h3 : x_7 = S.2.1 4 (x_5 : Int32).toNatClampNeg) (h4 : a2 = x_7) : F_m_isSolidBy o S a1 a2 = (S, (0 : Int32)) := by
  replace h0 := Eq.symm h0
  subst h0
  replace h2 := Eq.symm h2
  subst h2
  replace h3 := Eq.symm h3
  subst h3
  exact (Eq.trans (if_neg h1) (Eq.trans (if_pos h4) rfl))
set_option maxHeartbeats 8000000 in
set_option maxRecDepth 100000 in
theorem c_m_isSolidBy (l : Launch) (g : Nat → ClassId) (D : va_G) (o : Nat) (S : dg_S) (a1 : Int32) (b_a1 : 0 ≤ (a1).toInt ∧ (a1).toInt ≤ 21) (a2 : Int32) (b_a2 : 0 ≤ (a2).toInt ∧ (a2).toInt ≤ 63) (I : CM o S) (sz : Nat) : Met l yX12_isSolidBy (bw yX12_isSolidBy cX12_isSolidBy 3 (some .boolean)) ({ frames := 2, cells := 0, slots := 0, locals := 54 } : Room) (dk_Pc g D (dg_w g shM o rfM S) sz [.ref (o + 0), .int a1, .int a2]) (va_Qi (fun (r : Int32) S' => CM o S' ∧ dg_sm shM [] [31, 32] S S' ∧ (0 ≤ (r).toInt ∧ (r).toInt ≤ 1) ∧ (S' = (F_m_isSolidBy o S a1 a2).1 ∧ r = (F_m_isSolidBy o S a1 a2).2) ∧ True) (dg_B g D shM o rfM) (dg_A o shM.length sz)) 0 0 (dg_A o shM.length sz) := by
  refine dg_met (cc := cX12_isSolidBy) (maxL := 3) (ret := (some .boolean)) (dk_dq rfl) rfl (Nat.le_of_ble_eq_true rfl) ?_
  intro p e s m args below meth c A hAe harg hx hb hr hml hts hown hlocks hin hP K hS hA1 hA ST hsz ls hl
  rw [← hAe]
  have F : CallFix p m c cX12_isSolidBy 3 s args (bw yX12_isSolidBy cX12_isSolidBy 3 (some .boolean)) RX12 := ⟨hx, hb, hml, hown, hts⟩
  have hl : lv_has ls 3 [(0, .ref (o + 0)), (1, .int a1), (2, .int a2)] := hl
  have M_0 : dg_sm shM [] [31, 32] S S := dg_sm.rf
  refine lv_aload_n hx hb dX12_isSolidBy_0 rfl (lv_at hl 0 rfl) ?_
  refine lv_iload_n hx hb dX12_isSolidBy_1 rfl (lv_at hl 1 rfl) ?_
  refine lv_iload_n hx hb dX12_isSolidBy_2 rfl (lv_at hl 2 rfl) ?_
  refine dg_calli hS hA1 hA (va_runV (As := [.int a1, .int a2]) (rest := []) F (c_m_isOpen l g D o S a1 (by omega) a2 (by omega) I s.heap.size) (cwV 2 hts (bw_V wB_1092 wB_1093 wB_1094 wB_297 wB_1091) rfl rfl rfl (by decide +kernel) ⟨Nat.le_of_ble_eq_true rfl, Nat.le_of_ble_eq_true rfl⟩) (dg_preV sM_0 rfl K ST hP hS hA1 hA) rfl rfl hl.1 rfl (lv_room (Nat.le_of_ble_eq_true rfl)) dX12_isSolidBy_3 ⟨Nat.le_of_ble_eq_true rfl, Nat.le_of_ble_eq_true rfl⟩) (fun x_1 S_2 hw_2 H locs hP hS => ?_)
  rw [hw_2.1] at hP
  obtain ⟨hq_2, w_2_0, w_2_1, -⟩ := hw_2
  have w_2_0 : 0 ≤ (x_1).toInt ∧ (x_1).toInt ≤ 1 := w_2_0
  refine lv_if_eq (tgt := 22) hx hb dX12_isSolidBy_6 (dk_dq rfl) (fun c_3 => ?_) (fun c_3 => ?_)
  · have jc_3 := dk_eqc (k := 0) (by decide +kernel) c_3
    refine lv_iconst (v := 0) hx hb dX12_isSolidBy_22 (by decide +kernel) ?_
    have hz_4 : (0 : Int32).toInt = 0 := by decide +kernel
    refine W.widen (k := 0) (n := 0) (Nat.le_of_ble_eq_true rfl) (Nat.le_of_ble_eq_true rfl) ?_
    exact dg_iret hx hb hr hlocks (by decide +kernel) hP hS ⟨I, M_0, (by decide +kernel), ⟨congrArg Prod.fst (Eq.symm (F_m_isSolidBy_p0 w_2_1 c_3)), congrArg Prod.snd (Eq.symm (F_m_isSolidBy_p0 w_2_1 c_3))⟩, trivial⟩ dX12_isSolidBy_23
  · as_aux_lemma =>
      have jc_3 := dk_neqc (k := 0) (by decide +kernel) c_3
      refine lv_iload_n hx hb dX12_isSolidBy_9 rfl (lv_at hl 2 rfl) ?_
      refine lv_aload_n hx hb dX12_isSolidBy_10 rfl (lv_at hl 0 rfl) ?_
      refine dg_get (C := RX12) (T := TX12) (N := 77) hx hb hts (fun w h => bw_mem (wU_X12 w h)) hown K hP sM_0 rfl 16 (dk_dq rfl) (hts _ (bw_mem wB_481)) (fun _ h9 => h9) (v := .ref (o + 4)) (show S.1 0 16 = .ref (o + 4) from dg_I.rel (d := 4) I sM_0 (by decide +kernel)) dX12_isSolidBy_11 ?_
      refine lv_aload_n hx hb dX12_isSolidBy_14 rfl (lv_at hl 0 rfl) ?_
      obtain ⟨x_5, f_x_5, b_x_5⟩ := dg_I.int (i := 0) (k := 13) (lo := 0) (hi := 1) I sM_0 (by decide +kernel)
      refine dg_get (C := RX12) (T := TX12) (N := 77) hx hb hts (fun w h => bw_mem (wU_X12 w h)) hown K hP sM_0 rfl 13 (dk_dq rfl) (hts _ (bw_mem wB_1085)) (fun _ h9 => h9) (v := .int x_5) f_x_5 dX12_isSolidBy_15 ?_
      have hin_6 : vp_in x_5 2 := (dk_inv2 (by omega))
      refine dg_iald hx hb K hP sM_4 hin_6 dX12_isSolidBy_18 (fun x_7 ex_7 => ?_)
      have b_x_7 := dk_all_at (dg_I.row (lo := 0) (hi := 9999) I sM_4 (by decide +kernel)) hin_6 ex_7
      refine lv_icmp_ne (tgt := 24) hx hb dX12_isSolidBy_19 (dk_dq rfl) (fun c_8 => ?_) (fun c_8 => ?_)
      · as_aux_lemma =>
          have jc_8 := dk_neqc (k := (x_7).toInt) rfl c_8
          refine lv_aload_n hx hb dX12_isSolidBy_24 rfl (lv_at hl 0 rfl) ?_
          refine dg_get (C := RX12) (T := TX12) (N := 77) hx hb hts (fun w h => bw_mem (wU_X12 w h)) hown K hP sM_0 rfl 51 (dk_dq rfl) (hts _ (bw_mem wB_1090)) (fun _ h9 => h9) (v := .ref (o + 31)) (show S.1 0 51 = .ref (o + 31) from dg_I.rel (d := 31) I sM_0 (by decide +kernel)) dX12_isSolidBy_25 ?_
          refine lv_bipush (v := 64) hx hb dX12_isSolidBy_28 (by decide +kernel) ?_
          refine lv_iload_n hx hb dX12_isSolidBy_30 rfl (lv_at hl 1 rfl) ?_
          refine lv_imul hx hb dX12_isSolidBy_31 ?_
          refine lv_topi (fun x_9 ex_9 => ?_)
          have jx_9 : (x_9).toInt = 64 * (a1).toInt := by rw [ex_9]; exact dk_mulT2 (by decide +kernel) rfl (by omega)
          refine lv_iload_n hx hb dX12_isSolidBy_32 rfl (lv_at hl 2 rfl) ?_
          refine lv_iadd hx hb dX12_isSolidBy_33 ?_
          refine lv_topi (fun x_10 ex_10 => ?_)
          have jx_10 : (x_10).toInt = (x_9).toInt + (a2).toInt := by rw [ex_10]; exact dk_addT2 rfl rfl (by omega)
          refine lv_iconst (v := 0) hx hb dX12_isSolidBy_34 (by decide +kernel) ?_
          have hin_11 : vp_in x_10 1408 := (dk_inv2 (by omega))
          have hz_13 : (0 : Int32).toInt = 0 := by decide +kernel
          refine dg_iast hx hb K hP hS hA1 sM_31 hin_11 dX12_isSolidBy_35 (fun S_12 e_12 H locs hP hS => ?_)
          have I_12 := dg_I.ufu (lo := (-1)) (hi := 9) I e_12 sM_31 (by decide +kernel) (show (-1) ≤ ((0 : Int32)).toInt ∧ ((0 : Int32)).toInt ≤ 9 from (by decide +kernel))
          have M_12 := dg_sm.uf M_0 e_12 sM_31 (dk_dq rfl)
          refine lv_aload_n hx hb dX12_isSolidBy_36 rfl (lv_at hl 0 rfl) ?_
          refine dg_get (C := RX12) (T := TX12) (N := 77) hx hb hts (fun w h => bw_mem (wU_X12 w h)) hown K hP sM_0 rfl 52 (dk_dq rfl) (hts _ (bw_mem wB_1097)) (fun _ h9 => h9) (v := .ref (o + 32)) (show S_12.1 0 52 = .ref (o + 32) from dg_I.rel (d := 32) I_12 sM_0 (by decide +kernel)) dX12_isSolidBy_37 ?_
          refine lv_bipush (v := 64) hx hb dX12_isSolidBy_40 (by decide +kernel) ?_
          refine lv_iload_n hx hb dX12_isSolidBy_42 rfl (lv_at hl 1 rfl) ?_
          refine lv_imul hx hb dX12_isSolidBy_43 ?_
          refine lv_topi (fun x_14 ex_14 => ?_)
          have jx_14 : (x_14).toInt = 64 * (a1).toInt := by rw [ex_14]; exact dk_mulT2 (by decide +kernel) rfl (by omega)
          refine lv_iload_n hx hb dX12_isSolidBy_44 rfl (lv_at hl 2 rfl) ?_
          refine lv_iadd hx hb dX12_isSolidBy_45 ?_
          refine lv_topi (fun x_15 ex_15 => ?_)
          have jx_15 : (x_15).toInt = (x_14).toInt + (a2).toInt := by rw [ex_15]; exact dk_addT2 rfl rfl (by omega)
          refine lv_iconst (v := 0) hx hb dX12_isSolidBy_46 (by decide +kernel) ?_
          have hin_16 : vp_in x_15 1408 := (dk_inv2 (by omega))
          have hz_18 : (0 : Int32).toInt = 0 := by decide +kernel
          refine dg_iast hx hb K hP hS hA1 sM_32 hin_16 dX12_isSolidBy_47 (fun S_17 e_17 H locs hP hS => ?_)
          have I_17 := dg_I.uf0 I_12 e_17 sM_32 (by decide +kernel)
          have M_17 := dg_sm.uf M_12 e_17 sM_32 (dk_dq rfl)
          refine lv_iconst (v := 1) hx hb dX12_isSolidBy_48 (by decide +kernel) ?_
          have hz_19 : (1 : Int32).toInt = 1 := by decide +kernel
          refine W.widen (k := 0) (n := 0) (Nat.le_of_ble_eq_true rfl) (Nat.le_of_ble_eq_true rfl) ?_
          exact dg_iret hx hb hr hlocks (by decide +kernel) hP hS ⟨I_17, M_17, (by decide +kernel), ⟨congrArg Prod.fst (Eq.symm (F_m_isSolidBy_p1 w_2_1 c_3 (zI_eq f_x_5) (Eq.symm ex_7.symm) c_8 ex_9 ex_10 e_12 ex_14 ex_15 e_17)), congrArg Prod.snd (Eq.symm (F_m_isSolidBy_p1 w_2_1 c_3 (zI_eq f_x_5) (Eq.symm ex_7.symm) c_8 ex_9 ex_10 e_12 ex_14 ex_15 e_17))⟩, trivial⟩ dX12_isSolidBy_49
      · have jc_8 := dk_eqc (k := (x_7).toInt) rfl c_8
        refine lv_iconst (v := 0) hx hb dX12_isSolidBy_22 (by decide +kernel) ?_
        have hz_20 : (0 : Int32).toInt = 0 := by decide +kernel
        refine W.widen (k := 0) (n := 0) (Nat.le_of_ble_eq_true rfl) (Nat.le_of_ble_eq_true rfl) ?_
        exact dg_iret hx hb hr hlocks (by decide +kernel) hP hS ⟨I, M_0, (by decide +kernel), ⟨congrArg Prod.fst (Eq.symm (F_m_isSolidBy_p2 w_2_1 c_3 (zI_eq f_x_5) (Eq.symm ex_7.symm) c_8)), congrArg Prod.snd (Eq.symm (F_m_isSolidBy_p2 w_2_1 c_3 (zI_eq f_x_5) (Eq.symm ex_7.symm) c_8))⟩, trivial⟩ dX12_isSolidBy_23
  